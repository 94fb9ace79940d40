set_option maxHeartbeats 8000000 in
set_option maxRecDepth 100000 in
theorem law_0 {p : Program} {l : Launch} (lt : l.stackTraces = false) {e : Env} {s : State} {m : MethodId} {below : List Frame} {meth : Method} {c : Code} {dC : Nat → ClassId} {dI : Nat → Nat → Nat} {cI cL : ClassId} {ad am sa : Nat → Nat} {oa : Nat} {b L : Nat} {xs : Nat → Int32} (hL : L ≤ 2560) (C0 : lw_At p s m meth c b L xs) (hZ : ZN s) (hX : ZX sa s) (hq : zq (fun q : Nat => s.heap.size ≤ q) s s.heap) (hK : va_K (dC, dI) vwCl [(cI, .int), (cL, .long)] s) {N i : Nat} (hi : i + 5 ≤ L) (hN : 1 ≤ N) {u v u' v' : St} (hst : stepP N 0 (xs (nI i + 1).toNatClampNeg) (xs (nI i + 2).toNatClampNeg) (xs (nI i + 3).toNatClampNeg) (xs (nI i + 4).toNatClampNeg) u v u' v') {o : Nat → Int64} {H : Heap} {locs : List Loc} {cc ss : Nat} (hcc : cc + 8 ≤ 601024) (hss : ss + 64 ≤ 7293034)
    (hP : va_P (dC, dI) vwCl (low ad am oa cI cL u v o) H) (hD : va_D (fun q : Nat => s.heap.size ≤ q) (low ad am oa cI cL u v o)) (hS : va_S (fun q : Nat => s.heap.size ≤ q) s.heap H locs) {ls : Array Slot} (hl : lv_has ls 8 [(0, .ref b), (1, .ref (ad 0)), (2, .ref (am 0)), (3, .ref oa), (4, .int (nI i))])
    (kk : ∀ (o : Nat → Int64) (H : Heap) (locs : List Loc) (ls : Array Slot), va_P (dC, dI) vwCl (low ad am oa cI cL u' v' o) H → va_D (fun q : Nat => s.heap.size ≤ q) (low ad am oa cI cL u' v' o) → va_S (fun q : Nat => s.heap.size ≤ q) s.heap H locs → lv_has ls 8 [(0, .ref b), (1, .ref (ad 0)), (2, .ref (am 0)), (3, .ref oa), (4, .int (nI i))] → W p l e room_1 s m #[Value.ref b] below meth c H locs (cc + 8) (ss + 64) (lw_Z below #[Value.ref b] s) (F0 m 1279 ls [])) :
    W p l e room_1 s m #[Value.ref b] below meth c H locs cc ss (lw_Z below #[Value.ref b] s) (F0 m 132 ls []) := by
  obtain ⟨hx, hb, hr, hml, hown, hts0, hXs, hbl, hlocks, hgv⟩ := C0
  have hown : s.vm.findClass RL = some m.cls := hown
  have hts : ∀ w ∈ wsL_law, w.before #[Value.ref b] s = true := fun w h => hts0 w (wsL_law_in w h)
  have hA : ∀ q : Nat, s.heap.size ≤ q → (fun q : Nat => s.heap.size ≤ q) q := fun _ h => h
  have hbA : ¬ (fun q : Nat => s.heap.size ≤ q) b := Nat.not_le.mpr hbl
  have hin1 : vp_in (nI i + 1) L := (lw_in (j := 1) hL (by omega)).1
  have hin2 : vp_in (nI i + 2) L := (lw_in (j := 2) hL (by omega)).1
  have hin3 : vp_in (nI i + 3) L := (lw_in (j := 3) hL (by omega)).1
  have hin4 : vp_in (nI i + 4) L := (lw_in (j := 4) hL (by omega)).1
  obtain ⟨r, sv, hr0, hs0, heq, hval, hle, rfl, rfl⟩ := hst
  refine lv_aload_n hx hb dL_law_132 rfl (lv_at hl 1 rfl) ?_
  refine lv_aload_n hx hb dL_law_133 rfl (lv_at hl 0 rfl) ?_
  refine lv_iload hx hb dL_law_134 (lv_at hl 4 rfl) ?_
  refine lv_iconst (v := 1) hx hb dL_law_136 (by decide) ?_
  refine lv_iadd hx hb dL_law_137 ?_
  refine va_sld hx hb hXs hbl hbA hS hin1 dL_law_138 ?_
  refine lv_aload_n hx hb dL_law_139 rfl (lv_at hl 0 rfl) ?_
  refine lv_iload hx hb dL_law_140 (lv_at hl 4 rfl) ?_
  refine lv_iconst (v := 2) hx hb dL_law_142 (by decide) ?_
  refine lv_iadd hx hb dL_law_143 ?_
  refine va_sld hx hb hXs hbl hbA hS hin2 dL_law_144 ?_
  refine lv_aload_n hx hb dL_law_145 rfl (lv_at hl 0 rfl) ?_
  refine lv_iload hx hb dL_law_146 (lv_at hl 4 rfl) ?_
  refine lv_iconst (v := 3) hx hb dL_law_148 (by decide) ?_
  refine lv_iadd hx hb dL_law_149 ?_
  refine va_sld hx hb hXs hbl hbA hS hin3 dL_law_150 ?_
  refine lv_aload_n hx hb dL_law_151 rfl (lv_at hl 0 rfl) ?_
  refine lv_iload hx hb dL_law_152 (lv_at hl 4 rfl) ?_
  refine lv_iconst (v := 4) hx hb dL_law_154 (by decide) ?_
  refine lv_iadd hx hb dL_law_155 ?_
  refine va_sld hx hb hXs hbl hbA hS hin4 dL_law_156 ?_
  refine lv_aload_n hx hb dL_law_157 rfl (lv_at hl 3 rfl) ?_
  have hPc := wp_l hP
  have hDc := wd_l hD
  have hFc := wf_of hDc hS hA
  refine va_calli (vx_runSW (As := [.ref (ad 0), .int (xs (nI i + 1).toNatClampNeg), .int (xs (nI i + 2).toNatClampNeg), .int (xs (nI i + 3).toNatClampNeg), .int (xs (nI i + 4).toNatClampNeg), .ref oa]) (rest := []) ⟨hx, hb, hml, hown, hts⟩ (mL_kind l lt dC dI cI cL ad sa oa H.size u o (xs (nI i + 1).toNatClampNeg) (xs (nI i + 2).toNatClampNeg) (xs (nI i + 3).toNatClampNeg) (xs (nI i + 4).toNatClampNeg) N r hr0) (vx_cwSW 6 hts gL_law_L_kind rfl rfl rfl (by decide +kernel) ⟨Nat.le_of_ble_eq_true rfl, Nat.le_of_ble_eq_true rfl⟩) ⟨xPre_blind, xPre_of hPc hK hDc hZ hX hq hS hFc⟩ rfl rfl hl.1 rfl (lv_room (Nat.le_of_ble_eq_true rfl)) dL_law_158 ⟨show cc + 5 ≤ 601024 from by omega, show ss + 30 ≤ 7293034 from by omega⟩) hS (fun q _ h => hFc q h) hFc (fun r2 u2 t H1 locs ht hvm hw hB hz1 hk1 hS => ?_)
  obtain ⟨hP1, hK1, hD1⟩ := hB
  rw [ht] at hP1
  have e1 : r2 = nI r.1 := congrArg Prod.fst hw
  have e2 : u2 = (r.2.2, if r.1 = 0 then vp_updL o (0 : Int32).toNatClampNeg r.2.1.toInt64 else o) := congrArg Prod.snd hw
  subst r2 u2
  generalize ho : (if r.1 = 0 then vp_updL o (0 : Int32).toNatClampNeg r.2.1.toInt64 else o) = o2 at hP1 hD1
  obtain ⟨hP, hD⟩ := wj_l hP hD hk1 hFc hP1 hD1
  have hP : va_P (dC, dI) vwCl (low ad am oa cI cL r.2.2 v o2) H1 := hP
  have hD : va_D (fun q : Nat => s.heap.size ≤ q) (low ad am oa cI cL r.2.2 v o2) := hD
  clear hP1 hD1 hK1 hPc hDc hFc hk1
  generalize H1 = H at hP hS ⊢
  refine W.widen (k := cc + 5) (n := ss + 30) (by omega) (by omega) ?_
  refine lv_istore (lv' := [(5, .int (nI r.1)), (0, .ref b), (1, .ref (ad 0)), (2, .ref (am 0)), (3, .ref oa), (4, .int (nI i))]) hx hb dL_law_161 hl (by decide) rfl (fun ls hl => ?_)
  refine lv_aload_n hx hb dL_law_163 rfl (lv_at hl 3 rfl) ?_
  refine lv_aload_n hx hb dL_law_164 rfl (lv_at hl 1 rfl) ?_
  refine lv_iload hx hb dL_law_165 (lv_at hl 5 rfl) ?_
  refine lv_iconst (v := 1) hx hb dL_law_167 (by decide) ?_
  refine lv_iadd hx hb dL_law_168 ?_
  refine va_sld hx hb hXs hbl hbA hS hin1 dL_law_169 ?_
  refine lv_aload_n hx hb dL_law_170 rfl (lv_at hl 1 rfl) ?_
  refine lv_iload hx hb dL_law_171 (lv_at hl 5 rfl) ?_
  refine lv_iconst (v := 2) hx hb dL_law_173 (by decide) ?_
  refine lv_iadd hx hb dL_law_174 ?_
  refine va_sld hx hb hXs hbl hbA hS hin2 dL_law_175 ?_
  refine lv_aload_n hx hb dL_law_176 rfl (lv_at hl 1 rfl) ?_
  refine lv_iload hx hb dL_law_177 (lv_at hl 5 rfl) ?_
  refine lv_iconst (v := 3) hx hb dL_law_179 (by decide) ?_
  refine lv_iadd hx hb dL_law_180 ?_
  refine va_sld hx hb hXs hbl hbA hS hin3 dL_law_181 ?_
  refine lv_aload_n hx hb dL_law_182 rfl (lv_at hl 1 rfl) ?_
  refine lv_iload hx hb dL_law_183 (lv_at hl 5 rfl) ?_
  refine lv_iconst (v := 4) hx hb dL_law_185 (by decide) ?_
  refine lv_iadd hx hb dL_law_186 ?_
  refine va_sld hx hb hXs hbl hbA hS hin4 dL_law_187 ?_
  have hPc := wp_r hP
  have hDc := wd_r hD
  have hFc := wf_of hDc hS hA
  refine va_calli (va_runV (As := [.int (xs (nI i + 1).toNatClampNeg), .int (xs (nI i + 2).toNatClampNeg), .int (xs (nI i + 3).toNatClampNeg), .int (xs (nI i + 4).toNatClampNeg)]) (rest := []) ⟨hx, hb, hml, hown, hts⟩ (mX5_kind l dC dI cI cL am H.size v (xs (nI i + 1).toNatClampNeg) (xs (nI i + 2).toNatClampNeg) (xs (nI i + 3).toNatClampNeg) (xs (nI i + 4).toNatClampNeg) N sv hs0) (cwV 4 hts gL_law_X5_kind rfl rfl rfl (by decide +kernel) ⟨Nat.le_of_ble_eq_true rfl, Nat.le_of_ble_eq_true rfl⟩) ⟨wPre_blind, va_recv hK hPc (ci := 5) (q0 := 0) rfl rfl, wPre_of hPc hK hDc hZ⟩ rfl rfl hl.1 rfl (lv_room (Nat.le_of_ble_eq_true rfl)) dL_law_188 ⟨show cc + 5 + 0 ≤ 601024 from by omega, show ss + 30 + 0 ≤ 7293034 from by omega⟩) hS (fun q _ h => hFc q h) hFc (fun r2 u2 t H1 locs ht hvm hw hB hz1 hk1 hS => ?_)
  obtain ⟨hP1, hK1, hD1⟩ := hB
  rw [ht] at hP1
  have e1 : r2 = sv.1 := congrArg Prod.fst hw
  have e2 : u2 = sv.2 := congrArg Prod.snd hw
  subst r2 u2
  obtain ⟨hP, hD⟩ := wj_r hP hD hk1 hFc hP1 hD1
  have hP : va_P (dC, dI) vwCl (low ad am oa cI cL r.2.2 sv.2 o2) H1 := hP
  have hD : va_D (fun q : Nat => s.heap.size ≤ q) (low ad am oa cI cL r.2.2 sv.2 o2) := hD
  clear hP1 hD1 hK1 hPc hDc hFc hk1
  generalize H1 = H at hP hS ⊢
  refine lv_istore (lv' := [(6, .int sv.1), (5, .int (nI r.1)), (0, .ref b), (1, .ref (ad 0)), (2, .ref (am 0)), (3, .ref oa), (4, .int (nI i))]) hx hb dL_law_191 hl (by decide) rfl (fun ls hl => ?_)
  refine lv_aload_n hx hb dL_law_193 rfl (lv_at hl 4 rfl) ?_
  have hPc := wp_r hP
  have hDc := wd_r hD
  have hFc := wf_of hDc hS hA
  refine va_calli (va_runV (As := []) (rest := []) ⟨hx, hb, hml, hown, hts⟩ (mX5_thrown l dC dI cI cL am H.size sv.2  N (gI sv.2 0, sv.2) (FX5_thrown_N N sv.2 hN)) (cwV 0 hts gL_law_X5_thrown rfl rfl rfl (by decide +kernel) ⟨Nat.le_of_ble_eq_true rfl, Nat.le_of_ble_eq_true rfl⟩) ⟨wPre_blind, va_recv hK hPc (ci := 5) (q0 := 0) rfl rfl, wPre_of hPc hK hDc hZ⟩ rfl rfl hl.1 rfl (lv_room (Nat.le_of_ble_eq_true rfl)) dL_law_194 ⟨show cc + 5 + 0 ≤ 601024 from by omega, show ss + 30 + 0 ≤ 7293034 from by omega⟩) hS (fun q _ h => hFc q h) hFc (fun r2 u2 t H1 locs ht hvm hw hB hz1 hk1 hS => ?_)
  obtain ⟨hP1, hK1, hD1⟩ := hB
  rw [ht] at hP1
  have e1 : r2 = gI sv.2 0 := congrArg Prod.fst hw
  have e2 : u2 = sv.2 := congrArg Prod.snd hw
  subst r2 u2
  obtain ⟨hP, hD⟩ := wj_r hP hD hk1 hFc hP1 hD1
  have hP : va_P (dC, dI) vwCl (low ad am oa cI cL r.2.2 sv.2 o2) H1 := hP
  have hD : va_D (fun q : Nat => s.heap.size ≤ q) (low ad am oa cI cL r.2.2 sv.2 o2) := hD
  clear hP1 hD1 hK1 hPc hDc hFc hk1
  generalize H1 = H at hP hS ⊢
  refine lv_iload hx hb dL_law_197 (lv_at hl 1 rfl) ?_
  refine lv_icmp_eq (tgt := 204) hx hb dL_law_199 (by decide) (fun _ => ?_) (fun c9 => absurd heq c9)
  refine lv_iload hx hb dL_law_204 (lv_at hl 1 rfl) ?_
  refine lv_if_ne (tgt := 221) hx hb dL_law_206 (by decide) (fun c9 => ?_) (fun c9 => ?_)
  · skip
    refine lv_goto (tgt := 1279) hx hb dL_law_221 (by decide) ?_
    refine W.widen (k := cc + 8) (n := ss + 64) (by omega) (by omega) ?_
    exact kk _ _ _ _ hP hD hS (lv_sub hl [2, 3, 4, 5, 6] rfl)
  have hz : r.1 = 0 := by
    rcases Nat.eq_zero_or_pos r.1 with h | h
    · exact h
    · exact absurd c9 (nI_ne0 h (by omega))
  rw [if_pos hz] at ho
  have hval := hval hz
  refine lv_aload_n hx hb dL_law_209 rfl (lv_at hl 5 rfl) ?_
  refine lv_iconst (v := 0) hx hb dL_law_210 (by decide) ?_
  refine va_lald (f := o2) hx hb hK hP 28 1 rfl rfl (vp_in_iff.mpr (by decide)) dL_law_211 ?_
  refine lv_iload hx hb dL_law_212 (lv_at hl 0 rfl) ?_
  refine lv_i2l (v := sv.1.toInt64) hx hb dL_law_214 rfl ?_
  refine W.lcmp hx hb dL_law_215 ?_
  have hcmp : lg_cmp (o2 (0 : Int32).toNatClampNeg) sv.1.toInt64 = 0 := (lg_cmp_eq _ _).mpr (by rw [← ho, upL_at0]; exact hval)
  refine lv_if_eq (tgt := 221) hx hb dL_law_216 (by decide) (fun _ => ?_) (fun c9 => absurd hcmp c9)
  refine lv_goto (tgt := 1279) hx hb dL_law_221 (by decide) ?_
  refine W.widen (k := cc + 8) (n := ss + 64) (by omega) (by omega) ?_
  exact kk _ _ _ _ hP hD hS (lv_sub hl [2, 3, 4, 5, 6] rfl)

set_option maxHeartbeats 8000000 in
set_option maxRecDepth 100000 in
theorem law_1 {p : Program} {l : Launch} (lt : l.stackTraces = false) {e : Env} {s : State} {m : MethodId} {below : List Frame} {meth : Method} {c : Code} {dC : Nat → ClassId} {dI : Nat → Nat → Nat} {cI cL : ClassId} {ad am sa : Nat → Nat} {oa : Nat} {b L : Nat} {xs : Nat → Int32} (hL : L ≤ 2560) (C0 : lw_At p s m meth c b L xs) (hZ : ZN s) (hX : ZX sa s) (hq : zq (fun q : Nat => s.heap.size ≤ q) s s.heap) (hK : va_K (dC, dI) vwCl [(cI, .int), (cL, .long)] s) {N i : Nat} (hi : i + 5 ≤ L) (hN : 1 ≤ N) {u v u' v' : St} (hst : stepP N 1 (xs (nI i + 1).toNatClampNeg) (xs (nI i + 2).toNatClampNeg) (xs (nI i + 3).toNatClampNeg) (xs (nI i + 4).toNatClampNeg) u v u' v') {o : Nat → Int64} {H : Heap} {locs : List Loc} {cc ss : Nat} (hcc : cc + 8 ≤ 601024) (hss : ss + 64 ≤ 7293034)
    (hP : va_P (dC, dI) vwCl (low ad am oa cI cL u v o) H) (hD : va_D (fun q : Nat => s.heap.size ≤ q) (low ad am oa cI cL u v o)) (hS : va_S (fun q : Nat => s.heap.size ≤ q) s.heap H locs) {ls : Array Slot} (hl : lv_has ls 8 [(0, .ref b), (1, .ref (ad 0)), (2, .ref (am 0)), (3, .ref oa), (4, .int (nI i))])
    (kk : ∀ (o : Nat → Int64) (H : Heap) (locs : List Loc) (ls : Array Slot), va_P (dC, dI) vwCl (low ad am oa cI cL u' v' o) H → va_D (fun q : Nat => s.heap.size ≤ q) (low ad am oa cI cL u' v' o) → va_S (fun q : Nat => s.heap.size ≤ q) s.heap H locs → lv_has ls 8 [(0, .ref b), (1, .ref (ad 0)), (2, .ref (am 0)), (3, .ref oa), (4, .int (nI i))] → W p l e room_1 s m #[Value.ref b] below meth c H locs (cc + 8) (ss + 64) (lw_Z below #[Value.ref b] s) (F0 m 1279 ls [])) :
    W p l e room_1 s m #[Value.ref b] below meth c H locs cc ss (lw_Z below #[Value.ref b] s) (F0 m 224 ls []) := by
  obtain ⟨hx, hb, hr, hml, hown, hts0, hXs, hbl, hlocks, hgv⟩ := C0
  have hown : s.vm.findClass RL = some m.cls := hown
  have hts : ∀ w ∈ wsL_law, w.before #[Value.ref b] s = true := fun w h => hts0 w (wsL_law_in w h)
  have hA : ∀ q : Nat, s.heap.size ≤ q → (fun q : Nat => s.heap.size ≤ q) q := fun _ h => h
  have hbA : ¬ (fun q : Nat => s.heap.size ≤ q) b := Nat.not_le.mpr hbl
  have hin1 : vp_in (nI i + 1) L := (lw_in (j := 1) hL (by omega)).1
  have hin2 : vp_in (nI i + 2) L := (lw_in (j := 2) hL (by omega)).1
  have hin3 : vp_in (nI i + 3) L := (lw_in (j := 3) hL (by omega)).1
  have hin4 : vp_in (nI i + 4) L := (lw_in (j := 4) hL (by omega)).1
  obtain ⟨r, sv, hr0, hs0, heq, hval, hle, rfl, rfl⟩ := hst
  refine lv_aload_n hx hb dL_law_224 rfl (lv_at hl 1 rfl) ?_
  refine lv_aload_n hx hb dL_law_225 rfl (lv_at hl 0 rfl) ?_
  refine lv_iload hx hb dL_law_226 (lv_at hl 4 rfl) ?_
  refine lv_iconst (v := 1) hx hb dL_law_228 (by decide) ?_
  refine lv_iadd hx hb dL_law_229 ?_
  refine va_sld hx hb hXs hbl hbA hS hin1 dL_law_230 ?_
  refine lv_aload_n hx hb dL_law_231 rfl (lv_at hl 0 rfl) ?_
  refine lv_iload hx hb dL_law_232 (lv_at hl 4 rfl) ?_
  refine lv_iconst (v := 2) hx hb dL_law_234 (by decide) ?_
  refine lv_iadd hx hb dL_law_235 ?_
  refine va_sld hx hb hXs hbl hbA hS hin2 dL_law_236 ?_
  refine lv_aload_n hx hb dL_law_237 rfl (lv_at hl 3 rfl) ?_
  have hPc := wp_l hP
  have hDc := wd_l hD
  have hFc := wf_of hDc hS hA
  refine va_calli (vx_runSW (As := [.ref (ad 0), .int (xs (nI i + 1).toNatClampNeg), .int (xs (nI i + 2).toNatClampNeg), .ref oa]) (rest := []) ⟨hx, hb, hml, hown, hts⟩ (mL_place l lt dC dI cI cL ad sa oa H.size u o (xs (nI i + 1).toNatClampNeg) (xs (nI i + 2).toNatClampNeg) N r hr0) (vx_cwSW 4 hts gL_law_L_place rfl rfl rfl (by decide +kernel) ⟨Nat.le_of_ble_eq_true rfl, Nat.le_of_ble_eq_true rfl⟩) ⟨xPre_blind, xPre_of hPc hK hDc hZ hX hq hS hFc⟩ rfl rfl hl.1 rfl (lv_room (Nat.le_of_ble_eq_true rfl)) dL_law_238 ⟨show cc + 3 ≤ 601024 from by omega, show ss + 18 ≤ 7293034 from by omega⟩) hS (fun q _ h => hFc q h) hFc (fun r2 u2 t H1 locs ht hvm hw hB hz1 hk1 hS => ?_)
  obtain ⟨hP1, hK1, hD1⟩ := hB
  rw [ht] at hP1
  have e1 : r2 = nI r.1 := congrArg Prod.fst hw
  have e2 : u2 = (r.2.2, if r.1 = 0 then vp_updL o (0 : Int32).toNatClampNeg r.2.1.toInt64 else o) := congrArg Prod.snd hw
  subst r2 u2
  generalize ho : (if r.1 = 0 then vp_updL o (0 : Int32).toNatClampNeg r.2.1.toInt64 else o) = o2 at hP1 hD1
  obtain ⟨hP, hD⟩ := wj_l hP hD hk1 hFc hP1 hD1
  have hP : va_P (dC, dI) vwCl (low ad am oa cI cL r.2.2 v o2) H1 := hP
  have hD : va_D (fun q : Nat => s.heap.size ≤ q) (low ad am oa cI cL r.2.2 v o2) := hD
  clear hP1 hD1 hK1 hPc hDc hFc hk1
  generalize H1 = H at hP hS ⊢
  refine W.widen (k := cc + 3) (n := ss + 18) (by omega) (by omega) ?_
  refine lv_istore (lv' := [(5, .int (nI r.1)), (0, .ref b), (1, .ref (ad 0)), (2, .ref (am 0)), (3, .ref oa), (4, .int (nI i))]) hx hb dL_law_241 hl (by decide) rfl (fun ls hl => ?_)
  refine lv_aload_n hx hb dL_law_243 rfl (lv_at hl 3 rfl) ?_
  refine lv_aload_n hx hb dL_law_244 rfl (lv_at hl 1 rfl) ?_
  refine lv_iload hx hb dL_law_245 (lv_at hl 5 rfl) ?_
  refine lv_iconst (v := 1) hx hb dL_law_247 (by decide) ?_
  refine lv_iadd hx hb dL_law_248 ?_
  refine va_sld hx hb hXs hbl hbA hS hin1 dL_law_249 ?_
  refine lv_aload_n hx hb dL_law_250 rfl (lv_at hl 1 rfl) ?_
  refine lv_iload hx hb dL_law_251 (lv_at hl 5 rfl) ?_
  refine lv_iconst (v := 2) hx hb dL_law_253 (by decide) ?_
  refine lv_iadd hx hb dL_law_254 ?_
  refine va_sld hx hb hXs hbl hbA hS hin2 dL_law_255 ?_
  have hPc := wp_r hP
  have hDc := wd_r hD
  have hFc := wf_of hDc hS hA
  refine va_calli (va_runV (As := [.int (xs (nI i + 1).toNatClampNeg), .int (xs (nI i + 2).toNatClampNeg)]) (rest := []) ⟨hx, hb, hml, hown, hts⟩ (mX5_place l dC dI cI cL am H.size v (xs (nI i + 1).toNatClampNeg) (xs (nI i + 2).toNatClampNeg) N sv hs0) (cwV 2 hts gL_law_X5_place rfl rfl rfl (by decide +kernel) ⟨Nat.le_of_ble_eq_true rfl, Nat.le_of_ble_eq_true rfl⟩) ⟨wPre_blind, va_recv hK hPc (ci := 5) (q0 := 0) rfl rfl, wPre_of hPc hK hDc hZ⟩ rfl rfl hl.1 rfl (lv_room (Nat.le_of_ble_eq_true rfl)) dL_law_256 ⟨show cc + 3 + 0 ≤ 601024 from by omega, show ss + 18 + 0 ≤ 7293034 from by omega⟩) hS (fun q _ h => hFc q h) hFc (fun r2 u2 t H1 locs ht hvm hw hB hz1 hk1 hS => ?_)
  obtain ⟨hP1, hK1, hD1⟩ := hB
  rw [ht] at hP1
  have e1 : r2 = sv.1 := congrArg Prod.fst hw
  have e2 : u2 = sv.2 := congrArg Prod.snd hw
  subst r2 u2
  obtain ⟨hP, hD⟩ := wj_r hP hD hk1 hFc hP1 hD1
  have hP : va_P (dC, dI) vwCl (low ad am oa cI cL r.2.2 sv.2 o2) H1 := hP
  have hD : va_D (fun q : Nat => s.heap.size ≤ q) (low ad am oa cI cL r.2.2 sv.2 o2) := hD
  clear hP1 hD1 hK1 hPc hDc hFc hk1
  generalize H1 = H at hP hS ⊢
  refine lv_istore (lv' := [(6, .int sv.1), (5, .int (nI r.1)), (0, .ref b), (1, .ref (ad 0)), (2, .ref (am 0)), (3, .ref oa), (4, .int (nI i))]) hx hb dL_law_259 hl (by decide) rfl (fun ls hl => ?_)
  refine lv_aload_n hx hb dL_law_261 rfl (lv_at hl 4 rfl) ?_
  have hPc := wp_r hP
  have hDc := wd_r hD
  have hFc := wf_of hDc hS hA
  refine va_calli (va_runV (As := []) (rest := []) ⟨hx, hb, hml, hown, hts⟩ (mX5_thrown l dC dI cI cL am H.size sv.2  N (gI sv.2 0, sv.2) (FX5_thrown_N N sv.2 hN)) (cwV 0 hts gL_law_X5_thrown rfl rfl rfl (by decide +kernel) ⟨Nat.le_of_ble_eq_true rfl, Nat.le_of_ble_eq_true rfl⟩) ⟨wPre_blind, va_recv hK hPc (ci := 5) (q0 := 0) rfl rfl, wPre_of hPc hK hDc hZ⟩ rfl rfl hl.1 rfl (lv_room (Nat.le_of_ble_eq_true rfl)) dL_law_262 ⟨show cc + 3 + 0 ≤ 601024 from by omega, show ss + 18 + 0 ≤ 7293034 from by omega⟩) hS (fun q _ h => hFc q h) hFc (fun r2 u2 t H1 locs ht hvm hw hB hz1 hk1 hS => ?_)
  obtain ⟨hP1, hK1, hD1⟩ := hB
  rw [ht] at hP1
  have e1 : r2 = gI sv.2 0 := congrArg Prod.fst hw
  have e2 : u2 = sv.2 := congrArg Prod.snd hw
  subst r2 u2
  obtain ⟨hP, hD⟩ := wj_r hP hD hk1 hFc hP1 hD1
  have hP : va_P (dC, dI) vwCl (low ad am oa cI cL r.2.2 sv.2 o2) H1 := hP
  have hD : va_D (fun q : Nat => s.heap.size ≤ q) (low ad am oa cI cL r.2.2 sv.2 o2) := hD
  clear hP1 hD1 hK1 hPc hDc hFc hk1
  generalize H1 = H at hP hS ⊢
  refine lv_iload hx hb dL_law_265 (lv_at hl 1 rfl) ?_
  refine lv_icmp_eq (tgt := 272) hx hb dL_law_267 (by decide) (fun _ => ?_) (fun c9 => absurd heq c9)
  refine lv_iload hx hb dL_law_272 (lv_at hl 1 rfl) ?_
  refine lv_if_ne (tgt := 289) hx hb dL_law_274 (by decide) (fun c9 => ?_) (fun c9 => ?_)
  · skip
    refine lv_goto (tgt := 1279) hx hb dL_law_289 (by decide) ?_
    refine W.widen (k := cc + 8) (n := ss + 64) (by omega) (by omega) ?_
    exact kk _ _ _ _ hP hD hS (lv_sub hl [2, 3, 4, 5, 6] rfl)
  have hz : r.1 = 0 := by
    rcases Nat.eq_zero_or_pos r.1 with h | h
    · exact h
    · exact absurd c9 (nI_ne0 h (by omega))
  rw [if_pos hz] at ho
  have hval := hval hz
  refine lv_aload_n hx hb dL_law_277 rfl (lv_at hl 5 rfl) ?_
  refine lv_iconst (v := 0) hx hb dL_law_278 (by decide) ?_
  refine va_lald (f := o2) hx hb hK hP 28 1 rfl rfl (vp_in_iff.mpr (by decide)) dL_law_279 ?_
  refine lv_iload hx hb dL_law_280 (lv_at hl 0 rfl) ?_
  refine lv_i2l (v := sv.1.toInt64) hx hb dL_law_282 rfl ?_
  refine W.lcmp hx hb dL_law_283 ?_
  have hcmp : lg_cmp (o2 (0 : Int32).toNatClampNeg) sv.1.toInt64 = 0 := (lg_cmp_eq _ _).mpr (by rw [← ho, upL_at0]; exact hval)
  refine lv_if_eq (tgt := 289) hx hb dL_law_284 (by decide) (fun _ => ?_) (fun c9 => absurd hcmp c9)
  refine lv_goto (tgt := 1279) hx hb dL_law_289 (by decide) ?_
  refine W.widen (k := cc + 8) (n := ss + 64) (by omega) (by omega) ?_
  exact kk _ _ _ _ hP hD hS (lv_sub hl [2, 3, 4, 5, 6] rfl)

set_option maxHeartbeats 8000000 in
set_option maxRecDepth 100000 in
theorem law_2 {p : Program} {l : Launch} (lt : l.stackTraces = false) {e : Env} {s : State} {m : MethodId} {below : List Frame} {meth : Method} {c : Code} {dC : Nat → ClassId} {dI : Nat → Nat → Nat} {cI cL : ClassId} {ad am sa : Nat → Nat} {oa : Nat} {b L : Nat} {xs : Nat → Int32} (hL : L ≤ 2560) (C0 : lw_At p s m meth c b L xs) (hZ : ZN s) (hX : ZX sa s) (hq : zq (fun q : Nat => s.heap.size ≤ q) s s.heap) (hK : va_K (dC, dI) vwCl [(cI, .int), (cL, .long)] s) {N i : Nat} (hi : i + 5 ≤ L) (hN : 1 ≤ N) {u v u' v' : St} (hst : stepP N 2 (xs (nI i + 1).toNatClampNeg) (xs (nI i + 2).toNatClampNeg) (xs (nI i + 3).toNatClampNeg) (xs (nI i + 4).toNatClampNeg) u v u' v') {o : Nat → Int64} {H : Heap} {locs : List Loc} {cc ss : Nat} (hcc : cc + 8 ≤ 601024) (hss : ss + 64 ≤ 7293034)
    (hP : va_P (dC, dI) vwCl (low ad am oa cI cL u v o) H) (hD : va_D (fun q : Nat => s.heap.size ≤ q) (low ad am oa cI cL u v o)) (hS : va_S (fun q : Nat => s.heap.size ≤ q) s.heap H locs) {ls : Array Slot} (hl : lv_has ls 8 [(0, .ref b), (1, .ref (ad 0)), (2, .ref (am 0)), (3, .ref oa), (4, .int (nI i))])
    (kk : ∀ (o : Nat → Int64) (H : Heap) (locs : List Loc) (ls : Array Slot), va_P (dC, dI) vwCl (low ad am oa cI cL u' v' o) H → va_D (fun q : Nat => s.heap.size ≤ q) (low ad am oa cI cL u' v' o) → va_S (fun q : Nat => s.heap.size ≤ q) s.heap H locs → lv_has ls 8 [(0, .ref b), (1, .ref (ad 0)), (2, .ref (am 0)), (3, .ref oa), (4, .int (nI i))] → W p l e room_1 s m #[Value.ref b] below meth c H locs (cc + 8) (ss + 64) (lw_Z below #[Value.ref b] s) (F0 m 1279 ls [])) :
    W p l e room_1 s m #[Value.ref b] below meth c H locs cc ss (lw_Z below #[Value.ref b] s) (F0 m 292 ls []) := by
  obtain ⟨hx, hb, hr, hml, hown, hts0, hXs, hbl, hlocks, hgv⟩ := C0
  have hown : s.vm.findClass RL = some m.cls := hown
  have hts : ∀ w ∈ wsL_law, w.before #[Value.ref b] s = true := fun w h => hts0 w (wsL_law_in w h)
  have hA : ∀ q : Nat, s.heap.size ≤ q → (fun q : Nat => s.heap.size ≤ q) q := fun _ h => h
  have hbA : ¬ (fun q : Nat => s.heap.size ≤ q) b := Nat.not_le.mpr hbl
  have hin1 : vp_in (nI i + 1) L := (lw_in (j := 1) hL (by omega)).1
  have hin2 : vp_in (nI i + 2) L := (lw_in (j := 2) hL (by omega)).1
  have hin3 : vp_in (nI i + 3) L := (lw_in (j := 3) hL (by omega)).1
  have hin4 : vp_in (nI i + 4) L := (lw_in (j := 4) hL (by omega)).1
  obtain ⟨r, sv, hr0, hs0, heq, hval, hle, rfl, rfl⟩ := hst
  refine lv_aload_n hx hb dL_law_292 rfl (lv_at hl 1 rfl) ?_
  refine lv_aload_n hx hb dL_law_293 rfl (lv_at hl 0 rfl) ?_
  refine lv_iload hx hb dL_law_294 (lv_at hl 4 rfl) ?_
  refine lv_iconst (v := 1) hx hb dL_law_296 (by decide) ?_
  refine lv_iadd hx hb dL_law_297 ?_
  refine va_sld hx hb hXs hbl hbA hS hin1 dL_law_298 ?_
  refine lv_aload_n hx hb dL_law_299 rfl (lv_at hl 0 rfl) ?_
  refine lv_iload hx hb dL_law_300 (lv_at hl 4 rfl) ?_
  refine lv_iconst (v := 2) hx hb dL_law_302 (by decide) ?_
  refine lv_iadd hx hb dL_law_303 ?_
  refine va_sld hx hb hXs hbl hbA hS hin2 dL_law_304 ?_
  refine lv_aload_n hx hb dL_law_305 rfl (lv_at hl 0 rfl) ?_
  refine lv_iload hx hb dL_law_306 (lv_at hl 4 rfl) ?_
  refine lv_iconst (v := 3) hx hb dL_law_308 (by decide) ?_
  refine lv_iadd hx hb dL_law_309 ?_
  refine va_sld hx hb hXs hbl hbA hS hin3 dL_law_310 ?_
  refine lv_aload_n hx hb dL_law_311 rfl (lv_at hl 3 rfl) ?_
  have hPc := wp_l hP
  have hDc := wd_l hD
  have hFc := wf_of hDc hS hA
  refine va_calli (vx_runSW (As := [.ref (ad 0), .int (xs (nI i + 1).toNatClampNeg), .int (xs (nI i + 2).toNatClampNeg), .int (xs (nI i + 3).toNatClampNeg), .ref oa]) (rest := []) ⟨hx, hb, hml, hown, hts⟩ (mL_point l lt dC dI cI cL ad sa oa H.size u o (xs (nI i + 1).toNatClampNeg) (xs (nI i + 2).toNatClampNeg) (xs (nI i + 3).toNatClampNeg) N r hr0) (vx_cwSW 5 hts gL_law_L_point rfl rfl rfl (by decide +kernel) ⟨Nat.le_of_ble_eq_true rfl, Nat.le_of_ble_eq_true rfl⟩) ⟨xPre_blind, xPre_of hPc hK hDc hZ hX hq hS hFc⟩ rfl rfl hl.1 rfl (lv_room (Nat.le_of_ble_eq_true rfl)) dL_law_312 ⟨show cc + 4 ≤ 601024 from by omega, show ss + 24 ≤ 7293034 from by omega⟩) hS (fun q _ h => hFc q h) hFc (fun r2 u2 t H1 locs ht hvm hw hB hz1 hk1 hS => ?_)
  obtain ⟨hP1, hK1, hD1⟩ := hB
  rw [ht] at hP1
  have e1 : r2 = nI r.1 := congrArg Prod.fst hw
  have e2 : u2 = (r.2.2, if r.1 = 0 then vp_updL o (0 : Int32).toNatClampNeg r.2.1.toInt64 else o) := congrArg Prod.snd hw
  subst r2 u2
  generalize ho : (if r.1 = 0 then vp_updL o (0 : Int32).toNatClampNeg r.2.1.toInt64 else o) = o2 at hP1 hD1
  obtain ⟨hP, hD⟩ := wj_l hP hD hk1 hFc hP1 hD1
  have hP : va_P (dC, dI) vwCl (low ad am oa cI cL r.2.2 v o2) H1 := hP
  have hD : va_D (fun q : Nat => s.heap.size ≤ q) (low ad am oa cI cL r.2.2 v o2) := hD
  clear hP1 hD1 hK1 hPc hDc hFc hk1
  generalize H1 = H at hP hS ⊢
  refine W.widen (k := cc + 4) (n := ss + 24) (by omega) (by omega) ?_
  refine lv_istore (lv' := [(5, .int (nI r.1)), (0, .ref b), (1, .ref (ad 0)), (2, .ref (am 0)), (3, .ref oa), (4, .int (nI i))]) hx hb dL_law_315 hl (by decide) rfl (fun ls hl => ?_)
  refine lv_aload_n hx hb dL_law_317 rfl (lv_at hl 3 rfl) ?_
  refine lv_aload_n hx hb dL_law_318 rfl (lv_at hl 1 rfl) ?_
  refine lv_iload hx hb dL_law_319 (lv_at hl 5 rfl) ?_
  refine lv_iconst (v := 1) hx hb dL_law_321 (by decide) ?_
  refine lv_iadd hx hb dL_law_322 ?_
  refine va_sld hx hb hXs hbl hbA hS hin1 dL_law_323 ?_
  refine lv_aload_n hx hb dL_law_324 rfl (lv_at hl 1 rfl) ?_
  refine lv_iload hx hb dL_law_325 (lv_at hl 5 rfl) ?_
  refine lv_iconst (v := 2) hx hb dL_law_327 (by decide) ?_
  refine lv_iadd hx hb dL_law_328 ?_
  refine va_sld hx hb hXs hbl hbA hS hin2 dL_law_329 ?_
  refine lv_aload_n hx hb dL_law_330 rfl (lv_at hl 1 rfl) ?_
  refine lv_iload hx hb dL_law_331 (lv_at hl 5 rfl) ?_
  refine lv_iconst (v := 3) hx hb dL_law_333 (by decide) ?_
  refine lv_iadd hx hb dL_law_334 ?_
  refine va_sld hx hb hXs hbl hbA hS hin3 dL_law_335 ?_
  have hPc := wp_r hP
  have hDc := wd_r hD
  have hFc := wf_of hDc hS hA
  refine va_calli (va_runV (As := [.int (xs (nI i + 1).toNatClampNeg), .int (xs (nI i + 2).toNatClampNeg), .int (xs (nI i + 3).toNatClampNeg)]) (rest := []) ⟨hx, hb, hml, hown, hts⟩ (mX5_point l dC dI cI cL am H.size v (xs (nI i + 1).toNatClampNeg) (xs (nI i + 2).toNatClampNeg) (xs (nI i + 3).toNatClampNeg) N sv hs0) (cwV 3 hts gL_law_X5_point rfl rfl rfl (by decide +kernel) ⟨Nat.le_of_ble_eq_true rfl, Nat.le_of_ble_eq_true rfl⟩) ⟨wPre_blind, va_recv hK hPc (ci := 5) (q0 := 0) rfl rfl, wPre_of hPc hK hDc hZ⟩ rfl rfl hl.1 rfl (lv_room (Nat.le_of_ble_eq_true rfl)) dL_law_336 ⟨show cc + 4 + 0 ≤ 601024 from by omega, show ss + 24 + 0 ≤ 7293034 from by omega⟩) hS (fun q _ h => hFc q h) hFc (fun r2 u2 t H1 locs ht hvm hw hB hz1 hk1 hS => ?_)
  obtain ⟨hP1, hK1, hD1⟩ := hB
  rw [ht] at hP1
  have e1 : r2 = sv.1 := congrArg Prod.fst hw
  have e2 : u2 = sv.2 := congrArg Prod.snd hw
  subst r2 u2
  obtain ⟨hP, hD⟩ := wj_r hP hD hk1 hFc hP1 hD1
  have hP : va_P (dC, dI) vwCl (low ad am oa cI cL r.2.2 sv.2 o2) H1 := hP
  have hD : va_D (fun q : Nat => s.heap.size ≤ q) (low ad am oa cI cL r.2.2 sv.2 o2) := hD
  clear hP1 hD1 hK1 hPc hDc hFc hk1
  generalize H1 = H at hP hS ⊢
  refine lv_istore (lv' := [(6, .int sv.1), (5, .int (nI r.1)), (0, .ref b), (1, .ref (ad 0)), (2, .ref (am 0)), (3, .ref oa), (4, .int (nI i))]) hx hb dL_law_339 hl (by decide) rfl (fun ls hl => ?_)
  refine lv_aload_n hx hb dL_law_341 rfl (lv_at hl 4 rfl) ?_
  have hPc := wp_r hP
  have hDc := wd_r hD
  have hFc := wf_of hDc hS hA
  refine va_calli (va_runV (As := []) (rest := []) ⟨hx, hb, hml, hown, hts⟩ (mX5_thrown l dC dI cI cL am H.size sv.2  N (gI sv.2 0, sv.2) (FX5_thrown_N N sv.2 hN)) (cwV 0 hts gL_law_X5_thrown rfl rfl rfl (by decide +kernel) ⟨Nat.le_of_ble_eq_true rfl, Nat.le_of_ble_eq_true rfl⟩) ⟨wPre_blind, va_recv hK hPc (ci := 5) (q0 := 0) rfl rfl, wPre_of hPc hK hDc hZ⟩ rfl rfl hl.1 rfl (lv_room (Nat.le_of_ble_eq_true rfl)) dL_law_342 ⟨show cc + 4 + 0 ≤ 601024 from by omega, show ss + 24 + 0 ≤ 7293034 from by omega⟩) hS (fun q _ h => hFc q h) hFc (fun r2 u2 t H1 locs ht hvm hw hB hz1 hk1 hS => ?_)
  obtain ⟨hP1, hK1, hD1⟩ := hB
  rw [ht] at hP1
  have e1 : r2 = gI sv.2 0 := congrArg Prod.fst hw
  have e2 : u2 = sv.2 := congrArg Prod.snd hw
  subst r2 u2
  obtain ⟨hP, hD⟩ := wj_r hP hD hk1 hFc hP1 hD1
  have hP : va_P (dC, dI) vwCl (low ad am oa cI cL r.2.2 sv.2 o2) H1 := hP
  have hD : va_D (fun q : Nat => s.heap.size ≤ q) (low ad am oa cI cL r.2.2 sv.2 o2) := hD
  clear hP1 hD1 hK1 hPc hDc hFc hk1
  generalize H1 = H at hP hS ⊢
  refine lv_iload hx hb dL_law_345 (lv_at hl 1 rfl) ?_
  refine lv_icmp_eq (tgt := 352) hx hb dL_law_347 (by decide) (fun _ => ?_) (fun c9 => absurd heq c9)
  refine lv_iload hx hb dL_law_352 (lv_at hl 1 rfl) ?_
  refine lv_if_ne (tgt := 369) hx hb dL_law_354 (by decide) (fun c9 => ?_) (fun c9 => ?_)
  · skip
    refine lv_goto (tgt := 1279) hx hb dL_law_369 (by decide) ?_
    refine W.widen (k := cc + 8) (n := ss + 64) (by omega) (by omega) ?_
    exact kk _ _ _ _ hP hD hS (lv_sub hl [2, 3, 4, 5, 6] rfl)
  have hz : r.1 = 0 := by
    rcases Nat.eq_zero_or_pos r.1 with h | h
    · exact h
    · exact absurd c9 (nI_ne0 h (by omega))
  rw [if_pos hz] at ho
  have hval := hval hz
  refine lv_aload_n hx hb dL_law_357 rfl (lv_at hl 5 rfl) ?_
  refine lv_iconst (v := 0) hx hb dL_law_358 (by decide) ?_
  refine va_lald (f := o2) hx hb hK hP 28 1 rfl rfl (vp_in_iff.mpr (by decide)) dL_law_359 ?_
  refine lv_iload hx hb dL_law_360 (lv_at hl 0 rfl) ?_
  refine lv_i2l (v := sv.1.toInt64) hx hb dL_law_362 rfl ?_
  refine W.lcmp hx hb dL_law_363 ?_
  have hcmp : lg_cmp (o2 (0 : Int32).toNatClampNeg) sv.1.toInt64 = 0 := (lg_cmp_eq _ _).mpr (by rw [← ho, upL_at0]; exact hval)
  refine lv_if_eq (tgt := 369) hx hb dL_law_364 (by decide) (fun _ => ?_) (fun c9 => absurd hcmp c9)
  refine lv_goto (tgt := 1279) hx hb dL_law_369 (by decide) ?_
  refine W.widen (k := cc + 8) (n := ss + 64) (by omega) (by omega) ?_
  exact kk _ _ _ _ hP hD hS (lv_sub hl [2, 3, 4, 5, 6] rfl)

set_option maxHeartbeats 8000000 in
set_option maxRecDepth 100000 in
theorem law_3 {p : Program} {l : Launch} (lt : l.stackTraces = false) {e : Env} {s : State} {m : MethodId} {below : List Frame} {meth : Method} {c : Code} {dC : Nat → ClassId} {dI : Nat → Nat → Nat} {cI cL : ClassId} {ad am sa : Nat → Nat} {oa : Nat} {b L : Nat} {xs : Nat → Int32} (hL : L ≤ 2560) (C0 : lw_At p s m meth c b L xs) (hZ : ZN s) (hX : ZX sa s) (hq : zq (fun q : Nat => s.heap.size ≤ q) s s.heap) (hK : va_K (dC, dI) vwCl [(cI, .int), (cL, .long)] s) {N i : Nat} (hi : i + 5 ≤ L) (hN : 1 ≤ N) {u v u' v' : St} (hst : stepP N 3 (xs (nI i + 1).toNatClampNeg) (xs (nI i + 2).toNatClampNeg) (xs (nI i + 3).toNatClampNeg) (xs (nI i + 4).toNatClampNeg) u v u' v') {o : Nat → Int64} {H : Heap} {locs : List Loc} {cc ss : Nat} (hcc : cc + 8 ≤ 601024) (hss : ss + 64 ≤ 7293034)
    (hP : va_P (dC, dI) vwCl (low ad am oa cI cL u v o) H) (hD : va_D (fun q : Nat => s.heap.size ≤ q) (low ad am oa cI cL u v o)) (hS : va_S (fun q : Nat => s.heap.size ≤ q) s.heap H locs) {ls : Array Slot} (hl : lv_has ls 8 [(0, .ref b), (1, .ref (ad 0)), (2, .ref (am 0)), (3, .ref oa), (4, .int (nI i))])
    (kk : ∀ (o : Nat → Int64) (H : Heap) (locs : List Loc) (ls : Array Slot), va_P (dC, dI) vwCl (low ad am oa cI cL u' v' o) H → va_D (fun q : Nat => s.heap.size ≤ q) (low ad am oa cI cL u' v' o) → va_S (fun q : Nat => s.heap.size ≤ q) s.heap H locs → lv_has ls 8 [(0, .ref b), (1, .ref (ad 0)), (2, .ref (am 0)), (3, .ref oa), (4, .int (nI i))] → W p l e room_1 s m #[Value.ref b] below meth c H locs (cc + 8) (ss + 64) (lw_Z below #[Value.ref b] s) (F0 m 1279 ls [])) :
    W p l e room_1 s m #[Value.ref b] below meth c H locs cc ss (lw_Z below #[Value.ref b] s) (F0 m 372 ls []) := by
  obtain ⟨hx, hb, hr, hml, hown, hts0, hXs, hbl, hlocks, hgv⟩ := C0
  have hown : s.vm.findClass RL = some m.cls := hown
  have hts : ∀ w ∈ wsL_law, w.before #[Value.ref b] s = true := fun w h => hts0 w (wsL_law_in w h)
  have hA : ∀ q : Nat, s.heap.size ≤ q → (fun q : Nat => s.heap.size ≤ q) q := fun _ h => h
  have hbA : ¬ (fun q : Nat => s.heap.size ≤ q) b := Nat.not_le.mpr hbl
  have hin1 : vp_in (nI i + 1) L := (lw_in (j := 1) hL (by omega)).1
  have hin2 : vp_in (nI i + 2) L := (lw_in (j := 2) hL (by omega)).1
  have hin3 : vp_in (nI i + 3) L := (lw_in (j := 3) hL (by omega)).1
  have hin4 : vp_in (nI i + 4) L := (lw_in (j := 4) hL (by omega)).1
  obtain ⟨r, sv, hr0, hs0, heq, hval, hle, rfl, rfl⟩ := hst
  refine lv_aload_n hx hb dL_law_372 rfl (lv_at hl 1 rfl) ?_
  refine lv_aload_n hx hb dL_law_373 rfl (lv_at hl 0 rfl) ?_
  refine lv_iload hx hb dL_law_374 (lv_at hl 4 rfl) ?_
  refine lv_iconst (v := 1) hx hb dL_law_376 (by decide) ?_
  refine lv_iadd hx hb dL_law_377 ?_
  refine va_sld hx hb hXs hbl hbA hS hin1 dL_law_378 ?_
  refine lv_aload_n hx hb dL_law_379 rfl (lv_at hl 3 rfl) ?_
  have hPc := wp_l hP
  have hDc := wd_l hD
  have hFc := wf_of hDc hS hA
  refine va_calli (vx_runSW (As := [.ref (ad 0), .int (xs (nI i + 1).toNatClampNeg), .ref oa]) (rest := []) ⟨hx, hb, hml, hown, hts⟩ (mL_height l lt dC dI cI cL ad sa oa H.size u o (xs (nI i + 1).toNatClampNeg) N r hr0 hle) (vx_cwSW 3 hts gL_law_L_height rfl rfl rfl (by decide +kernel) ⟨Nat.le_of_ble_eq_true rfl, Nat.le_of_ble_eq_true rfl⟩) ⟨xPre_blind, xPre_of hPc hK hDc hZ hX hq hS hFc⟩ rfl rfl hl.1 rfl (lv_room (Nat.le_of_ble_eq_true rfl)) dL_law_380 ⟨show cc + 1 ≤ 601024 from by omega, show ss + 6 ≤ 7293034 from by omega⟩) hS (fun q _ h => hFc q h) hFc (fun r2 u2 t H1 locs ht hvm hw hB hz1 hk1 hS => ?_)
  obtain ⟨hP1, hK1, hD1⟩ := hB
  rw [ht] at hP1
  have e1 : r2 = nI r.1 := congrArg Prod.fst hw
  have e2 : u2 = (r.2.2, if r.1 = 0 then vp_updL o (0 : Int32).toNatClampNeg r.2.1.toInt64 else o) := congrArg Prod.snd hw
  subst r2 u2
  generalize ho : (if r.1 = 0 then vp_updL o (0 : Int32).toNatClampNeg r.2.1.toInt64 else o) = o2 at hP1 hD1
  obtain ⟨hP, hD⟩ := wj_l hP hD hk1 hFc hP1 hD1
  have hP : va_P (dC, dI) vwCl (low ad am oa cI cL r.2.2 v o2) H1 := hP
  have hD : va_D (fun q : Nat => s.heap.size ≤ q) (low ad am oa cI cL r.2.2 v o2) := hD
  clear hP1 hD1 hK1 hPc hDc hFc hk1
  generalize H1 = H at hP hS ⊢
  refine W.widen (k := cc + 1) (n := ss + 6) (by omega) (by omega) ?_
  refine lv_istore (lv' := [(5, .int (nI r.1)), (0, .ref b), (1, .ref (ad 0)), (2, .ref (am 0)), (3, .ref oa), (4, .int (nI i))]) hx hb dL_law_383 hl (by decide) rfl (fun ls hl => ?_)
  refine lv_aload_n hx hb dL_law_385 rfl (lv_at hl 3 rfl) ?_
  refine lv_aload_n hx hb dL_law_386 rfl (lv_at hl 1 rfl) ?_
  refine lv_iload hx hb dL_law_387 (lv_at hl 5 rfl) ?_
  refine lv_iconst (v := 1) hx hb dL_law_389 (by decide) ?_
  refine lv_iadd hx hb dL_law_390 ?_
  refine va_sld hx hb hXs hbl hbA hS hin1 dL_law_391 ?_
  have hPc := wp_r hP
  have hDc := wd_r hD
  have hFc := wf_of hDc hS hA
  refine va_calli (va_runV (As := [.int (xs (nI i + 1).toNatClampNeg)]) (rest := []) ⟨hx, hb, hml, hown, hts⟩ (mX5_height l dC dI cI cL am H.size v (xs (nI i + 1).toNatClampNeg) N sv hs0) (cwV 1 hts gL_law_X5_height rfl rfl rfl (by decide +kernel) ⟨Nat.le_of_ble_eq_true rfl, Nat.le_of_ble_eq_true rfl⟩) ⟨wPre_blind, va_recv hK hPc (ci := 5) (q0 := 0) rfl rfl, wPre_of hPc hK hDc hZ⟩ rfl rfl hl.1 rfl (lv_room (Nat.le_of_ble_eq_true rfl)) dL_law_392 ⟨show cc + 1 + 0 ≤ 601024 from by omega, show ss + 6 + 0 ≤ 7293034 from by omega⟩) hS (fun q _ h => hFc q h) hFc (fun r2 u2 t H1 locs ht hvm hw hB hz1 hk1 hS => ?_)
  obtain ⟨hP1, hK1, hD1⟩ := hB
  rw [ht] at hP1
  have e1 : r2 = sv.1 := congrArg Prod.fst hw
  have e2 : u2 = sv.2 := congrArg Prod.snd hw
  subst r2 u2
  obtain ⟨hP, hD⟩ := wj_r hP hD hk1 hFc hP1 hD1
  have hP : va_P (dC, dI) vwCl (low ad am oa cI cL r.2.2 sv.2 o2) H1 := hP
  have hD : va_D (fun q : Nat => s.heap.size ≤ q) (low ad am oa cI cL r.2.2 sv.2 o2) := hD
  clear hP1 hD1 hK1 hPc hDc hFc hk1
  generalize H1 = H at hP hS ⊢
  refine lv_istore (lv' := [(6, .int sv.1), (5, .int (nI r.1)), (0, .ref b), (1, .ref (ad 0)), (2, .ref (am 0)), (3, .ref oa), (4, .int (nI i))]) hx hb dL_law_395 hl (by decide) rfl (fun ls hl => ?_)
  refine lv_aload_n hx hb dL_law_397 rfl (lv_at hl 4 rfl) ?_
  have hPc := wp_r hP
  have hDc := wd_r hD
  have hFc := wf_of hDc hS hA
  refine va_calli (va_runV (As := []) (rest := []) ⟨hx, hb, hml, hown, hts⟩ (mX5_thrown l dC dI cI cL am H.size sv.2  N (gI sv.2 0, sv.2) (FX5_thrown_N N sv.2 hN)) (cwV 0 hts gL_law_X5_thrown rfl rfl rfl (by decide +kernel) ⟨Nat.le_of_ble_eq_true rfl, Nat.le_of_ble_eq_true rfl⟩) ⟨wPre_blind, va_recv hK hPc (ci := 5) (q0 := 0) rfl rfl, wPre_of hPc hK hDc hZ⟩ rfl rfl hl.1 rfl (lv_room (Nat.le_of_ble_eq_true rfl)) dL_law_398 ⟨show cc + 1 + 0 ≤ 601024 from by omega, show ss + 6 + 0 ≤ 7293034 from by omega⟩) hS (fun q _ h => hFc q h) hFc (fun r2 u2 t H1 locs ht hvm hw hB hz1 hk1 hS => ?_)
  obtain ⟨hP1, hK1, hD1⟩ := hB
  rw [ht] at hP1
  have e1 : r2 = gI sv.2 0 := congrArg Prod.fst hw
  have e2 : u2 = sv.2 := congrArg Prod.snd hw
  subst r2 u2
  obtain ⟨hP, hD⟩ := wj_r hP hD hk1 hFc hP1 hD1
  have hP : va_P (dC, dI) vwCl (low ad am oa cI cL r.2.2 sv.2 o2) H1 := hP
  have hD : va_D (fun q : Nat => s.heap.size ≤ q) (low ad am oa cI cL r.2.2 sv.2 o2) := hD
  clear hP1 hD1 hK1 hPc hDc hFc hk1
  generalize H1 = H at hP hS ⊢
  refine lv_iload hx hb dL_law_401 (lv_at hl 1 rfl) ?_
  refine lv_icmp_eq (tgt := 408) hx hb dL_law_403 (by decide) (fun _ => ?_) (fun c9 => absurd heq c9)
  refine lv_iload hx hb dL_law_408 (lv_at hl 1 rfl) ?_
  refine lv_if_ne (tgt := 425) hx hb dL_law_410 (by decide) (fun c9 => ?_) (fun c9 => ?_)
  · skip
    refine lv_goto (tgt := 1279) hx hb dL_law_425 (by decide) ?_
    refine W.widen (k := cc + 8) (n := ss + 64) (by omega) (by omega) ?_
    exact kk _ _ _ _ hP hD hS (lv_sub hl [2, 3, 4, 5, 6] rfl)
  have hz : r.1 = 0 := by
    rcases Nat.eq_zero_or_pos r.1 with h | h
    · exact h
    · exact absurd c9 (nI_ne0 h (by omega))
  rw [if_pos hz] at ho
  have hval := hval hz
  refine lv_aload_n hx hb dL_law_413 rfl (lv_at hl 5 rfl) ?_
  refine lv_iconst (v := 0) hx hb dL_law_414 (by decide) ?_
  refine va_lald (f := o2) hx hb hK hP 28 1 rfl rfl (vp_in_iff.mpr (by decide)) dL_law_415 ?_
  refine lv_iload hx hb dL_law_416 (lv_at hl 0 rfl) ?_
  refine lv_i2l (v := sv.1.toInt64) hx hb dL_law_418 rfl ?_
  refine W.lcmp hx hb dL_law_419 ?_
  have hcmp : lg_cmp (o2 (0 : Int32).toNatClampNeg) sv.1.toInt64 = 0 := (lg_cmp_eq _ _).mpr (by rw [← ho, upL_at0]; exact hval)
  refine lv_if_eq (tgt := 425) hx hb dL_law_420 (by decide) (fun _ => ?_) (fun c9 => absurd hcmp c9)
  refine lv_goto (tgt := 1279) hx hb dL_law_425 (by decide) ?_
  refine W.widen (k := cc + 8) (n := ss + 64) (by omega) (by omega) ?_
  exact kk _ _ _ _ hP hD hS (lv_sub hl [2, 3, 4, 5, 6] rfl)

set_option maxHeartbeats 8000000 in
set_option maxRecDepth 100000 in
theorem law_4 {p : Program} {l : Launch} (lt : l.stackTraces = false) {e : Env} {s : State} {m : MethodId} {below : List Frame} {meth : Method} {c : Code} {dC : Nat → ClassId} {dI : Nat → Nat → Nat} {cI cL : ClassId} {ad am sa : Nat → Nat} {oa : Nat} {b L : Nat} {xs : Nat → Int32} (hL : L ≤ 2560) (C0 : lw_At p s m meth c b L xs) (hZ : ZN s) (hX : ZX sa s) (hq : zq (fun q : Nat => s.heap.size ≤ q) s s.heap) (hK : va_K (dC, dI) vwCl [(cI, .int), (cL, .long)] s) {N i : Nat} (hi : i + 5 ≤ L) (hN : 1 ≤ N) {u v u' v' : St} (hst : stepP N 4 (xs (nI i + 1).toNatClampNeg) (xs (nI i + 2).toNatClampNeg) (xs (nI i + 3).toNatClampNeg) (xs (nI i + 4).toNatClampNeg) u v u' v') {o : Nat → Int64} {H : Heap} {locs : List Loc} {cc ss : Nat} (hcc : cc + 8 ≤ 601024) (hss : ss + 64 ≤ 7293034)
    (hP : va_P (dC, dI) vwCl (low ad am oa cI cL u v o) H) (hD : va_D (fun q : Nat => s.heap.size ≤ q) (low ad am oa cI cL u v o)) (hS : va_S (fun q : Nat => s.heap.size ≤ q) s.heap H locs) {ls : Array Slot} (hl : lv_has ls 8 [(0, .ref b), (1, .ref (ad 0)), (2, .ref (am 0)), (3, .ref oa), (4, .int (nI i))])
    (kk : ∀ (o : Nat → Int64) (H : Heap) (locs : List Loc) (ls : Array Slot), va_P (dC, dI) vwCl (low ad am oa cI cL u' v' o) H → va_D (fun q : Nat => s.heap.size ≤ q) (low ad am oa cI cL u' v' o) → va_S (fun q : Nat => s.heap.size ≤ q) s.heap H locs → lv_has ls 8 [(0, .ref b), (1, .ref (ad 0)), (2, .ref (am 0)), (3, .ref oa), (4, .int (nI i))] → W p l e room_1 s m #[Value.ref b] below meth c H locs (cc + 8) (ss + 64) (lw_Z below #[Value.ref b] s) (F0 m 1279 ls [])) :
    W p l e room_1 s m #[Value.ref b] below meth c H locs cc ss (lw_Z below #[Value.ref b] s) (F0 m 428 ls []) := by
  obtain ⟨hx, hb, hr, hml, hown, hts0, hXs, hbl, hlocks, hgv⟩ := C0
  have hown : s.vm.findClass RL = some m.cls := hown
  have hts : ∀ w ∈ wsL_law, w.before #[Value.ref b] s = true := fun w h => hts0 w (wsL_law_in w h)
  have hA : ∀ q : Nat, s.heap.size ≤ q → (fun q : Nat => s.heap.size ≤ q) q := fun _ h => h
  have hbA : ¬ (fun q : Nat => s.heap.size ≤ q) b := Nat.not_le.mpr hbl
  have hin1 : vp_in (nI i + 1) L := (lw_in (j := 1) hL (by omega)).1
  have hin2 : vp_in (nI i + 2) L := (lw_in (j := 2) hL (by omega)).1
  have hin3 : vp_in (nI i + 3) L := (lw_in (j := 3) hL (by omega)).1
  have hin4 : vp_in (nI i + 4) L := (lw_in (j := 4) hL (by omega)).1
  obtain ⟨r, sv, hr0, hs0, heq, hle, rfl, hv9⟩ := hst
  subst v'
  refine lv_aload_n hx hb dL_law_428 rfl (lv_at hl 1 rfl) ?_
  refine lv_aload_n hx hb dL_law_429 rfl (lv_at hl 0 rfl) ?_
  refine lv_iload hx hb dL_law_430 (lv_at hl 4 rfl) ?_
  refine lv_iconst (v := 1) hx hb dL_law_432 (by decide) ?_
  refine lv_iadd hx hb dL_law_433 ?_
  refine va_sld hx hb hXs hbl hbA hS hin1 dL_law_434 ?_
  refine lv_aload_n hx hb dL_law_435 rfl (lv_at hl 0 rfl) ?_
  refine lv_iload hx hb dL_law_436 (lv_at hl 4 rfl) ?_
  refine lv_iconst (v := 2) hx hb dL_law_438 (by decide) ?_
  refine lv_iadd hx hb dL_law_439 ?_
  refine va_sld hx hb hXs hbl hbA hS hin2 dL_law_440 ?_
  have hP : va_P (dC, dI) vwCl (cw ad cI cL u ++ ([(oa, .inl (cL, 1, .inr (.inl o)))] ++ mw am cI cL v)) H := by rw [← List.append_assoc]; exact hP
  have hD : va_D (fun q : Nat => s.heap.size ≤ q) (cw ad cI cL u ++ ([(oa, .inl (cL, 1, .inr (.inl o)))] ++ mw am cI cL v)) := by rw [← List.append_assoc]; exact hD
  have hPc := wp_l hP
  have hDc := wd_l hD
  have hFc := wf_of hDc hS hA
  refine va_calli (vx_runSW (As := [.ref (ad 0), .int (xs (nI i + 1).toNatClampNeg), .int (xs (nI i + 2).toNatClampNeg)]) (rest := []) ⟨hx, hb, hml, hown, hts⟩ (mL_hold l lt dC dI cI cL ad sa H.size u (xs (nI i + 1).toNatClampNeg) (xs (nI i + 2).toNatClampNeg) N r hr0 hle) (vx_cwSW 3 hts gL_law_L_hold rfl rfl rfl (by decide +kernel) ⟨Nat.le_of_ble_eq_true rfl, Nat.le_of_ble_eq_true rfl⟩) ⟨xPre_blind, xPre_of hPc hK hDc hZ hX hq hS hFc⟩ rfl rfl hl.1 rfl (lv_room (Nat.le_of_ble_eq_true rfl)) dL_law_441 ⟨show cc + 2 ≤ 601024 from by omega, show ss + 12 ≤ 7293034 from by omega⟩) hS (fun q _ h => hFc q h) hFc (fun r2 u2 t H1 locs ht hvm hw hB hz1 hk1 hS => ?_)
  obtain ⟨hP1, hK1, hD1⟩ := hB
  rw [ht] at hP1
  have e1 : r2 = nI r.1 := congrArg Prod.fst hw
  have e2 : u2 = r.2 := congrArg Prod.snd hw
  subst r2 u2
  obtain ⟨hP, hD⟩ := wj_l hP hD hk1 hFc hP1 hD1
  rw [← List.append_assoc] at hP hD
  have hP : va_P (dC, dI) vwCl (low ad am oa cI cL r.2 v o) H1 := hP
  have hD : va_D (fun q : Nat => s.heap.size ≤ q) (low ad am oa cI cL r.2 v o) := hD
  clear hP1 hD1 hK1 hPc hDc hFc hk1
  generalize H1 = H at hP hS ⊢
  refine W.widen (k := cc + 2) (n := ss + 12) (by omega) (by omega) ?_
  refine lv_istore (lv' := [(5, .int (nI r.1)), (0, .ref b), (1, .ref (ad 0)), (2, .ref (am 0)), (3, .ref oa), (4, .int (nI i))]) hx hb dL_law_444 hl (by decide) rfl (fun ls hl => ?_)
  refine lv_aload_n hx hb dL_law_446 rfl (lv_at hl 3 rfl) ?_
  refine lv_aload_n hx hb dL_law_447 rfl (lv_at hl 1 rfl) ?_
  refine lv_iload hx hb dL_law_448 (lv_at hl 5 rfl) ?_
  refine lv_iconst (v := 1) hx hb dL_law_450 (by decide) ?_
  refine lv_iadd hx hb dL_law_451 ?_
  refine va_sld hx hb hXs hbl hbA hS hin1 dL_law_452 ?_
  refine lv_aload_n hx hb dL_law_453 rfl (lv_at hl 1 rfl) ?_
  refine lv_iload hx hb dL_law_454 (lv_at hl 5 rfl) ?_
  refine lv_iconst (v := 2) hx hb dL_law_456 (by decide) ?_
  refine lv_iadd hx hb dL_law_457 ?_
  refine va_sld hx hb hXs hbl hbA hS hin2 dL_law_458 ?_
  have hPc := wp_r hP
  have hDc := wd_r hD
  have hFc := wf_of hDc hS hA
  refine va_callv (va_runV (As := [.int (xs (nI i + 1).toNatClampNeg), .int (xs (nI i + 2).toNatClampNeg)]) (rest := []) ⟨hx, hb, hml, hown, hts⟩ (mX5_hold l dC dI cI cL am H.size v (xs (nI i + 1).toNatClampNeg) (xs (nI i + 2).toNatClampNeg) N sv hs0) (cwV 2 hts gL_law_X5_hold rfl rfl rfl (by decide +kernel) ⟨Nat.le_of_ble_eq_true rfl, Nat.le_of_ble_eq_true rfl⟩) ⟨wPre_blind, va_recv hK hPc (ci := 5) (q0 := 0) rfl rfl, wPre_of hPc hK hDc hZ⟩ rfl rfl hl.1 rfl (lv_room (Nat.le_of_ble_eq_true rfl)) dL_law_459 ⟨show cc + 2 + 0 ≤ 601024 from by omega, show ss + 12 + 0 ≤ 7293034 from by omega⟩) hS (fun q _ h => hFc q h) hFc (fun u2 t H1 locs ht hvm hw hB hz1 hk1 hS => ?_)
  obtain ⟨hP1, hK1, hD1⟩ := hB
  rw [ht] at hP1
  subst u2
  obtain ⟨hP, hD⟩ := wj_r hP hD hk1 hFc hP1 hD1
  have hP : va_P (dC, dI) vwCl (low ad am oa cI cL r.2 sv o) H1 := hP
  have hD : va_D (fun q : Nat => s.heap.size ≤ q) (low ad am oa cI cL r.2 sv o) := hD
  clear hP1 hD1 hK1 hPc hDc hFc hk1
  generalize H1 = H at hP hS ⊢
  refine lv_aload_n hx hb dL_law_462 rfl (lv_at hl 3 rfl) ?_
  have hPc := wp_r hP
  have hDc := wd_r hD
  have hFc := wf_of hDc hS hA
  refine va_calli (va_runV (As := []) (rest := []) ⟨hx, hb, hml, hown, hts⟩ (mX5_thrown l dC dI cI cL am H.size sv  N (gI sv 0, sv) (FX5_thrown_N N sv hN)) (cwV 0 hts gL_law_X5_thrown rfl rfl rfl (by decide +kernel) ⟨Nat.le_of_ble_eq_true rfl, Nat.le_of_ble_eq_true rfl⟩) ⟨wPre_blind, va_recv hK hPc (ci := 5) (q0 := 0) rfl rfl, wPre_of hPc hK hDc hZ⟩ rfl rfl hl.1 rfl (lv_room (Nat.le_of_ble_eq_true rfl)) dL_law_463 ⟨show cc + 2 + 0 ≤ 601024 from by omega, show ss + 12 + 0 ≤ 7293034 from by omega⟩) hS (fun q _ h => hFc q h) hFc (fun r2 u2 t H1 locs ht hvm hw hB hz1 hk1 hS => ?_)
  obtain ⟨hP1, hK1, hD1⟩ := hB
  rw [ht] at hP1
  have e1 : r2 = gI sv 0 := congrArg Prod.fst hw
  have e2 : u2 = sv := congrArg Prod.snd hw
  subst r2 u2
  obtain ⟨hP, hD⟩ := wj_r hP hD hk1 hFc hP1 hD1
  have hP : va_P (dC, dI) vwCl (low ad am oa cI cL r.2 sv o) H1 := hP
  have hD : va_D (fun q : Nat => s.heap.size ≤ q) (low ad am oa cI cL r.2 sv o) := hD
  clear hP1 hD1 hK1 hPc hDc hFc hk1
  generalize H1 = H at hP hS ⊢
  refine lv_iload hx hb dL_law_466 (lv_at hl 0 rfl) ?_
  refine lv_icmp_eq (tgt := 473) hx hb dL_law_468 (by decide) (fun _ => ?_) (fun c9 => absurd heq c9)
  refine lv_goto (tgt := 1279) hx hb dL_law_473 (by decide) ?_
  refine W.widen (k := cc + 8) (n := ss + 64) (by omega) (by omega) ?_
  exact kk _ _ _ _ hP hD hS (lv_sub hl [1, 2, 3, 4, 5] rfl)

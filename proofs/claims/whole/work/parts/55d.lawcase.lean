set_option maxHeartbeats 8000000 in
set_option maxRecDepth 100000 in
theorem law_15 {p : Program} {l : Launch} (lt : l.stackTraces = false) {e : Env} {s : State} {m : MethodId} {below : List Frame} {meth : Method} {c : Code} {dC : Nat → ClassId} {dI : Nat → Nat → Nat} {cI cL : ClassId} {ad am sa : Nat → Nat} {oa : Nat} {b L : Nat} {xs : Nat → Int32} (hL : L ≤ 2560) (C0 : lw_At p s m meth c b L xs) (hZ : ZN s) (hX : ZX sa s) (hq : zq (fun q : Nat => s.heap.size ≤ q) s s.heap) (hK : va_K (dC, dI) vwCl [(cI, .int), (cL, .long)] s) {N i : Nat} (hi : i + 5 ≤ L) (hN : 1 ≤ N) {u v u' v' : St} (hst : stepP N 15 (xs (nI i + 1).toNatClampNeg) (xs (nI i + 2).toNatClampNeg) (xs (nI i + 3).toNatClampNeg) (xs (nI i + 4).toNatClampNeg) u v u' v') {o : Nat → Int64} {H : Heap} {locs : List Loc} {cc ss : Nat} (hcc : cc + 8 ≤ 601024) (hss : ss + 64 ≤ 7293034)
    (hP : va_P (dC, dI) vwCl (low ad am oa cI cL u v o) H) (hD : va_D (fun q : Nat => s.heap.size ≤ q) (low ad am oa cI cL u v o)) (hS : va_S (fun q : Nat => s.heap.size ≤ q) s.heap H locs) {ls : Array Slot} (hl : lv_has ls 8 [(0, .ref b), (1, .ref (ad 0)), (2, .ref (am 0)), (3, .ref oa), (4, .int (nI i))])
    (kk : ∀ (o : Nat → Int64) (H : Heap) (locs : List Loc) (ls : Array Slot), va_P (dC, dI) vwCl (low ad am oa cI cL u' v' o) H → va_D (fun q : Nat => s.heap.size ≤ q) (low ad am oa cI cL u' v' o) → va_S (fun q : Nat => s.heap.size ≤ q) s.heap H locs → lv_has ls 8 [(0, .ref b), (1, .ref (ad 0)), (2, .ref (am 0)), (3, .ref oa), (4, .int (nI i))] → W p l e room_1 s m #[Value.ref b] below meth c H locs (cc + 8) (ss + 64) (lw_Z below #[Value.ref b] s) (F0 m 1279 ls [])) :
    W p l e room_1 s m #[Value.ref b] below meth c H locs cc ss (lw_Z below #[Value.ref b] s) (F0 m 976 ls []) := by
  obtain ⟨hx, hb, hr, hml, hown, hts0, hXs, hbl, hlocks, hgv⟩ := C0
  have hown : s.vm.findClass RL = some m.cls := hown
  have hts : ∀ w ∈ wsL_law, w.before #[Value.ref b] s = true := fun w h => hts0 w (wsL_law_in w h)
  have hA : ∀ q : Nat, s.heap.size ≤ q → (fun q : Nat => s.heap.size ≤ q) q := fun _ h => h
  have hbA : ¬ (fun q : Nat => s.heap.size ≤ q) b := Nat.not_le.mpr hbl
  have hin1 : vp_in (nI i + 1) L := (lw_in (j := 1) hL (by omega)).1
  have hin2 : vp_in (nI i + 2) L := (lw_in (j := 2) hL (by omega)).1
  have hin3 : vp_in (nI i + 3) L := (lw_in (j := 3) hL (by omega)).1
  have hin4 : vp_in (nI i + 4) L := (lw_in (j := 4) hL (by omega)).1
  obtain ⟨r, sv, hr0, hs0, heq, hval, hle, rfl, rfl⟩ := hst
  refine lv_aload_n hx hb dL_law_976 rfl (lv_at hl 1 rfl) ?_
  refine lv_aload_n hx hb dL_law_977 rfl (lv_at hl 0 rfl) ?_
  refine lv_iload hx hb dL_law_978 (lv_at hl 4 rfl) ?_
  refine lv_iconst (v := 1) hx hb dL_law_980 (by decide) ?_
  refine lv_iadd hx hb dL_law_981 ?_
  refine va_sld hx hb hXs hbl hbA hS hin1 dL_law_982 ?_
  refine lv_aload_n hx hb dL_law_983 rfl (lv_at hl 0 rfl) ?_
  refine lv_iload hx hb dL_law_984 (lv_at hl 4 rfl) ?_
  refine lv_iconst (v := 2) hx hb dL_law_986 (by decide) ?_
  refine lv_iadd hx hb dL_law_987 ?_
  refine va_sld hx hb hXs hbl hbA hS hin2 dL_law_988 ?_
  refine lv_aload_n hx hb dL_law_989 rfl (lv_at hl 3 rfl) ?_
  have hPc := wp_l hP
  have hDc := wd_l hD
  have hFc := wf_of hDc hS hA
  refine va_calli (vx_runSW (As := [.ref (ad 0), .int (xs (nI i + 1).toNatClampNeg), .int (xs (nI i + 2).toNatClampNeg), .ref oa]) (rest := []) ⟨hx, hb, hml, hown, hts⟩ (mL_daylight l lt dC dI cI cL ad sa oa H.size u o (xs (nI i + 1).toNatClampNeg) (xs (nI i + 2).toNatClampNeg) N r hr0 hle) (vx_cwSW 4 hts gL_law_L_daylight rfl rfl rfl (by decide +kernel) ⟨Nat.le_of_ble_eq_true rfl, Nat.le_of_ble_eq_true rfl⟩) ⟨xPre_blind, xPre_of hPc hK hDc hZ hX hq hS hFc⟩ rfl rfl hl.1 rfl (lv_room (Nat.le_of_ble_eq_true rfl)) dL_law_990 ⟨show cc + 2 ≤ 601024 from by omega, show ss + 12 ≤ 7293034 from by omega⟩) hS (fun q _ h => hFc q h) hFc (fun r2 u2 t H1 locs ht hvm hw hB hz1 hk1 hS => ?_)
  obtain ⟨hP1, hK1, hD1⟩ := hB
  rw [ht] at hP1
  have e1 : r2 = nI r.1 := congrArg Prod.fst hw
  have e2 : u2 = (r.2.2, if r.1 = 0 then vp_updL o (0 : Int32).toNatClampNeg r.2.1.toInt64 else o) := congrArg Prod.snd hw
  subst r2 u2
  generalize ho : (if r.1 = 0 then vp_updL o (0 : Int32).toNatClampNeg r.2.1.toInt64 else o) = o2 at hP1 hD1
  obtain ⟨hP, hD⟩ := wj_l hP hD hk1 hFc hP1 hD1
  have hP : va_P (dC, dI) vwCl (low ad am oa cI cL r.2.2 v o2) H1 := hP
  have hD : va_D (fun q : Nat => s.heap.size ≤ q) (low ad am oa cI cL r.2.2 v o2) := hD
  clear hP1 hD1 hK1 hPc hDc hFc hk1
  generalize H1 = H at hP hS ⊢
  refine W.widen (k := cc + 2) (n := ss + 12) (by omega) (by omega) ?_
  refine lv_istore (lv' := [(5, .int (nI r.1)), (0, .ref b), (1, .ref (ad 0)), (2, .ref (am 0)), (3, .ref oa), (4, .int (nI i))]) hx hb dL_law_993 hl (by decide) rfl (fun ls hl => ?_)
  refine lv_aload_n hx hb dL_law_995 rfl (lv_at hl 3 rfl) ?_
  refine lv_aload_n hx hb dL_law_996 rfl (lv_at hl 1 rfl) ?_
  refine lv_iload hx hb dL_law_997 (lv_at hl 5 rfl) ?_
  refine lv_iconst (v := 1) hx hb dL_law_999 (by decide) ?_
  refine lv_iadd hx hb dL_law_1000 ?_
  refine va_sld hx hb hXs hbl hbA hS hin1 dL_law_1001 ?_
  refine lv_aload_n hx hb dL_law_1002 rfl (lv_at hl 1 rfl) ?_
  refine lv_iload hx hb dL_law_1003 (lv_at hl 5 rfl) ?_
  refine lv_iconst (v := 2) hx hb dL_law_1005 (by decide) ?_
  refine lv_iadd hx hb dL_law_1006 ?_
  refine va_sld hx hb hXs hbl hbA hS hin2 dL_law_1007 ?_
  have hPc := wp_r hP
  have hDc := wd_r hD
  have hFc := wf_of hDc hS hA
  refine va_calli (va_runV (As := [.int (xs (nI i + 1).toNatClampNeg), .int (xs (nI i + 2).toNatClampNeg)]) (rest := []) ⟨hx, hb, hml, hown, hts⟩ (mX5_daylight l dC dI cI cL am H.size v (xs (nI i + 1).toNatClampNeg) (xs (nI i + 2).toNatClampNeg) N sv hs0) (cwV 2 hts gL_law_X5_daylight rfl rfl rfl (by decide +kernel) ⟨Nat.le_of_ble_eq_true rfl, Nat.le_of_ble_eq_true rfl⟩) ⟨wPre_blind, va_recv hK hPc (ci := 5) (q0 := 0) rfl rfl, wPre_of hPc hK hDc hZ⟩ rfl rfl hl.1 rfl (lv_room (Nat.le_of_ble_eq_true rfl)) dL_law_1008 ⟨show cc + 2 + 0 ≤ 601024 from by omega, show ss + 12 + 0 ≤ 7293034 from by omega⟩) hS (fun q _ h => hFc q h) hFc (fun r2 u2 t H1 locs ht hvm hw hB hz1 hk1 hS => ?_)
  obtain ⟨hP1, hK1, hD1⟩ := hB
  rw [ht] at hP1
  have e1 : r2 = sv.1 := congrArg Prod.fst hw
  have e2 : u2 = sv.2 := congrArg Prod.snd hw
  subst r2 u2
  obtain ⟨hP, hD⟩ := wj_r hP hD hk1 hFc hP1 hD1
  have hP : va_P (dC, dI) vwCl (low ad am oa cI cL r.2.2 sv.2 o2) H1 := hP
  have hD : va_D (fun q : Nat => s.heap.size ≤ q) (low ad am oa cI cL r.2.2 sv.2 o2) := hD
  clear hP1 hD1 hK1 hPc hDc hFc hk1
  generalize H1 = H at hP hS ⊢
  refine lv_istore (lv' := [(6, .int sv.1), (5, .int (nI r.1)), (0, .ref b), (1, .ref (ad 0)), (2, .ref (am 0)), (3, .ref oa), (4, .int (nI i))]) hx hb dL_law_1011 hl (by decide) rfl (fun ls hl => ?_)
  refine lv_aload_n hx hb dL_law_1013 rfl (lv_at hl 4 rfl) ?_
  have hPc := wp_r hP
  have hDc := wd_r hD
  have hFc := wf_of hDc hS hA
  refine va_calli (va_runV (As := []) (rest := []) ⟨hx, hb, hml, hown, hts⟩ (mX5_thrown l dC dI cI cL am H.size sv.2  N (gI sv.2 0, sv.2) (FX5_thrown_N N sv.2 hN)) (cwV 0 hts gL_law_X5_thrown rfl rfl rfl (by decide +kernel) ⟨Nat.le_of_ble_eq_true rfl, Nat.le_of_ble_eq_true rfl⟩) ⟨wPre_blind, va_recv hK hPc (ci := 5) (q0 := 0) rfl rfl, wPre_of hPc hK hDc hZ⟩ rfl rfl hl.1 rfl (lv_room (Nat.le_of_ble_eq_true rfl)) dL_law_1014 ⟨show cc + 2 + 0 ≤ 601024 from by omega, show ss + 12 + 0 ≤ 7293034 from by omega⟩) hS (fun q _ h => hFc q h) hFc (fun r2 u2 t H1 locs ht hvm hw hB hz1 hk1 hS => ?_)
  obtain ⟨hP1, hK1, hD1⟩ := hB
  rw [ht] at hP1
  have e1 : r2 = gI sv.2 0 := congrArg Prod.fst hw
  have e2 : u2 = sv.2 := congrArg Prod.snd hw
  subst r2 u2
  obtain ⟨hP, hD⟩ := wj_r hP hD hk1 hFc hP1 hD1
  have hP : va_P (dC, dI) vwCl (low ad am oa cI cL r.2.2 sv.2 o2) H1 := hP
  have hD : va_D (fun q : Nat => s.heap.size ≤ q) (low ad am oa cI cL r.2.2 sv.2 o2) := hD
  clear hP1 hD1 hK1 hPc hDc hFc hk1
  generalize H1 = H at hP hS ⊢
  refine lv_iload hx hb dL_law_1017 (lv_at hl 1 rfl) ?_
  refine lv_icmp_eq (tgt := 1024) hx hb dL_law_1019 (by decide) (fun _ => ?_) (fun c9 => absurd heq c9)
  refine lv_iload hx hb dL_law_1024 (lv_at hl 1 rfl) ?_
  refine lv_if_ne (tgt := 1041) hx hb dL_law_1026 (by decide) (fun c9 => ?_) (fun c9 => ?_)
  · skip
    refine lv_goto (tgt := 1279) hx hb dL_law_1041 (by decide) ?_
    refine W.widen (k := cc + 8) (n := ss + 64) (by omega) (by omega) ?_
    exact kk _ _ _ _ hP hD hS (lv_sub hl [2, 3, 4, 5, 6] rfl)
  have hz : r.1 = 0 := by
    rcases Nat.eq_zero_or_pos r.1 with h | h
    · exact h
    · exact absurd c9 (nI_ne0 h (by omega))
  rw [if_pos hz] at ho
  have hval := hval hz
  refine lv_aload_n hx hb dL_law_1029 rfl (lv_at hl 5 rfl) ?_
  refine lv_iconst (v := 0) hx hb dL_law_1030 (by decide) ?_
  refine va_lald (f := o2) hx hb hK hP 28 1 rfl rfl (vp_in_iff.mpr (by decide)) dL_law_1031 ?_
  refine lv_iload hx hb dL_law_1032 (lv_at hl 0 rfl) ?_
  refine lv_i2l (v := sv.1.toInt64) hx hb dL_law_1034 rfl ?_
  refine W.lcmp hx hb dL_law_1035 ?_
  have hcmp : lg_cmp (o2 (0 : Int32).toNatClampNeg) sv.1.toInt64 = 0 := (lg_cmp_eq _ _).mpr (by rw [← ho, upL_at0]; exact hval)
  refine lv_if_eq (tgt := 1041) hx hb dL_law_1036 (by decide) (fun _ => ?_) (fun c9 => absurd hcmp c9)
  refine lv_goto (tgt := 1279) hx hb dL_law_1041 (by decide) ?_
  refine W.widen (k := cc + 8) (n := ss + 64) (by omega) (by omega) ?_
  exact kk _ _ _ _ hP hD hS (lv_sub hl [2, 3, 4, 5, 6] rfl)

set_option maxHeartbeats 8000000 in
set_option maxRecDepth 100000 in
theorem law_16 {p : Program} {l : Launch} (lt : l.stackTraces = false) {e : Env} {s : State} {m : MethodId} {below : List Frame} {meth : Method} {c : Code} {dC : Nat → ClassId} {dI : Nat → Nat → Nat} {cI cL : ClassId} {ad am sa : Nat → Nat} {oa : Nat} {b L : Nat} {xs : Nat → Int32} (hL : L ≤ 2560) (C0 : lw_At p s m meth c b L xs) (hZ : ZN s) (hX : ZX sa s) (hq : zq (fun q : Nat => s.heap.size ≤ q) s s.heap) (hK : va_K (dC, dI) vwCl [(cI, .int), (cL, .long)] s) {N i : Nat} (hi : i + 5 ≤ L) (hN : 1 ≤ N) {u v u' v' : St} (hst : stepP N 16 (xs (nI i + 1).toNatClampNeg) (xs (nI i + 2).toNatClampNeg) (xs (nI i + 3).toNatClampNeg) (xs (nI i + 4).toNatClampNeg) u v u' v') {o : Nat → Int64} {H : Heap} {locs : List Loc} {cc ss : Nat} (hcc : cc + 8 ≤ 601024) (hss : ss + 64 ≤ 7293034)
    (hP : va_P (dC, dI) vwCl (low ad am oa cI cL u v o) H) (hD : va_D (fun q : Nat => s.heap.size ≤ q) (low ad am oa cI cL u v o)) (hS : va_S (fun q : Nat => s.heap.size ≤ q) s.heap H locs) {ls : Array Slot} (hl : lv_has ls 8 [(0, .ref b), (1, .ref (ad 0)), (2, .ref (am 0)), (3, .ref oa), (4, .int (nI i))])
    (kk : ∀ (o : Nat → Int64) (H : Heap) (locs : List Loc) (ls : Array Slot), va_P (dC, dI) vwCl (low ad am oa cI cL u' v' o) H → va_D (fun q : Nat => s.heap.size ≤ q) (low ad am oa cI cL u' v' o) → va_S (fun q : Nat => s.heap.size ≤ q) s.heap H locs → lv_has ls 8 [(0, .ref b), (1, .ref (ad 0)), (2, .ref (am 0)), (3, .ref oa), (4, .int (nI i))] → W p l e room_1 s m #[Value.ref b] below meth c H locs (cc + 8) (ss + 64) (lw_Z below #[Value.ref b] s) (F0 m 1279 ls [])) :
    W p l e room_1 s m #[Value.ref b] below meth c H locs cc ss (lw_Z below #[Value.ref b] s) (F0 m 1044 ls []) := by
  obtain ⟨hx, hb, hr, hml, hown, hts0, hXs, hbl, hlocks, hgv⟩ := C0
  have hown : s.vm.findClass RL = some m.cls := hown
  have hts : ∀ w ∈ wsL_law, w.before #[Value.ref b] s = true := fun w h => hts0 w (wsL_law_in w h)
  have hA : ∀ q : Nat, s.heap.size ≤ q → (fun q : Nat => s.heap.size ≤ q) q := fun _ h => h
  have hbA : ¬ (fun q : Nat => s.heap.size ≤ q) b := Nat.not_le.mpr hbl
  have hin1 : vp_in (nI i + 1) L := (lw_in (j := 1) hL (by omega)).1
  have hin2 : vp_in (nI i + 2) L := (lw_in (j := 2) hL (by omega)).1
  have hin3 : vp_in (nI i + 3) L := (lw_in (j := 3) hL (by omega)).1
  have hin4 : vp_in (nI i + 4) L := (lw_in (j := 4) hL (by omega)).1
  obtain ⟨r, sv, hr0, hs0, heq, hval, hle, rfl, rfl⟩ := hst
  refine lv_aload_n hx hb dL_law_1044 rfl (lv_at hl 1 rfl) ?_
  refine lv_aload_n hx hb dL_law_1045 rfl (lv_at hl 0 rfl) ?_
  refine lv_iload hx hb dL_law_1046 (lv_at hl 4 rfl) ?_
  refine lv_iconst (v := 1) hx hb dL_law_1048 (by decide) ?_
  refine lv_iadd hx hb dL_law_1049 ?_
  refine va_sld hx hb hXs hbl hbA hS hin1 dL_law_1050 ?_
  refine lv_aload_n hx hb dL_law_1051 rfl (lv_at hl 3 rfl) ?_
  have hPc := wp_l hP
  have hDc := wd_l hD
  have hFc := wf_of hDc hS hA
  refine va_calli (vx_runSW (As := [.ref (ad 0), .int (xs (nI i + 1).toNatClampNeg), .ref oa]) (rest := []) ⟨hx, hb, hml, hown, hts⟩ (mL_step l lt dC dI cI cL ad sa oa H.size u o (xs (nI i + 1).toNatClampNeg) N r hr0 hle) (vx_cwSW 3 hts gL_law_L_step rfl rfl rfl (by decide +kernel) ⟨Nat.le_of_ble_eq_true rfl, Nat.le_of_ble_eq_true rfl⟩) ⟨xPre_blind, xPre_of hPc hK hDc hZ hX hq hS hFc⟩ rfl rfl hl.1 rfl (lv_room (Nat.le_of_ble_eq_true rfl)) dL_law_1052 ⟨show cc + 1 ≤ 601024 from by omega, show ss + 6 ≤ 7293034 from by omega⟩) hS (fun q _ h => hFc q h) hFc (fun r2 u2 t H1 locs ht hvm hw hB hz1 hk1 hS => ?_)
  obtain ⟨hP1, hK1, hD1⟩ := hB
  rw [ht] at hP1
  have e1 : r2 = nI r.1 := congrArg Prod.fst hw
  have e2 : u2 = (r.2.2, if r.1 = 0 then vp_updL o (0 : Int32).toNatClampNeg r.2.1.toInt64 else o) := congrArg Prod.snd hw
  subst r2 u2
  generalize ho : (if r.1 = 0 then vp_updL o (0 : Int32).toNatClampNeg r.2.1.toInt64 else o) = o2 at hP1 hD1
  obtain ⟨hP, hD⟩ := wj_l hP hD hk1 hFc hP1 hD1
  have hP : va_P (dC, dI) vwCl (low ad am oa cI cL r.2.2 v o2) H1 := hP
  have hD : va_D (fun q : Nat => s.heap.size ≤ q) (low ad am oa cI cL r.2.2 v o2) := hD
  clear hP1 hD1 hK1 hPc hDc hFc hk1
  generalize H1 = H at hP hS ⊢
  refine W.widen (k := cc + 1) (n := ss + 6) (by omega) (by omega) ?_
  refine lv_istore (lv' := [(5, .int (nI r.1)), (0, .ref b), (1, .ref (ad 0)), (2, .ref (am 0)), (3, .ref oa), (4, .int (nI i))]) hx hb dL_law_1055 hl (by decide) rfl (fun ls hl => ?_)
  refine lv_aload_n hx hb dL_law_1057 rfl (lv_at hl 3 rfl) ?_
  refine lv_aload_n hx hb dL_law_1058 rfl (lv_at hl 1 rfl) ?_
  refine lv_iload hx hb dL_law_1059 (lv_at hl 5 rfl) ?_
  refine lv_iconst (v := 1) hx hb dL_law_1061 (by decide) ?_
  refine lv_iadd hx hb dL_law_1062 ?_
  refine va_sld hx hb hXs hbl hbA hS hin1 dL_law_1063 ?_
  have hPc := wp_r hP
  have hDc := wd_r hD
  have hFc := wf_of hDc hS hA
  refine va_calli (va_runV (As := [.int (xs (nI i + 1).toNatClampNeg)]) (rest := []) ⟨hx, hb, hml, hown, hts⟩ (mX5_step l dC dI cI cL am H.size v (xs (nI i + 1).toNatClampNeg) N sv hs0) (cwV 1 hts gL_law_X5_step rfl rfl rfl (by decide +kernel) ⟨Nat.le_of_ble_eq_true rfl, Nat.le_of_ble_eq_true rfl⟩) ⟨wPre_blind, va_recv hK hPc (ci := 5) (q0 := 0) rfl rfl, wPre_of hPc hK hDc hZ⟩ rfl rfl hl.1 rfl (lv_room (Nat.le_of_ble_eq_true rfl)) dL_law_1064 ⟨show cc + 1 + 0 ≤ 601024 from by omega, show ss + 6 + 0 ≤ 7293034 from by omega⟩) hS (fun q _ h => hFc q h) hFc (fun r2 u2 t H1 locs ht hvm hw hB hz1 hk1 hS => ?_)
  obtain ⟨hP1, hK1, hD1⟩ := hB
  rw [ht] at hP1
  have e1 : r2 = sv.1 := congrArg Prod.fst hw
  have e2 : u2 = sv.2 := congrArg Prod.snd hw
  subst r2 u2
  obtain ⟨hP, hD⟩ := wj_r hP hD hk1 hFc hP1 hD1
  have hP : va_P (dC, dI) vwCl (low ad am oa cI cL r.2.2 sv.2 o2) H1 := hP
  have hD : va_D (fun q : Nat => s.heap.size ≤ q) (low ad am oa cI cL r.2.2 sv.2 o2) := hD
  clear hP1 hD1 hK1 hPc hDc hFc hk1
  generalize H1 = H at hP hS ⊢
  refine lv_istore (lv' := [(6, .int sv.1), (5, .int (nI r.1)), (0, .ref b), (1, .ref (ad 0)), (2, .ref (am 0)), (3, .ref oa), (4, .int (nI i))]) hx hb dL_law_1067 hl (by decide) rfl (fun ls hl => ?_)
  refine lv_aload_n hx hb dL_law_1069 rfl (lv_at hl 4 rfl) ?_
  have hPc := wp_r hP
  have hDc := wd_r hD
  have hFc := wf_of hDc hS hA
  refine va_calli (va_runV (As := []) (rest := []) ⟨hx, hb, hml, hown, hts⟩ (mX5_thrown l dC dI cI cL am H.size sv.2  N (gI sv.2 0, sv.2) (FX5_thrown_N N sv.2 hN)) (cwV 0 hts gL_law_X5_thrown rfl rfl rfl (by decide +kernel) ⟨Nat.le_of_ble_eq_true rfl, Nat.le_of_ble_eq_true rfl⟩) ⟨wPre_blind, va_recv hK hPc (ci := 5) (q0 := 0) rfl rfl, wPre_of hPc hK hDc hZ⟩ rfl rfl hl.1 rfl (lv_room (Nat.le_of_ble_eq_true rfl)) dL_law_1070 ⟨show cc + 1 + 0 ≤ 601024 from by omega, show ss + 6 + 0 ≤ 7293034 from by omega⟩) hS (fun q _ h => hFc q h) hFc (fun r2 u2 t H1 locs ht hvm hw hB hz1 hk1 hS => ?_)
  obtain ⟨hP1, hK1, hD1⟩ := hB
  rw [ht] at hP1
  have e1 : r2 = gI sv.2 0 := congrArg Prod.fst hw
  have e2 : u2 = sv.2 := congrArg Prod.snd hw
  subst r2 u2
  obtain ⟨hP, hD⟩ := wj_r hP hD hk1 hFc hP1 hD1
  have hP : va_P (dC, dI) vwCl (low ad am oa cI cL r.2.2 sv.2 o2) H1 := hP
  have hD : va_D (fun q : Nat => s.heap.size ≤ q) (low ad am oa cI cL r.2.2 sv.2 o2) := hD
  clear hP1 hD1 hK1 hPc hDc hFc hk1
  generalize H1 = H at hP hS ⊢
  refine lv_iload hx hb dL_law_1073 (lv_at hl 1 rfl) ?_
  refine lv_icmp_eq (tgt := 1080) hx hb dL_law_1075 (by decide) (fun _ => ?_) (fun c9 => absurd heq c9)
  refine lv_iload hx hb dL_law_1080 (lv_at hl 1 rfl) ?_
  refine lv_if_ne (tgt := 1097) hx hb dL_law_1082 (by decide) (fun c9 => ?_) (fun c9 => ?_)
  · skip
    refine lv_goto (tgt := 1279) hx hb dL_law_1097 (by decide) ?_
    refine W.widen (k := cc + 8) (n := ss + 64) (by omega) (by omega) ?_
    exact kk _ _ _ _ hP hD hS (lv_sub hl [2, 3, 4, 5, 6] rfl)
  have hz : r.1 = 0 := by
    rcases Nat.eq_zero_or_pos r.1 with h | h
    · exact h
    · exact absurd c9 (nI_ne0 h (by omega))
  rw [if_pos hz] at ho
  have hval := hval hz
  refine lv_aload_n hx hb dL_law_1085 rfl (lv_at hl 5 rfl) ?_
  refine lv_iconst (v := 0) hx hb dL_law_1086 (by decide) ?_
  refine va_lald (f := o2) hx hb hK hP 28 1 rfl rfl (vp_in_iff.mpr (by decide)) dL_law_1087 ?_
  refine lv_iload hx hb dL_law_1088 (lv_at hl 0 rfl) ?_
  refine lv_i2l (v := sv.1.toInt64) hx hb dL_law_1090 rfl ?_
  refine W.lcmp hx hb dL_law_1091 ?_
  have hcmp : lg_cmp (o2 (0 : Int32).toNatClampNeg) sv.1.toInt64 = 0 := (lg_cmp_eq _ _).mpr (by rw [← ho, upL_at0]; exact hval)
  refine lv_if_eq (tgt := 1097) hx hb dL_law_1092 (by decide) (fun _ => ?_) (fun c9 => absurd hcmp c9)
  refine lv_goto (tgt := 1279) hx hb dL_law_1097 (by decide) ?_
  refine W.widen (k := cc + 8) (n := ss + 64) (by omega) (by omega) ?_
  exact kk _ _ _ _ hP hD hS (lv_sub hl [2, 3, 4, 5, 6] rfl)

set_option maxHeartbeats 8000000 in
set_option maxRecDepth 100000 in
theorem law_17 {p : Program} {l : Launch} (lt : l.stackTraces = false) {e : Env} {s : State} {m : MethodId} {below : List Frame} {meth : Method} {c : Code} {dC : Nat → ClassId} {dI : Nat → Nat → Nat} {cI cL : ClassId} {ad am sa : Nat → Nat} {oa : Nat} {b L : Nat} {xs : Nat → Int32} (hL : L ≤ 2560) (C0 : lw_At p s m meth c b L xs) (hZ : ZN s) (hX : ZX sa s) (hq : zq (fun q : Nat => s.heap.size ≤ q) s s.heap) (hK : va_K (dC, dI) vwCl [(cI, .int), (cL, .long)] s) {N i : Nat} (hi : i + 5 ≤ L) (hN : 1 ≤ N) {u v u' v' : St} (hst : stepP N 17 (xs (nI i + 1).toNatClampNeg) (xs (nI i + 2).toNatClampNeg) (xs (nI i + 3).toNatClampNeg) (xs (nI i + 4).toNatClampNeg) u v u' v') {o : Nat → Int64} {H : Heap} {locs : List Loc} {cc ss : Nat} (hcc : cc + 8 ≤ 601024) (hss : ss + 64 ≤ 7293034)
    (hP : va_P (dC, dI) vwCl (low ad am oa cI cL u v o) H) (hD : va_D (fun q : Nat => s.heap.size ≤ q) (low ad am oa cI cL u v o)) (hS : va_S (fun q : Nat => s.heap.size ≤ q) s.heap H locs) {ls : Array Slot} (hl : lv_has ls 8 [(0, .ref b), (1, .ref (ad 0)), (2, .ref (am 0)), (3, .ref oa), (4, .int (nI i))])
    (kk : ∀ (o : Nat → Int64) (H : Heap) (locs : List Loc) (ls : Array Slot), va_P (dC, dI) vwCl (low ad am oa cI cL u' v' o) H → va_D (fun q : Nat => s.heap.size ≤ q) (low ad am oa cI cL u' v' o) → va_S (fun q : Nat => s.heap.size ≤ q) s.heap H locs → lv_has ls 8 [(0, .ref b), (1, .ref (ad 0)), (2, .ref (am 0)), (3, .ref oa), (4, .int (nI i))] → W p l e room_1 s m #[Value.ref b] below meth c H locs (cc + 8) (ss + 64) (lw_Z below #[Value.ref b] s) (F0 m 1279 ls [])) :
    W p l e room_1 s m #[Value.ref b] below meth c H locs cc ss (lw_Z below #[Value.ref b] s) (F0 m 1100 ls []) := by
  obtain ⟨hx, hb, hr, hml, hown, hts0, hXs, hbl, hlocks, hgv⟩ := C0
  have hown : s.vm.findClass RL = some m.cls := hown
  have hts : ∀ w ∈ wsL_law, w.before #[Value.ref b] s = true := fun w h => hts0 w (wsL_law_in w h)
  have hA : ∀ q : Nat, s.heap.size ≤ q → (fun q : Nat => s.heap.size ≤ q) q := fun _ h => h
  have hbA : ¬ (fun q : Nat => s.heap.size ≤ q) b := Nat.not_le.mpr hbl
  have hin1 : vp_in (nI i + 1) L := (lw_in (j := 1) hL (by omega)).1
  have hin2 : vp_in (nI i + 2) L := (lw_in (j := 2) hL (by omega)).1
  have hin3 : vp_in (nI i + 3) L := (lw_in (j := 3) hL (by omega)).1
  have hin4 : vp_in (nI i + 4) L := (lw_in (j := 4) hL (by omega)).1
  obtain ⟨r, sv, hr0, hs0, heq, hval, hle, rfl, rfl⟩ := hst
  refine lv_aload_n hx hb dL_law_1100 rfl (lv_at hl 1 rfl) ?_
  refine lv_aload_n hx hb dL_law_1101 rfl (lv_at hl 0 rfl) ?_
  refine lv_iload hx hb dL_law_1102 (lv_at hl 4 rfl) ?_
  refine lv_iconst (v := 1) hx hb dL_law_1104 (by decide) ?_
  refine lv_iadd hx hb dL_law_1105 ?_
  refine va_sld hx hb hXs hbl hbA hS hin1 dL_law_1106 ?_
  refine lv_aload_n hx hb dL_law_1107 rfl (lv_at hl 3 rfl) ?_
  have hPc := wp_l hP
  have hDc := wd_l hD
  have hFc := wf_of hDc hS hA
  refine va_calli (vx_runSW (As := [.ref (ad 0), .int (xs (nI i + 1).toNatClampNeg), .ref oa]) (rest := []) ⟨hx, hb, hml, hown, hts⟩ (mL_run l lt dC dI cI cL ad sa oa H.size u o (xs (nI i + 1).toNatClampNeg) N r hr0) (vx_cwSW 3 hts gL_law_L_run rfl rfl rfl (by decide +kernel) ⟨Nat.le_of_ble_eq_true rfl, Nat.le_of_ble_eq_true rfl⟩) ⟨xPre_blind, xPre_of hPc hK hDc hZ hX hq hS hFc⟩ rfl rfl hl.1 rfl (lv_room (Nat.le_of_ble_eq_true rfl)) dL_law_1108 ⟨show cc + 2 ≤ 601024 from by omega, show ss + 12 ≤ 7293034 from by omega⟩) hS (fun q _ h => hFc q h) hFc (fun r2 u2 t H1 locs ht hvm hw hB hz1 hk1 hS => ?_)
  obtain ⟨hP1, hK1, hD1⟩ := hB
  rw [ht] at hP1
  have e1 : r2 = nI r.1 := congrArg Prod.fst hw
  have e2 : u2 = (r.2.2, if r.1 = 0 then vp_updL o (0 : Int32).toNatClampNeg r.2.1.toInt64 else o) := congrArg Prod.snd hw
  subst r2 u2
  generalize ho : (if r.1 = 0 then vp_updL o (0 : Int32).toNatClampNeg r.2.1.toInt64 else o) = o2 at hP1 hD1
  obtain ⟨hP, hD⟩ := wj_l hP hD hk1 hFc hP1 hD1
  have hP : va_P (dC, dI) vwCl (low ad am oa cI cL r.2.2 v o2) H1 := hP
  have hD : va_D (fun q : Nat => s.heap.size ≤ q) (low ad am oa cI cL r.2.2 v o2) := hD
  clear hP1 hD1 hK1 hPc hDc hFc hk1
  generalize H1 = H at hP hS ⊢
  refine W.widen (k := cc + 2) (n := ss + 12) (by omega) (by omega) ?_
  refine lv_istore (lv' := [(5, .int (nI r.1)), (0, .ref b), (1, .ref (ad 0)), (2, .ref (am 0)), (3, .ref oa), (4, .int (nI i))]) hx hb dL_law_1111 hl (by decide) rfl (fun ls hl => ?_)
  refine lv_aload_n hx hb dL_law_1113 rfl (lv_at hl 3 rfl) ?_
  refine lv_aload_n hx hb dL_law_1114 rfl (lv_at hl 1 rfl) ?_
  refine lv_iload hx hb dL_law_1115 (lv_at hl 5 rfl) ?_
  refine lv_iconst (v := 1) hx hb dL_law_1117 (by decide) ?_
  refine lv_iadd hx hb dL_law_1118 ?_
  refine va_sld hx hb hXs hbl hbA hS hin1 dL_law_1119 ?_
  have hPc := wp_r hP
  have hDc := wd_r hD
  have hFc := wf_of hDc hS hA
  refine va_calli (va_runV (As := [.int (xs (nI i + 1).toNatClampNeg)]) (rest := []) ⟨hx, hb, hml, hown, hts⟩ (mX5_run l dC dI cI cL am H.size v (xs (nI i + 1).toNatClampNeg) N sv hs0) (cwV 1 hts gL_law_X5_run rfl rfl rfl (by decide +kernel) ⟨Nat.le_of_ble_eq_true rfl, Nat.le_of_ble_eq_true rfl⟩) ⟨wPre_blind, va_recv hK hPc (ci := 5) (q0 := 0) rfl rfl, wPre_of hPc hK hDc hZ⟩ rfl rfl hl.1 rfl (lv_room (Nat.le_of_ble_eq_true rfl)) dL_law_1120 ⟨show cc + 2 + 0 ≤ 601024 from by omega, show ss + 12 + 0 ≤ 7293034 from by omega⟩) hS (fun q _ h => hFc q h) hFc (fun r2 u2 t H1 locs ht hvm hw hB hz1 hk1 hS => ?_)
  obtain ⟨hP1, hK1, hD1⟩ := hB
  rw [ht] at hP1
  have e1 : r2 = sv.1 := congrArg Prod.fst hw
  have e2 : u2 = sv.2 := congrArg Prod.snd hw
  subst r2 u2
  obtain ⟨hP, hD⟩ := wj_r hP hD hk1 hFc hP1 hD1
  have hP : va_P (dC, dI) vwCl (low ad am oa cI cL r.2.2 sv.2 o2) H1 := hP
  have hD : va_D (fun q : Nat => s.heap.size ≤ q) (low ad am oa cI cL r.2.2 sv.2 o2) := hD
  clear hP1 hD1 hK1 hPc hDc hFc hk1
  generalize H1 = H at hP hS ⊢
  refine lv_istore (lv' := [(6, .int sv.1), (5, .int (nI r.1)), (0, .ref b), (1, .ref (ad 0)), (2, .ref (am 0)), (3, .ref oa), (4, .int (nI i))]) hx hb dL_law_1123 hl (by decide) rfl (fun ls hl => ?_)
  refine lv_aload_n hx hb dL_law_1125 rfl (lv_at hl 4 rfl) ?_
  have hPc := wp_r hP
  have hDc := wd_r hD
  have hFc := wf_of hDc hS hA
  refine va_calli (va_runV (As := []) (rest := []) ⟨hx, hb, hml, hown, hts⟩ (mX5_thrown l dC dI cI cL am H.size sv.2  N (gI sv.2 0, sv.2) (FX5_thrown_N N sv.2 hN)) (cwV 0 hts gL_law_X5_thrown rfl rfl rfl (by decide +kernel) ⟨Nat.le_of_ble_eq_true rfl, Nat.le_of_ble_eq_true rfl⟩) ⟨wPre_blind, va_recv hK hPc (ci := 5) (q0 := 0) rfl rfl, wPre_of hPc hK hDc hZ⟩ rfl rfl hl.1 rfl (lv_room (Nat.le_of_ble_eq_true rfl)) dL_law_1126 ⟨show cc + 2 + 0 ≤ 601024 from by omega, show ss + 12 + 0 ≤ 7293034 from by omega⟩) hS (fun q _ h => hFc q h) hFc (fun r2 u2 t H1 locs ht hvm hw hB hz1 hk1 hS => ?_)
  obtain ⟨hP1, hK1, hD1⟩ := hB
  rw [ht] at hP1
  have e1 : r2 = gI sv.2 0 := congrArg Prod.fst hw
  have e2 : u2 = sv.2 := congrArg Prod.snd hw
  subst r2 u2
  obtain ⟨hP, hD⟩ := wj_r hP hD hk1 hFc hP1 hD1
  have hP : va_P (dC, dI) vwCl (low ad am oa cI cL r.2.2 sv.2 o2) H1 := hP
  have hD : va_D (fun q : Nat => s.heap.size ≤ q) (low ad am oa cI cL r.2.2 sv.2 o2) := hD
  clear hP1 hD1 hK1 hPc hDc hFc hk1
  generalize H1 = H at hP hS ⊢
  refine lv_iload hx hb dL_law_1129 (lv_at hl 1 rfl) ?_
  refine lv_icmp_eq (tgt := 1136) hx hb dL_law_1131 (by decide) (fun _ => ?_) (fun c9 => absurd heq c9)
  refine lv_iload hx hb dL_law_1136 (lv_at hl 1 rfl) ?_
  refine lv_if_ne (tgt := 1153) hx hb dL_law_1138 (by decide) (fun c9 => ?_) (fun c9 => ?_)
  · skip
    refine lv_goto (tgt := 1279) hx hb dL_law_1153 (by decide) ?_
    refine W.widen (k := cc + 8) (n := ss + 64) (by omega) (by omega) ?_
    exact kk _ _ _ _ hP hD hS (lv_sub hl [2, 3, 4, 5, 6] rfl)
  have hz : r.1 = 0 := by
    rcases Nat.eq_zero_or_pos r.1 with h | h
    · exact h
    · exact absurd c9 (nI_ne0 h (by omega))
  rw [if_pos hz] at ho
  have hval := hval hz
  refine lv_aload_n hx hb dL_law_1141 rfl (lv_at hl 5 rfl) ?_
  refine lv_iconst (v := 0) hx hb dL_law_1142 (by decide) ?_
  refine va_lald (f := o2) hx hb hK hP 28 1 rfl rfl (vp_in_iff.mpr (by decide)) dL_law_1143 ?_
  refine lv_iload hx hb dL_law_1144 (lv_at hl 0 rfl) ?_
  refine lv_i2l (v := sv.1.toInt64) hx hb dL_law_1146 rfl ?_
  refine W.lcmp hx hb dL_law_1147 ?_
  have hcmp : lg_cmp (o2 (0 : Int32).toNatClampNeg) sv.1.toInt64 = 0 := (lg_cmp_eq _ _).mpr (by rw [← ho, upL_at0]; exact hval)
  refine lv_if_eq (tgt := 1153) hx hb dL_law_1148 (by decide) (fun _ => ?_) (fun c9 => absurd hcmp c9)
  refine lv_goto (tgt := 1279) hx hb dL_law_1153 (by decide) ?_
  refine W.widen (k := cc + 8) (n := ss + 64) (by omega) (by omega) ?_
  exact kk _ _ _ _ hP hD hS (lv_sub hl [2, 3, 4, 5, 6] rfl)

set_option maxHeartbeats 8000000 in
set_option maxRecDepth 100000 in
theorem law_18 {p : Program} {l : Launch} (lt : l.stackTraces = false) {e : Env} {s : State} {m : MethodId} {below : List Frame} {meth : Method} {c : Code} {dC : Nat → ClassId} {dI : Nat → Nat → Nat} {cI cL : ClassId} {ad am sa : Nat → Nat} {oa : Nat} {b L : Nat} {xs : Nat → Int32} (hL : L ≤ 2560) (C0 : lw_At p s m meth c b L xs) (hZ : ZN s) (hX : ZX sa s) (hq : zq (fun q : Nat => s.heap.size ≤ q) s s.heap) (hK : va_K (dC, dI) vwCl [(cI, .int), (cL, .long)] s) {N i : Nat} (hi : i + 5 ≤ L) (hN : 1 ≤ N) {u v u' v' : St} (hst : stepP N 18 (xs (nI i + 1).toNatClampNeg) (xs (nI i + 2).toNatClampNeg) (xs (nI i + 3).toNatClampNeg) (xs (nI i + 4).toNatClampNeg) u v u' v') {o : Nat → Int64} {H : Heap} {locs : List Loc} {cc ss : Nat} (hcc : cc + 8 ≤ 601024) (hss : ss + 64 ≤ 7293034)
    (hP : va_P (dC, dI) vwCl (low ad am oa cI cL u v o) H) (hD : va_D (fun q : Nat => s.heap.size ≤ q) (low ad am oa cI cL u v o)) (hS : va_S (fun q : Nat => s.heap.size ≤ q) s.heap H locs) {ls : Array Slot} (hl : lv_has ls 8 [(0, .ref b), (1, .ref (ad 0)), (2, .ref (am 0)), (3, .ref oa), (4, .int (nI i))])
    (kk : ∀ (o : Nat → Int64) (H : Heap) (locs : List Loc) (ls : Array Slot), va_P (dC, dI) vwCl (low ad am oa cI cL u' v' o) H → va_D (fun q : Nat => s.heap.size ≤ q) (low ad am oa cI cL u' v' o) → va_S (fun q : Nat => s.heap.size ≤ q) s.heap H locs → lv_has ls 8 [(0, .ref b), (1, .ref (ad 0)), (2, .ref (am 0)), (3, .ref oa), (4, .int (nI i))] → W p l e room_1 s m #[Value.ref b] below meth c H locs (cc + 8) (ss + 64) (lw_Z below #[Value.ref b] s) (F0 m 1279 ls [])) :
    W p l e room_1 s m #[Value.ref b] below meth c H locs cc ss (lw_Z below #[Value.ref b] s) (F0 m 1156 ls []) := by
  obtain ⟨hx, hb, hr, hml, hown, hts0, hXs, hbl, hlocks, hgv⟩ := C0
  have hown : s.vm.findClass RL = some m.cls := hown
  have hts : ∀ w ∈ wsL_law, w.before #[Value.ref b] s = true := fun w h => hts0 w (wsL_law_in w h)
  have hA : ∀ q : Nat, s.heap.size ≤ q → (fun q : Nat => s.heap.size ≤ q) q := fun _ h => h
  have hbA : ¬ (fun q : Nat => s.heap.size ≤ q) b := Nat.not_le.mpr hbl
  have hin1 : vp_in (nI i + 1) L := (lw_in (j := 1) hL (by omega)).1
  have hin2 : vp_in (nI i + 2) L := (lw_in (j := 2) hL (by omega)).1
  have hin3 : vp_in (nI i + 3) L := (lw_in (j := 3) hL (by omega)).1
  have hin4 : vp_in (nI i + 4) L := (lw_in (j := 4) hL (by omega)).1
  obtain ⟨r, sv, hr0, hs0, heq, hval, hle, rfl, rfl⟩ := hst
  refine lv_aload_n hx hb dL_law_1156 rfl (lv_at hl 1 rfl) ?_
  refine lv_aload_n hx hb dL_law_1157 rfl (lv_at hl 0 rfl) ?_
  refine lv_iload hx hb dL_law_1158 (lv_at hl 4 rfl) ?_
  refine lv_iconst (v := 1) hx hb dL_law_1160 (by decide) ?_
  refine lv_iadd hx hb dL_law_1161 ?_
  refine va_sld hx hb hXs hbl hbA hS hin1 dL_law_1162 ?_
  refine lv_aload_n hx hb dL_law_1163 rfl (lv_at hl 0 rfl) ?_
  refine lv_iload hx hb dL_law_1164 (lv_at hl 4 rfl) ?_
  refine lv_iconst (v := 2) hx hb dL_law_1166 (by decide) ?_
  refine lv_iadd hx hb dL_law_1167 ?_
  refine va_sld hx hb hXs hbl hbA hS hin2 dL_law_1168 ?_
  refine lv_aload_n hx hb dL_law_1169 rfl (lv_at hl 3 rfl) ?_
  have hPc := wp_l hP
  have hDc := wd_l hD
  have hFc := wf_of hDc hS hA
  refine va_calli (vx_runSW (As := [.ref (ad 0), .int (xs (nI i + 1).toNatClampNeg), .int (xs (nI i + 2).toNatClampNeg), .ref oa]) (rest := []) ⟨hx, hb, hml, hown, hts⟩ (mL_own l lt dC dI cI cL ad sa oa H.size u o (xs (nI i + 1).toNatClampNeg) (xs (nI i + 2).toNatClampNeg) N r hr0 hle) (vx_cwSW 4 hts gL_law_L_own rfl rfl rfl (by decide +kernel) ⟨Nat.le_of_ble_eq_true rfl, Nat.le_of_ble_eq_true rfl⟩) ⟨xPre_blind, xPre_of hPc hK hDc hZ hX hq hS hFc⟩ rfl rfl hl.1 rfl (lv_room (Nat.le_of_ble_eq_true rfl)) dL_law_1170 ⟨show cc + 2 ≤ 601024 from by omega, show ss + 12 ≤ 7293034 from by omega⟩) hS (fun q _ h => hFc q h) hFc (fun r2 u2 t H1 locs ht hvm hw hB hz1 hk1 hS => ?_)
  obtain ⟨hP1, hK1, hD1⟩ := hB
  rw [ht] at hP1
  have e1 : r2 = nI r.1 := congrArg Prod.fst hw
  have e2 : u2 = (r.2.2, if r.1 = 0 then vp_updL o (0 : Int32).toNatClampNeg r.2.1.toInt64 else o) := congrArg Prod.snd hw
  subst r2 u2
  generalize ho : (if r.1 = 0 then vp_updL o (0 : Int32).toNatClampNeg r.2.1.toInt64 else o) = o2 at hP1 hD1
  obtain ⟨hP, hD⟩ := wj_l hP hD hk1 hFc hP1 hD1
  have hP : va_P (dC, dI) vwCl (low ad am oa cI cL r.2.2 v o2) H1 := hP
  have hD : va_D (fun q : Nat => s.heap.size ≤ q) (low ad am oa cI cL r.2.2 v o2) := hD
  clear hP1 hD1 hK1 hPc hDc hFc hk1
  generalize H1 = H at hP hS ⊢
  refine W.widen (k := cc + 2) (n := ss + 12) (by omega) (by omega) ?_
  refine lv_istore (lv' := [(5, .int (nI r.1)), (0, .ref b), (1, .ref (ad 0)), (2, .ref (am 0)), (3, .ref oa), (4, .int (nI i))]) hx hb dL_law_1173 hl (by decide) rfl (fun ls hl => ?_)
  refine lv_aload_n hx hb dL_law_1175 rfl (lv_at hl 3 rfl) ?_
  refine lv_aload_n hx hb dL_law_1176 rfl (lv_at hl 1 rfl) ?_
  refine lv_iload hx hb dL_law_1177 (lv_at hl 5 rfl) ?_
  refine lv_iconst (v := 1) hx hb dL_law_1179 (by decide) ?_
  refine lv_iadd hx hb dL_law_1180 ?_
  refine va_sld hx hb hXs hbl hbA hS hin1 dL_law_1181 ?_
  refine lv_aload_n hx hb dL_law_1182 rfl (lv_at hl 1 rfl) ?_
  refine lv_iload hx hb dL_law_1183 (lv_at hl 5 rfl) ?_
  refine lv_iconst (v := 2) hx hb dL_law_1185 (by decide) ?_
  refine lv_iadd hx hb dL_law_1186 ?_
  refine va_sld hx hb hXs hbl hbA hS hin2 dL_law_1187 ?_
  have hPc := wp_r hP
  have hDc := wd_r hD
  have hFc := wf_of hDc hS hA
  refine va_calli (va_runV (As := [.int (xs (nI i + 1).toNatClampNeg), .int (xs (nI i + 2).toNatClampNeg)]) (rest := []) ⟨hx, hb, hml, hown, hts⟩ (mX5_own l dC dI cI cL am H.size v (xs (nI i + 1).toNatClampNeg) (xs (nI i + 2).toNatClampNeg) N sv hs0) (cwV 2 hts gL_law_X5_own rfl rfl rfl (by decide +kernel) ⟨Nat.le_of_ble_eq_true rfl, Nat.le_of_ble_eq_true rfl⟩) ⟨wPre_blind, va_recv hK hPc (ci := 5) (q0 := 0) rfl rfl, wPre_of hPc hK hDc hZ⟩ rfl rfl hl.1 rfl (lv_room (Nat.le_of_ble_eq_true rfl)) dL_law_1188 ⟨show cc + 2 + 0 ≤ 601024 from by omega, show ss + 12 + 0 ≤ 7293034 from by omega⟩) hS (fun q _ h => hFc q h) hFc (fun r2 u2 t H1 locs ht hvm hw hB hz1 hk1 hS => ?_)
  obtain ⟨hP1, hK1, hD1⟩ := hB
  rw [ht] at hP1
  have e1 : r2 = sv.1 := congrArg Prod.fst hw
  have e2 : u2 = sv.2 := congrArg Prod.snd hw
  subst r2 u2
  obtain ⟨hP, hD⟩ := wj_r hP hD hk1 hFc hP1 hD1
  have hP : va_P (dC, dI) vwCl (low ad am oa cI cL r.2.2 sv.2 o2) H1 := hP
  have hD : va_D (fun q : Nat => s.heap.size ≤ q) (low ad am oa cI cL r.2.2 sv.2 o2) := hD
  clear hP1 hD1 hK1 hPc hDc hFc hk1
  generalize H1 = H at hP hS ⊢
  refine lv_istore (lv' := [(6, .int sv.1), (5, .int (nI r.1)), (0, .ref b), (1, .ref (ad 0)), (2, .ref (am 0)), (3, .ref oa), (4, .int (nI i))]) hx hb dL_law_1191 hl (by decide) rfl (fun ls hl => ?_)
  refine lv_aload_n hx hb dL_law_1193 rfl (lv_at hl 4 rfl) ?_
  have hPc := wp_r hP
  have hDc := wd_r hD
  have hFc := wf_of hDc hS hA
  refine va_calli (va_runV (As := []) (rest := []) ⟨hx, hb, hml, hown, hts⟩ (mX5_thrown l dC dI cI cL am H.size sv.2  N (gI sv.2 0, sv.2) (FX5_thrown_N N sv.2 hN)) (cwV 0 hts gL_law_X5_thrown rfl rfl rfl (by decide +kernel) ⟨Nat.le_of_ble_eq_true rfl, Nat.le_of_ble_eq_true rfl⟩) ⟨wPre_blind, va_recv hK hPc (ci := 5) (q0 := 0) rfl rfl, wPre_of hPc hK hDc hZ⟩ rfl rfl hl.1 rfl (lv_room (Nat.le_of_ble_eq_true rfl)) dL_law_1194 ⟨show cc + 2 + 0 ≤ 601024 from by omega, show ss + 12 + 0 ≤ 7293034 from by omega⟩) hS (fun q _ h => hFc q h) hFc (fun r2 u2 t H1 locs ht hvm hw hB hz1 hk1 hS => ?_)
  obtain ⟨hP1, hK1, hD1⟩ := hB
  rw [ht] at hP1
  have e1 : r2 = gI sv.2 0 := congrArg Prod.fst hw
  have e2 : u2 = sv.2 := congrArg Prod.snd hw
  subst r2 u2
  obtain ⟨hP, hD⟩ := wj_r hP hD hk1 hFc hP1 hD1
  have hP : va_P (dC, dI) vwCl (low ad am oa cI cL r.2.2 sv.2 o2) H1 := hP
  have hD : va_D (fun q : Nat => s.heap.size ≤ q) (low ad am oa cI cL r.2.2 sv.2 o2) := hD
  clear hP1 hD1 hK1 hPc hDc hFc hk1
  generalize H1 = H at hP hS ⊢
  refine lv_iload hx hb dL_law_1197 (lv_at hl 1 rfl) ?_
  refine lv_icmp_eq (tgt := 1204) hx hb dL_law_1199 (by decide) (fun _ => ?_) (fun c9 => absurd heq c9)
  refine lv_iload hx hb dL_law_1204 (lv_at hl 1 rfl) ?_
  refine lv_if_ne (tgt := 1221) hx hb dL_law_1206 (by decide) (fun c9 => ?_) (fun c9 => ?_)
  · skip
    refine lv_goto (tgt := 1279) hx hb dL_law_1221 (by decide) ?_
    refine W.widen (k := cc + 8) (n := ss + 64) (by omega) (by omega) ?_
    exact kk _ _ _ _ hP hD hS (lv_sub hl [2, 3, 4, 5, 6] rfl)
  have hz : r.1 = 0 := by
    rcases Nat.eq_zero_or_pos r.1 with h | h
    · exact h
    · exact absurd c9 (nI_ne0 h (by omega))
  rw [if_pos hz] at ho
  have hval := hval hz
  refine lv_aload_n hx hb dL_law_1209 rfl (lv_at hl 5 rfl) ?_
  refine lv_iconst (v := 0) hx hb dL_law_1210 (by decide) ?_
  refine va_lald (f := o2) hx hb hK hP 28 1 rfl rfl (vp_in_iff.mpr (by decide)) dL_law_1211 ?_
  refine lv_iload hx hb dL_law_1212 (lv_at hl 0 rfl) ?_
  refine lv_i2l (v := sv.1.toInt64) hx hb dL_law_1214 rfl ?_
  refine W.lcmp hx hb dL_law_1215 ?_
  have hcmp : lg_cmp (o2 (0 : Int32).toNatClampNeg) sv.1.toInt64 = 0 := (lg_cmp_eq _ _).mpr (by rw [← ho, upL_at0]; exact hval)
  refine lv_if_eq (tgt := 1221) hx hb dL_law_1216 (by decide) (fun _ => ?_) (fun c9 => absurd hcmp c9)
  refine lv_goto (tgt := 1279) hx hb dL_law_1221 (by decide) ?_
  refine W.widen (k := cc + 8) (n := ss + 64) (by omega) (by omega) ?_
  exact kk _ _ _ _ hP hD hS (lv_sub hl [2, 3, 4, 5, 6] rfl)

set_option maxHeartbeats 8000000 in
set_option maxRecDepth 100000 in
theorem law_19 {p : Program} {l : Launch} (lt : l.stackTraces = false) {e : Env} {s : State} {m : MethodId} {below : List Frame} {meth : Method} {c : Code} {dC : Nat → ClassId} {dI : Nat → Nat → Nat} {cI cL : ClassId} {ad am sa : Nat → Nat} {oa : Nat} {b L : Nat} {xs : Nat → Int32} (hL : L ≤ 2560) (C0 : lw_At p s m meth c b L xs) (hZ : ZN s) (hX : ZX sa s) (hq : zq (fun q : Nat => s.heap.size ≤ q) s s.heap) (hK : va_K (dC, dI) vwCl [(cI, .int), (cL, .long)] s) {N i : Nat} (hi : i + 5 ≤ L) (hN : 1 ≤ N) {u v u' v' : St} (hst : stepP N 19 (xs (nI i + 1).toNatClampNeg) (xs (nI i + 2).toNatClampNeg) (xs (nI i + 3).toNatClampNeg) (xs (nI i + 4).toNatClampNeg) u v u' v') {o : Nat → Int64} {H : Heap} {locs : List Loc} {cc ss : Nat} (hcc : cc + 8 ≤ 601024) (hss : ss + 64 ≤ 7293034)
    (hP : va_P (dC, dI) vwCl (low ad am oa cI cL u v o) H) (hD : va_D (fun q : Nat => s.heap.size ≤ q) (low ad am oa cI cL u v o)) (hS : va_S (fun q : Nat => s.heap.size ≤ q) s.heap H locs) {ls : Array Slot} (hl : lv_has ls 8 [(0, .ref b), (1, .ref (ad 0)), (2, .ref (am 0)), (3, .ref oa), (4, .int (nI i))])
    (kk : ∀ (o : Nat → Int64) (H : Heap) (locs : List Loc) (ls : Array Slot), va_P (dC, dI) vwCl (low ad am oa cI cL u' v' o) H → va_D (fun q : Nat => s.heap.size ≤ q) (low ad am oa cI cL u' v' o) → va_S (fun q : Nat => s.heap.size ≤ q) s.heap H locs → lv_has ls 8 [(0, .ref b), (1, .ref (ad 0)), (2, .ref (am 0)), (3, .ref oa), (4, .int (nI i))] → W p l e room_1 s m #[Value.ref b] below meth c H locs (cc + 8) (ss + 64) (lw_Z below #[Value.ref b] s) (F0 m 1279 ls [])) :
    W p l e room_1 s m #[Value.ref b] below meth c H locs cc ss (lw_Z below #[Value.ref b] s) (F0 m 1224 ls []) := by
  obtain ⟨hx, hb, hr, hml, hown, hts0, hXs, hbl, hlocks, hgv⟩ := C0
  have hown : s.vm.findClass RL = some m.cls := hown
  have hts : ∀ w ∈ wsL_law, w.before #[Value.ref b] s = true := fun w h => hts0 w (wsL_law_in w h)
  have hA : ∀ q : Nat, s.heap.size ≤ q → (fun q : Nat => s.heap.size ≤ q) q := fun _ h => h
  have hbA : ¬ (fun q : Nat => s.heap.size ≤ q) b := Nat.not_le.mpr hbl
  have hin1 : vp_in (nI i + 1) L := (lw_in (j := 1) hL (by omega)).1
  have hin2 : vp_in (nI i + 2) L := (lw_in (j := 2) hL (by omega)).1
  have hin3 : vp_in (nI i + 3) L := (lw_in (j := 3) hL (by omega)).1
  have hin4 : vp_in (nI i + 4) L := (lw_in (j := 4) hL (by omega)).1
  obtain ⟨r, sv, hr0, hs0, heq, hval, hle, rfl, rfl⟩ := hst
  refine lv_aload_n hx hb dL_law_1224 rfl (lv_at hl 1 rfl) ?_
  refine lv_aload_n hx hb dL_law_1225 rfl (lv_at hl 0 rfl) ?_
  refine lv_iload hx hb dL_law_1226 (lv_at hl 4 rfl) ?_
  refine lv_iconst (v := 1) hx hb dL_law_1228 (by decide) ?_
  refine lv_iadd hx hb dL_law_1229 ?_
  refine va_sld hx hb hXs hbl hbA hS hin1 dL_law_1230 ?_
  refine lv_aload_n hx hb dL_law_1231 rfl (lv_at hl 3 rfl) ?_
  have hPc := wp_l hP
  have hDc := wd_l hD
  have hFc := wf_of hDc hS hA
  refine va_calli (vx_runSW (As := [.ref (ad 0), .int (xs (nI i + 1).toNatClampNeg), .ref oa]) (rest := []) ⟨hx, hb, hml, hown, hts⟩ (mL_used l lt dC dI cI cL ad sa oa H.size u o (xs (nI i + 1).toNatClampNeg) N r hr0 hle) (vx_cwSW 3 hts gL_law_L_used rfl rfl rfl (by decide +kernel) ⟨Nat.le_of_ble_eq_true rfl, Nat.le_of_ble_eq_true rfl⟩) ⟨xPre_blind, xPre_of hPc hK hDc hZ hX hq hS hFc⟩ rfl rfl hl.1 rfl (lv_room (Nat.le_of_ble_eq_true rfl)) dL_law_1232 ⟨show cc + 1 ≤ 601024 from by omega, show ss + 6 ≤ 7293034 from by omega⟩) hS (fun q _ h => hFc q h) hFc (fun r2 u2 t H1 locs ht hvm hw hB hz1 hk1 hS => ?_)
  obtain ⟨hP1, hK1, hD1⟩ := hB
  rw [ht] at hP1
  have e1 : r2 = nI r.1 := congrArg Prod.fst hw
  have e2 : u2 = (r.2.2, if r.1 = 0 then vp_updL o (0 : Int32).toNatClampNeg r.2.1 else o) := congrArg Prod.snd hw
  subst r2 u2
  generalize ho : (if r.1 = 0 then vp_updL o (0 : Int32).toNatClampNeg r.2.1 else o) = o2 at hP1 hD1
  obtain ⟨hP, hD⟩ := wj_l hP hD hk1 hFc hP1 hD1
  have hP : va_P (dC, dI) vwCl (low ad am oa cI cL r.2.2 v o2) H1 := hP
  have hD : va_D (fun q : Nat => s.heap.size ≤ q) (low ad am oa cI cL r.2.2 v o2) := hD
  clear hP1 hD1 hK1 hPc hDc hFc hk1
  generalize H1 = H at hP hS ⊢
  refine W.widen (k := cc + 1) (n := ss + 6) (by omega) (by omega) ?_
  refine lv_istore (lv' := [(5, .int (nI r.1)), (0, .ref b), (1, .ref (ad 0)), (2, .ref (am 0)), (3, .ref oa), (4, .int (nI i))]) hx hb dL_law_1235 hl (by decide) rfl (fun ls hl => ?_)
  refine lv_aload_n hx hb dL_law_1237 rfl (lv_at hl 3 rfl) ?_
  refine lv_aload_n hx hb dL_law_1238 rfl (lv_at hl 1 rfl) ?_
  refine lv_iload hx hb dL_law_1239 (lv_at hl 5 rfl) ?_
  refine lv_iconst (v := 1) hx hb dL_law_1241 (by decide) ?_
  refine lv_iadd hx hb dL_law_1242 ?_
  refine va_sld hx hb hXs hbl hbA hS hin1 dL_law_1243 ?_
  have hPc := wp_r hP
  have hDc := wd_r hD
  have hFc := wf_of hDc hS hA
  refine va_calll (va_runV (As := [.int (xs (nI i + 1).toNatClampNeg)]) (rest := []) ⟨hx, hb, hml, hown, hts⟩ (mX5_used l dC dI cI cL am H.size v (xs (nI i + 1).toNatClampNeg) N sv hs0) (cwV 1 hts gL_law_X5_used rfl rfl rfl (by decide +kernel) ⟨Nat.le_of_ble_eq_true rfl, Nat.le_of_ble_eq_true rfl⟩) ⟨wPre_blind, va_recv hK hPc (ci := 5) (q0 := 0) rfl rfl, wPre_of hPc hK hDc hZ⟩ rfl rfl hl.1 rfl (lv_room (Nat.le_of_ble_eq_true rfl)) dL_law_1244 ⟨show cc + 1 + 0 ≤ 601024 from by omega, show ss + 6 + 0 ≤ 7293034 from by omega⟩) hS (fun q _ h => hFc q h) hFc (fun r2 u2 t H1 locs ht hvm hw hB hz1 hk1 hS => ?_)
  obtain ⟨hP1, hK1, hD1⟩ := hB
  rw [ht] at hP1
  have e1 : r2 = sv.1 := congrArg Prod.fst hw
  have e2 : u2 = sv.2 := congrArg Prod.snd hw
  subst r2 u2
  obtain ⟨hP, hD⟩ := wj_r hP hD hk1 hFc hP1 hD1
  have hP : va_P (dC, dI) vwCl (low ad am oa cI cL r.2.2 sv.2 o2) H1 := hP
  have hD : va_D (fun q : Nat => s.heap.size ≤ q) (low ad am oa cI cL r.2.2 sv.2 o2) := hD
  clear hP1 hD1 hK1 hPc hDc hFc hk1
  generalize H1 = H at hP hS ⊢
  refine lv_lstore (lv' := [(6, .long sv.1), (5, .int (nI r.1)), (0, .ref b), (1, .ref (ad 0)), (2, .ref (am 0)), (3, .ref oa), (4, .int (nI i))]) hx hb dL_law_1247 hl (by decide) rfl (fun ls hl => ?_)
  refine lv_aload_n hx hb dL_law_1249 rfl (lv_at hl 4 rfl) ?_
  have hPc := wp_r hP
  have hDc := wd_r hD
  have hFc := wf_of hDc hS hA
  refine va_calli (va_runV (As := []) (rest := []) ⟨hx, hb, hml, hown, hts⟩ (mX5_thrown l dC dI cI cL am H.size sv.2  N (gI sv.2 0, sv.2) (FX5_thrown_N N sv.2 hN)) (cwV 0 hts gL_law_X5_thrown rfl rfl rfl (by decide +kernel) ⟨Nat.le_of_ble_eq_true rfl, Nat.le_of_ble_eq_true rfl⟩) ⟨wPre_blind, va_recv hK hPc (ci := 5) (q0 := 0) rfl rfl, wPre_of hPc hK hDc hZ⟩ rfl rfl hl.1 rfl (lv_room (Nat.le_of_ble_eq_true rfl)) dL_law_1250 ⟨show cc + 1 + 0 ≤ 601024 from by omega, show ss + 6 + 0 ≤ 7293034 from by omega⟩) hS (fun q _ h => hFc q h) hFc (fun r2 u2 t H1 locs ht hvm hw hB hz1 hk1 hS => ?_)
  obtain ⟨hP1, hK1, hD1⟩ := hB
  rw [ht] at hP1
  have e1 : r2 = gI sv.2 0 := congrArg Prod.fst hw
  have e2 : u2 = sv.2 := congrArg Prod.snd hw
  subst r2 u2
  obtain ⟨hP, hD⟩ := wj_r hP hD hk1 hFc hP1 hD1
  have hP : va_P (dC, dI) vwCl (low ad am oa cI cL r.2.2 sv.2 o2) H1 := hP
  have hD : va_D (fun q : Nat => s.heap.size ≤ q) (low ad am oa cI cL r.2.2 sv.2 o2) := hD
  clear hP1 hD1 hK1 hPc hDc hFc hk1
  generalize H1 = H at hP hS ⊢
  refine lv_iload hx hb dL_law_1253 (lv_at hl 1 rfl) ?_
  refine lv_icmp_eq (tgt := 1260) hx hb dL_law_1255 (by decide) (fun _ => ?_) (fun c9 => absurd heq c9)
  refine lv_iload hx hb dL_law_1260 (lv_at hl 1 rfl) ?_
  refine lv_if_ne (tgt := 1276) hx hb dL_law_1262 (by decide) (fun c9 => ?_) (fun c9 => ?_)
  · skip
    refine lv_goto (tgt := 1279) hx hb dL_law_1276 (by decide) ?_
    refine W.widen (k := cc + 8) (n := ss + 64) (by omega) (by omega) ?_
    exact kk _ _ _ _ hP hD hS (lv_sub hl [2, 3, 4, 5, 6] rfl)
  have hz : r.1 = 0 := by
    rcases Nat.eq_zero_or_pos r.1 with h | h
    · exact h
    · exact absurd c9 (nI_ne0 h (by omega))
  rw [if_pos hz] at ho
  have hval := hval hz
  refine lv_aload_n hx hb dL_law_1265 rfl (lv_at hl 5 rfl) ?_
  refine lv_iconst (v := 0) hx hb dL_law_1266 (by decide) ?_
  refine va_lald (f := o2) hx hb hK hP 28 1 rfl rfl (vp_in_iff.mpr (by decide)) dL_law_1267 ?_
  refine lv_lload hx hb dL_law_1268 (lv_at hl 0 rfl) ?_
  refine W.lcmp hx hb dL_law_1270 ?_
  have hcmp : lg_cmp (o2 (0 : Int32).toNatClampNeg) sv.1 = 0 := (lg_cmp_eq _ _).mpr (by rw [← ho, upL_at0]; exact hval)
  refine lv_if_eq (tgt := 1276) hx hb dL_law_1271 (by decide) (fun _ => ?_) (fun c9 => absurd hcmp c9)
  refine lv_goto (tgt := 1279) hx hb dL_law_1276 (by decide) ?_
  refine W.widen (k := cc + 8) (n := ss + 64) (by omega) (by omega) ?_
  exact kk _ _ _ _ hP hD hS (lv_sub hl [2, 3, 4, 5, 6] rfl)

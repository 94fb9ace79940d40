set_option maxHeartbeats 8000000 in
set_option maxRecDepth 100000 in
theorem law_10 {p : Program} {l : Launch} (lt : l.stackTraces = false) {e : Env} {s : State} {m : MethodId} {below : List Frame} {meth : Method} {c : Code} {dC : Nat → ClassId} {dI : Nat → Nat → Nat} {cI cL : ClassId} {ad am sa : Nat → Nat} {oa : Nat} {b L : Nat} {xs : Nat → Int32} (hL : L ≤ 2560) (C0 : lw_At p s m meth c b L xs) (hZ : ZN s) (hX : ZX sa s) (hq : zq (fun q : Nat => s.heap.size ≤ q) s s.heap) (hK : va_K (dC, dI) vwCl [(cI, .int), (cL, .long)] s) {N i : Nat} (hi : i + 5 ≤ L) (hN : 1 ≤ N) {u v u' v' : St} (hst : stepP N 10 (xs (nI i + 1).toNatClampNeg) (xs (nI i + 2).toNatClampNeg) (xs (nI i + 3).toNatClampNeg) (xs (nI i + 4).toNatClampNeg) u v u' v') {o : Nat → Int64} {H : Heap} {locs : List Loc} {cc ss : Nat} (hcc : cc + 8 ≤ 601024) (hss : ss + 64 ≤ 7293034)
    (hP : va_P (dC, dI) vwCl (low ad am oa cI cL u v o) H) (hD : va_D (fun q : Nat => s.heap.size ≤ q) (low ad am oa cI cL u v o)) (hS : va_S (fun q : Nat => s.heap.size ≤ q) s.heap H locs) {ls : Array Slot} (hl : lv_has ls 8 [(0, .ref b), (1, .ref (ad 0)), (2, .ref (am 0)), (3, .ref oa), (4, .int (nI i))])
    (kk : ∀ (o : Nat → Int64) (H : Heap) (locs : List Loc) (ls : Array Slot), va_P (dC, dI) vwCl (low ad am oa cI cL u' v' o) H → va_D (fun q : Nat => s.heap.size ≤ q) (low ad am oa cI cL u' v' o) → va_S (fun q : Nat => s.heap.size ≤ q) s.heap H locs → lv_has ls 8 [(0, .ref b), (1, .ref (ad 0)), (2, .ref (am 0)), (3, .ref oa), (4, .int (nI i))] → W p l e room_1 s m #[Value.ref b] below meth c H locs (cc + 8) (ss + 64) (lw_Z below #[Value.ref b] s) (F0 m 1279 ls [])) :
    W p l e room_1 s m #[Value.ref b] below meth c H locs cc ss (lw_Z below #[Value.ref b] s) (F0 m 736 ls []) := by
  obtain ⟨hx, hb, hr, hml, hown, hts0, hXs, hbl, hlocks, hgv⟩ := C0
  have hown : s.vm.findClass RL = some m.cls := hown
  have hts : ∀ w ∈ wsL_law, w.before #[Value.ref b] s = true := fun w h => hts0 w (wsL_law_in w h)
  have hA : ∀ q : Nat, s.heap.size ≤ q → (fun q : Nat => s.heap.size ≤ q) q := fun _ h => h
  have hbA : ¬ (fun q : Nat => s.heap.size ≤ q) b := Nat.not_le.mpr hbl
  have hin1 : vp_in (nI i + 1) L := (lw_in (j := 1) hL (by omega)).1
  have hin2 : vp_in (nI i + 2) L := (lw_in (j := 2) hL (by omega)).1
  have hin3 : vp_in (nI i + 3) L := (lw_in (j := 3) hL (by omega)).1
  have hin4 : vp_in (nI i + 4) L := (lw_in (j := 4) hL (by omega)).1
  obtain ⟨r, sv, hr0, hs0, heq, hval, hle, rfl, rfl⟩ := hst
  refine lv_aload_n hx hb dL_law_736 rfl (lv_at hl 1 rfl) ?_
  refine lv_aload_n hx hb dL_law_737 rfl (lv_at hl 0 rfl) ?_
  refine lv_iload hx hb dL_law_738 (lv_at hl 4 rfl) ?_
  refine lv_iconst (v := 1) hx hb dL_law_740 (by decide) ?_
  refine lv_iadd hx hb dL_law_741 ?_
  refine va_sld hx hb hXs hbl hbA hS hin1 dL_law_742 ?_
  refine lv_aload_n hx hb dL_law_743 rfl (lv_at hl 0 rfl) ?_
  refine lv_iload hx hb dL_law_744 (lv_at hl 4 rfl) ?_
  refine lv_iconst (v := 2) hx hb dL_law_746 (by decide) ?_
  refine lv_iadd hx hb dL_law_747 ?_
  refine va_sld hx hb hXs hbl hbA hS hin2 dL_law_748 ?_
  refine lv_aload_n hx hb dL_law_749 rfl (lv_at hl 3 rfl) ?_
  have hPc := wp_l hP
  have hDc := wd_l hD
  have hFc := wf_of hDc hS hA
  refine va_calli (vx_runSW (As := [.ref (ad 0), .int (xs (nI i + 1).toNatClampNeg), .int (xs (nI i + 2).toNatClampNeg), .ref oa]) (rest := []) ⟨hx, hb, hml, hown, hts⟩ (mL_aim l lt dC dI cI cL ad sa oa H.size u o (xs (nI i + 1).toNatClampNeg) (xs (nI i + 2).toNatClampNeg) N r hr0 hle) (vx_cwSW 4 hts gL_law_L_aim rfl rfl rfl (by decide +kernel) ⟨Nat.le_of_ble_eq_true rfl, Nat.le_of_ble_eq_true rfl⟩) ⟨xPre_blind, xPre_of hPc hK hDc hZ hX hq hS hFc⟩ rfl rfl hl.1 rfl (lv_room (Nat.le_of_ble_eq_true rfl)) dL_law_750 ⟨show cc + 2 ≤ 601024 from by omega, show ss + 12 ≤ 7293034 from by omega⟩) hS (fun q _ h => hFc q h) hFc (fun r2 u2 t H1 locs ht hvm hw hB hz1 hk1 hS => ?_)
  obtain ⟨hP1, hK1, hD1⟩ := hB
  rw [ht] at hP1
  have e1 : r2 = nI r.1 := congrArg Prod.fst hw
  have e2 : u2 = (r.2.2, if r.1 = 0 then vp_updL o (0 : Int32).toNatClampNeg r.2.1.toInt64 else o) := congrArg Prod.snd hw
  subst r2 u2
  generalize ho : (if r.1 = 0 then vp_updL o (0 : Int32).toNatClampNeg r.2.1.toInt64 else o) = o2 at hP1 hD1
  obtain ⟨hP, hD⟩ := wj_l hP hD hk1 hFc hP1 hD1
  have hP : va_P (dC, dI) vwCl (low ad am oa cI cL r.2.2 v o2) H1 := hP
  have hD : va_D (fun q : Nat => s.heap.size ≤ q) (low ad am oa cI cL r.2.2 v o2) := hD
  clear hP1 hD1 hK1 hPc hDc hFc hk1
  generalize H1 = H at hP hS ⊢
  refine W.widen (k := cc + 2) (n := ss + 12) (by omega) (by omega) ?_
  refine lv_istore (lv' := [(5, .int (nI r.1)), (0, .ref b), (1, .ref (ad 0)), (2, .ref (am 0)), (3, .ref oa), (4, .int (nI i))]) hx hb dL_law_753 hl (by decide) rfl (fun ls hl => ?_)
  refine lv_aload_n hx hb dL_law_755 rfl (lv_at hl 3 rfl) ?_
  refine lv_aload_n hx hb dL_law_756 rfl (lv_at hl 1 rfl) ?_
  refine lv_iload hx hb dL_law_757 (lv_at hl 5 rfl) ?_
  refine lv_iconst (v := 1) hx hb dL_law_759 (by decide) ?_
  refine lv_iadd hx hb dL_law_760 ?_
  refine va_sld hx hb hXs hbl hbA hS hin1 dL_law_761 ?_
  refine lv_aload_n hx hb dL_law_762 rfl (lv_at hl 1 rfl) ?_
  refine lv_iload hx hb dL_law_763 (lv_at hl 5 rfl) ?_
  refine lv_iconst (v := 2) hx hb dL_law_765 (by decide) ?_
  refine lv_iadd hx hb dL_law_766 ?_
  refine va_sld hx hb hXs hbl hbA hS hin2 dL_law_767 ?_
  have hPc := wp_r hP
  have hDc := wd_r hD
  have hFc := wf_of hDc hS hA
  refine va_calli (va_runV (As := [.int (xs (nI i + 1).toNatClampNeg), .int (xs (nI i + 2).toNatClampNeg)]) (rest := []) ⟨hx, hb, hml, hown, hts⟩ (mX5_aim l dC dI cI cL am H.size v (xs (nI i + 1).toNatClampNeg) (xs (nI i + 2).toNatClampNeg) N sv hs0) (cwV 2 hts gL_law_X5_aim rfl rfl rfl (by decide +kernel) ⟨Nat.le_of_ble_eq_true rfl, Nat.le_of_ble_eq_true rfl⟩) ⟨wPre_blind, va_recv hK hPc (ci := 5) (q0 := 0) rfl rfl, wPre_of hPc hK hDc hZ⟩ rfl rfl hl.1 rfl (lv_room (Nat.le_of_ble_eq_true rfl)) dL_law_768 ⟨show cc + 2 + 0 ≤ 601024 from by omega, show ss + 12 + 0 ≤ 7293034 from by omega⟩) hS (fun q _ h => hFc q h) hFc (fun r2 u2 t H1 locs ht hvm hw hB hz1 hk1 hS => ?_)
  obtain ⟨hP1, hK1, hD1⟩ := hB
  rw [ht] at hP1
  have e1 : r2 = sv.1 := congrArg Prod.fst hw
  have e2 : u2 = sv.2 := congrArg Prod.snd hw
  subst r2 u2
  obtain ⟨hP, hD⟩ := wj_r hP hD hk1 hFc hP1 hD1
  have hP : va_P (dC, dI) vwCl (low ad am oa cI cL r.2.2 sv.2 o2) H1 := hP
  have hD : va_D (fun q : Nat => s.heap.size ≤ q) (low ad am oa cI cL r.2.2 sv.2 o2) := hD
  clear hP1 hD1 hK1 hPc hDc hFc hk1
  generalize H1 = H at hP hS ⊢
  refine lv_istore (lv' := [(6, .int sv.1), (5, .int (nI r.1)), (0, .ref b), (1, .ref (ad 0)), (2, .ref (am 0)), (3, .ref oa), (4, .int (nI i))]) hx hb dL_law_771 hl (by decide) rfl (fun ls hl => ?_)
  refine lv_aload_n hx hb dL_law_773 rfl (lv_at hl 4 rfl) ?_
  have hPc := wp_r hP
  have hDc := wd_r hD
  have hFc := wf_of hDc hS hA
  refine va_calli (va_runV (As := []) (rest := []) ⟨hx, hb, hml, hown, hts⟩ (mX5_thrown l dC dI cI cL am H.size sv.2  N (gI sv.2 0, sv.2) (FX5_thrown_N N sv.2 hN)) (cwV 0 hts gL_law_X5_thrown rfl rfl rfl (by decide +kernel) ⟨Nat.le_of_ble_eq_true rfl, Nat.le_of_ble_eq_true rfl⟩) ⟨wPre_blind, va_recv hK hPc (ci := 5) (q0 := 0) rfl rfl, wPre_of hPc hK hDc hZ⟩ rfl rfl hl.1 rfl (lv_room (Nat.le_of_ble_eq_true rfl)) dL_law_774 ⟨show cc + 2 + 0 ≤ 601024 from by omega, show ss + 12 + 0 ≤ 7293034 from by omega⟩) hS (fun q _ h => hFc q h) hFc (fun r2 u2 t H1 locs ht hvm hw hB hz1 hk1 hS => ?_)
  obtain ⟨hP1, hK1, hD1⟩ := hB
  rw [ht] at hP1
  have e1 : r2 = gI sv.2 0 := congrArg Prod.fst hw
  have e2 : u2 = sv.2 := congrArg Prod.snd hw
  subst r2 u2
  obtain ⟨hP, hD⟩ := wj_r hP hD hk1 hFc hP1 hD1
  have hP : va_P (dC, dI) vwCl (low ad am oa cI cL r.2.2 sv.2 o2) H1 := hP
  have hD : va_D (fun q : Nat => s.heap.size ≤ q) (low ad am oa cI cL r.2.2 sv.2 o2) := hD
  clear hP1 hD1 hK1 hPc hDc hFc hk1
  generalize H1 = H at hP hS ⊢
  refine lv_iload hx hb dL_law_777 (lv_at hl 1 rfl) ?_
  refine lv_icmp_eq (tgt := 784) hx hb dL_law_779 (by decide) (fun _ => ?_) (fun c9 => absurd heq c9)
  refine lv_iload hx hb dL_law_784 (lv_at hl 1 rfl) ?_
  refine lv_if_ne (tgt := 801) hx hb dL_law_786 (by decide) (fun c9 => ?_) (fun c9 => ?_)
  · skip
    refine lv_goto (tgt := 1279) hx hb dL_law_801 (by decide) ?_
    refine W.widen (k := cc + 8) (n := ss + 64) (by omega) (by omega) ?_
    exact kk _ _ _ _ hP hD hS (lv_sub hl [2, 3, 4, 5, 6] rfl)
  have hz : r.1 = 0 := by
    rcases Nat.eq_zero_or_pos r.1 with h | h
    · exact h
    · exact absurd c9 (nI_ne0 h (by omega))
  rw [if_pos hz] at ho
  have hval := hval hz
  refine lv_aload_n hx hb dL_law_789 rfl (lv_at hl 5 rfl) ?_
  refine lv_iconst (v := 0) hx hb dL_law_790 (by decide) ?_
  refine va_lald (f := o2) hx hb hK hP 28 1 rfl rfl (vp_in_iff.mpr (by decide)) dL_law_791 ?_
  refine lv_iload hx hb dL_law_792 (lv_at hl 0 rfl) ?_
  refine lv_i2l (v := sv.1.toInt64) hx hb dL_law_794 rfl ?_
  refine W.lcmp hx hb dL_law_795 ?_
  have hcmp : lg_cmp (o2 (0 : Int32).toNatClampNeg) sv.1.toInt64 = 0 := (lg_cmp_eq _ _).mpr (by rw [← ho, upL_at0]; exact hval)
  refine lv_if_eq (tgt := 801) hx hb dL_law_796 (by decide) (fun _ => ?_) (fun c9 => absurd hcmp c9)
  refine lv_goto (tgt := 1279) hx hb dL_law_801 (by decide) ?_
  refine W.widen (k := cc + 8) (n := ss + 64) (by omega) (by omega) ?_
  exact kk _ _ _ _ hP hD hS (lv_sub hl [2, 3, 4, 5, 6] rfl)

set_option maxHeartbeats 8000000 in
set_option maxRecDepth 100000 in
theorem law_11 {p : Program} {l : Launch} (lt : l.stackTraces = false) {e : Env} {s : State} {m : MethodId} {below : List Frame} {meth : Method} {c : Code} {dC : Nat → ClassId} {dI : Nat → Nat → Nat} {cI cL : ClassId} {ad am sa : Nat → Nat} {oa : Nat} {b L : Nat} {xs : Nat → Int32} (hL : L ≤ 2560) (C0 : lw_At p s m meth c b L xs) (hZ : ZN s) (hX : ZX sa s) (hq : zq (fun q : Nat => s.heap.size ≤ q) s s.heap) (hK : va_K (dC, dI) vwCl [(cI, .int), (cL, .long)] s) {N i : Nat} (hi : i + 5 ≤ L) {u v u' v' : St} (hst : stepP N 11 (xs (nI i + 1).toNatClampNeg) (xs (nI i + 2).toNatClampNeg) (xs (nI i + 3).toNatClampNeg) (xs (nI i + 4).toNatClampNeg) u v u' v') {o : Nat → Int64} {H : Heap} {locs : List Loc} {cc ss : Nat} (hcc : cc + 8 ≤ 601024) (hss : ss + 64 ≤ 7293034)
    (hP : va_P (dC, dI) vwCl (low ad am oa cI cL u v o) H) (hD : va_D (fun q : Nat => s.heap.size ≤ q) (low ad am oa cI cL u v o)) (hS : va_S (fun q : Nat => s.heap.size ≤ q) s.heap H locs) {ls : Array Slot} (hl : lv_has ls 8 [(0, .ref b), (1, .ref (ad 0)), (2, .ref (am 0)), (3, .ref oa), (4, .int (nI i))])
    (kk : ∀ (o : Nat → Int64) (H : Heap) (locs : List Loc) (ls : Array Slot), va_P (dC, dI) vwCl (low ad am oa cI cL u' v' o) H → va_D (fun q : Nat => s.heap.size ≤ q) (low ad am oa cI cL u' v' o) → va_S (fun q : Nat => s.heap.size ≤ q) s.heap H locs → lv_has ls 8 [(0, .ref b), (1, .ref (ad 0)), (2, .ref (am 0)), (3, .ref oa), (4, .int (nI i))] → W p l e room_1 s m #[Value.ref b] below meth c H locs (cc + 8) (ss + 64) (lw_Z below #[Value.ref b] s) (F0 m 1279 ls [])) :
    W p l e room_1 s m #[Value.ref b] below meth c H locs cc ss (lw_Z below #[Value.ref b] s) (F0 m 804 ls []) := by
  obtain ⟨hx, hb, hr, hml, hown, hts0, hXs, hbl, hlocks, hgv⟩ := C0
  have hown : s.vm.findClass RL = some m.cls := hown
  have hts : ∀ w ∈ wsL_law, w.before #[Value.ref b] s = true := fun w h => hts0 w (wsL_law_in w h)
  have hA : ∀ q : Nat, s.heap.size ≤ q → (fun q : Nat => s.heap.size ≤ q) q := fun _ h => h
  have hbA : ¬ (fun q : Nat => s.heap.size ≤ q) b := Nat.not_le.mpr hbl
  have hin1 : vp_in (nI i + 1) L := (lw_in (j := 1) hL (by omega)).1
  have hin2 : vp_in (nI i + 2) L := (lw_in (j := 2) hL (by omega)).1
  have hin3 : vp_in (nI i + 3) L := (lw_in (j := 3) hL (by omega)).1
  have hin4 : vp_in (nI i + 4) L := (lw_in (j := 4) hL (by omega)).1
  obtain ⟨r, sv, hr0, hs0, heq, rfl, rfl⟩ := hst
  refine lv_aload_n hx hb dL_law_804 rfl (lv_at hl 1 rfl) ?_
  have hP : va_P (dC, dI) vwCl (cw ad cI cL u ++ ([(oa, .inl (cL, 1, .inr (.inl o)))] ++ mw am cI cL v)) H := by rw [← List.append_assoc]; exact hP
  have hD : va_D (fun q : Nat => s.heap.size ≤ q) (cw ad cI cL u ++ ([(oa, .inl (cL, 1, .inr (.inl o)))] ++ mw am cI cL v)) := by rw [← List.append_assoc]; exact hD
  have hPc := wp_l hP
  have hDc := wd_l hD
  have hFc := wf_of hDc hS hA
  refine va_calli (va_runV (As := []) (rest := []) ⟨hx, hb, hml, hown, hts⟩ (mX4_scene l dC dI cI cL ad H.size u  N r hr0) (cwV 0 hts gL_law_X4_scene rfl rfl rfl (by decide +kernel) ⟨Nat.le_of_ble_eq_true rfl, Nat.le_of_ble_eq_true rfl⟩) ⟨wPre_blind, va_recv hK hPc (ci := 4) (q0 := 0) rfl rfl, wPre_of hPc hK hDc hZ⟩ rfl rfl hl.1 rfl (lv_room (Nat.le_of_ble_eq_true rfl)) dL_law_805 ⟨show cc + 0 + 0 ≤ 601024 from by omega, show ss + 0 + 0 ≤ 7293034 from by omega⟩) hS (fun q _ h => hFc q h) hFc (fun r2 u2 t H1 locs ht hvm hw hB hz1 hk1 hS => ?_)
  obtain ⟨hP1, hK1, hD1⟩ := hB
  rw [ht] at hP1
  have e1 : r2 = r.1 := congrArg Prod.fst hw
  have e2 : u2 = r.2 := congrArg Prod.snd hw
  subst r2 u2
  obtain ⟨hP, hD⟩ := wj_l hP hD hk1 hFc hP1 hD1
  rw [← List.append_assoc] at hP hD
  have hP : va_P (dC, dI) vwCl (low ad am oa cI cL r.2 v o) H1 := hP
  have hD : va_D (fun q : Nat => s.heap.size ≤ q) (low ad am oa cI cL r.2 v o) := hD
  clear hP1 hD1 hK1 hPc hDc hFc hk1
  generalize H1 = H at hP hS ⊢
  refine lv_aload_n hx hb dL_law_808 rfl (lv_at hl 2 rfl) ?_
  have hPc := wp_r hP
  have hDc := wd_r hD
  have hFc := wf_of hDc hS hA
  refine va_calli (va_runV (As := []) (rest := [.int r.1]) ⟨hx, hb, hml, hown, hts⟩ (mX5_scene l dC dI cI cL am H.size v  N sv hs0) (cwV 0 hts gL_law_X5_scene rfl rfl rfl (by decide +kernel) ⟨Nat.le_of_ble_eq_true rfl, Nat.le_of_ble_eq_true rfl⟩) ⟨wPre_blind, va_recv hK hPc (ci := 5) (q0 := 0) rfl rfl, wPre_of hPc hK hDc hZ⟩ rfl rfl hl.1 rfl (lv_room (Nat.le_of_ble_eq_true rfl)) dL_law_809 ⟨show cc + 0 + 0 ≤ 601024 from by omega, show ss + 0 + 0 ≤ 7293034 from by omega⟩) hS (fun q _ h => hFc q h) hFc (fun r2 u2 t H1 locs ht hvm hw hB hz1 hk1 hS => ?_)
  obtain ⟨hP1, hK1, hD1⟩ := hB
  rw [ht] at hP1
  have e1 : r2 = sv.1 := congrArg Prod.fst hw
  have e2 : u2 = sv.2 := congrArg Prod.snd hw
  subst r2 u2
  obtain ⟨hP, hD⟩ := wj_r hP hD hk1 hFc hP1 hD1
  have hP : va_P (dC, dI) vwCl (low ad am oa cI cL r.2 sv.2 o) H1 := hP
  have hD : va_D (fun q : Nat => s.heap.size ≤ q) (low ad am oa cI cL r.2 sv.2 o) := hD
  clear hP1 hD1 hK1 hPc hDc hFc hk1
  generalize H1 = H at hP hS ⊢
  refine lv_icmp_eq (tgt := 1279) hx hb dL_law_812 (by decide) (fun _ => ?_) (fun c9 => absurd heq c9)
  refine W.widen (k := cc + 8) (n := ss + 64) (by omega) (by omega) ?_
  exact kk _ _ _ _ hP hD hS (lv_sub hl [0, 1, 2, 3, 4] rfl)

set_option maxHeartbeats 8000000 in
set_option maxRecDepth 100000 in
theorem law_12 {p : Program} {l : Launch} (lt : l.stackTraces = false) {e : Env} {s : State} {m : MethodId} {below : List Frame} {meth : Method} {c : Code} {dC : Nat → ClassId} {dI : Nat → Nat → Nat} {cI cL : ClassId} {ad am sa : Nat → Nat} {oa : Nat} {b L : Nat} {xs : Nat → Int32} (hL : L ≤ 2560) (C0 : lw_At p s m meth c b L xs) (hZ : ZN s) (hX : ZX sa s) (hq : zq (fun q : Nat => s.heap.size ≤ q) s s.heap) (hK : va_K (dC, dI) vwCl [(cI, .int), (cL, .long)] s) {N i : Nat} (hi : i + 5 ≤ L) (hN : 1 ≤ N) {u v u' v' : St} (hst : stepP N 12 (xs (nI i + 1).toNatClampNeg) (xs (nI i + 2).toNatClampNeg) (xs (nI i + 3).toNatClampNeg) (xs (nI i + 4).toNatClampNeg) u v u' v') {o : Nat → Int64} {H : Heap} {locs : List Loc} {cc ss : Nat} (hcc : cc + 8 ≤ 601024) (hss : ss + 64 ≤ 7293034)
    (hP : va_P (dC, dI) vwCl (low ad am oa cI cL u v o) H) (hD : va_D (fun q : Nat => s.heap.size ≤ q) (low ad am oa cI cL u v o)) (hS : va_S (fun q : Nat => s.heap.size ≤ q) s.heap H locs) {ls : Array Slot} (hl : lv_has ls 8 [(0, .ref b), (1, .ref (ad 0)), (2, .ref (am 0)), (3, .ref oa), (4, .int (nI i))])
    (kk : ∀ (o : Nat → Int64) (H : Heap) (locs : List Loc) (ls : Array Slot), va_P (dC, dI) vwCl (low ad am oa cI cL u' v' o) H → va_D (fun q : Nat => s.heap.size ≤ q) (low ad am oa cI cL u' v' o) → va_S (fun q : Nat => s.heap.size ≤ q) s.heap H locs → lv_has ls 8 [(0, .ref b), (1, .ref (ad 0)), (2, .ref (am 0)), (3, .ref oa), (4, .int (nI i))] → W p l e room_1 s m #[Value.ref b] below meth c H locs (cc + 8) (ss + 64) (lw_Z below #[Value.ref b] s) (F0 m 1279 ls [])) :
    W p l e room_1 s m #[Value.ref b] below meth c H locs cc ss (lw_Z below #[Value.ref b] s) (F0 m 817 ls []) := by
  obtain ⟨hx, hb, hr, hml, hown, hts0, hXs, hbl, hlocks, hgv⟩ := C0
  have hown : s.vm.findClass RL = some m.cls := hown
  have hts : ∀ w ∈ wsL_law, w.before #[Value.ref b] s = true := fun w h => hts0 w (wsL_law_in w h)
  have hA : ∀ q : Nat, s.heap.size ≤ q → (fun q : Nat => s.heap.size ≤ q) q := fun _ h => h
  have hbA : ¬ (fun q : Nat => s.heap.size ≤ q) b := Nat.not_le.mpr hbl
  have hin1 : vp_in (nI i + 1) L := (lw_in (j := 1) hL (by omega)).1
  have hin2 : vp_in (nI i + 2) L := (lw_in (j := 2) hL (by omega)).1
  have hin3 : vp_in (nI i + 3) L := (lw_in (j := 3) hL (by omega)).1
  have hin4 : vp_in (nI i + 4) L := (lw_in (j := 4) hL (by omega)).1
  obtain ⟨r, sv, hr0, hs0, heq, hval, hle, rfl, rfl⟩ := hst
  refine lv_aload_n hx hb dL_law_817 rfl (lv_at hl 1 rfl) ?_
  refine lv_aload_n hx hb dL_law_818 rfl (lv_at hl 0 rfl) ?_
  refine lv_iload hx hb dL_law_819 (lv_at hl 4 rfl) ?_
  refine lv_iconst (v := 1) hx hb dL_law_821 (by decide) ?_
  refine lv_iadd hx hb dL_law_822 ?_
  refine va_sld hx hb hXs hbl hbA hS hin1 dL_law_823 ?_
  refine lv_aload_n hx hb dL_law_824 rfl (lv_at hl 3 rfl) ?_
  have hPc := wp_l hP
  have hDc := wd_l hD
  have hFc := wf_of hDc hS hA
  refine va_calli (vx_runSW (As := [.ref (ad 0), .int (xs (nI i + 1).toNatClampNeg), .ref oa]) (rest := []) ⟨hx, hb, hml, hown, hts⟩ (mL_dim l lt dC dI cI cL ad sa oa H.size u o (xs (nI i + 1).toNatClampNeg) N r hr0 hle) (vx_cwSW 3 hts gL_law_L_dim rfl rfl rfl (by decide +kernel) ⟨Nat.le_of_ble_eq_true rfl, Nat.le_of_ble_eq_true rfl⟩) ⟨xPre_blind, xPre_of hPc hK hDc hZ hX hq hS hFc⟩ rfl rfl hl.1 rfl (lv_room (Nat.le_of_ble_eq_true rfl)) dL_law_825 ⟨show cc + 1 ≤ 601024 from by omega, show ss + 6 ≤ 7293034 from by omega⟩) hS (fun q _ h => hFc q h) hFc (fun r2 u2 t H1 locs ht hvm hw hB hz1 hk1 hS => ?_)
  obtain ⟨hP1, hK1, hD1⟩ := hB
  rw [ht] at hP1
  have e1 : r2 = nI r.1 := congrArg Prod.fst hw
  have e2 : u2 = (r.2.2, if r.1 = 0 then vp_updL o (0 : Int32).toNatClampNeg r.2.1.toInt64 else o) := congrArg Prod.snd hw
  subst r2 u2
  generalize ho : (if r.1 = 0 then vp_updL o (0 : Int32).toNatClampNeg r.2.1.toInt64 else o) = o2 at hP1 hD1
  obtain ⟨hP, hD⟩ := wj_l hP hD hk1 hFc hP1 hD1
  have hP : va_P (dC, dI) vwCl (low ad am oa cI cL r.2.2 v o2) H1 := hP
  have hD : va_D (fun q : Nat => s.heap.size ≤ q) (low ad am oa cI cL r.2.2 v o2) := hD
  clear hP1 hD1 hK1 hPc hDc hFc hk1
  generalize H1 = H at hP hS ⊢
  refine W.widen (k := cc + 1) (n := ss + 6) (by omega) (by omega) ?_
  refine lv_istore (lv' := [(5, .int (nI r.1)), (0, .ref b), (1, .ref (ad 0)), (2, .ref (am 0)), (3, .ref oa), (4, .int (nI i))]) hx hb dL_law_828 hl (by decide) rfl (fun ls hl => ?_)
  refine lv_aload_n hx hb dL_law_830 rfl (lv_at hl 3 rfl) ?_
  refine lv_aload_n hx hb dL_law_831 rfl (lv_at hl 1 rfl) ?_
  refine lv_iload hx hb dL_law_832 (lv_at hl 5 rfl) ?_
  refine lv_iconst (v := 1) hx hb dL_law_834 (by decide) ?_
  refine lv_iadd hx hb dL_law_835 ?_
  refine va_sld hx hb hXs hbl hbA hS hin1 dL_law_836 ?_
  have hPc := wp_r hP
  have hDc := wd_r hD
  have hFc := wf_of hDc hS hA
  refine va_calli (va_runV (As := [.int (xs (nI i + 1).toNatClampNeg)]) (rest := []) ⟨hx, hb, hml, hown, hts⟩ (mX5_dim l dC dI cI cL am H.size v (xs (nI i + 1).toNatClampNeg) N sv hs0) (cwV 1 hts gL_law_X5_dim rfl rfl rfl (by decide +kernel) ⟨Nat.le_of_ble_eq_true rfl, Nat.le_of_ble_eq_true rfl⟩) ⟨wPre_blind, va_recv hK hPc (ci := 5) (q0 := 0) rfl rfl, wPre_of hPc hK hDc hZ⟩ rfl rfl hl.1 rfl (lv_room (Nat.le_of_ble_eq_true rfl)) dL_law_837 ⟨show cc + 1 + 0 ≤ 601024 from by omega, show ss + 6 + 0 ≤ 7293034 from by omega⟩) hS (fun q _ h => hFc q h) hFc (fun r2 u2 t H1 locs ht hvm hw hB hz1 hk1 hS => ?_)
  obtain ⟨hP1, hK1, hD1⟩ := hB
  rw [ht] at hP1
  have e1 : r2 = sv.1 := congrArg Prod.fst hw
  have e2 : u2 = sv.2 := congrArg Prod.snd hw
  subst r2 u2
  obtain ⟨hP, hD⟩ := wj_r hP hD hk1 hFc hP1 hD1
  have hP : va_P (dC, dI) vwCl (low ad am oa cI cL r.2.2 sv.2 o2) H1 := hP
  have hD : va_D (fun q : Nat => s.heap.size ≤ q) (low ad am oa cI cL r.2.2 sv.2 o2) := hD
  clear hP1 hD1 hK1 hPc hDc hFc hk1
  generalize H1 = H at hP hS ⊢
  refine lv_istore (lv' := [(6, .int sv.1), (5, .int (nI r.1)), (0, .ref b), (1, .ref (ad 0)), (2, .ref (am 0)), (3, .ref oa), (4, .int (nI i))]) hx hb dL_law_840 hl (by decide) rfl (fun ls hl => ?_)
  refine lv_aload_n hx hb dL_law_842 rfl (lv_at hl 4 rfl) ?_
  have hPc := wp_r hP
  have hDc := wd_r hD
  have hFc := wf_of hDc hS hA
  refine va_calli (va_runV (As := []) (rest := []) ⟨hx, hb, hml, hown, hts⟩ (mX5_thrown l dC dI cI cL am H.size sv.2  N (gI sv.2 0, sv.2) (FX5_thrown_N N sv.2 hN)) (cwV 0 hts gL_law_X5_thrown rfl rfl rfl (by decide +kernel) ⟨Nat.le_of_ble_eq_true rfl, Nat.le_of_ble_eq_true rfl⟩) ⟨wPre_blind, va_recv hK hPc (ci := 5) (q0 := 0) rfl rfl, wPre_of hPc hK hDc hZ⟩ rfl rfl hl.1 rfl (lv_room (Nat.le_of_ble_eq_true rfl)) dL_law_843 ⟨show cc + 1 + 0 ≤ 601024 from by omega, show ss + 6 + 0 ≤ 7293034 from by omega⟩) hS (fun q _ h => hFc q h) hFc (fun r2 u2 t H1 locs ht hvm hw hB hz1 hk1 hS => ?_)
  obtain ⟨hP1, hK1, hD1⟩ := hB
  rw [ht] at hP1
  have e1 : r2 = gI sv.2 0 := congrArg Prod.fst hw
  have e2 : u2 = sv.2 := congrArg Prod.snd hw
  subst r2 u2
  obtain ⟨hP, hD⟩ := wj_r hP hD hk1 hFc hP1 hD1
  have hP : va_P (dC, dI) vwCl (low ad am oa cI cL r.2.2 sv.2 o2) H1 := hP
  have hD : va_D (fun q : Nat => s.heap.size ≤ q) (low ad am oa cI cL r.2.2 sv.2 o2) := hD
  clear hP1 hD1 hK1 hPc hDc hFc hk1
  generalize H1 = H at hP hS ⊢
  refine lv_iload hx hb dL_law_846 (lv_at hl 1 rfl) ?_
  refine lv_icmp_eq (tgt := 853) hx hb dL_law_848 (by decide) (fun _ => ?_) (fun c9 => absurd heq c9)
  refine lv_iload hx hb dL_law_853 (lv_at hl 1 rfl) ?_
  refine lv_if_ne (tgt := 870) hx hb dL_law_855 (by decide) (fun c9 => ?_) (fun c9 => ?_)
  · skip
    refine lv_goto (tgt := 1279) hx hb dL_law_870 (by decide) ?_
    refine W.widen (k := cc + 8) (n := ss + 64) (by omega) (by omega) ?_
    exact kk _ _ _ _ hP hD hS (lv_sub hl [2, 3, 4, 5, 6] rfl)
  have hz : r.1 = 0 := by
    rcases Nat.eq_zero_or_pos r.1 with h | h
    · exact h
    · exact absurd c9 (nI_ne0 h (by omega))
  rw [if_pos hz] at ho
  have hval := hval hz
  refine lv_aload_n hx hb dL_law_858 rfl (lv_at hl 5 rfl) ?_
  refine lv_iconst (v := 0) hx hb dL_law_859 (by decide) ?_
  refine va_lald (f := o2) hx hb hK hP 28 1 rfl rfl (vp_in_iff.mpr (by decide)) dL_law_860 ?_
  refine lv_iload hx hb dL_law_861 (lv_at hl 0 rfl) ?_
  refine lv_i2l (v := sv.1.toInt64) hx hb dL_law_863 rfl ?_
  refine W.lcmp hx hb dL_law_864 ?_
  have hcmp : lg_cmp (o2 (0 : Int32).toNatClampNeg) sv.1.toInt64 = 0 := (lg_cmp_eq _ _).mpr (by rw [← ho, upL_at0]; exact hval)
  refine lv_if_eq (tgt := 870) hx hb dL_law_865 (by decide) (fun _ => ?_) (fun c9 => absurd hcmp c9)
  refine lv_goto (tgt := 1279) hx hb dL_law_870 (by decide) ?_
  refine W.widen (k := cc + 8) (n := ss + 64) (by omega) (by omega) ?_
  exact kk _ _ _ _ hP hD hS (lv_sub hl [2, 3, 4, 5, 6] rfl)

set_option maxHeartbeats 8000000 in
set_option maxRecDepth 100000 in
theorem law_13 {p : Program} {l : Launch} (lt : l.stackTraces = false) {e : Env} {s : State} {m : MethodId} {below : List Frame} {meth : Method} {c : Code} {dC : Nat → ClassId} {dI : Nat → Nat → Nat} {cI cL : ClassId} {ad am sa : Nat → Nat} {oa : Nat} {b L : Nat} {xs : Nat → Int32} (hL : L ≤ 2560) (C0 : lw_At p s m meth c b L xs) (hZ : ZN s) (hX : ZX sa s) (hq : zq (fun q : Nat => s.heap.size ≤ q) s s.heap) (hK : va_K (dC, dI) vwCl [(cI, .int), (cL, .long)] s) {N i : Nat} (hi : i + 5 ≤ L) (hN : 1 ≤ N) {u v u' v' : St} (hst : stepP N 13 (xs (nI i + 1).toNatClampNeg) (xs (nI i + 2).toNatClampNeg) (xs (nI i + 3).toNatClampNeg) (xs (nI i + 4).toNatClampNeg) u v u' v') {o : Nat → Int64} {H : Heap} {locs : List Loc} {cc ss : Nat} (hcc : cc + 8 ≤ 601024) (hss : ss + 64 ≤ 7293034)
    (hP : va_P (dC, dI) vwCl (low ad am oa cI cL u v o) H) (hD : va_D (fun q : Nat => s.heap.size ≤ q) (low ad am oa cI cL u v o)) (hS : va_S (fun q : Nat => s.heap.size ≤ q) s.heap H locs) {ls : Array Slot} (hl : lv_has ls 8 [(0, .ref b), (1, .ref (ad 0)), (2, .ref (am 0)), (3, .ref oa), (4, .int (nI i))])
    (kk : ∀ (o : Nat → Int64) (H : Heap) (locs : List Loc) (ls : Array Slot), va_P (dC, dI) vwCl (low ad am oa cI cL u' v' o) H → va_D (fun q : Nat => s.heap.size ≤ q) (low ad am oa cI cL u' v' o) → va_S (fun q : Nat => s.heap.size ≤ q) s.heap H locs → lv_has ls 8 [(0, .ref b), (1, .ref (ad 0)), (2, .ref (am 0)), (3, .ref oa), (4, .int (nI i))] → W p l e room_1 s m #[Value.ref b] below meth c H locs (cc + 8) (ss + 64) (lw_Z below #[Value.ref b] s) (F0 m 1279 ls [])) :
    W p l e room_1 s m #[Value.ref b] below meth c H locs cc ss (lw_Z below #[Value.ref b] s) (F0 m 873 ls []) := by
  obtain ⟨hx, hb, hr, hml, hown, hts0, hXs, hbl, hlocks, hgv⟩ := C0
  have hown : s.vm.findClass RL = some m.cls := hown
  have hts : ∀ w ∈ wsL_law, w.before #[Value.ref b] s = true := fun w h => hts0 w (wsL_law_in w h)
  have hA : ∀ q : Nat, s.heap.size ≤ q → (fun q : Nat => s.heap.size ≤ q) q := fun _ h => h
  have hbA : ¬ (fun q : Nat => s.heap.size ≤ q) b := Nat.not_le.mpr hbl
  have hin1 : vp_in (nI i + 1) L := (lw_in (j := 1) hL (by omega)).1
  have hin2 : vp_in (nI i + 2) L := (lw_in (j := 2) hL (by omega)).1
  have hin3 : vp_in (nI i + 3) L := (lw_in (j := 3) hL (by omega)).1
  have hin4 : vp_in (nI i + 4) L := (lw_in (j := 4) hL (by omega)).1
  obtain ⟨r, sv, hr0, hs0, heq, hval, hle, rfl, rfl⟩ := hst
  refine lv_aload_n hx hb dL_law_873 rfl (lv_at hl 1 rfl) ?_
  refine lv_aload_n hx hb dL_law_874 rfl (lv_at hl 0 rfl) ?_
  refine lv_iload hx hb dL_law_875 (lv_at hl 4 rfl) ?_
  refine lv_iconst (v := 1) hx hb dL_law_877 (by decide) ?_
  refine lv_iadd hx hb dL_law_878 ?_
  refine va_sld hx hb hXs hbl hbA hS hin1 dL_law_879 ?_
  refine lv_aload_n hx hb dL_law_880 rfl (lv_at hl 3 rfl) ?_
  have hPc := wp_l hP
  have hDc := wd_l hD
  have hFc := wf_of hDc hS hA
  refine va_calli (vx_runSW (As := [.ref (ad 0), .int (xs (nI i + 1).toNatClampNeg), .ref oa]) (rest := []) ⟨hx, hb, hml, hown, hts⟩ (mL_miss l lt dC dI cI cL ad sa oa H.size u o (xs (nI i + 1).toNatClampNeg) N r hr0 hle) (vx_cwSW 3 hts gL_law_L_miss rfl rfl rfl (by decide +kernel) ⟨Nat.le_of_ble_eq_true rfl, Nat.le_of_ble_eq_true rfl⟩) ⟨xPre_blind, xPre_of hPc hK hDc hZ hX hq hS hFc⟩ rfl rfl hl.1 rfl (lv_room (Nat.le_of_ble_eq_true rfl)) dL_law_881 ⟨show cc + 1 ≤ 601024 from by omega, show ss + 6 ≤ 7293034 from by omega⟩) hS (fun q _ h => hFc q h) hFc (fun r2 u2 t H1 locs ht hvm hw hB hz1 hk1 hS => ?_)
  obtain ⟨hP1, hK1, hD1⟩ := hB
  rw [ht] at hP1
  have e1 : r2 = nI r.1 := congrArg Prod.fst hw
  have e2 : u2 = (r.2.2, if r.1 = 0 then vp_updL o (0 : Int32).toNatClampNeg r.2.1 else o) := congrArg Prod.snd hw
  subst r2 u2
  generalize ho : (if r.1 = 0 then vp_updL o (0 : Int32).toNatClampNeg r.2.1 else o) = o2 at hP1 hD1
  obtain ⟨hP, hD⟩ := wj_l hP hD hk1 hFc hP1 hD1
  have hP : va_P (dC, dI) vwCl (low ad am oa cI cL r.2.2 v o2) H1 := hP
  have hD : va_D (fun q : Nat => s.heap.size ≤ q) (low ad am oa cI cL r.2.2 v o2) := hD
  clear hP1 hD1 hK1 hPc hDc hFc hk1
  generalize H1 = H at hP hS ⊢
  refine W.widen (k := cc + 1) (n := ss + 6) (by omega) (by omega) ?_
  refine lv_istore (lv' := [(5, .int (nI r.1)), (0, .ref b), (1, .ref (ad 0)), (2, .ref (am 0)), (3, .ref oa), (4, .int (nI i))]) hx hb dL_law_884 hl (by decide) rfl (fun ls hl => ?_)
  refine lv_aload_n hx hb dL_law_886 rfl (lv_at hl 3 rfl) ?_
  refine lv_aload_n hx hb dL_law_887 rfl (lv_at hl 1 rfl) ?_
  refine lv_iload hx hb dL_law_888 (lv_at hl 5 rfl) ?_
  refine lv_iconst (v := 1) hx hb dL_law_890 (by decide) ?_
  refine lv_iadd hx hb dL_law_891 ?_
  refine va_sld hx hb hXs hbl hbA hS hin1 dL_law_892 ?_
  have hPc := wp_r hP
  have hDc := wd_r hD
  have hFc := wf_of hDc hS hA
  refine va_calll (va_runV (As := [.int (xs (nI i + 1).toNatClampNeg)]) (rest := []) ⟨hx, hb, hml, hown, hts⟩ (mX5_miss l dC dI cI cL am H.size v (xs (nI i + 1).toNatClampNeg) N sv hs0) (cwV 1 hts gL_law_X5_miss rfl rfl rfl (by decide +kernel) ⟨Nat.le_of_ble_eq_true rfl, Nat.le_of_ble_eq_true rfl⟩) ⟨wPre_blind, va_recv hK hPc (ci := 5) (q0 := 0) rfl rfl, wPre_of hPc hK hDc hZ⟩ rfl rfl hl.1 rfl (lv_room (Nat.le_of_ble_eq_true rfl)) dL_law_893 ⟨show cc + 1 + 0 ≤ 601024 from by omega, show ss + 6 + 0 ≤ 7293034 from by omega⟩) hS (fun q _ h => hFc q h) hFc (fun r2 u2 t H1 locs ht hvm hw hB hz1 hk1 hS => ?_)
  obtain ⟨hP1, hK1, hD1⟩ := hB
  rw [ht] at hP1
  have e1 : r2 = sv.1 := congrArg Prod.fst hw
  have e2 : u2 = sv.2 := congrArg Prod.snd hw
  subst r2 u2
  obtain ⟨hP, hD⟩ := wj_r hP hD hk1 hFc hP1 hD1
  have hP : va_P (dC, dI) vwCl (low ad am oa cI cL r.2.2 sv.2 o2) H1 := hP
  have hD : va_D (fun q : Nat => s.heap.size ≤ q) (low ad am oa cI cL r.2.2 sv.2 o2) := hD
  clear hP1 hD1 hK1 hPc hDc hFc hk1
  generalize H1 = H at hP hS ⊢
  refine lv_lstore (lv' := [(6, .long sv.1), (5, .int (nI r.1)), (0, .ref b), (1, .ref (ad 0)), (2, .ref (am 0)), (3, .ref oa), (4, .int (nI i))]) hx hb dL_law_896 hl (by decide) rfl (fun ls hl => ?_)
  refine lv_aload_n hx hb dL_law_898 rfl (lv_at hl 4 rfl) ?_
  have hPc := wp_r hP
  have hDc := wd_r hD
  have hFc := wf_of hDc hS hA
  refine va_calli (va_runV (As := []) (rest := []) ⟨hx, hb, hml, hown, hts⟩ (mX5_thrown l dC dI cI cL am H.size sv.2  N (gI sv.2 0, sv.2) (FX5_thrown_N N sv.2 hN)) (cwV 0 hts gL_law_X5_thrown rfl rfl rfl (by decide +kernel) ⟨Nat.le_of_ble_eq_true rfl, Nat.le_of_ble_eq_true rfl⟩) ⟨wPre_blind, va_recv hK hPc (ci := 5) (q0 := 0) rfl rfl, wPre_of hPc hK hDc hZ⟩ rfl rfl hl.1 rfl (lv_room (Nat.le_of_ble_eq_true rfl)) dL_law_899 ⟨show cc + 1 + 0 ≤ 601024 from by omega, show ss + 6 + 0 ≤ 7293034 from by omega⟩) hS (fun q _ h => hFc q h) hFc (fun r2 u2 t H1 locs ht hvm hw hB hz1 hk1 hS => ?_)
  obtain ⟨hP1, hK1, hD1⟩ := hB
  rw [ht] at hP1
  have e1 : r2 = gI sv.2 0 := congrArg Prod.fst hw
  have e2 : u2 = sv.2 := congrArg Prod.snd hw
  subst r2 u2
  obtain ⟨hP, hD⟩ := wj_r hP hD hk1 hFc hP1 hD1
  have hP : va_P (dC, dI) vwCl (low ad am oa cI cL r.2.2 sv.2 o2) H1 := hP
  have hD : va_D (fun q : Nat => s.heap.size ≤ q) (low ad am oa cI cL r.2.2 sv.2 o2) := hD
  clear hP1 hD1 hK1 hPc hDc hFc hk1
  generalize H1 = H at hP hS ⊢
  refine lv_iload hx hb dL_law_902 (lv_at hl 1 rfl) ?_
  refine lv_icmp_eq (tgt := 909) hx hb dL_law_904 (by decide) (fun _ => ?_) (fun c9 => absurd heq c9)
  refine lv_iload hx hb dL_law_909 (lv_at hl 1 rfl) ?_
  refine lv_if_ne (tgt := 925) hx hb dL_law_911 (by decide) (fun c9 => ?_) (fun c9 => ?_)
  · skip
    refine lv_goto (tgt := 1279) hx hb dL_law_925 (by decide) ?_
    refine W.widen (k := cc + 8) (n := ss + 64) (by omega) (by omega) ?_
    exact kk _ _ _ _ hP hD hS (lv_sub hl [2, 3, 4, 5, 6] rfl)
  have hz : r.1 = 0 := by
    rcases Nat.eq_zero_or_pos r.1 with h | h
    · exact h
    · exact absurd c9 (nI_ne0 h (by omega))
  rw [if_pos hz] at ho
  have hval := hval hz
  refine lv_aload_n hx hb dL_law_914 rfl (lv_at hl 5 rfl) ?_
  refine lv_iconst (v := 0) hx hb dL_law_915 (by decide) ?_
  refine va_lald (f := o2) hx hb hK hP 28 1 rfl rfl (vp_in_iff.mpr (by decide)) dL_law_916 ?_
  refine lv_lload hx hb dL_law_917 (lv_at hl 0 rfl) ?_
  refine W.lcmp hx hb dL_law_919 ?_
  have hcmp : lg_cmp (o2 (0 : Int32).toNatClampNeg) sv.1 = 0 := (lg_cmp_eq _ _).mpr (by rw [← ho, upL_at0]; exact hval)
  refine lv_if_eq (tgt := 925) hx hb dL_law_920 (by decide) (fun _ => ?_) (fun c9 => absurd hcmp c9)
  refine lv_goto (tgt := 1279) hx hb dL_law_925 (by decide) ?_
  refine W.widen (k := cc + 8) (n := ss + 64) (by omega) (by omega) ?_
  exact kk _ _ _ _ hP hD hS (lv_sub hl [2, 3, 4, 5, 6] rfl)

set_option maxHeartbeats 8000000 in
set_option maxRecDepth 100000 in
theorem law_14 {p : Program} {l : Launch} (lt : l.stackTraces = false) {e : Env} {s : State} {m : MethodId} {below : List Frame} {meth : Method} {c : Code} {dC : Nat → ClassId} {dI : Nat → Nat → Nat} {cI cL : ClassId} {ad am sa : Nat → Nat} {oa : Nat} {b L : Nat} {xs : Nat → Int32} (hL : L ≤ 2560) (C0 : lw_At p s m meth c b L xs) (hZ : ZN s) (hX : ZX sa s) (hq : zq (fun q : Nat => s.heap.size ≤ q) s s.heap) (hK : va_K (dC, dI) vwCl [(cI, .int), (cL, .long)] s) {N i : Nat} (hi : i + 5 ≤ L) (hN : 1 ≤ N) {u v u' v' : St} (hst : stepP N 14 (xs (nI i + 1).toNatClampNeg) (xs (nI i + 2).toNatClampNeg) (xs (nI i + 3).toNatClampNeg) (xs (nI i + 4).toNatClampNeg) u v u' v') {o : Nat → Int64} {H : Heap} {locs : List Loc} {cc ss : Nat} (hcc : cc + 8 ≤ 601024) (hss : ss + 64 ≤ 7293034)
    (hP : va_P (dC, dI) vwCl (low ad am oa cI cL u v o) H) (hD : va_D (fun q : Nat => s.heap.size ≤ q) (low ad am oa cI cL u v o)) (hS : va_S (fun q : Nat => s.heap.size ≤ q) s.heap H locs) {ls : Array Slot} (hl : lv_has ls 8 [(0, .ref b), (1, .ref (ad 0)), (2, .ref (am 0)), (3, .ref oa), (4, .int (nI i))])
    (kk : ∀ (o : Nat → Int64) (H : Heap) (locs : List Loc) (ls : Array Slot), va_P (dC, dI) vwCl (low ad am oa cI cL u' v' o) H → va_D (fun q : Nat => s.heap.size ≤ q) (low ad am oa cI cL u' v' o) → va_S (fun q : Nat => s.heap.size ≤ q) s.heap H locs → lv_has ls 8 [(0, .ref b), (1, .ref (ad 0)), (2, .ref (am 0)), (3, .ref oa), (4, .int (nI i))] → W p l e room_1 s m #[Value.ref b] below meth c H locs (cc + 8) (ss + 64) (lw_Z below #[Value.ref b] s) (F0 m 1279 ls [])) :
    W p l e room_1 s m #[Value.ref b] below meth c H locs cc ss (lw_Z below #[Value.ref b] s) (F0 m 928 ls []) := by
  obtain ⟨hx, hb, hr, hml, hown, hts0, hXs, hbl, hlocks, hgv⟩ := C0
  have hown : s.vm.findClass RL = some m.cls := hown
  have hts : ∀ w ∈ wsL_law, w.before #[Value.ref b] s = true := fun w h => hts0 w (wsL_law_in w h)
  have hA : ∀ q : Nat, s.heap.size ≤ q → (fun q : Nat => s.heap.size ≤ q) q := fun _ h => h
  have hbA : ¬ (fun q : Nat => s.heap.size ≤ q) b := Nat.not_le.mpr hbl
  have hin1 : vp_in (nI i + 1) L := (lw_in (j := 1) hL (by omega)).1
  have hin2 : vp_in (nI i + 2) L := (lw_in (j := 2) hL (by omega)).1
  have hin3 : vp_in (nI i + 3) L := (lw_in (j := 3) hL (by omega)).1
  have hin4 : vp_in (nI i + 4) L := (lw_in (j := 4) hL (by omega)).1
  obtain ⟨r, sv, hr0, hs0, heq, hle, rfl, hv9⟩ := hst
  subst v'
  refine lv_aload_n hx hb dL_law_928 rfl (lv_at hl 1 rfl) ?_
  refine lv_aload_n hx hb dL_law_929 rfl (lv_at hl 0 rfl) ?_
  refine lv_iload hx hb dL_law_930 (lv_at hl 4 rfl) ?_
  refine lv_iconst (v := 1) hx hb dL_law_932 (by decide) ?_
  refine lv_iadd hx hb dL_law_933 ?_
  refine va_sld hx hb hXs hbl hbA hS hin1 dL_law_934 ?_
  refine lv_aload_n hx hb dL_law_935 rfl (lv_at hl 0 rfl) ?_
  refine lv_iload hx hb dL_law_936 (lv_at hl 4 rfl) ?_
  refine lv_iconst (v := 2) hx hb dL_law_938 (by decide) ?_
  refine lv_iadd hx hb dL_law_939 ?_
  refine va_sld hx hb hXs hbl hbA hS hin2 dL_law_940 ?_
  have hP : va_P (dC, dI) vwCl (cw ad cI cL u ++ ([(oa, .inl (cL, 1, .inr (.inl o)))] ++ mw am cI cL v)) H := by rw [← List.append_assoc]; exact hP
  have hD : va_D (fun q : Nat => s.heap.size ≤ q) (cw ad cI cL u ++ ([(oa, .inl (cL, 1, .inr (.inl o)))] ++ mw am cI cL v)) := by rw [← List.append_assoc]; exact hD
  have hPc := wp_l hP
  have hDc := wd_l hD
  have hFc := wf_of hDc hS hA
  refine va_calli (vx_runSW (As := [.ref (ad 0), .int (xs (nI i + 1).toNatClampNeg), .int (xs (nI i + 2).toNatClampNeg)]) (rest := []) ⟨hx, hb, hml, hown, hts⟩ (mL_sensor l lt dC dI cI cL ad sa H.size u (xs (nI i + 1).toNatClampNeg) (xs (nI i + 2).toNatClampNeg) N r hr0 hle) (vx_cwSW 3 hts gL_law_L_sensor rfl rfl rfl (by decide +kernel) ⟨Nat.le_of_ble_eq_true rfl, Nat.le_of_ble_eq_true rfl⟩) ⟨xPre_blind, xPre_of hPc hK hDc hZ hX hq hS hFc⟩ rfl rfl hl.1 rfl (lv_room (Nat.le_of_ble_eq_true rfl)) dL_law_941 ⟨show cc + 2 ≤ 601024 from by omega, show ss + 12 ≤ 7293034 from by omega⟩) hS (fun q _ h => hFc q h) hFc (fun r2 u2 t H1 locs ht hvm hw hB hz1 hk1 hS => ?_)
  obtain ⟨hP1, hK1, hD1⟩ := hB
  rw [ht] at hP1
  have e1 : r2 = nI r.1 := congrArg Prod.fst hw
  have e2 : u2 = r.2 := congrArg Prod.snd hw
  subst r2 u2
  obtain ⟨hP, hD⟩ := wj_l hP hD hk1 hFc hP1 hD1
  rw [← List.append_assoc] at hP hD
  have hP : va_P (dC, dI) vwCl (low ad am oa cI cL r.2 v o) H1 := hP
  have hD : va_D (fun q : Nat => s.heap.size ≤ q) (low ad am oa cI cL r.2 v o) := hD
  clear hP1 hD1 hK1 hPc hDc hFc hk1
  generalize H1 = H at hP hS ⊢
  refine W.widen (k := cc + 2) (n := ss + 12) (by omega) (by omega) ?_
  refine lv_istore (lv' := [(5, .int (nI r.1)), (0, .ref b), (1, .ref (ad 0)), (2, .ref (am 0)), (3, .ref oa), (4, .int (nI i))]) hx hb dL_law_944 hl (by decide) rfl (fun ls hl => ?_)
  refine lv_aload_n hx hb dL_law_946 rfl (lv_at hl 3 rfl) ?_
  refine lv_aload_n hx hb dL_law_947 rfl (lv_at hl 1 rfl) ?_
  refine lv_iload hx hb dL_law_948 (lv_at hl 5 rfl) ?_
  refine lv_iconst (v := 1) hx hb dL_law_950 (by decide) ?_
  refine lv_iadd hx hb dL_law_951 ?_
  refine va_sld hx hb hXs hbl hbA hS hin1 dL_law_952 ?_
  refine lv_aload_n hx hb dL_law_953 rfl (lv_at hl 1 rfl) ?_
  refine lv_iload hx hb dL_law_954 (lv_at hl 5 rfl) ?_
  refine lv_iconst (v := 2) hx hb dL_law_956 (by decide) ?_
  refine lv_iadd hx hb dL_law_957 ?_
  refine va_sld hx hb hXs hbl hbA hS hin2 dL_law_958 ?_
  have hPc := wp_r hP
  have hDc := wd_r hD
  have hFc := wf_of hDc hS hA
  refine va_callv (va_runV (As := [.int (xs (nI i + 1).toNatClampNeg), .int (xs (nI i + 2).toNatClampNeg)]) (rest := []) ⟨hx, hb, hml, hown, hts⟩ (mX5_sensor l dC dI cI cL am H.size v (xs (nI i + 1).toNatClampNeg) (xs (nI i + 2).toNatClampNeg) N sv hs0) (cwV 2 hts gL_law_X5_sensor rfl rfl rfl (by decide +kernel) ⟨Nat.le_of_ble_eq_true rfl, Nat.le_of_ble_eq_true rfl⟩) ⟨wPre_blind, va_recv hK hPc (ci := 5) (q0 := 0) rfl rfl, wPre_of hPc hK hDc hZ⟩ rfl rfl hl.1 rfl (lv_room (Nat.le_of_ble_eq_true rfl)) dL_law_959 ⟨show cc + 2 + 0 ≤ 601024 from by omega, show ss + 12 + 0 ≤ 7293034 from by omega⟩) hS (fun q _ h => hFc q h) hFc (fun u2 t H1 locs ht hvm hw hB hz1 hk1 hS => ?_)
  obtain ⟨hP1, hK1, hD1⟩ := hB
  rw [ht] at hP1
  subst u2
  obtain ⟨hP, hD⟩ := wj_r hP hD hk1 hFc hP1 hD1
  have hP : va_P (dC, dI) vwCl (low ad am oa cI cL r.2 sv o) H1 := hP
  have hD : va_D (fun q : Nat => s.heap.size ≤ q) (low ad am oa cI cL r.2 sv o) := hD
  clear hP1 hD1 hK1 hPc hDc hFc hk1
  generalize H1 = H at hP hS ⊢
  refine lv_aload_n hx hb dL_law_962 rfl (lv_at hl 3 rfl) ?_
  have hPc := wp_r hP
  have hDc := wd_r hD
  have hFc := wf_of hDc hS hA
  refine va_calli (va_runV (As := []) (rest := []) ⟨hx, hb, hml, hown, hts⟩ (mX5_thrown l dC dI cI cL am H.size sv  N (gI sv 0, sv) (FX5_thrown_N N sv hN)) (cwV 0 hts gL_law_X5_thrown rfl rfl rfl (by decide +kernel) ⟨Nat.le_of_ble_eq_true rfl, Nat.le_of_ble_eq_true rfl⟩) ⟨wPre_blind, va_recv hK hPc (ci := 5) (q0 := 0) rfl rfl, wPre_of hPc hK hDc hZ⟩ rfl rfl hl.1 rfl (lv_room (Nat.le_of_ble_eq_true rfl)) dL_law_963 ⟨show cc + 2 + 0 ≤ 601024 from by omega, show ss + 12 + 0 ≤ 7293034 from by omega⟩) hS (fun q _ h => hFc q h) hFc (fun r2 u2 t H1 locs ht hvm hw hB hz1 hk1 hS => ?_)
  obtain ⟨hP1, hK1, hD1⟩ := hB
  rw [ht] at hP1
  have e1 : r2 = gI sv 0 := congrArg Prod.fst hw
  have e2 : u2 = sv := congrArg Prod.snd hw
  subst r2 u2
  obtain ⟨hP, hD⟩ := wj_r hP hD hk1 hFc hP1 hD1
  have hP : va_P (dC, dI) vwCl (low ad am oa cI cL r.2 sv o) H1 := hP
  have hD : va_D (fun q : Nat => s.heap.size ≤ q) (low ad am oa cI cL r.2 sv o) := hD
  clear hP1 hD1 hK1 hPc hDc hFc hk1
  generalize H1 = H at hP hS ⊢
  refine lv_iload hx hb dL_law_966 (lv_at hl 0 rfl) ?_
  refine lv_icmp_eq (tgt := 973) hx hb dL_law_968 (by decide) (fun _ => ?_) (fun c9 => absurd heq c9)
  refine lv_goto (tgt := 1279) hx hb dL_law_973 (by decide) ?_
  refine W.widen (k := cc + 8) (n := ss + 64) (by omega) (by omega) ?_
  exact kk _ _ _ _ hP hD hS (lv_sub hl [1, 2, 3, 4, 5] rfl)

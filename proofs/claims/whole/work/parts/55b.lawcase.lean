set_option maxHeartbeats 8000000 in
set_option maxRecDepth 100000 in
theorem law_5 {p : Program} {l : Launch} (lt : l.stackTraces = false) {e : Env} {s : State} {m : MethodId} {below : List Frame} {meth : Method} {c : Code} {dC : Nat → ClassId} {dI : Nat → Nat → Nat} {cI cL : ClassId} {ad am sa : Nat → Nat} {oa : Nat} {b L : Nat} {xs : Nat → Int32} (hL : L ≤ 2560) (C0 : lw_At p s m meth c b L xs) (hZ : ZN s) (hX : ZX sa s) (hq : zq (fun q : Nat => s.heap.size ≤ q) s s.heap) (hK : va_K (dC, dI) vwCl [(cI, .int), (cL, .long)] s) {N i : Nat} (hi : i + 5 ≤ L) (hN : 1 ≤ N) {u v u' v' : St} (hst : stepP N 5 (xs (nI i + 1).toNatClampNeg) (xs (nI i + 2).toNatClampNeg) (xs (nI i + 3).toNatClampNeg) (xs (nI i + 4).toNatClampNeg) u v u' v') {o : Nat → Int64} {H : Heap} {locs : List Loc} {cc ss : Nat} (hcc : cc + 8 ≤ 601024) (hss : ss + 64 ≤ 7293034)
    (hP : va_P (dC, dI) vwCl (low ad am oa cI cL u v o) H) (hD : va_D (fun q : Nat => s.heap.size ≤ q) (low ad am oa cI cL u v o)) (hS : va_S (fun q : Nat => s.heap.size ≤ q) s.heap H locs) {ls : Array Slot} (hl : lv_has ls 8 [(0, .ref b), (1, .ref (ad 0)), (2, .ref (am 0)), (3, .ref oa), (4, .int (nI i))])
    (kk : ∀ (o : Nat → Int64) (H : Heap) (locs : List Loc) (ls : Array Slot), va_P (dC, dI) vwCl (low ad am oa cI cL u' v' o) H → va_D (fun q : Nat => s.heap.size ≤ q) (low ad am oa cI cL u' v' o) → va_S (fun q : Nat => s.heap.size ≤ q) s.heap H locs → lv_has ls 8 [(0, .ref b), (1, .ref (ad 0)), (2, .ref (am 0)), (3, .ref oa), (4, .int (nI i))] → W p l e room_1 s m #[Value.ref b] below meth c H locs (cc + 8) (ss + 64) (lw_Z below #[Value.ref b] s) (F0 m 1279 ls [])) :
    W p l e room_1 s m #[Value.ref b] below meth c H locs cc ss (lw_Z below #[Value.ref b] s) (F0 m 476 ls []) := by
  obtain ⟨hx, hb, hr, hml, hown, hts0, hXs, hbl, hlocks, hgv⟩ := C0
  have hown : s.vm.findClass RL = some m.cls := hown
  have hts : ∀ w ∈ wsL_law, w.before #[Value.ref b] s = true := fun w h => hts0 w (wsL_law_in w h)
  have hA : ∀ q : Nat, s.heap.size ≤ q → (fun q : Nat => s.heap.size ≤ q) q := fun _ h => h
  have hbA : ¬ (fun q : Nat => s.heap.size ≤ q) b := Nat.not_le.mpr hbl
  have hin1 : vp_in (nI i + 1) L := (lw_in (j := 1) hL (by omega)).1
  have hin2 : vp_in (nI i + 2) L := (lw_in (j := 2) hL (by omega)).1
  have hin3 : vp_in (nI i + 3) L := (lw_in (j := 3) hL (by omega)).1
  have hin4 : vp_in (nI i + 4) L := (lw_in (j := 4) hL (by omega)).1
  obtain ⟨r, sv, hr0, hs0, heq, hval, hle, rfl, rfl⟩ := hst
  refine lv_aload_n hx hb dL_law_476 rfl (lv_at hl 1 rfl) ?_
  refine lv_aload_n hx hb dL_law_477 rfl (lv_at hl 0 rfl) ?_
  refine lv_iload hx hb dL_law_478 (lv_at hl 4 rfl) ?_
  refine lv_iconst (v := 1) hx hb dL_law_480 (by decide) ?_
  refine lv_iadd hx hb dL_law_481 ?_
  refine va_sld hx hb hXs hbl hbA hS hin1 dL_law_482 ?_
  refine lv_aload_n hx hb dL_law_483 rfl (lv_at hl 0 rfl) ?_
  refine lv_iload hx hb dL_law_484 (lv_at hl 4 rfl) ?_
  refine lv_iconst (v := 2) hx hb dL_law_486 (by decide) ?_
  refine lv_iadd hx hb dL_law_487 ?_
  refine va_sld hx hb hXs hbl hbA hS hin2 dL_law_488 ?_
  refine lv_aload_n hx hb dL_law_489 rfl (lv_at hl 0 rfl) ?_
  refine lv_iload hx hb dL_law_490 (lv_at hl 4 rfl) ?_
  refine lv_iconst (v := 3) hx hb dL_law_492 (by decide) ?_
  refine lv_iadd hx hb dL_law_493 ?_
  refine va_sld hx hb hXs hbl hbA hS hin3 dL_law_494 ?_
  refine lv_aload_n hx hb dL_law_495 rfl (lv_at hl 3 rfl) ?_
  have hPc := wp_l hP
  have hDc := wd_l hD
  have hFc := wf_of hDc hS hA
  refine va_calli (vx_runSW (As := [.ref (ad 0), .int (xs (nI i + 1).toNatClampNeg), .int (xs (nI i + 2).toNatClampNeg), .int (xs (nI i + 3).toNatClampNeg), .ref oa]) (rest := []) ⟨hx, hb, hml, hown, hts⟩ (mL_light l lt dC dI cI cL ad sa oa H.size u o (xs (nI i + 1).toNatClampNeg) (xs (nI i + 2).toNatClampNeg) (xs (nI i + 3).toNatClampNeg) N r hr0 hle) (vx_cwSW 5 hts gL_law_L_light rfl rfl rfl (by decide +kernel) ⟨Nat.le_of_ble_eq_true rfl, Nat.le_of_ble_eq_true rfl⟩) ⟨xPre_blind, xPre_of hPc hK hDc hZ hX hq hS hFc⟩ rfl rfl hl.1 rfl (lv_room (Nat.le_of_ble_eq_true rfl)) dL_law_496 ⟨show cc + 3 ≤ 601024 from by omega, show ss + 18 ≤ 7293034 from by omega⟩) hS (fun q _ h => hFc q h) hFc (fun r2 u2 t H1 locs ht hvm hw hB hz1 hk1 hS => ?_)
  obtain ⟨hP1, hK1, hD1⟩ := hB
  rw [ht] at hP1
  have e1 : r2 = nI r.1 := congrArg Prod.fst hw
  have e2 : u2 = (r.2.2, if r.1 = 0 then vp_updL o (0 : Int32).toNatClampNeg r.2.1.toInt64 else o) := congrArg Prod.snd hw
  subst r2 u2
  generalize ho : (if r.1 = 0 then vp_updL o (0 : Int32).toNatClampNeg r.2.1.toInt64 else o) = o2 at hP1 hD1
  obtain ⟨hP, hD⟩ := wj_l hP hD hk1 hFc hP1 hD1
  have hP : va_P (dC, dI) vwCl (low ad am oa cI cL r.2.2 v o2) H1 := hP
  have hD : va_D (fun q : Nat => s.heap.size ≤ q) (low ad am oa cI cL r.2.2 v o2) := hD
  clear hP1 hD1 hK1 hPc hDc hFc hk1
  generalize H1 = H at hP hS ⊢
  refine W.widen (k := cc + 3) (n := ss + 18) (by omega) (by omega) ?_
  refine lv_istore (lv' := [(5, .int (nI r.1)), (0, .ref b), (1, .ref (ad 0)), (2, .ref (am 0)), (3, .ref oa), (4, .int (nI i))]) hx hb dL_law_499 hl (by decide) rfl (fun ls hl => ?_)
  refine lv_aload_n hx hb dL_law_501 rfl (lv_at hl 3 rfl) ?_
  refine lv_aload_n hx hb dL_law_502 rfl (lv_at hl 1 rfl) ?_
  refine lv_iload hx hb dL_law_503 (lv_at hl 5 rfl) ?_
  refine lv_iconst (v := 1) hx hb dL_law_505 (by decide) ?_
  refine lv_iadd hx hb dL_law_506 ?_
  refine va_sld hx hb hXs hbl hbA hS hin1 dL_law_507 ?_
  refine lv_aload_n hx hb dL_law_508 rfl (lv_at hl 1 rfl) ?_
  refine lv_iload hx hb dL_law_509 (lv_at hl 5 rfl) ?_
  refine lv_iconst (v := 2) hx hb dL_law_511 (by decide) ?_
  refine lv_iadd hx hb dL_law_512 ?_
  refine va_sld hx hb hXs hbl hbA hS hin2 dL_law_513 ?_
  refine lv_aload_n hx hb dL_law_514 rfl (lv_at hl 1 rfl) ?_
  refine lv_iload hx hb dL_law_515 (lv_at hl 5 rfl) ?_
  refine lv_iconst (v := 3) hx hb dL_law_517 (by decide) ?_
  refine lv_iadd hx hb dL_law_518 ?_
  refine va_sld hx hb hXs hbl hbA hS hin3 dL_law_519 ?_
  have hPc := wp_r hP
  have hDc := wd_r hD
  have hFc := wf_of hDc hS hA
  refine va_calli (va_runV (As := [.int (xs (nI i + 1).toNatClampNeg), .int (xs (nI i + 2).toNatClampNeg), .int (xs (nI i + 3).toNatClampNeg)]) (rest := []) ⟨hx, hb, hml, hown, hts⟩ (mX5_light l dC dI cI cL am H.size v (xs (nI i + 1).toNatClampNeg) (xs (nI i + 2).toNatClampNeg) (xs (nI i + 3).toNatClampNeg) N sv hs0) (cwV 3 hts gL_law_X5_light rfl rfl rfl (by decide +kernel) ⟨Nat.le_of_ble_eq_true rfl, Nat.le_of_ble_eq_true rfl⟩) ⟨wPre_blind, va_recv hK hPc (ci := 5) (q0 := 0) rfl rfl, wPre_of hPc hK hDc hZ⟩ rfl rfl hl.1 rfl (lv_room (Nat.le_of_ble_eq_true rfl)) dL_law_520 ⟨show cc + 3 + 0 ≤ 601024 from by omega, show ss + 18 + 0 ≤ 7293034 from by omega⟩) hS (fun q _ h => hFc q h) hFc (fun r2 u2 t H1 locs ht hvm hw hB hz1 hk1 hS => ?_)
  obtain ⟨hP1, hK1, hD1⟩ := hB
  rw [ht] at hP1
  have e1 : r2 = sv.1 := congrArg Prod.fst hw
  have e2 : u2 = sv.2 := congrArg Prod.snd hw
  subst r2 u2
  obtain ⟨hP, hD⟩ := wj_r hP hD hk1 hFc hP1 hD1
  have hP : va_P (dC, dI) vwCl (low ad am oa cI cL r.2.2 sv.2 o2) H1 := hP
  have hD : va_D (fun q : Nat => s.heap.size ≤ q) (low ad am oa cI cL r.2.2 sv.2 o2) := hD
  clear hP1 hD1 hK1 hPc hDc hFc hk1
  generalize H1 = H at hP hS ⊢
  refine lv_istore (lv' := [(6, .int sv.1), (5, .int (nI r.1)), (0, .ref b), (1, .ref (ad 0)), (2, .ref (am 0)), (3, .ref oa), (4, .int (nI i))]) hx hb dL_law_523 hl (by decide) rfl (fun ls hl => ?_)
  refine lv_aload_n hx hb dL_law_525 rfl (lv_at hl 4 rfl) ?_
  have hPc := wp_r hP
  have hDc := wd_r hD
  have hFc := wf_of hDc hS hA
  refine va_calli (va_runV (As := []) (rest := []) ⟨hx, hb, hml, hown, hts⟩ (mX5_thrown l dC dI cI cL am H.size sv.2  N (gI sv.2 0, sv.2) (FX5_thrown_N N sv.2 hN)) (cwV 0 hts gL_law_X5_thrown rfl rfl rfl (by decide +kernel) ⟨Nat.le_of_ble_eq_true rfl, Nat.le_of_ble_eq_true rfl⟩) ⟨wPre_blind, va_recv hK hPc (ci := 5) (q0 := 0) rfl rfl, wPre_of hPc hK hDc hZ⟩ rfl rfl hl.1 rfl (lv_room (Nat.le_of_ble_eq_true rfl)) dL_law_526 ⟨show cc + 3 + 0 ≤ 601024 from by omega, show ss + 18 + 0 ≤ 7293034 from by omega⟩) hS (fun q _ h => hFc q h) hFc (fun r2 u2 t H1 locs ht hvm hw hB hz1 hk1 hS => ?_)
  obtain ⟨hP1, hK1, hD1⟩ := hB
  rw [ht] at hP1
  have e1 : r2 = gI sv.2 0 := congrArg Prod.fst hw
  have e2 : u2 = sv.2 := congrArg Prod.snd hw
  subst r2 u2
  obtain ⟨hP, hD⟩ := wj_r hP hD hk1 hFc hP1 hD1
  have hP : va_P (dC, dI) vwCl (low ad am oa cI cL r.2.2 sv.2 o2) H1 := hP
  have hD : va_D (fun q : Nat => s.heap.size ≤ q) (low ad am oa cI cL r.2.2 sv.2 o2) := hD
  clear hP1 hD1 hK1 hPc hDc hFc hk1
  generalize H1 = H at hP hS ⊢
  refine lv_iload hx hb dL_law_529 (lv_at hl 1 rfl) ?_
  refine lv_icmp_eq (tgt := 536) hx hb dL_law_531 (by decide) (fun _ => ?_) (fun c9 => absurd heq c9)
  refine lv_iload hx hb dL_law_536 (lv_at hl 1 rfl) ?_
  refine lv_if_ne (tgt := 553) hx hb dL_law_538 (by decide) (fun c9 => ?_) (fun c9 => ?_)
  · skip
    refine lv_goto (tgt := 1279) hx hb dL_law_553 (by decide) ?_
    refine W.widen (k := cc + 8) (n := ss + 64) (by omega) (by omega) ?_
    exact kk _ _ _ _ hP hD hS (lv_sub hl [2, 3, 4, 5, 6] rfl)
  have hz : r.1 = 0 := by
    rcases Nat.eq_zero_or_pos r.1 with h | h
    · exact h
    · exact absurd c9 (nI_ne0 h (by omega))
  rw [if_pos hz] at ho
  have hval := hval hz
  refine lv_aload_n hx hb dL_law_541 rfl (lv_at hl 5 rfl) ?_
  refine lv_iconst (v := 0) hx hb dL_law_542 (by decide) ?_
  refine va_lald (f := o2) hx hb hK hP 28 1 rfl rfl (vp_in_iff.mpr (by decide)) dL_law_543 ?_
  refine lv_iload hx hb dL_law_544 (lv_at hl 0 rfl) ?_
  refine lv_i2l (v := sv.1.toInt64) hx hb dL_law_546 rfl ?_
  refine W.lcmp hx hb dL_law_547 ?_
  have hcmp : lg_cmp (o2 (0 : Int32).toNatClampNeg) sv.1.toInt64 = 0 := (lg_cmp_eq _ _).mpr (by rw [← ho, upL_at0]; exact hval)
  refine lv_if_eq (tgt := 553) hx hb dL_law_548 (by decide) (fun _ => ?_) (fun c9 => absurd hcmp c9)
  refine lv_goto (tgt := 1279) hx hb dL_law_553 (by decide) ?_
  refine W.widen (k := cc + 8) (n := ss + 64) (by omega) (by omega) ?_
  exact kk _ _ _ _ hP hD hS (lv_sub hl [2, 3, 4, 5, 6] rfl)

set_option maxHeartbeats 8000000 in
set_option maxRecDepth 100000 in
theorem law_6 {p : Program} {l : Launch} (lt : l.stackTraces = false) {e : Env} {s : State} {m : MethodId} {below : List Frame} {meth : Method} {c : Code} {dC : Nat → ClassId} {dI : Nat → Nat → Nat} {cI cL : ClassId} {ad am sa : Nat → Nat} {oa : Nat} {b L : Nat} {xs : Nat → Int32} (hL : L ≤ 2560) (C0 : lw_At p s m meth c b L xs) (hZ : ZN s) (hX : ZX sa s) (hq : zq (fun q : Nat => s.heap.size ≤ q) s s.heap) (hK : va_K (dC, dI) vwCl [(cI, .int), (cL, .long)] s) {N i : Nat} (hi : i + 5 ≤ L) {u v u' v' : St} (hst : stepP N 6 (xs (nI i + 1).toNatClampNeg) (xs (nI i + 2).toNatClampNeg) (xs (nI i + 3).toNatClampNeg) (xs (nI i + 4).toNatClampNeg) u v u' v') {o : Nat → Int64} {H : Heap} {locs : List Loc} {cc ss : Nat} (hcc : cc + 8 ≤ 601024) (hss : ss + 64 ≤ 7293034)
    (hP : va_P (dC, dI) vwCl (low ad am oa cI cL u v o) H) (hD : va_D (fun q : Nat => s.heap.size ≤ q) (low ad am oa cI cL u v o)) (hS : va_S (fun q : Nat => s.heap.size ≤ q) s.heap H locs) {ls : Array Slot} (hl : lv_has ls 8 [(0, .ref b), (1, .ref (ad 0)), (2, .ref (am 0)), (3, .ref oa), (4, .int (nI i))])
    (kk : ∀ (o : Nat → Int64) (H : Heap) (locs : List Loc) (ls : Array Slot), va_P (dC, dI) vwCl (low ad am oa cI cL u' v' o) H → va_D (fun q : Nat => s.heap.size ≤ q) (low ad am oa cI cL u' v' o) → va_S (fun q : Nat => s.heap.size ≤ q) s.heap H locs → lv_has ls 8 [(0, .ref b), (1, .ref (ad 0)), (2, .ref (am 0)), (3, .ref oa), (4, .int (nI i))] → W p l e room_1 s m #[Value.ref b] below meth c H locs (cc + 8) (ss + 64) (lw_Z below #[Value.ref b] s) (F0 m 1279 ls [])) :
    W p l e room_1 s m #[Value.ref b] below meth c H locs cc ss (lw_Z below #[Value.ref b] s) (F0 m 556 ls []) := by
  obtain ⟨hx, hb, hr, hml, hown, hts0, hXs, hbl, hlocks, hgv⟩ := C0
  have hown : s.vm.findClass RL = some m.cls := hown
  have hts : ∀ w ∈ wsL_law, w.before #[Value.ref b] s = true := fun w h => hts0 w (wsL_law_in w h)
  have hA : ∀ q : Nat, s.heap.size ≤ q → (fun q : Nat => s.heap.size ≤ q) q := fun _ h => h
  have hbA : ¬ (fun q : Nat => s.heap.size ≤ q) b := Nat.not_le.mpr hbl
  have hin1 : vp_in (nI i + 1) L := (lw_in (j := 1) hL (by omega)).1
  have hin2 : vp_in (nI i + 2) L := (lw_in (j := 2) hL (by omega)).1
  have hin3 : vp_in (nI i + 3) L := (lw_in (j := 3) hL (by omega)).1
  have hin4 : vp_in (nI i + 4) L := (lw_in (j := 4) hL (by omega)).1
  obtain ⟨r, sv, hr0, hs0, heq, rfl, rfl⟩ := hst
  refine lv_aload_n hx hb dL_law_556 rfl (lv_at hl 1 rfl) ?_
  have hP : va_P (dC, dI) vwCl (cw ad cI cL u ++ ([(oa, .inl (cL, 1, .inr (.inl o)))] ++ mw am cI cL v)) H := by rw [← List.append_assoc]; exact hP
  have hD : va_D (fun q : Nat => s.heap.size ≤ q) (cw ad cI cL u ++ ([(oa, .inl (cL, 1, .inr (.inl o)))] ++ mw am cI cL v)) := by rw [← List.append_assoc]; exact hD
  have hPc := wp_l hP
  have hDc := wd_l hD
  have hFc := wf_of hDc hS hA
  refine va_calli (va_runV (As := []) (rest := []) ⟨hx, hb, hml, hown, hts⟩ (mX4_best l dC dI cI cL ad H.size u  N r hr0) (cwV 0 hts gL_law_X4_best rfl rfl rfl (by decide +kernel) ⟨Nat.le_of_ble_eq_true rfl, Nat.le_of_ble_eq_true rfl⟩) ⟨wPre_blind, va_recv hK hPc (ci := 4) (q0 := 0) rfl rfl, wPre_of hPc hK hDc hZ⟩ rfl rfl hl.1 rfl (lv_room (Nat.le_of_ble_eq_true rfl)) dL_law_557 ⟨show cc + 0 + 0 ≤ 601024 from by omega, show ss + 0 + 0 ≤ 7293034 from by omega⟩) hS (fun q _ h => hFc q h) hFc (fun r2 u2 t H1 locs ht hvm hw hB hz1 hk1 hS => ?_)
  obtain ⟨hP1, hK1, hD1⟩ := hB
  rw [ht] at hP1
  have e1 : r2 = r.1 := congrArg Prod.fst hw
  have e2 : u2 = r.2 := congrArg Prod.snd hw
  subst r2 u2
  obtain ⟨hP, hD⟩ := wj_l hP hD hk1 hFc hP1 hD1
  rw [← List.append_assoc] at hP hD
  have hP : va_P (dC, dI) vwCl (low ad am oa cI cL r.2 v o) H1 := hP
  have hD : va_D (fun q : Nat => s.heap.size ≤ q) (low ad am oa cI cL r.2 v o) := hD
  clear hP1 hD1 hK1 hPc hDc hFc hk1
  generalize H1 = H at hP hS ⊢
  refine lv_aload_n hx hb dL_law_560 rfl (lv_at hl 2 rfl) ?_
  have hPc := wp_r hP
  have hDc := wd_r hD
  have hFc := wf_of hDc hS hA
  refine va_calli (va_runV (As := []) (rest := [.int r.1]) ⟨hx, hb, hml, hown, hts⟩ (mX5_best l dC dI cI cL am H.size v  N sv hs0) (cwV 0 hts gL_law_X5_best rfl rfl rfl (by decide +kernel) ⟨Nat.le_of_ble_eq_true rfl, Nat.le_of_ble_eq_true rfl⟩) ⟨wPre_blind, va_recv hK hPc (ci := 5) (q0 := 0) rfl rfl, wPre_of hPc hK hDc hZ⟩ rfl rfl hl.1 rfl (lv_room (Nat.le_of_ble_eq_true rfl)) dL_law_561 ⟨show cc + 0 + 0 ≤ 601024 from by omega, show ss + 0 + 0 ≤ 7293034 from by omega⟩) hS (fun q _ h => hFc q h) hFc (fun r2 u2 t H1 locs ht hvm hw hB hz1 hk1 hS => ?_)
  obtain ⟨hP1, hK1, hD1⟩ := hB
  rw [ht] at hP1
  have e1 : r2 = sv.1 := congrArg Prod.fst hw
  have e2 : u2 = sv.2 := congrArg Prod.snd hw
  subst r2 u2
  obtain ⟨hP, hD⟩ := wj_r hP hD hk1 hFc hP1 hD1
  have hP : va_P (dC, dI) vwCl (low ad am oa cI cL r.2 sv.2 o) H1 := hP
  have hD : va_D (fun q : Nat => s.heap.size ≤ q) (low ad am oa cI cL r.2 sv.2 o) := hD
  clear hP1 hD1 hK1 hPc hDc hFc hk1
  generalize H1 = H at hP hS ⊢
  refine lv_icmp_eq (tgt := 1279) hx hb dL_law_564 (by decide) (fun _ => ?_) (fun c9 => absurd heq c9)
  refine W.widen (k := cc + 8) (n := ss + 64) (by omega) (by omega) ?_
  exact kk _ _ _ _ hP hD hS (lv_sub hl [0, 1, 2, 3, 4] rfl)

set_option maxHeartbeats 8000000 in
set_option maxRecDepth 100000 in
theorem law_7 {p : Program} {l : Launch} (lt : l.stackTraces = false) {e : Env} {s : State} {m : MethodId} {below : List Frame} {meth : Method} {c : Code} {dC : Nat → ClassId} {dI : Nat → Nat → Nat} {cI cL : ClassId} {ad am sa : Nat → Nat} {oa : Nat} {b L : Nat} {xs : Nat → Int32} (hL : L ≤ 2560) (C0 : lw_At p s m meth c b L xs) (hZ : ZN s) (hX : ZX sa s) (hq : zq (fun q : Nat => s.heap.size ≤ q) s s.heap) (hK : va_K (dC, dI) vwCl [(cI, .int), (cL, .long)] s) {N i : Nat} (hi : i + 5 ≤ L) (hN : 1 ≤ N) {u v u' v' : St} (hst : stepP N 7 (xs (nI i + 1).toNatClampNeg) (xs (nI i + 2).toNatClampNeg) (xs (nI i + 3).toNatClampNeg) (xs (nI i + 4).toNatClampNeg) u v u' v') {o : Nat → Int64} {H : Heap} {locs : List Loc} {cc ss : Nat} (hcc : cc + 8 ≤ 601024) (hss : ss + 64 ≤ 7293034)
    (hP : va_P (dC, dI) vwCl (low ad am oa cI cL u v o) H) (hD : va_D (fun q : Nat => s.heap.size ≤ q) (low ad am oa cI cL u v o)) (hS : va_S (fun q : Nat => s.heap.size ≤ q) s.heap H locs) {ls : Array Slot} (hl : lv_has ls 8 [(0, .ref b), (1, .ref (ad 0)), (2, .ref (am 0)), (3, .ref oa), (4, .int (nI i))])
    (kk : ∀ (o : Nat → Int64) (H : Heap) (locs : List Loc) (ls : Array Slot), va_P (dC, dI) vwCl (low ad am oa cI cL u' v' o) H → va_D (fun q : Nat => s.heap.size ≤ q) (low ad am oa cI cL u' v' o) → va_S (fun q : Nat => s.heap.size ≤ q) s.heap H locs → lv_has ls 8 [(0, .ref b), (1, .ref (ad 0)), (2, .ref (am 0)), (3, .ref oa), (4, .int (nI i))] → W p l e room_1 s m #[Value.ref b] below meth c H locs (cc + 8) (ss + 64) (lw_Z below #[Value.ref b] s) (F0 m 1279 ls [])) :
    W p l e room_1 s m #[Value.ref b] below meth c H locs cc ss (lw_Z below #[Value.ref b] s) (F0 m 569 ls []) := by
  obtain ⟨hx, hb, hr, hml, hown, hts0, hXs, hbl, hlocks, hgv⟩ := C0
  have hown : s.vm.findClass RL = some m.cls := hown
  have hts : ∀ w ∈ wsL_law, w.before #[Value.ref b] s = true := fun w h => hts0 w (wsL_law_in w h)
  have hA : ∀ q : Nat, s.heap.size ≤ q → (fun q : Nat => s.heap.size ≤ q) q := fun _ h => h
  have hbA : ¬ (fun q : Nat => s.heap.size ≤ q) b := Nat.not_le.mpr hbl
  have hin1 : vp_in (nI i + 1) L := (lw_in (j := 1) hL (by omega)).1
  have hin2 : vp_in (nI i + 2) L := (lw_in (j := 2) hL (by omega)).1
  have hin3 : vp_in (nI i + 3) L := (lw_in (j := 3) hL (by omega)).1
  have hin4 : vp_in (nI i + 4) L := (lw_in (j := 4) hL (by omega)).1
  obtain ⟨r, sv, hr0, hs0, heq, hval, hle, rfl, rfl⟩ := hst
  refine lv_aload_n hx hb dL_law_569 rfl (lv_at hl 1 rfl) ?_
  refine lv_aload_n hx hb dL_law_570 rfl (lv_at hl 0 rfl) ?_
  refine lv_iload hx hb dL_law_571 (lv_at hl 4 rfl) ?_
  refine lv_iconst (v := 1) hx hb dL_law_573 (by decide) ?_
  refine lv_iadd hx hb dL_law_574 ?_
  refine va_sld hx hb hXs hbl hbA hS hin1 dL_law_575 ?_
  refine lv_aload_n hx hb dL_law_576 rfl (lv_at hl 3 rfl) ?_
  have hPc := wp_l hP
  have hDc := wd_l hD
  have hFc := wf_of hDc hS hA
  refine va_calli (vx_runSW (As := [.ref (ad 0), .int (xs (nI i + 1).toNatClampNeg), .ref oa]) (rest := []) ⟨hx, hb, hml, hown, hts⟩ (mL_lamp l lt dC dI cI cL ad sa oa H.size u o (xs (nI i + 1).toNatClampNeg) N r hr0 hle) (vx_cwSW 3 hts gL_law_L_lamp rfl rfl rfl (by decide +kernel) ⟨Nat.le_of_ble_eq_true rfl, Nat.le_of_ble_eq_true rfl⟩) ⟨xPre_blind, xPre_of hPc hK hDc hZ hX hq hS hFc⟩ rfl rfl hl.1 rfl (lv_room (Nat.le_of_ble_eq_true rfl)) dL_law_577 ⟨show cc + 1 ≤ 601024 from by omega, show ss + 6 ≤ 7293034 from by omega⟩) hS (fun q _ h => hFc q h) hFc (fun r2 u2 t H1 locs ht hvm hw hB hz1 hk1 hS => ?_)
  obtain ⟨hP1, hK1, hD1⟩ := hB
  rw [ht] at hP1
  have e1 : r2 = nI r.1 := congrArg Prod.fst hw
  have e2 : u2 = (r.2.2, if r.1 = 0 then vp_updL o (0 : Int32).toNatClampNeg r.2.1.toInt64 else o) := congrArg Prod.snd hw
  subst r2 u2
  generalize ho : (if r.1 = 0 then vp_updL o (0 : Int32).toNatClampNeg r.2.1.toInt64 else o) = o2 at hP1 hD1
  obtain ⟨hP, hD⟩ := wj_l hP hD hk1 hFc hP1 hD1
  have hP : va_P (dC, dI) vwCl (low ad am oa cI cL r.2.2 v o2) H1 := hP
  have hD : va_D (fun q : Nat => s.heap.size ≤ q) (low ad am oa cI cL r.2.2 v o2) := hD
  clear hP1 hD1 hK1 hPc hDc hFc hk1
  generalize H1 = H at hP hS ⊢
  refine W.widen (k := cc + 1) (n := ss + 6) (by omega) (by omega) ?_
  refine lv_istore (lv' := [(5, .int (nI r.1)), (0, .ref b), (1, .ref (ad 0)), (2, .ref (am 0)), (3, .ref oa), (4, .int (nI i))]) hx hb dL_law_580 hl (by decide) rfl (fun ls hl => ?_)
  refine lv_aload_n hx hb dL_law_582 rfl (lv_at hl 3 rfl) ?_
  refine lv_aload_n hx hb dL_law_583 rfl (lv_at hl 1 rfl) ?_
  refine lv_iload hx hb dL_law_584 (lv_at hl 5 rfl) ?_
  refine lv_iconst (v := 1) hx hb dL_law_586 (by decide) ?_
  refine lv_iadd hx hb dL_law_587 ?_
  refine va_sld hx hb hXs hbl hbA hS hin1 dL_law_588 ?_
  have hPc := wp_r hP
  have hDc := wd_r hD
  have hFc := wf_of hDc hS hA
  refine va_calli (va_runV (As := [.int (xs (nI i + 1).toNatClampNeg)]) (rest := []) ⟨hx, hb, hml, hown, hts⟩ (mX5_lamp l dC dI cI cL am H.size v (xs (nI i + 1).toNatClampNeg) N sv hs0) (cwV 1 hts gL_law_X5_lamp rfl rfl rfl (by decide +kernel) ⟨Nat.le_of_ble_eq_true rfl, Nat.le_of_ble_eq_true rfl⟩) ⟨wPre_blind, va_recv hK hPc (ci := 5) (q0 := 0) rfl rfl, wPre_of hPc hK hDc hZ⟩ rfl rfl hl.1 rfl (lv_room (Nat.le_of_ble_eq_true rfl)) dL_law_589 ⟨show cc + 1 + 0 ≤ 601024 from by omega, show ss + 6 + 0 ≤ 7293034 from by omega⟩) hS (fun q _ h => hFc q h) hFc (fun r2 u2 t H1 locs ht hvm hw hB hz1 hk1 hS => ?_)
  obtain ⟨hP1, hK1, hD1⟩ := hB
  rw [ht] at hP1
  have e1 : r2 = sv.1 := congrArg Prod.fst hw
  have e2 : u2 = sv.2 := congrArg Prod.snd hw
  subst r2 u2
  obtain ⟨hP, hD⟩ := wj_r hP hD hk1 hFc hP1 hD1
  have hP : va_P (dC, dI) vwCl (low ad am oa cI cL r.2.2 sv.2 o2) H1 := hP
  have hD : va_D (fun q : Nat => s.heap.size ≤ q) (low ad am oa cI cL r.2.2 sv.2 o2) := hD
  clear hP1 hD1 hK1 hPc hDc hFc hk1
  generalize H1 = H at hP hS ⊢
  refine lv_istore (lv' := [(6, .int sv.1), (5, .int (nI r.1)), (0, .ref b), (1, .ref (ad 0)), (2, .ref (am 0)), (3, .ref oa), (4, .int (nI i))]) hx hb dL_law_592 hl (by decide) rfl (fun ls hl => ?_)
  refine lv_aload_n hx hb dL_law_594 rfl (lv_at hl 4 rfl) ?_
  have hPc := wp_r hP
  have hDc := wd_r hD
  have hFc := wf_of hDc hS hA
  refine va_calli (va_runV (As := []) (rest := []) ⟨hx, hb, hml, hown, hts⟩ (mX5_thrown l dC dI cI cL am H.size sv.2  N (gI sv.2 0, sv.2) (FX5_thrown_N N sv.2 hN)) (cwV 0 hts gL_law_X5_thrown rfl rfl rfl (by decide +kernel) ⟨Nat.le_of_ble_eq_true rfl, Nat.le_of_ble_eq_true rfl⟩) ⟨wPre_blind, va_recv hK hPc (ci := 5) (q0 := 0) rfl rfl, wPre_of hPc hK hDc hZ⟩ rfl rfl hl.1 rfl (lv_room (Nat.le_of_ble_eq_true rfl)) dL_law_595 ⟨show cc + 1 + 0 ≤ 601024 from by omega, show ss + 6 + 0 ≤ 7293034 from by omega⟩) hS (fun q _ h => hFc q h) hFc (fun r2 u2 t H1 locs ht hvm hw hB hz1 hk1 hS => ?_)
  obtain ⟨hP1, hK1, hD1⟩ := hB
  rw [ht] at hP1
  have e1 : r2 = gI sv.2 0 := congrArg Prod.fst hw
  have e2 : u2 = sv.2 := congrArg Prod.snd hw
  subst r2 u2
  obtain ⟨hP, hD⟩ := wj_r hP hD hk1 hFc hP1 hD1
  have hP : va_P (dC, dI) vwCl (low ad am oa cI cL r.2.2 sv.2 o2) H1 := hP
  have hD : va_D (fun q : Nat => s.heap.size ≤ q) (low ad am oa cI cL r.2.2 sv.2 o2) := hD
  clear hP1 hD1 hK1 hPc hDc hFc hk1
  generalize H1 = H at hP hS ⊢
  refine lv_iload hx hb dL_law_598 (lv_at hl 1 rfl) ?_
  refine lv_icmp_eq (tgt := 605) hx hb dL_law_600 (by decide) (fun _ => ?_) (fun c9 => absurd heq c9)
  refine lv_iload hx hb dL_law_605 (lv_at hl 1 rfl) ?_
  refine lv_if_ne (tgt := 622) hx hb dL_law_607 (by decide) (fun c9 => ?_) (fun c9 => ?_)
  · skip
    refine lv_goto (tgt := 1279) hx hb dL_law_622 (by decide) ?_
    refine W.widen (k := cc + 8) (n := ss + 64) (by omega) (by omega) ?_
    exact kk _ _ _ _ hP hD hS (lv_sub hl [2, 3, 4, 5, 6] rfl)
  have hz : r.1 = 0 := by
    rcases Nat.eq_zero_or_pos r.1 with h | h
    · exact h
    · exact absurd c9 (nI_ne0 h (by omega))
  rw [if_pos hz] at ho
  have hval := hval hz
  refine lv_aload_n hx hb dL_law_610 rfl (lv_at hl 5 rfl) ?_
  refine lv_iconst (v := 0) hx hb dL_law_611 (by decide) ?_
  refine va_lald (f := o2) hx hb hK hP 28 1 rfl rfl (vp_in_iff.mpr (by decide)) dL_law_612 ?_
  refine lv_iload hx hb dL_law_613 (lv_at hl 0 rfl) ?_
  refine lv_i2l (v := sv.1.toInt64) hx hb dL_law_615 rfl ?_
  refine W.lcmp hx hb dL_law_616 ?_
  have hcmp : lg_cmp (o2 (0 : Int32).toNatClampNeg) sv.1.toInt64 = 0 := (lg_cmp_eq _ _).mpr (by rw [← ho, upL_at0]; exact hval)
  refine lv_if_eq (tgt := 622) hx hb dL_law_617 (by decide) (fun _ => ?_) (fun c9 => absurd hcmp c9)
  refine lv_goto (tgt := 1279) hx hb dL_law_622 (by decide) ?_
  refine W.widen (k := cc + 8) (n := ss + 64) (by omega) (by omega) ?_
  exact kk _ _ _ _ hP hD hS (lv_sub hl [2, 3, 4, 5, 6] rfl)

set_option maxHeartbeats 8000000 in
set_option maxRecDepth 100000 in
theorem law_8 {p : Program} {l : Launch} (lt : l.stackTraces = false) {e : Env} {s : State} {m : MethodId} {below : List Frame} {meth : Method} {c : Code} {dC : Nat → ClassId} {dI : Nat → Nat → Nat} {cI cL : ClassId} {ad am sa : Nat → Nat} {oa : Nat} {b L : Nat} {xs : Nat → Int32} (hL : L ≤ 2560) (C0 : lw_At p s m meth c b L xs) (hZ : ZN s) (hX : ZX sa s) (hq : zq (fun q : Nat => s.heap.size ≤ q) s s.heap) (hK : va_K (dC, dI) vwCl [(cI, .int), (cL, .long)] s) {N i : Nat} (hi : i + 5 ≤ L) (hN : 1 ≤ N) {u v u' v' : St} (hst : stepP N 8 (xs (nI i + 1).toNatClampNeg) (xs (nI i + 2).toNatClampNeg) (xs (nI i + 3).toNatClampNeg) (xs (nI i + 4).toNatClampNeg) u v u' v') {o : Nat → Int64} {H : Heap} {locs : List Loc} {cc ss : Nat} (hcc : cc + 8 ≤ 601024) (hss : ss + 64 ≤ 7293034)
    (hP : va_P (dC, dI) vwCl (low ad am oa cI cL u v o) H) (hD : va_D (fun q : Nat => s.heap.size ≤ q) (low ad am oa cI cL u v o)) (hS : va_S (fun q : Nat => s.heap.size ≤ q) s.heap H locs) {ls : Array Slot} (hl : lv_has ls 8 [(0, .ref b), (1, .ref (ad 0)), (2, .ref (am 0)), (3, .ref oa), (4, .int (nI i))])
    (kk : ∀ (o : Nat → Int64) (H : Heap) (locs : List Loc) (ls : Array Slot), va_P (dC, dI) vwCl (low ad am oa cI cL u' v' o) H → va_D (fun q : Nat => s.heap.size ≤ q) (low ad am oa cI cL u' v' o) → va_S (fun q : Nat => s.heap.size ≤ q) s.heap H locs → lv_has ls 8 [(0, .ref b), (1, .ref (ad 0)), (2, .ref (am 0)), (3, .ref oa), (4, .int (nI i))] → W p l e room_1 s m #[Value.ref b] below meth c H locs (cc + 8) (ss + 64) (lw_Z below #[Value.ref b] s) (F0 m 1279 ls [])) :
    W p l e room_1 s m #[Value.ref b] below meth c H locs cc ss (lw_Z below #[Value.ref b] s) (F0 m 625 ls []) := by
  obtain ⟨hx, hb, hr, hml, hown, hts0, hXs, hbl, hlocks, hgv⟩ := C0
  have hown : s.vm.findClass RL = some m.cls := hown
  have hts : ∀ w ∈ wsL_law, w.before #[Value.ref b] s = true := fun w h => hts0 w (wsL_law_in w h)
  have hA : ∀ q : Nat, s.heap.size ≤ q → (fun q : Nat => s.heap.size ≤ q) q := fun _ h => h
  have hbA : ¬ (fun q : Nat => s.heap.size ≤ q) b := Nat.not_le.mpr hbl
  have hin1 : vp_in (nI i + 1) L := (lw_in (j := 1) hL (by omega)).1
  have hin2 : vp_in (nI i + 2) L := (lw_in (j := 2) hL (by omega)).1
  have hin3 : vp_in (nI i + 3) L := (lw_in (j := 3) hL (by omega)).1
  have hin4 : vp_in (nI i + 4) L := (lw_in (j := 4) hL (by omega)).1
  obtain ⟨r, sv, hr0, hs0, heq, hval, hle, rfl, rfl⟩ := hst
  refine lv_aload_n hx hb dL_law_625 rfl (lv_at hl 1 rfl) ?_
  refine lv_aload_n hx hb dL_law_626 rfl (lv_at hl 0 rfl) ?_
  refine lv_iload hx hb dL_law_627 (lv_at hl 4 rfl) ?_
  refine lv_iconst (v := 1) hx hb dL_law_629 (by decide) ?_
  refine lv_iadd hx hb dL_law_630 ?_
  refine va_sld hx hb hXs hbl hbA hS hin1 dL_law_631 ?_
  refine lv_aload_n hx hb dL_law_632 rfl (lv_at hl 3 rfl) ?_
  have hPc := wp_l hP
  have hDc := wd_l hD
  have hFc := wf_of hDc hS hA
  refine va_calli (vx_runSW (As := [.ref (ad 0), .int (xs (nI i + 1).toNatClampNeg), .ref oa]) (rest := []) ⟨hx, hb, hml, hown, hts⟩ (mL_level l lt dC dI cI cL ad sa oa H.size u o (xs (nI i + 1).toNatClampNeg) N r hr0 hle) (vx_cwSW 3 hts gL_law_L_level rfl rfl rfl (by decide +kernel) ⟨Nat.le_of_ble_eq_true rfl, Nat.le_of_ble_eq_true rfl⟩) ⟨xPre_blind, xPre_of hPc hK hDc hZ hX hq hS hFc⟩ rfl rfl hl.1 rfl (lv_room (Nat.le_of_ble_eq_true rfl)) dL_law_633 ⟨show cc + 1 ≤ 601024 from by omega, show ss + 6 ≤ 7293034 from by omega⟩) hS (fun q _ h => hFc q h) hFc (fun r2 u2 t H1 locs ht hvm hw hB hz1 hk1 hS => ?_)
  obtain ⟨hP1, hK1, hD1⟩ := hB
  rw [ht] at hP1
  have e1 : r2 = nI r.1 := congrArg Prod.fst hw
  have e2 : u2 = (r.2.2, if r.1 = 0 then vp_updL o (0 : Int32).toNatClampNeg r.2.1.toInt64 else o) := congrArg Prod.snd hw
  subst r2 u2
  generalize ho : (if r.1 = 0 then vp_updL o (0 : Int32).toNatClampNeg r.2.1.toInt64 else o) = o2 at hP1 hD1
  obtain ⟨hP, hD⟩ := wj_l hP hD hk1 hFc hP1 hD1
  have hP : va_P (dC, dI) vwCl (low ad am oa cI cL r.2.2 v o2) H1 := hP
  have hD : va_D (fun q : Nat => s.heap.size ≤ q) (low ad am oa cI cL r.2.2 v o2) := hD
  clear hP1 hD1 hK1 hPc hDc hFc hk1
  generalize H1 = H at hP hS ⊢
  refine W.widen (k := cc + 1) (n := ss + 6) (by omega) (by omega) ?_
  refine lv_istore (lv' := [(5, .int (nI r.1)), (0, .ref b), (1, .ref (ad 0)), (2, .ref (am 0)), (3, .ref oa), (4, .int (nI i))]) hx hb dL_law_636 hl (by decide) rfl (fun ls hl => ?_)
  refine lv_aload_n hx hb dL_law_638 rfl (lv_at hl 3 rfl) ?_
  refine lv_aload_n hx hb dL_law_639 rfl (lv_at hl 1 rfl) ?_
  refine lv_iload hx hb dL_law_640 (lv_at hl 5 rfl) ?_
  refine lv_iconst (v := 1) hx hb dL_law_642 (by decide) ?_
  refine lv_iadd hx hb dL_law_643 ?_
  refine va_sld hx hb hXs hbl hbA hS hin1 dL_law_644 ?_
  have hPc := wp_r hP
  have hDc := wd_r hD
  have hFc := wf_of hDc hS hA
  refine va_calli (va_runV (As := [.int (xs (nI i + 1).toNatClampNeg)]) (rest := []) ⟨hx, hb, hml, hown, hts⟩ (mX5_level l dC dI cI cL am H.size v (xs (nI i + 1).toNatClampNeg) N sv hs0) (cwV 1 hts gL_law_X5_level rfl rfl rfl (by decide +kernel) ⟨Nat.le_of_ble_eq_true rfl, Nat.le_of_ble_eq_true rfl⟩) ⟨wPre_blind, va_recv hK hPc (ci := 5) (q0 := 0) rfl rfl, wPre_of hPc hK hDc hZ⟩ rfl rfl hl.1 rfl (lv_room (Nat.le_of_ble_eq_true rfl)) dL_law_645 ⟨show cc + 1 + 0 ≤ 601024 from by omega, show ss + 6 + 0 ≤ 7293034 from by omega⟩) hS (fun q _ h => hFc q h) hFc (fun r2 u2 t H1 locs ht hvm hw hB hz1 hk1 hS => ?_)
  obtain ⟨hP1, hK1, hD1⟩ := hB
  rw [ht] at hP1
  have e1 : r2 = sv.1 := congrArg Prod.fst hw
  have e2 : u2 = sv.2 := congrArg Prod.snd hw
  subst r2 u2
  obtain ⟨hP, hD⟩ := wj_r hP hD hk1 hFc hP1 hD1
  have hP : va_P (dC, dI) vwCl (low ad am oa cI cL r.2.2 sv.2 o2) H1 := hP
  have hD : va_D (fun q : Nat => s.heap.size ≤ q) (low ad am oa cI cL r.2.2 sv.2 o2) := hD
  clear hP1 hD1 hK1 hPc hDc hFc hk1
  generalize H1 = H at hP hS ⊢
  refine lv_istore (lv' := [(6, .int sv.1), (5, .int (nI r.1)), (0, .ref b), (1, .ref (ad 0)), (2, .ref (am 0)), (3, .ref oa), (4, .int (nI i))]) hx hb dL_law_648 hl (by decide) rfl (fun ls hl => ?_)
  refine lv_aload_n hx hb dL_law_650 rfl (lv_at hl 4 rfl) ?_
  have hPc := wp_r hP
  have hDc := wd_r hD
  have hFc := wf_of hDc hS hA
  refine va_calli (va_runV (As := []) (rest := []) ⟨hx, hb, hml, hown, hts⟩ (mX5_thrown l dC dI cI cL am H.size sv.2  N (gI sv.2 0, sv.2) (FX5_thrown_N N sv.2 hN)) (cwV 0 hts gL_law_X5_thrown rfl rfl rfl (by decide +kernel) ⟨Nat.le_of_ble_eq_true rfl, Nat.le_of_ble_eq_true rfl⟩) ⟨wPre_blind, va_recv hK hPc (ci := 5) (q0 := 0) rfl rfl, wPre_of hPc hK hDc hZ⟩ rfl rfl hl.1 rfl (lv_room (Nat.le_of_ble_eq_true rfl)) dL_law_651 ⟨show cc + 1 + 0 ≤ 601024 from by omega, show ss + 6 + 0 ≤ 7293034 from by omega⟩) hS (fun q _ h => hFc q h) hFc (fun r2 u2 t H1 locs ht hvm hw hB hz1 hk1 hS => ?_)
  obtain ⟨hP1, hK1, hD1⟩ := hB
  rw [ht] at hP1
  have e1 : r2 = gI sv.2 0 := congrArg Prod.fst hw
  have e2 : u2 = sv.2 := congrArg Prod.snd hw
  subst r2 u2
  obtain ⟨hP, hD⟩ := wj_r hP hD hk1 hFc hP1 hD1
  have hP : va_P (dC, dI) vwCl (low ad am oa cI cL r.2.2 sv.2 o2) H1 := hP
  have hD : va_D (fun q : Nat => s.heap.size ≤ q) (low ad am oa cI cL r.2.2 sv.2 o2) := hD
  clear hP1 hD1 hK1 hPc hDc hFc hk1
  generalize H1 = H at hP hS ⊢
  refine lv_iload hx hb dL_law_654 (lv_at hl 1 rfl) ?_
  refine lv_icmp_eq (tgt := 661) hx hb dL_law_656 (by decide) (fun _ => ?_) (fun c9 => absurd heq c9)
  refine lv_iload hx hb dL_law_661 (lv_at hl 1 rfl) ?_
  refine lv_if_ne (tgt := 678) hx hb dL_law_663 (by decide) (fun c9 => ?_) (fun c9 => ?_)
  · skip
    refine lv_goto (tgt := 1279) hx hb dL_law_678 (by decide) ?_
    refine W.widen (k := cc + 8) (n := ss + 64) (by omega) (by omega) ?_
    exact kk _ _ _ _ hP hD hS (lv_sub hl [2, 3, 4, 5, 6] rfl)
  have hz : r.1 = 0 := by
    rcases Nat.eq_zero_or_pos r.1 with h | h
    · exact h
    · exact absurd c9 (nI_ne0 h (by omega))
  rw [if_pos hz] at ho
  have hval := hval hz
  refine lv_aload_n hx hb dL_law_666 rfl (lv_at hl 5 rfl) ?_
  refine lv_iconst (v := 0) hx hb dL_law_667 (by decide) ?_
  refine va_lald (f := o2) hx hb hK hP 28 1 rfl rfl (vp_in_iff.mpr (by decide)) dL_law_668 ?_
  refine lv_iload hx hb dL_law_669 (lv_at hl 0 rfl) ?_
  refine lv_i2l (v := sv.1.toInt64) hx hb dL_law_671 rfl ?_
  refine W.lcmp hx hb dL_law_672 ?_
  have hcmp : lg_cmp (o2 (0 : Int32).toNatClampNeg) sv.1.toInt64 = 0 := (lg_cmp_eq _ _).mpr (by rw [← ho, upL_at0]; exact hval)
  refine lv_if_eq (tgt := 678) hx hb dL_law_673 (by decide) (fun _ => ?_) (fun c9 => absurd hcmp c9)
  refine lv_goto (tgt := 1279) hx hb dL_law_678 (by decide) ?_
  refine W.widen (k := cc + 8) (n := ss + 64) (by omega) (by omega) ?_
  exact kk _ _ _ _ hP hD hS (lv_sub hl [2, 3, 4, 5, 6] rfl)

set_option maxHeartbeats 8000000 in
set_option maxRecDepth 100000 in
theorem law_9 {p : Program} {l : Launch} (lt : l.stackTraces = false) {e : Env} {s : State} {m : MethodId} {below : List Frame} {meth : Method} {c : Code} {dC : Nat → ClassId} {dI : Nat → Nat → Nat} {cI cL : ClassId} {ad am sa : Nat → Nat} {oa : Nat} {b L : Nat} {xs : Nat → Int32} (hL : L ≤ 2560) (C0 : lw_At p s m meth c b L xs) (hZ : ZN s) (hX : ZX sa s) (hq : zq (fun q : Nat => s.heap.size ≤ q) s s.heap) (hK : va_K (dC, dI) vwCl [(cI, .int), (cL, .long)] s) {N i : Nat} (hi : i + 5 ≤ L) (hN : 1 ≤ N) {u v u' v' : St} (hst : stepP N 9 (xs (nI i + 1).toNatClampNeg) (xs (nI i + 2).toNatClampNeg) (xs (nI i + 3).toNatClampNeg) (xs (nI i + 4).toNatClampNeg) u v u' v') {o : Nat → Int64} {H : Heap} {locs : List Loc} {cc ss : Nat} (hcc : cc + 8 ≤ 601024) (hss : ss + 64 ≤ 7293034)
    (hP : va_P (dC, dI) vwCl (low ad am oa cI cL u v o) H) (hD : va_D (fun q : Nat => s.heap.size ≤ q) (low ad am oa cI cL u v o)) (hS : va_S (fun q : Nat => s.heap.size ≤ q) s.heap H locs) {ls : Array Slot} (hl : lv_has ls 8 [(0, .ref b), (1, .ref (ad 0)), (2, .ref (am 0)), (3, .ref oa), (4, .int (nI i))])
    (kk : ∀ (o : Nat → Int64) (H : Heap) (locs : List Loc) (ls : Array Slot), va_P (dC, dI) vwCl (low ad am oa cI cL u' v' o) H → va_D (fun q : Nat => s.heap.size ≤ q) (low ad am oa cI cL u' v' o) → va_S (fun q : Nat => s.heap.size ≤ q) s.heap H locs → lv_has ls 8 [(0, .ref b), (1, .ref (ad 0)), (2, .ref (am 0)), (3, .ref oa), (4, .int (nI i))] → W p l e room_1 s m #[Value.ref b] below meth c H locs (cc + 8) (ss + 64) (lw_Z below #[Value.ref b] s) (F0 m 1279 ls [])) :
    W p l e room_1 s m #[Value.ref b] below meth c H locs cc ss (lw_Z below #[Value.ref b] s) (F0 m 681 ls []) := by
  obtain ⟨hx, hb, hr, hml, hown, hts0, hXs, hbl, hlocks, hgv⟩ := C0
  have hown : s.vm.findClass RL = some m.cls := hown
  have hts : ∀ w ∈ wsL_law, w.before #[Value.ref b] s = true := fun w h => hts0 w (wsL_law_in w h)
  have hA : ∀ q : Nat, s.heap.size ≤ q → (fun q : Nat => s.heap.size ≤ q) q := fun _ h => h
  have hbA : ¬ (fun q : Nat => s.heap.size ≤ q) b := Nat.not_le.mpr hbl
  have hin1 : vp_in (nI i + 1) L := (lw_in (j := 1) hL (by omega)).1
  have hin2 : vp_in (nI i + 2) L := (lw_in (j := 2) hL (by omega)).1
  have hin3 : vp_in (nI i + 3) L := (lw_in (j := 3) hL (by omega)).1
  have hin4 : vp_in (nI i + 4) L := (lw_in (j := 4) hL (by omega)).1
  obtain ⟨r, sv, hr0, hs0, heq, hval, hle, rfl, rfl⟩ := hst
  refine lv_aload_n hx hb dL_law_681 rfl (lv_at hl 1 rfl) ?_
  refine lv_aload_n hx hb dL_law_682 rfl (lv_at hl 0 rfl) ?_
  refine lv_iload hx hb dL_law_683 (lv_at hl 4 rfl) ?_
  refine lv_iconst (v := 1) hx hb dL_law_685 (by decide) ?_
  refine lv_iadd hx hb dL_law_686 ?_
  refine va_sld hx hb hXs hbl hbA hS hin1 dL_law_687 ?_
  refine lv_aload_n hx hb dL_law_688 rfl (lv_at hl 3 rfl) ?_
  have hPc := wp_l hP
  have hDc := wd_l hD
  have hFc := wf_of hDc hS hA
  refine va_calli (vx_runSW (As := [.ref (ad 0), .int (xs (nI i + 1).toNatClampNeg), .ref oa]) (rest := []) ⟨hx, hb, hml, hown, hts⟩ (mL_even l lt dC dI cI cL ad sa oa H.size u o (xs (nI i + 1).toNatClampNeg) N r hr0 hle) (vx_cwSW 3 hts gL_law_L_even rfl rfl rfl (by decide +kernel) ⟨Nat.le_of_ble_eq_true rfl, Nat.le_of_ble_eq_true rfl⟩) ⟨xPre_blind, xPre_of hPc hK hDc hZ hX hq hS hFc⟩ rfl rfl hl.1 rfl (lv_room (Nat.le_of_ble_eq_true rfl)) dL_law_689 ⟨show cc + 1 ≤ 601024 from by omega, show ss + 6 ≤ 7293034 from by omega⟩) hS (fun q _ h => hFc q h) hFc (fun r2 u2 t H1 locs ht hvm hw hB hz1 hk1 hS => ?_)
  obtain ⟨hP1, hK1, hD1⟩ := hB
  rw [ht] at hP1
  have e1 : r2 = nI r.1 := congrArg Prod.fst hw
  have e2 : u2 = (r.2.2, if r.1 = 0 then vp_updL o (0 : Int32).toNatClampNeg r.2.1 else o) := congrArg Prod.snd hw
  subst r2 u2
  generalize ho : (if r.1 = 0 then vp_updL o (0 : Int32).toNatClampNeg r.2.1 else o) = o2 at hP1 hD1
  obtain ⟨hP, hD⟩ := wj_l hP hD hk1 hFc hP1 hD1
  have hP : va_P (dC, dI) vwCl (low ad am oa cI cL r.2.2 v o2) H1 := hP
  have hD : va_D (fun q : Nat => s.heap.size ≤ q) (low ad am oa cI cL r.2.2 v o2) := hD
  clear hP1 hD1 hK1 hPc hDc hFc hk1
  generalize H1 = H at hP hS ⊢
  refine W.widen (k := cc + 1) (n := ss + 6) (by omega) (by omega) ?_
  refine lv_istore (lv' := [(5, .int (nI r.1)), (0, .ref b), (1, .ref (ad 0)), (2, .ref (am 0)), (3, .ref oa), (4, .int (nI i))]) hx hb dL_law_692 hl (by decide) rfl (fun ls hl => ?_)
  refine lv_aload_n hx hb dL_law_694 rfl (lv_at hl 3 rfl) ?_
  refine lv_aload_n hx hb dL_law_695 rfl (lv_at hl 1 rfl) ?_
  refine lv_iload hx hb dL_law_696 (lv_at hl 5 rfl) ?_
  refine lv_iconst (v := 1) hx hb dL_law_698 (by decide) ?_
  refine lv_iadd hx hb dL_law_699 ?_
  refine va_sld hx hb hXs hbl hbA hS hin1 dL_law_700 ?_
  have hPc := wp_r hP
  have hDc := wd_r hD
  have hFc := wf_of hDc hS hA
  refine va_calll (va_runV (As := [.int (xs (nI i + 1).toNatClampNeg)]) (rest := []) ⟨hx, hb, hml, hown, hts⟩ (mX5_even l dC dI cI cL am H.size v (xs (nI i + 1).toNatClampNeg) N sv hs0) (cwV 1 hts gL_law_X5_even rfl rfl rfl (by decide +kernel) ⟨Nat.le_of_ble_eq_true rfl, Nat.le_of_ble_eq_true rfl⟩) ⟨wPre_blind, va_recv hK hPc (ci := 5) (q0 := 0) rfl rfl, wPre_of hPc hK hDc hZ⟩ rfl rfl hl.1 rfl (lv_room (Nat.le_of_ble_eq_true rfl)) dL_law_701 ⟨show cc + 1 + 0 ≤ 601024 from by omega, show ss + 6 + 0 ≤ 7293034 from by omega⟩) hS (fun q _ h => hFc q h) hFc (fun r2 u2 t H1 locs ht hvm hw hB hz1 hk1 hS => ?_)
  obtain ⟨hP1, hK1, hD1⟩ := hB
  rw [ht] at hP1
  have e1 : r2 = sv.1 := congrArg Prod.fst hw
  have e2 : u2 = sv.2 := congrArg Prod.snd hw
  subst r2 u2
  obtain ⟨hP, hD⟩ := wj_r hP hD hk1 hFc hP1 hD1
  have hP : va_P (dC, dI) vwCl (low ad am oa cI cL r.2.2 sv.2 o2) H1 := hP
  have hD : va_D (fun q : Nat => s.heap.size ≤ q) (low ad am oa cI cL r.2.2 sv.2 o2) := hD
  clear hP1 hD1 hK1 hPc hDc hFc hk1
  generalize H1 = H at hP hS ⊢
  refine lv_lstore (lv' := [(6, .long sv.1), (5, .int (nI r.1)), (0, .ref b), (1, .ref (ad 0)), (2, .ref (am 0)), (3, .ref oa), (4, .int (nI i))]) hx hb dL_law_704 hl (by decide) rfl (fun ls hl => ?_)
  refine lv_aload_n hx hb dL_law_706 rfl (lv_at hl 4 rfl) ?_
  have hPc := wp_r hP
  have hDc := wd_r hD
  have hFc := wf_of hDc hS hA
  refine va_calli (va_runV (As := []) (rest := []) ⟨hx, hb, hml, hown, hts⟩ (mX5_thrown l dC dI cI cL am H.size sv.2  N (gI sv.2 0, sv.2) (FX5_thrown_N N sv.2 hN)) (cwV 0 hts gL_law_X5_thrown rfl rfl rfl (by decide +kernel) ⟨Nat.le_of_ble_eq_true rfl, Nat.le_of_ble_eq_true rfl⟩) ⟨wPre_blind, va_recv hK hPc (ci := 5) (q0 := 0) rfl rfl, wPre_of hPc hK hDc hZ⟩ rfl rfl hl.1 rfl (lv_room (Nat.le_of_ble_eq_true rfl)) dL_law_707 ⟨show cc + 1 + 0 ≤ 601024 from by omega, show ss + 6 + 0 ≤ 7293034 from by omega⟩) hS (fun q _ h => hFc q h) hFc (fun r2 u2 t H1 locs ht hvm hw hB hz1 hk1 hS => ?_)
  obtain ⟨hP1, hK1, hD1⟩ := hB
  rw [ht] at hP1
  have e1 : r2 = gI sv.2 0 := congrArg Prod.fst hw
  have e2 : u2 = sv.2 := congrArg Prod.snd hw
  subst r2 u2
  obtain ⟨hP, hD⟩ := wj_r hP hD hk1 hFc hP1 hD1
  have hP : va_P (dC, dI) vwCl (low ad am oa cI cL r.2.2 sv.2 o2) H1 := hP
  have hD : va_D (fun q : Nat => s.heap.size ≤ q) (low ad am oa cI cL r.2.2 sv.2 o2) := hD
  clear hP1 hD1 hK1 hPc hDc hFc hk1
  generalize H1 = H at hP hS ⊢
  refine lv_iload hx hb dL_law_710 (lv_at hl 1 rfl) ?_
  refine lv_icmp_eq (tgt := 717) hx hb dL_law_712 (by decide) (fun _ => ?_) (fun c9 => absurd heq c9)
  refine lv_iload hx hb dL_law_717 (lv_at hl 1 rfl) ?_
  refine lv_if_ne (tgt := 733) hx hb dL_law_719 (by decide) (fun c9 => ?_) (fun c9 => ?_)
  · skip
    refine lv_goto (tgt := 1279) hx hb dL_law_733 (by decide) ?_
    refine W.widen (k := cc + 8) (n := ss + 64) (by omega) (by omega) ?_
    exact kk _ _ _ _ hP hD hS (lv_sub hl [2, 3, 4, 5, 6] rfl)
  have hz : r.1 = 0 := by
    rcases Nat.eq_zero_or_pos r.1 with h | h
    · exact h
    · exact absurd c9 (nI_ne0 h (by omega))
  rw [if_pos hz] at ho
  have hval := hval hz
  refine lv_aload_n hx hb dL_law_722 rfl (lv_at hl 5 rfl) ?_
  refine lv_iconst (v := 0) hx hb dL_law_723 (by decide) ?_
  refine va_lald (f := o2) hx hb hK hP 28 1 rfl rfl (vp_in_iff.mpr (by decide)) dL_law_724 ?_
  refine lv_lload hx hb dL_law_725 (lv_at hl 0 rfl) ?_
  refine W.lcmp hx hb dL_law_727 ?_
  have hcmp : lg_cmp (o2 (0 : Int32).toNatClampNeg) sv.1 = 0 := (lg_cmp_eq _ _).mpr (by rw [← ho, upL_at0]; exact hval)
  refine lv_if_eq (tgt := 733) hx hb dL_law_728 (by decide) (fun _ => ?_) (fun c9 => absurd hcmp c9)
  refine lv_goto (tgt := 1279) hx hb dL_law_733 (by decide) ?_
  refine W.widen (k := cc + 8) (n := ss + 64) (by omega) (by omega) ?_
  exact kk _ _ _ _ hP hD hS (lv_sub hl [2, 3, 4, 5, 6] rfl)

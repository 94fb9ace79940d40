/-! the law's loop -/
set_option maxHeartbeats 8000000 in
set_option maxRecDepth 100000 in
theorem law_loop {p : Program} {l : Launch} (lt : l.stackTraces = false) {e : Env} {s : State} {m : MethodId} {below : List Frame} {meth : Method} {c : Code} {dC : Nat → ClassId} {dI : Nat → Nat → Nat} {cI cL : ClassId} {ad am sa : Nat → Nat} {oa : Nat} {b L : Nat} {xs : Nat → Int32} (hL : L ≤ 2560) (C0 : lw_At p s m meth c b L xs) (hZ : ZN s) (hX : ZX sa s) (hq : zq (fun q : Nat => s.heap.size ≤ q) s s.heap) (hK : va_K (dC, dI) vwCl [(cI, .int), (cL, .long)] s) {N : Nat} (hN : 1 ≤ N) :
    ∀ (k i : Nat) (u v : St) (o : Nat → Int64) (H : Heap) (locs : List Loc) (cc ss : Nat) (ls : Array Slot), lawR N xs L k i u v → i ≤ 2565 → cc + 8 * k ≤ 601024 → ss + 64 * k ≤ 7293034 → va_P (dC, dI) vwCl (low ad am oa cI cL u v o) H → va_D (fun q : Nat => s.heap.size ≤ q) (low ad am oa cI cL u v o) → va_S (fun q : Nat => s.heap.size ≤ q) s.heap H locs → lv_has ls 8 [(0, .ref b), (1, .ref (ad 0)), (2, .ref (am 0)), (3, .ref oa), (4, .int (nI i))] →
    W p l e room_1 s m #[Value.ref b] below meth c H locs cc ss (lw_Z below #[Value.ref b] s) (F0 m 23 ls []) := by
  obtain ⟨hx, hb, hr, hml, hown, hts0, hXs, hbl, hlocks, hgv⟩ := id C0
  have hbA : ¬ (fun q : Nat => s.heap.size ≤ q) b := Nat.not_le.mpr hbl
  intro k
  induction k with
  | zero =>
    intro i u v o H locs cc ss ls hR hi hcc hss hP hD hS hl
    have hR : L < i + 5 := hR
    refine lv_iload hx hb dL_law_23 (lv_at hl 4 rfl) ?_
    refine lv_aload_n hx hb dL_law_25 rfl (lv_at hl 0 rfl) ?_
    refine va_slen hx hb hXs hbl hbA hS dL_law_26 ?_
    refine lv_iconst (v := 5) hx hb dL_law_27 (by decide) ?_
    refine lv_isub hx hb dL_law_28 ?_
    refine lv_icmp_gt (tgt := 1285) hx hb dL_law_29 (by decide) (fun _ => ?_) (fun c9 => absurd ((lw_cond hL (by omega)).mpr hR) c9)
    refine lv_iconst (v := 1) hx hb dL_law_1285 (by decide) ?_
    refine va_forget (fun q h => hS.2.2 q h) ?_
    refine W.widen (k := 601024) (n := 7293034) (by omega) (by omega) ?_
    exact lw_ret hx hb hr hlocks dL_law_1286
  | succ k ih =>
    intro i u v o H locs cc ss ls hR hi hcc hss hP hD hS hl
    refine lv_iload hx hb dL_law_23 (lv_at hl 4 rfl) ?_
    refine lv_aload_n hx hb dL_law_25 rfl (lv_at hl 0 rfl) ?_
    refine va_slen hx hb hXs hbl hbA hS dL_law_26 ?_
    refine lv_iconst (v := 5) hx hb dL_law_27 (by decide) ?_
    refine lv_isub hx hb dL_law_28 ?_
    refine lv_icmp_gt (tgt := 1285) hx hb dL_law_29 (by decide) (fun _ => ?_) (fun c9 => ?_)
    · refine lv_iconst (v := 1) hx hb dL_law_1285 (by decide) ?_
      refine va_forget (fun q h => hS.2.2 q h) ?_
      refine W.widen (k := 601024) (n := 7293034) (by omega) (by omega) ?_
      exact lw_ret hx hb hr hlocks dL_law_1286
    · have hi5 : i + 5 ≤ L := by
        rcases Nat.lt_or_ge L (i + 5) with h | h
        · exact absurd ((lw_cond hL (by omega)).mpr h) c9
        · exact h
      rcases hR with h | ⟨u', v', hst, hrest⟩
      · omega
      have q0 : (nI i).toNatClampNeg = i := nI_clamp (by omega)
      have q1 : (nI i + 1).toNatClampNeg = i + 1 := (lw_in (j := 1) hL (by omega)).2
      have q2 : (nI i + 2).toNatClampNeg = i + 2 := (lw_in (j := 2) hL (by omega)).2
      have q3 : (nI i + 3).toNatClampNeg = i + 3 := (lw_in (j := 3) hL (by omega)).2
      have q4 : (nI i + 4).toNatClampNeg = i + 4 := (lw_in (j := 4) hL (by omega)).2
      have hin : vp_in (nI i) L := vp_in_nI (by omega) (by omega)
      refine lv_aload_n hx hb dL_law_32 rfl (lv_at hl 0 rfl) ?_
      refine lv_iload hx hb dL_law_33 (lv_at hl 4 rfl) ?_
      refine va_sld hx hb hXs hbl hbA hS hin dL_law_35 ?_
      refine lv_bipush (v := 31) hx hb dL_law_36 (by decide) ?_
      refine lv_iand hx hb dL_law_38 ?_
      rw [q0]
      obtain ⟨j, hj, ej⟩ := pk_andE (xs i) (m := 31) 5 rfl
      have eo : opj (xs i) = j := by unfold opj; rw [ej]; exact nI_clamp (by omega)
      rw [eo, ← q1, ← q2, ← q3, ← q4] at hst
      rw [ej]
      have kk : ∀ (o : Nat → Int64) (H : Heap) (locs : List Loc) (ls : Array Slot), va_P (dC, dI) vwCl (low ad am oa cI cL u' v' o) H → va_D (fun q : Nat => s.heap.size ≤ q) (low ad am oa cI cL u' v' o) → va_S (fun q : Nat => s.heap.size ≤ q) s.heap H locs → lv_has ls 8 [(0, .ref b), (1, .ref (ad 0)), (2, .ref (am 0)), (3, .ref oa), (4, .int (nI i))] → W p l e room_1 s m #[Value.ref b] below meth c H locs (cc + 8) (ss + 64) (lw_Z below #[Value.ref b] s) (F0 m 1279 ls []) := by
        intro o H locs ls hP hD hS hl
        refine lv_iinc (v := nI (i + 5)) (lv' := [(4, .int (nI (i + 5))), (0, .ref b), (1, .ref (ad 0)), (2, .ref (am 0)), (3, .ref oa)]) hx hb dL_law_1279 hl (k := 4) rfl (by rw [show Int32.ofInt 5 = nI 5 by decide]; exact nI_add i 5) (by decide) rfl (fun ls hl => ?_)
        refine lv_goto (tgt := 23) hx hb dL_law_1282 (by decide) ?_
        exact ih (i + 5) u' v' o H locs (cc + 8) (ss + 64) ls hrest (by omega) (by omega) (by omega) hP hD hS (lv_sub hl [1, 2, 3, 4, 0] rfl)
      have hcc8 : cc + 8 ≤ 601024 := by omega
      have hss8 : ss + 64 ≤ 7293034 := by omega
      rcases (show j = 0 ∨ j = 1 ∨ j = 2 ∨ j = 3 ∨ j = 4 ∨ j = 5 ∨ j = 6 ∨ j = 7 ∨ j = 8 ∨ j = 9 ∨ j = 10 ∨ j = 11 ∨ j = 12 ∨ j = 13 ∨ j = 14 ∨ j = 15 ∨ j = 16 ∨ j = 17 ∨ j = 18 ∨ j = 19 ∨ 20 ≤ j by omega) with rfl | rfl | rfl | rfl | rfl | rfl | rfl | rfl | rfl | rfl | rfl | rfl | rfl | rfl | rfl | rfl | rfl | rfl | rfl | rfl | hj2
      · refine lv_tableIn (tgt := 132) (off := 93) hx hb dL_law_39 (by decide) (by decide) (by decide) (by decide) ?_
        exact law_0 lt hL C0 hZ hX hq hK hi5 hN hst hcc8 hss8 hP hD hS hl kk
      · refine lv_tableIn (tgt := 224) (off := 185) hx hb dL_law_39 (by decide) (by decide) (by decide) (by decide) ?_
        exact law_1 lt hL C0 hZ hX hq hK hi5 hN hst hcc8 hss8 hP hD hS hl kk
      · refine lv_tableIn (tgt := 292) (off := 253) hx hb dL_law_39 (by decide) (by decide) (by decide) (by decide) ?_
        exact law_2 lt hL C0 hZ hX hq hK hi5 hN hst hcc8 hss8 hP hD hS hl kk
      · refine lv_tableIn (tgt := 372) (off := 333) hx hb dL_law_39 (by decide) (by decide) (by decide) (by decide) ?_
        exact law_3 lt hL C0 hZ hX hq hK hi5 hN hst hcc8 hss8 hP hD hS hl kk
      · refine lv_tableIn (tgt := 428) (off := 389) hx hb dL_law_39 (by decide) (by decide) (by decide) (by decide) ?_
        exact law_4 lt hL C0 hZ hX hq hK hi5 hN hst hcc8 hss8 hP hD hS hl kk
      · refine lv_tableIn (tgt := 476) (off := 437) hx hb dL_law_39 (by decide) (by decide) (by decide) (by decide) ?_
        exact law_5 lt hL C0 hZ hX hq hK hi5 hN hst hcc8 hss8 hP hD hS hl kk
      · refine lv_tableIn (tgt := 556) (off := 517) hx hb dL_law_39 (by decide) (by decide) (by decide) (by decide) ?_
        exact law_6 lt hL C0 hZ hX hq hK hi5 hst hcc8 hss8 hP hD hS hl kk
      · refine lv_tableIn (tgt := 569) (off := 530) hx hb dL_law_39 (by decide) (by decide) (by decide) (by decide) ?_
        exact law_7 lt hL C0 hZ hX hq hK hi5 hN hst hcc8 hss8 hP hD hS hl kk
      · refine lv_tableIn (tgt := 625) (off := 586) hx hb dL_law_39 (by decide) (by decide) (by decide) (by decide) ?_
        exact law_8 lt hL C0 hZ hX hq hK hi5 hN hst hcc8 hss8 hP hD hS hl kk
      · refine lv_tableIn (tgt := 681) (off := 642) hx hb dL_law_39 (by decide) (by decide) (by decide) (by decide) ?_
        exact law_9 lt hL C0 hZ hX hq hK hi5 hN hst hcc8 hss8 hP hD hS hl kk
      · refine lv_tableIn (tgt := 736) (off := 697) hx hb dL_law_39 (by decide) (by decide) (by decide) (by decide) ?_
        exact law_10 lt hL C0 hZ hX hq hK hi5 hN hst hcc8 hss8 hP hD hS hl kk
      · refine lv_tableIn (tgt := 804) (off := 765) hx hb dL_law_39 (by decide) (by decide) (by decide) (by decide) ?_
        exact law_11 lt hL C0 hZ hX hq hK hi5 hst hcc8 hss8 hP hD hS hl kk
      · refine lv_tableIn (tgt := 817) (off := 778) hx hb dL_law_39 (by decide) (by decide) (by decide) (by decide) ?_
        exact law_12 lt hL C0 hZ hX hq hK hi5 hN hst hcc8 hss8 hP hD hS hl kk
      · refine lv_tableIn (tgt := 873) (off := 834) hx hb dL_law_39 (by decide) (by decide) (by decide) (by decide) ?_
        exact law_13 lt hL C0 hZ hX hq hK hi5 hN hst hcc8 hss8 hP hD hS hl kk
      · refine lv_tableIn (tgt := 928) (off := 889) hx hb dL_law_39 (by decide) (by decide) (by decide) (by decide) ?_
        exact law_14 lt hL C0 hZ hX hq hK hi5 hN hst hcc8 hss8 hP hD hS hl kk
      · refine lv_tableIn (tgt := 976) (off := 937) hx hb dL_law_39 (by decide) (by decide) (by decide) (by decide) ?_
        exact law_15 lt hL C0 hZ hX hq hK hi5 hN hst hcc8 hss8 hP hD hS hl kk
      · refine lv_tableIn (tgt := 1044) (off := 1005) hx hb dL_law_39 (by decide) (by decide) (by decide) (by decide) ?_
        exact law_16 lt hL C0 hZ hX hq hK hi5 hN hst hcc8 hss8 hP hD hS hl kk
      · refine lv_tableIn (tgt := 1100) (off := 1061) hx hb dL_law_39 (by decide) (by decide) (by decide) (by decide) ?_
        exact law_17 lt hL C0 hZ hX hq hK hi5 hN hst hcc8 hss8 hP hD hS hl kk
      · refine lv_tableIn (tgt := 1156) (off := 1117) hx hb dL_law_39 (by decide) (by decide) (by decide) (by decide) ?_
        exact law_18 lt hL C0 hZ hX hq hK hi5 hN hst hcc8 hss8 hP hD hS hl kk
      · refine lv_tableIn (tgt := 1224) (off := 1185) hx hb dL_law_39 (by decide) (by decide) (by decide) (by decide) ?_
        exact law_19 lt hL C0 hZ hX hq hK hi5 hN hst hcc8 hss8 hP hD hS hl kk
      · obtain ⟨n, rfl⟩ : ∃ n, j = n + 20 := ⟨j - 20, by omega⟩
        obtain ⟨rfl, rfl⟩ : u' = u ∧ v' = v := hst
        refine lv_tableOut (tgt := 1279) hx hb dL_law_39 (Or.inr (by rw [nI_toInt (by omega)]; omega)) (by decide) ?_
        refine W.widen (k := cc + 8) (n := ss + 64) (by omega) (by omega) ?_
        exact kk o H locs ls hP hD hS hl

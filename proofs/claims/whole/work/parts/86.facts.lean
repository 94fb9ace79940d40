/-! what the start gives, beside the words -/
theorem wd_rot {A : Nat → Prop} {a b c : va_W} (h : va_D A ((a ++ b) ++ c)) : va_D A ((a ++ c) ++ b) := by
  refine va_D.app (va_D.app (wd_l (wd_l h)) (wd_r h) (fun i j p q hi hj e => ?_)) (wd_r (wd_l h)) (fun i j p q hi hj e => ?_)
  · have hlt : i < a.length := (List.getElem?_eq_some_iff.mp hi).1
    exact wd_x h (i := i) (by rw [List.getElem?_append_left hlt]; exact hi) hj e
  · by_cases hlt : i < a.length
    · rw [List.getElem?_append_left hlt] at hi
      exact wd_x (wd_l h) hi hj e
    · rw [List.getElem?_append_right (by omega)] at hi
      exact wd_x h (i := a.length + j) (by rw [List.getElem?_append_right (by omega), Nat.add_sub_cancel_left]; exact hj) hi e.symm
theorem wp_rot {D : va_G} {cl : List vw_C} {a b c : va_W} {H : Heap} (h : va_P D cl ((a ++ b) ++ c) H) : va_P D cl ((a ++ c) ++ b) H := va_P.app (va_P.app (wp_l (wp_l h)) (wp_r h)) (wp_r (wp_l h))
set_option maxRecDepth 100000 in
theorem ls_ZN {s : State} {b : Nat} (hts : ∀ w ∈ lw_tbl, w.before #[Value.ref b] s = true) : ZN s :=
  ⟨va_Nw.of rfl (hts (.methodLinkNest RX0 85 yX4_quotient RX4) (by decide +kernel)), va_Nw.of rfl (hts (.methodLinkNest RX1 86 yX4_quotient RX4) (by decide +kernel)), va_Nw.of rfl (hts (.methodLinkNest RX2 57 yX4_quotient RX4) (by decide +kernel)), va_Nw.of rfl (hts (.methodLinkNest RX3 80 yX4_quotient RX4) (by decide +kernel))⟩
set_option maxRecDepth 100000 in
theorem ls_ZX {s : State} {b : Nat} (hts : ∀ w ∈ lw_tbl, w.before #[Value.ref b] s = true) (hgv : (Jvm.Cond.and given_1 narrow_1).before #[Value.ref b] s = true) : ∃ sa, ZX sa s := by
  have hf := flat_of_before _ hgv
  obtain ⟨a0, -, -, -, e0, -⟩ := Cond.exactly_spec (hf (.exactly (.string "LampChoice" 174) "java/lang/String") (by decide +kernel))
  obtain ⟨a1, -, -, -, e1, -⟩ := Cond.exactly_spec (hf (.exactly (.string "LampChoice" 177) "java/lang/String") (by decide +kernel))
  obtain ⟨a2, -, -, -, e2, -⟩ := Cond.exactly_spec (hf (.exactly (.string "LampChoice" 148) "java/lang/String") (by decide +kernel))
  exact ⟨fun k => if k = 0 then a0 else if k = 1 then a1 else a2, va_Nw.of rfl (hts _ (by decide +kernel)), va_Nw.of rfl (hts _ (by decide +kernel)), va_Nw.of rfl (hts _ (by decide +kernel)), va_Nw.of rfl (hts _ (by decide +kernel)), va_Nw.of rfl (hts _ (by decide +kernel)),
    vk_R.of (hts (.stringRef RX4 174 "a number is out of its bounds, or there is no such thing") (by decide +kernel)) e0, vk_R.of (hts (.stringRef RX4 177 "there are as many as there may be") (by decide +kernel)) e1, vk_R.of (hts (.stringRef RX4 148 "there would be too many minutes") (by decide +kernel)) e2,
    va_Nc.of (hf (.not (.castable "java/lang/IllegalStateException" "java/lang/IllegalArgumentException")) (by decide +kernel))⟩
set_option maxRecDepth 100000 in
theorem ls_zq {s : State} {b : Nat} (hts : ∀ w ∈ lw_tbl, w.before #[Value.ref b] s = true) (hgv : (Jvm.Cond.and given_1 narrow_1).before #[Value.ref b] s = true) : zq (fun q : Nat => s.heap.size ≤ q) s s.heap := by
  have hf := flat_of_before _ hgv
  have hA : ∀ a : Nat, a < s.heap.size → ¬ (fun q : Nat => s.heap.size ≤ q) a := fun a h => Nat.not_le.mpr h
  exact ⟨vx_Zqof (args := #[Value.ref b]) (hts (.laysStatic Bundle.tN "UNASSIGNED_STACK" Bundle.steD) (by decide +kernel)) (hts (.initialized Bundle.tN) (by decide +kernel)) (hf (.isRef (.static Bundle.tN "UNASSIGNED_STACK" Bundle.steD)) (by decide +kernel)) hA,
    vx_Zqof (args := #[Value.ref b]) (hts (.laysStatic Bundle.tN "SUPPRESSED_SENTINEL" Bundle.listD) (by decide +kernel)) (hts (.initialized Bundle.tN) (by decide +kernel)) (hf (.isRef (.static Bundle.tN "SUPPRESSED_SENTINEL" Bundle.listD)) (by decide +kernel)) hA⟩
set_option maxRecDepth 100000 in
theorem ls_K {s : State} {b : Nat} (hts : ∀ w ∈ lw_tbl, w.before #[Value.ref b] s = true) : ∃ (dC : Nat → ClassId) (dI : Nat → Nat → Nat) (cI cL : ClassId), va_K (dC, dI) vwCl [(cI, .int), (cL, .long)] s := by
  obtain ⟨c0, iS0, hKn0⟩ := u_known (C := RX0) (T := TX0) (N := 12) (n := 12) hts inX0 (hts (.instantiable RX0 12) (by decide +kernel))
  obtain ⟨c1, iS1, hKn1⟩ := u_known (C := RX1) (T := TX1) (N := 11) (n := 11) hts inX1 (hts (.instantiable RX1 11) (by decide +kernel))
  obtain ⟨c2, iS2, hKn2⟩ := u_known (C := RX2) (T := TX2) (N := 14) (n := 14) hts inX2 (hts (.instantiable RX2 14) (by decide +kernel))
  obtain ⟨c3, iS3, hKn3⟩ := u_known (C := RX3) (T := TX3) (N := 7) (n := 7) hts inX3 (hts (.instantiable RX3 7) (by decide +kernel))
  obtain ⟨c4, iS4, hKn4⟩ := u_known (C := RX4) (T := TX4) (N := 4) (n := 4) hts inX4 (hts (.instantiable RX4 4) (by decide +kernel))
  obtain ⟨c5, iS5, hKn5⟩ := u_known (C := RX5) (T := TX5) (N := 36) (n := 36) hts inX5 (hts (.instantiable RX5 36) (by decide +kernel))
  obtain ⟨cI, kI, mI, i1, i2, i3⟩ := Cond.arrayClass_spec (hts (.arrayClass .int) (by decide +kernel))
  obtain ⟨cL, kL, mL, l1, l2, l3⟩ := Cond.arrayClass_spec (hts (.arrayClass .long) (by decide +kernel))
  refine ⟨fun k => if k = 0 then c0 else if k = 1 then c1 else if k = 2 then c2 else if k = 3 then c3 else if k = 4 then c4 else c5, fun k => if k = 0 then iS0 else if k = 1 then iS1 else if k = 2 then iS2 else if k = 3 then iS3 else if k = 4 then iS4 else iS5, cI, cL, fun k q hq => ?_, fun k q hq => ?_⟩
  · match k, hq with
    | 0, hq => cases hq; exact hKn0
    | 1, hq => cases hq; exact hKn1
    | 2, hq => cases hq; exact hKn2
    | 3, hq => cases hq; exact hKn3
    | 4, hq => cases hq; exact hKn4
    | 5, hq => cases hq; exact hKn5
    | k + 6, hq => simp [vwCl] at hq
  · match k, hq with
    | 0, hq => cases hq; exact ⟨fun n z => ⟨fun k h => (by cases h), kI, i2, mI, i3⟩, i1⟩
    | 1, hq => cases hq; exact ⟨fun n z => ⟨fun k h => (by cases h), kL, l2, mL, l3⟩, l1⟩
    | k + 2, hq => simp at hq

theorem cz_le {d : Dt} (hw : dt_wf d) {b : Nat → Int} (hb : vd d b (dP d)) {p : Nat} (hp : p < dP d) (q : Nat) : 0 ≤ cz d b p q ∧ cz d b p q ≤ 10000000 := by
  have := cl_le hw (hb p hp) q
  constructor
  · exact Int.natCast_nonneg _
  · unfold cz; omega
theorem DS_le {d : Dt} (hw : dt_wf d) {b : Nat → Int} (hb : vd d b (dP d)) {D : Nat → Nat} (hD : ∀ i, i < dP d → D i ≤ 100) (q : Nat) : ∀ j, j ≤ dP d → 0 ≤ DS d b D q j ∧ DS d b D q j ≤ 1000000000 * j := by
  intro j
  induction j with
  | zero => intro _; rw [DS]; omega
  | succ j ih =>
    intro hj
    have a := ih (by omega)
    have c := cz_le hw hb (show j < dP d by omega) q
    have e := hD j (by omega)
    have m1 : cz d b j q * (D j : Int) ≤ 10000000 * 100 := Int.mul_le_mul c.2 (by omega) (by omega) (by omega)
    have m2 : 0 ≤ cz d b j q * (D j : Int) := Int.mul_nonneg c.1 (by omega)
    rw [DS]; omega
theorem mss_le {d : Dt} (hw : dt_wf d) {b : Nat → Int} (hb : vd d b (dP d)) {am : Nat → Nat} {D : Nat → Nat} (hD : ∀ i, i < dP d → D i ≤ 100) {q : Nat} (ha : am q ≤ 1000000) : -7000000000 ≤ mss d b am D q ∧ mss d b am D q ≤ 100000000 := by
  have hP := hw.1.2.1
  have := DS_le hw hb hD q (dP d) (Nat.le_refl _)
  unfold mss; omega
theorem DS_cg {d : Dt} {b : Nat → Int} {D E : Nat → Nat} {q : Nat} : ∀ j, (∀ i, i < j → D i = E i) → DS d b D q j = DS d b E q j := by
  intro j
  induction j with
  | zero => intro _; rfl
  | succ j ih => intro h; rw [DS, DS, ih (fun i hi => h i (by omega)), h j (by omega)]
theorem DS_dup {d : Dt} {b : Nat → Int} {D : Nat → Nat} {q p x : Nat} : ∀ j, p < j → DS d b (dup0 D p x) q j = DS d b D q j + cz d b p q * ((x : Int) - (D p : Int)) := by
  intro j
  induction j with
  | zero => intro h; omega
  | succ j ih =>
    intro h
    rw [DS, DS]
    rcases Nat.lt_or_ge p j with g | g
    · rw [ih g]
      have : dup0 D p x j = D j := if_neg (by omega)
      rw [this]; grind
    · have : j = p := by omega
      subst this
      rw [DS_cg (D := dup0 D j x) (E := D) j (fun i hi => if_neg (by omega))]
      have : dup0 D j x j = x := if_pos rfl
      rw [this]; grind
theorem mss_dup {d : Dt} {b : Nat → Int} {am : Nat → Nat} {D : Nat → Nat} {q p x : Nat} (hp : p < dP d) : mss d b am (dup0 D p x) q = mss d b am D q - cz d b p q * ((x : Int) - (D p : Int)) := by
  unfold mss; rw [DS_dup (dP d) hp]; omega
theorem SQ_le {d : Dt} (hw : dt_wf d) {b : Nat → Int} (hb : vd d b (dP d)) {p : Nat} (hp : p < dP d) : ∀ j, 0 ≤ SQ d b p j ∧ SQ d b p j ≤ 100000000000000 * j := by
  intro j
  induction j with
  | zero => rw [SQ]; omega
  | succ j ih =>
    have c := cz_le hw hb hp j
    have m1 : cz d b p j * cz d b p j ≤ 10000000 * 10000000 := Int.mul_le_mul c.2 c.2 c.1 (by omega)
    have m2 : 0 ≤ cz d b p j * cz d b p j := Int.mul_nonneg c.1 c.1
    rw [SQ]; omega
theorem AC_le {d : Dt} (hw : dt_wf d) {b : Nat → Int} (hb : vd d b (dP d)) {am : Nat → Nat} {D : Nat → Nat} (hD : ∀ i, i < dP d → D i ≤ 100) (ha : ∀ q, q < dQ d → am q ≤ 1000000) {p : Nat} (hp : p < dP d) : ∀ j, j ≤ dQ d → -70000000000000000 * j ≤ AC d b am D p j ∧ AC d b am D p j ≤ 70000000000000000 * j := by
  intro j
  induction j with
  | zero => intro _; rw [AC]; omega
  | succ j ih =>
    intro hj
    have a := ih (by omega)
    have c := cz_le hw hb hp j
    have hD0 : ∀ i, i < dP d → dup0 D p 0 i ≤ 100 := by
      intro i hi
      unfold dup0
      split
      · omega
      · exact hD i hi
    have e := mss_le hw hb (am := am) hD0 (ha j (by omega))
    have m1 : cz d b p j * mss d b am (dup0 D p 0) j ≤ 10000000 * 7000000000 := by
      have x1 : cz d b p j * mss d b am (dup0 D p 0) j ≤ cz d b p j * 7000000000 := Int.mul_le_mul_of_nonneg_left (by omega) c.1
      have x2 : cz d b p j * 7000000000 ≤ 10000000 * 7000000000 := Int.mul_le_mul_of_nonneg_right c.2 (by omega)
      omega
    have m2 : -(10000000 * 7000000000) ≤ cz d b p j * mss d b am (dup0 D p 0) j := by
      have x1 : cz d b p j * (-7000000000) ≤ cz d b p j * mss d b am (dup0 D p 0) j := Int.mul_le_mul_of_nonneg_left (by omega) c.1
      have x2 : cz d b p j * 7000000000 ≤ 10000000 * 7000000000 := Int.mul_le_mul_of_nonneg_right c.2 (by omega)
      have x3 : cz d b p j * (-7000000000) = -(cz d b p j * 7000000000) := by rw [Int.mul_neg]
      omega
    rw [AC]; omega
theorem SQ_zero {d : Dt} {b : Nat → Int} {am : Nat → Nat} {D : Nat → Nat} {p : Nat} : ∀ j, SQ d b p j = 0 → (∀ i, i < j → 0 ≤ SQ d b p i) → AC d b am D p j = 0 := by
  intro j
  induction j with
  | zero => intro _ _; rfl
  | succ j ih =>
    intro h hn
    rw [SQ] at h
    have a := hn j (by omega)
    have c : 0 ≤ cz d b p j * cz d b p j := Int.mul_nonneg (Int.natCast_nonneg _) (Int.natCast_nonneg _)
    have z : cz d b p j * cz d b p j = 0 := by omega
    have z2 : cz d b p j = 0 := by
      rcases Int.mul_eq_zero.mp z with y | y <;> exact y
    rw [AC, ih (by omega) (fun i hi => hn i (by omega)), z2]
    simp
/-- the class's lamps are b, with their lights -/
def lmC (d : Dt) (u : St) (b : Nat → Int) : Prop := isC d u ∧ liC d u ∧ vd d b (dP d) ∧ ∀ p, p < dP d → gA u 14 p = iI (b p)
theorem p_lampLight {d : Dt} (hw : dt_wf d) {u : St} {b : Nat → Int} (h : lmC d u b) {p q : Nat} (hp : p < dP d) (hq : q < dQ d) : Ev (fun n => FX0_lampLight n (nI p) (nI q) u) (nI (cl d b p q), u) := by
  have hK := hw.1.1
  have hP := hw.1.2.1
  have hQ := hw.1.2.2.1
  obtain ⟨hu, hli, hb, h14⟩ := h
  have hbp := hb p hp
  show Ev (fun n => fX0_lampLight n 0 (nI p) (nI q) u) _
  rw [vX0_lampLight_0, nI_clamp (show p < 2 ^ 31 by omega), h14 p hp]
  simp only [ck_nI (show p < 7 by omega) (by decide), if_true, iI_neg (show -2147483648 ≤ b p by omega) (show b p < 2147483648 by omega)]
  unfold cl
  by_cases g : b p < 0
  · simp only [if_pos g]; exact Ev_some rfl
  · simp only [if_neg g]
    rw [iI_nonneg (by omega), Ev_bind (p_lightRow p (b p).toNat)]
    simp only [nI_add, ck_nI (show (p * 3 + (b p).toNat) * 16 + q < 336 by omega) (by decide), if_true, nI_clamp (show (p * 3 + (b p).toNat) * 16 + q < 2 ^ 31 by omega), hli p (b p).toNat q hp (by omega) hq]
    exact Ev_some rfl
/-- dims and misses as the class has them -/
def dmC (d : Dt) (u : St) (b : Nat → Int) (am D : Nat → Nat) : Prop := (∀ p, p < dP d → D p ≤ 100 ∧ gA u 17 p = nI (D p)) ∧ ∀ q, q < dQ d → am q ≤ 1000000 ∧ gL u 0 q = jL (mss d b am D q)
theorem p_fittingDim {d : Dt} (hw : dt_wf d) {u : St} {b : Nat → Int} (h : lmC d u b) {am D : Nat → Nat} (hd : dmC d u b am D) {p : Nat} (hp : p < dP d) : Ev (fun n => FX3_fittingDim n (nI p) u) (nI (FD d b am D p), u) := by
  have hK := hw.1.1
  have hP := hw.1.2.1
  have hQ := hw.1.2.2.1
  obtain ⟨hu, hli, hb, h14⟩ := id h
  have hD : ∀ i, i < dP d → D i ≤ 100 := fun i hi => (hd.1 i hi).1
  have ham : ∀ q, q < dQ d → am q ≤ 1000000 := fun q hq => (hd.2 q hq).1
  have key : ∀ (m q : Nat), q + m = dQ d → Ev (fun n => fX3_fittingDim n 8 (nI p) (jL (SQ d b p (dQ d))) (jL (AC d b am D p (dQ d))) (nI (dQ d)) u) (nI (FD d b am D p), u) → Ev (fun n => fX3_fittingDim n 8 (nI p) (jL (SQ d b p q)) (jL (AC d b am D p q)) (nI q) u) (nI (FD d b am D p), u) := by
    intro m
    induction m with
    | zero => intro q hq hh; have : q = dQ d := by omega
              subst this; exact hh
    | succ m ih =>
      intro q hq hh
      have hq' : q < dQ d := by omega
      have bc := cl_le hw (hb p hp) q
      have bD := hD p hp
      rw [vX3_fittingDim_8, hu.1.2.2.1]
      simp only [if_neg (nI_ge hq' (show dQ d < 2 ^ 31 by omega))]
      rw [Ev_bind (p_lampLight hw h hp hq')]
      simp only [ck_nI (show q < 16 by omega) (by decide), ck_nI (show p < 7 by omega) (by decide), if_true, nI_clamp (show q < 2 ^ 31 by omega), nI_clamp (show p < 2 ^ 31 by omega), (hd.2 q hq').2, (hd.1 p hp).2, nI_jL (show cl d b p q < 2 ^ 31 by omega), nI_jL (show D p < 2 ^ 31 by omega), jL_mul, jL_add, nI_1]
      have := ih (q + 1) (by omega) hh
      rw [SQ, AC, mss_dup hp] at this
      have e : mss d b am D q - cz d b p q * ((0 : Nat) - (D p : Int)) = mss d b am D q + cz d b p q * (D p : Int) := by grind
      rw [e] at this
      exact this
  show Ev (fun n => fX3_fittingDim n 0 (nI p) 0 0 0 u) _
  rw [vX3_fittingDim_0]
  refine key (dQ d) 0 (by omega) ?_
  have bs := SQ_le hw hb hp (dQ d)
  have ba := AC_le hw hb hD ham hp (dQ d) (Nat.le_refl _)
  have cf := fdm_closed (own := SQ d b p (dQ d)) (acr := AC d b am D p (dQ d)) bs.1 (fun z => SQ_zero (dQ d) z (fun i _ => (SQ_le hw hb hp i).1))
  have hfd := FD_le d b am D p
  generalize hS : SQ d b p (dQ d) = S at bs ba cf ⊢
  generalize hA : AC d b am D p (dQ d) = A at ba cf ⊢
  have hF : fdm S A 100 0 = FD d b am D p := by unfold FD; rw [hS, hA]
  rw [hF] at cf
  rw [vX3_fittingDim_8, hu.1.2.2.1]
  have e0 : (0 : Int64) = jL 0 := rfl
  have e2 : (2 : Int64) = jL 2 := rfl
  have e1 : (1 : Int64) = jL 1 := rfl
  have e100 : (100 : Int64) = jL 100 := rfl
  simp only [if_pos (nI_le (Nat.le_refl (dQ d)) (show dQ d < 2 ^ 31 by omega)), e2, e1, e0, jL_mul, jL_sub, jL_add, jL_lt (show -9223372036854775808 ≤ (0 : Int) by omega) (show (0 : Int) < 9223372036854775808 by omega) (show -9223372036854775808 ≤ 2 * A - S by omega) (show 2 * A - S < 9223372036854775808 by omega)]
  by_cases g : 0 < 2 * A - S
  · simp only [if_pos g]
    rw [if_pos g] at cf
    have hSp : 0 < S := by
      rcases Int.lt_or_eq_of_le bs.1 with y | y
      · exact y
      · have := SQ_zero (d := d) (b := b) (am := am) (D := D) (p := p) (dQ d) (by rw [hS]; exact y.symm) (fun i _ => (SQ_le hw hb hp i).1)
        rw [hA] at this
        omega
    have hquo : Ev (fun n => FX4_quotient n (jL (2 * A - S + 2 * S - 1)) (jL (2 * S))) (jL ((2 * A - S + 2 * S - 1) / (2 * S))) := by
      show Ev (fun n => fX4_quotient n 0 (jL (2 * A - S + 2 * S - 1)) (jL (2 * S))) _
      rw [vX4_quotient_0, e0]
      have g1 : ¬ jL (2 * S) ≤ jL 0 := by rw [jL_le (by omega) (by omega) (by omega) (by omega)]; omega
      have g2 : ¬ jL (2 * S) = jL 0 := fun x => g1 (by rw [x]; exact Int64.le_refl _)
      simp only [if_neg g1, if_neg g2]
      refine Ev_some ?_
      obtain ⟨x, hx⟩ : ∃ x : Nat, 2 * A - S + 2 * S - 1 = x := ⟨(2 * A - S + 2 * S - 1).toNat, by omega⟩
      obtain ⟨y, hy⟩ : ∃ y : Nat, 2 * S = y := ⟨(2 * S).toNat, by omega⟩
      rw [hx, hy, ← jL_nat, ← jL_nat, pk_lDiv (by omega) (by omega) (by omega), jL_nat]
      rfl
    rw [Ev_bind hquo, e100]
    generalize hq : (2 * A - S + 2 * S - 1) / (2 * S) = q at cf ⊢
    have q0 : 0 ≤ q := by rw [← hq]; exact Int.ediv_nonneg (by omega) (by omega)
    have q1 : q < 9223372036854775808 := by
      rw [← hq]
      exact Int.lt_of_le_of_lt (Int.ediv_le_self _ (by omega)) (by omega)
    refine Ev_some ?_
    rw [show (if jL q < jL 100 then jL q else jL 100) = lN (FD d b am D p) from ?_, lN_i]
    rw [jL_nat, cf]
    by_cases c9 : q < 100
    · rw [if_pos ((jL_lt (by omega) (by omega) (by omega) (by omega)).mpr c9)]
      congr 1; omega
    · rw [if_neg (fun x => c9 ((jL_lt (by omega) (by omega) (by omega) (by omega)).mp x))]
      congr 1; omega
  · simp only [if_neg g]
    rw [if_neg g] at cf
    have : FD d b am D p = 0 := by omega
    rw [this]
    exact Ev_some rfl

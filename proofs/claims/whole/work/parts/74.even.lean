/-! evenness and levels -/
theorem gcd_step (a b : Nat) : Nat.gcd a b = Nat.gcd b (a % b) := by
  rw [Nat.gcd_comm a b, Nat.gcd_rec b a, Nat.gcd_comm]
theorem q_common {a b : Nat} (ha : a < 2 ^ 62) (hb : b < 2 ^ 62) : Ev (fun n => FX5_common n (lN a) (lN b)) (lN (Nat.gcd a b)) := by
  have key : ∀ (m b a : Nat), b ≤ m → a < 2 ^ 62 → b < 2 ^ 62 → Ev (fun n => fX5_common n 6 0 0 (lN a) (lN b)) (lN (Nat.gcd a b)) := by
    intro m
    induction m with
    | zero =>
      intro b a hm ha hb
      have : b = 0 := by omega
      subst this
      rw [vX5_common_6]
      simp only [show lN 0 ≤ 0 by decide, if_true, Nat.gcd_zero_right]
      exact Ev_some rfl
    | succ m ih =>
      intro b a hm ha hb
      rcases Nat.eq_zero_or_pos b with z | z
      · exact ih b a (by omega) ha hb
      · rw [vX5_common_6]
        have g1 : ¬ lN b ≤ 0 := by rw [show (0 : Int64) = lN 0 from rfl, pk_lLE (by omega) (by omega)]; omega
        have g2 : ¬ lN b = 0 := by rw [show (0 : Int64) = lN 0 from rfl, pk_lEQ (by omega) (by omega)]; omega
        simp only [if_neg g1, if_neg g2, pk_lRem (show a < 2 ^ 63 by omega) z (show b < 2 ^ 63 by omega)]
        rw [gcd_step]
        have := Nat.mod_lt a z
        exact ih (a % b) b (by omega) hb (by omega)
  show Ev (fun n => fX5_common n 0 (lN a) (lN b) 0 0) _
  rw [vX5_common_0]
  exact key b b a (Nat.le_refl _) ha hb
theorem p_cd0 (a r : Nat) : Ev (fun n => fX0_commonDivisor n 9 0 0 (lN a) (lN 0) (nI r)) (lN (Nat.gcd a 0)) := by
  rw [vX0_commonDivisor_9]
  simp only [show lN 0 ≤ 0 by decide, if_true, ite_self, Nat.gcd_zero_right]
  exact Ev_some rfl
theorem p_cd1 {a b r : Nat} (ha : a < 2 ^ 62) (h0 : 0 < b) (hb : b < 2 ^ 62) (hr : r < 100) (h : Ev (fun n => fX0_commonDivisor n 9 0 0 (lN b) (lN (a % b)) (nI (r + 1))) (lN (Nat.gcd b (a % b)))) : Ev (fun n => fX0_commonDivisor n 9 0 0 (lN a) (lN b) (nI r)) (lN (Nat.gcd a b)) := by
  rw [vX0_commonDivisor_9, n100]
  have g1 : ¬ lN b ≤ 0 := by rw [show (0 : Int64) = lN 0 from rfl, pk_lLE (by omega) (by omega)]; omega
  have g2 : ¬ lN b = 0 := by rw [show (0 : Int64) = lN 0 from rfl, pk_lEQ (by omega) (by omega)]; omega
  simp only [if_neg (nI_ge hr (show 100 < 2 ^ 31 by omega)), if_neg g1, if_neg g2, pk_lRem (show a < 2 ^ 63 by omega) h0 (show b < 2 ^ 63 by omega), nI_1]
  rw [gcd_step]
  exact h
theorem p_commonDivisor {a b : Nat} (ha : a < 2 ^ 62) (hb : b < 2 ^ 31) : Ev (fun n => FX0_commonDivisor n (lN a) (lN b)) (lN (Nat.gcd a b)) := by
  have key : ∀ (k a b r : Nat), b < 2 ^ k → r + 2 * k ≤ 100 → a < 2 ^ 62 → b < 2 ^ 62 → Ev (fun n => fX0_commonDivisor n 9 0 0 (lN a) (lN b) (nI r)) (lN (Nat.gcd a b)) := by
    intro k
    induction k with
    | zero =>
      intro a b r hb _ _ _
      have : b = 0 := by omega
      subst this
      exact p_cd0 a r
    | succ k ih =>
      intro a b r hb hr ha hb2
      rcases Nat.eq_zero_or_pos b with z | z
      · subst z; exact p_cd0 a r
      · refine p_cd1 ha z hb2 (by omega) ?_
        have m1 := Nat.mod_lt a z
        rcases Nat.eq_zero_or_pos (a % b) with y | y
        · rw [y]; exact p_cd0 b (r + 1)
        · refine p_cd1 hb2 y (by omega) (by omega) ?_
          have m2 := Nat.mod_lt b y
          have m3 : b % (a % b) + (a % b) ≤ b := by
            have e := Nat.mod_eq_sub_mod (show a % b ≤ b by omega)
            rw [e]
            have := Nat.mod_le (b - a % b) (a % b)
            omega
          refine ih (a % b) (b % (a % b)) (r + 1 + 1) ?_ (by omega) (by omega) (by omega)
          rw [Nat.pow_succ] at hb
          omega
  show Ev (fun n => fX0_commonDivisor n 0 (lN a) (lN b) 0 0 0) _
  rw [vX0_commonDivisor_0]
  exact key 31 a b 0 hb (by omega) ha (by omega)
theorem p_quo {a g : Nat} (ha : a < 2 ^ 63) (h0 : 0 < g) (hg : g < 2 ^ 63) : Ev (fun n => FX4_quotient n (lN a) (lN g)) (lN (a / g)) := by
  show Ev (fun n => fX4_quotient n 0 (lN a) (lN g)) _
  rw [vX4_quotient_0]
  have g1 : ¬ lN g ≤ 0 := by rw [show (0 : Int64) = lN 0 from rfl, pk_lLE (by omega) (by omega)]; omega
  have g2 : ¬ lN g = 0 := by rw [show (0 : Int64) = lN 0 from rfl, pk_lEQ (by omega) (by omega)]; omega
  simp only [if_neg g1, if_neg g2]
  exact Ev_some (pk_lDiv (by omega) (by omega) (by omega))
/-- EVEN, above and below -/
def evA (d : Dt) (b : Nat → Int) : Nat := lst d b * dQ d / Nat.gcd (lst d b * dQ d) (smx d b)
def evB (d : Dt) (b : Nat → Int) : Nat := smx d b / Nat.gcd (lst d b * dQ d) (smx d b)
theorem ev_bd {d : Dt} (hw : dt_wf d) {b : Nat → Int} (hb : vd d b (dP d)) : lst d b * dQ d ≤ 1120000000 ∧ smx d b ≤ 1120000000 ∧ 1 ≤ smx d b ∧ 0 < Nat.gcd (lst d b * dQ d) (smx d b) ∧ Nat.gcd (lst d b * dQ d) (smx d b) ≤ smx d b := by
  have h1 := lst_le hw hb
  have h2 := smx_le hw hb
  have h3 := smx_pos d b
  have h4 : lst d b * dQ d ≤ 70000000 * 16 := Nat.mul_le_mul h1 hw.1.2.2.1
  exact ⟨by omega, h2, h3, Nat.gcd_pos_of_pos_right _ (by omega), Nat.gcd_le_right _ (by omega)⟩
theorem p_even {d : Dt} (hw : dt_wf d) {u : St} (hu : isC d u) {b : Nat → Int} (hb : vd d b (dP d)) (j0 : gJ u 0 = lN (lst d b)) (j1 : gJ u 1 = lN (smx d b)) :
    Ev (fun n => FX0_evennessAbove n u) (lN (evA d b), u) ∧ Ev (fun n => FX0_evennessBelow n u) (lN (evB d b), u) := by
  obtain ⟨b1, b2, b3, b4, b5⟩ := ev_bd hw hb
  have hQ := hw.1.2.2.1
  constructor
  · show Ev (fun n => fX0_evennessAbove n 0 u) _
    rw [vX0_evennessAbove_0, j0, j1, hu.1.2.2.1, nI_l (by omega), lN_mul]
    rw [Ev_bind (p_commonDivisor (show lst d b * dQ d < 2 ^ 62 by omega) (show smx d b < 2 ^ 31 by omega))]
    rw [Ev_bind (p_quo (by omega) b4 (by omega))]
    exact Ev_some rfl
  · show Ev (fun n => fX0_evennessBelow n 0 u) _
    rw [vX0_evennessBelow_0, j0, j1, hu.1.2.2.1, nI_l (by omega), lN_mul]
    rw [Ev_bind (p_commonDivisor (show lst d b * dQ d < 2 ^ 62 by omega) (show smx d b < 2 ^ 31 by omega))]
    rw [Ev_bind (p_quo (by omega) b4 (by omega))]
    exact Ev_some rfl
theorem q_lev {d : Dt} (hw : dt_wf d) {u : St} {b : Nat → Int} (h : lmM d u b) (h7 : gI u 7 = 1) {q : Nat} (hq : q < dQ d) : ∀ (m p : Nat), p + m = dP d → Ev (fun n => fX5_level n 44 (nI q) (nI (LV d b q p)) (nI p) u) (nI (LV d b q (dP d)), u) := by
  have hP := hw.1.2.1
  have hK := hw.1.1
  intro m
  induction m with
  | zero =>
    intro p hp
    rw [vX5_level_44, h.1.1.2.1]
    simp only [if_pos (nI_le (show dP d ≤ p by omega) (show p < 2 ^ 31 by omega))]
    have : p = dP d := by omega
    subst this
    exact Ev_some rfl
  | succ m ih =>
    intro p hp
    have hp' : p < dP d := by omega
    have hbp := h.2.1 p hp'
    have e13 : gA u 13 p = iI (b p) := by
      rcases h.2.2 with ⟨a, c⟩ | ⟨a, c⟩
      · rw [h7] at a; exact absurd a (by decide)
      · exact c p hp'
    have := ih (p + 1) (by omega)
    rw [LV] at this
    rw [vX5_level_44, h.1.1.2.1]
    have cmp : (0 ≤ gA u 13 p) ↔ 0 ≤ b p := by
      rw [e13, Int32.le_iff_toInt_le, iI_toInt (by omega) (by omega)]; rfl
    simp only [if_neg (nI_ge hp' (show dP d < 2 ^ 31 by omega)), ck_nI (show p < 7 by omega) (by decide), if_true, nI_clamp (show p < 2 ^ 31 by omega), cmp]
    by_cases g : 0 ≤ b p
    · simp only [if_pos g]
      rw [Ev_bind (q_lampLight hw h hp' hq g), nI_add, nI_1]
      exact this
    · simp only [if_neg g]
      rw [show (0 : Int32) = nI 0 from rfl, nI_add, nI_1]
      have z : cl d b p q = 0 := by unfold cl; rw [if_pos (by omega)]
      rw [z] at this
      exact this

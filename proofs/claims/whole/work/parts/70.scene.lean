/-! scenes -/
def jL (z : Int) : Int64 := Int64.ofInt z
theorem jL_add (a b : Int) : jL a + jL b = jL (a + b) := (Int64.ofInt_add a b).symm
theorem jL_sub (a b : Int) : jL a - jL b = jL (a - b) := (Int64.ofInt_sub a b).symm
theorem jL_mul (a b : Int) : jL a * jL b = jL (a * b) := (Int64.ofInt_mul a b).symm
theorem jL_nat (n : Nat) : lN n = jL n := rfl
theorem jL_toInt {z : Int} (h1 : -9223372036854775808 ≤ z) (h2 : z < 9223372036854775808) : (jL z).toInt = z := by
  unfold jL
  exact Int64.toInt_ofInt_of_le (by simpa using h1) (by simpa using h2)
theorem jL_le {a b : Int} (a1 : -9223372036854775808 ≤ a) (a2 : a < 9223372036854775808) (b1 : -9223372036854775808 ≤ b) (b2 : b < 9223372036854775808) : jL a ≤ jL b ↔ a ≤ b := by
  rw [Int64.le_iff_toInt_le, jL_toInt a1 a2, jL_toInt b1 b2]
theorem jL_lt {a b : Int} (a1 : -9223372036854775808 ≤ a) (a2 : a < 9223372036854775808) (b1 : -9223372036854775808 ≤ b) (b2 : b < 9223372036854775808) : jL a < jL b ↔ a < b := by
  rw [Int64.lt_iff_toInt_lt, jL_toInt a1 a2, jL_toInt b1 b2]
theorem nI_jL {k : Nat} (h : k < 2 ^ 31) : (nI k).toInt64 = jL k := by rw [nI_l h]; rfl
/-- the lamps that stand there -/
def bbo (acc : Option (Nat → Int)) : Nat → Int := match acc with | none => fun _ => -1 | some b => b
/-- what a lamp at p gives at q -/
abbrev cz (d : Dt) (b : Nat → Int) (p q : Nat) : Int := (cl d b p q : Int)
/-- the light of all lamps, by their dims -/
def DS (d : Dt) (b : Nat → Int) (D : Nat → Nat) (q : Nat) : Nat → Int
  | 0 => 0
  | j + 1 => DS d b D q j + cz d b j q * (D j : Int)
/-- MISS -/
def mss (d : Dt) (b : Nat → Int) (am : Nat → Nat) (D : Nat → Nat) (q : Nat) : Int := 100 * (am q : Int) - DS d b D q (dP d)
def dup0 (D : Nat → Nat) (p x : Nat) : Nat → Nat := fun i => if i = p then x else D i
/-- sums over the points: the squares of a lamp's lights; its lights times the misses without it -/
def SQ (d : Dt) (b : Nat → Int) (p : Nat) : Nat → Int
  | 0 => 0
  | j + 1 => SQ d b p j + cz d b p j * cz d b p j
def AC (d : Dt) (b : Nat → Int) (am : Nat → Nat) (D : Nat → Nat) (p : Nat) : Nat → Int
  | 0 => 0
  | j + 1 => AC d b am D p j + cz d b p j * mss d b am (dup0 D p 0) j
/-- the least dim from which the sum of squares doesn't fall -/
def fdm (own acr : Int) : Nat → Nat → Nat
  | 0, x => x
  | t + 1, x => if 0 ≤ (2 * (x : Int) + 1) * own - 2 * acr then x else fdm own acr t (x + 1)
def FD (d : Dt) (b : Nat → Int) (am : Nat → Nat) (D : Nat → Nat) (p : Nat) : Nat := fdm (SQ d b p (dQ d)) (AC d b am D p (dQ d)) 100 0
/-- one sweep, from place p on: r places left -/
def SW (d : Dt) (b : Nat → Int) (am : Nat → Nat) : Nat → Nat → (Nat → Nat) × Bool → (Nat → Nat) × Bool
  | 0, _, x => x
  | r + 1, p, x => SW d b am r (p + 1) (if b p < 0 then x else (dup0 x.1 p (FD d b am x.1 p), x.2 || decide (FD d b am x.1 p ≠ x.1 p)))
/-- sweeps until one changes nothing, but 20 at most: t are left -/
def SC (d : Dt) (b : Nat → Int) (am : Nat → Nat) : Nat → (Nat → Nat) → Bool → Nat → (Nat → Nat) × Nat
  | 0, D, _, n => (D, n)
  | t + 1, D, ch, n => if ch = true then SC d b am t (SW d b am (dP d) 0 (D, false)).1 (SW d b am (dP d) 0 (D, false)).2 (n + 1) else (D, n)
def hasL (b : Nat → Int) : Nat → Bool
  | 0 => false
  | j + 1 => hasL b j || decide (0 ≤ b j)
def scn (d : Dt) (b : Nat → Int) (am : Nat → Nat) : (Nat → Nat) × Nat := SC d b am 20 (fun _ => 0) (hasL b (dP d)) 0
/-! the least dim, in closed form -/
theorem fdm_le (own acr : Int) : ∀ (t x : Nat), x ≤ fdm own acr t x ∧ fdm own acr t x ≤ x + t := by
  intro t
  induction t with
  | zero => intro x; rw [fdm]; omega
  | succ t ih =>
    intro x
    rw [fdm]
    split
    · omega
    · have := ih (x + 1); omega
theorem FD_le (d : Dt) (b : Nat → Int) (am : Nat → Nat) (D : Nat → Nat) (p : Nat) : FD d b am D p ≤ 100 := by
  have := (fdm_le (SQ d b p (dQ d)) (AC d b am D p (dQ d)) 100 0).2
  unfold FD; omega
/-- below its answer the sum falls; at it, it doesn't, but at the end -/
theorem fdm_spec (own acr : Int) : ∀ (t x : Nat), (∀ y, x ≤ y → y < fdm own acr t x → (2 * (y : Int) + 1) * own - 2 * acr < 0) ∧ (fdm own acr t x < x + t → 0 ≤ (2 * (fdm own acr t x : Int) + 1) * own - 2 * acr) := by
  intro t
  induction t with
  | zero => intro x; rw [fdm]; exact ⟨fun y h1 h2 => absurd h2 (by omega), fun h => absurd h (by omega)⟩
  | succ t ih =>
    intro x
    rw [fdm]
    split
    · rename_i h; exact ⟨fun y h1 h2 => absurd h2 (by omega), fun _ => h⟩
    · rename_i h
      obtain ⟨a, c⟩ := ih (x + 1)
      refine ⟨fun y h1 h2 => ?_, fun h3 => c (by omega)⟩
      rcases Nat.lt_or_ge y (x + 1) with g | g
      · have : y = x := by omega
        subst this; omega
      · exact a y g h2
/-- the class's closed form -/
theorem fdm_closed {own acr : Int} (h0 : 0 ≤ own) (hz : own = 0 → acr = 0) : (fdm own acr 100 0 : Int) = if 0 < 2 * acr - own then min 100 ((2 * acr - own + 2 * own - 1) / (2 * own)) else 0 := by
  obtain ⟨a, c⟩ := fdm_spec own acr 100 0
  have hb := fdm_le own acr 100 0
  generalize hx : fdm own acr 100 0 = x at a c hb
  by_cases g : 0 < 2 * acr - own
  · rw [if_pos g]
    have hp : 0 < own := by
      rcases Int.lt_or_eq_of_le h0 with y | y
      · exact y
      · have := hz y.symm; omega
    have hpos : 0 < 2 * own := by omega
    generalize hq : (2 * acr - own + 2 * own - 1) / (2 * own) = q
    -- q is the least with 2 q own ≥ 2 acr - own
    have q1 : 2 * acr - own ≤ q * (2 * own) := by
      have := Int.lt_ediv_add_one_mul_self (2 * acr - own + 2 * own - 1) hpos
      rw [hq, Int.add_mul, Int.one_mul] at this
      omega
    have q2 : (q - 1) * (2 * own) < 2 * acr - own := by
      have := Int.ediv_mul_le (2 * acr - own + 2 * own - 1) (Int.ne_of_gt hpos)
      rw [hq] at this
      rw [Int.sub_mul, Int.one_mul]
      omega
    have q0 : 0 ≤ q := by
      rw [← hq]; exact Int.ediv_nonneg (by omega) (by omega)
    -- x ≤ q
    have x1 : (x : Int) ≤ q := by
      rcases (show q < (x : Int) ∨ (x : Int) ≤ q by omega) with y | y
      · have := a q.toNat (by omega) (by omega)
        rw [Int.toNat_of_nonneg q0] at this
        have e : (2 * q + 1) * own - 2 * acr = q * (2 * own) - (2 * acr - own) := by grind
        rw [e] at this
        omega
      · exact y
    rcases Nat.lt_or_ge x 100 with y | y
    · have hc := c (by omega)
      have e : (2 * (x : Int) + 1) * own - 2 * acr = x * (2 * own) - (2 * acr - own) := by grind
      rw [e] at hc
      -- q ≤ x
      have x2 : q ≤ x := by
        rcases (show (x : Int) < q ∨ q ≤ (x : Int) by omega) with z | z
        · have : (x : Int) * (2 * own) ≤ (q - 1) * (2 * own) := Int.mul_le_mul_of_nonneg_right (by omega) (by omega)
          omega
        · exact z
      omega
    · omega
  · rw [if_neg g]
    rcases Nat.eq_zero_or_pos x with y | y
    · rw [y]; rfl
    · have := a 0 (Nat.le_refl 0) y
      simp at this
      omega

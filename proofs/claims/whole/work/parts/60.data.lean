/-! the data of a room, as numbers; the class's state and the reference's hold it -/
abbrev Dt : Type := (Nat × Nat × Nat × Nat) × (Nat → Nat → Nat) × (Nat → Int)
abbrev dK (d : Dt) : Nat := d.1.1
abbrev dP (d : Dt) : Nat := d.1.2.1
abbrev dQ (d : Dt) : Nat := d.1.2.2.1
abbrev dH (d : Dt) : Nat := d.1.2.2.2
abbrev dA (d : Dt) (j i : Nat) : Nat := d.2.1 j i
abbrev dE (d : Dt) (p : Nat) : Int := d.2.2 p
def iI (z : Int) : Int32 := Int32.ofInt z
def dt_wf (d : Dt) : Prop := (dK d ≤ 3 ∧ dP d ≤ 7 ∧ dQ d ≤ 16 ∧ 1 ≤ dH d ∧ dH d ≤ 50) ∧
  (∀ k, k < dK d → (1 ≤ dA d 0 k ∧ dA d 0 k ≤ 10000) ∧ (1 ≤ dA d 1 k ∧ dA d 1 k ≤ 500) ∧ (1 ≤ dA d 2 k ∧ dA d 2 k ≤ 100000) ∧ dA d 3 k ≤ 100000) ∧
  (∀ p, p < dP d → dA d 4 p ≤ 50 ∧ dA d 5 p ≤ 50 ∧ -2 ≤ dE d p ∧ dE d p < dK d) ∧
  (∀ q, q < dQ d → dA d 6 q ≤ 50 ∧ dA d 7 q ≤ 50 ∧ dA d 8 q ≤ 100000)
def isC (d : Dt) (u : St) : Prop := (gI u 0 = nI (dK d) ∧ gI u 1 = nI (dP d) ∧ gI u 2 = nI (dQ d) ∧ gI u 3 = nI (dH d)) ∧
  (∀ k, k < dK d → gA u 0 k = nI (dA d 0 k) ∧ gA u 1 k = nI (dA d 1 k) ∧ gA u 2 k = nI (dA d 2 k) ∧ gA u 3 k = nI (dA d 3 k)) ∧
  (∀ p, p < dP d → gA u 4 p = nI (dA d 4 p) ∧ gA u 5 p = nI (dA d 5 p) ∧ gA u 6 p = iI (dE d p)) ∧
  (∀ q, q < dQ d → gA u 7 q = nI (dA d 6 q) ∧ gA u 8 q = nI (dA d 7 q) ∧ gA u 9 q = nI (dA d 8 q))
def isM (d : Dt) (u : St) : Prop := (gI u 1 = nI (dK d) ∧ gI u 2 = nI (dP d) ∧ gI u 3 = nI (dQ d) ∧ gI u 4 = nI (dH d)) ∧
  (∀ k, k < dK d → gA u 0 k = nI (dA d 0 k) ∧ gA u 1 k = nI (dA d 1 k) ∧ gA u 2 k = nI (dA d 2 k) ∧ gA u 3 k = nI (dA d 3 k)) ∧
  (∀ p, p < dP d → gA u 4 p = nI (dA d 4 p) ∧ gA u 5 p = nI (dA d 5 p) ∧ gA u 6 p = iI (dE d p)) ∧
  (∀ q, q < dQ d → gA u 8 q = nI (dA d 6 q) ∧ gA u 9 q = nI (dA d 7 q) ∧ gA u 10 q = nI (dA d 8 q))
/-- what isC looks at -/
theorem isC_mv {d : Dt} {u v : St} (h : isC d u) (hI : ∀ i, i < 4 → gI v i = gI u i) (hA : ∀ a, a < 10 → gA v a = gA u a) : isC d v := by
  obtain ⟨⟨h0, h1, h2, h3⟩, hk, hp, hq⟩ := h
  refine ⟨⟨by rw [hI 0 (by omega)]; exact h0, by rw [hI 1 (by omega)]; exact h1, by rw [hI 2 (by omega)]; exact h2, by rw [hI 3 (by omega)]; exact h3⟩, fun k hk' => ?_, fun p hp' => ?_, fun q hq' => ?_⟩
  · rw [hA 0 (by omega), hA 1 (by omega), hA 2 (by omega), hA 3 (by omega)]; exact hk k hk'
  · rw [hA 4 (by omega), hA 5 (by omega), hA 6 (by omega)]; exact hp p hp'
  · rw [hA 7 (by omega), hA 8 (by omega), hA 9 (by omega)]; exact hq q hq'
theorem isM_mv {d : Dt} {u v : St} (h : isM d u) (hI : ∀ i, 1 ≤ i → i < 5 → gI v i = gI u i) (hA : ∀ a, a < 11 → a ≠ 7 → gA v a = gA u a) : isM d v := by
  obtain ⟨⟨h0, h1, h2, h3⟩, hk, hp, hq⟩ := h
  refine ⟨⟨by rw [hI 1 (by omega) (by omega)]; exact h0, by rw [hI 2 (by omega) (by omega)]; exact h1, by rw [hI 3 (by omega) (by omega)]; exact h2, by rw [hI 4 (by omega) (by omega)]; exact h3⟩, fun k hk' => ?_, fun p hp' => ?_, fun q hq' => ?_⟩
  · rw [hA 0 (by omega) (by omega), hA 1 (by omega) (by omega), hA 2 (by omega) (by omega), hA 3 (by omega) (by omega)]; exact hk k hk'
  · rw [hA 4 (by omega) (by omega), hA 5 (by omega) (by omega), hA 6 (by omega) (by omega)]; exact hp p hp'
  · rw [hA 8 (by omega) (by omega), hA 9 (by omega) (by omega), hA 10 (by omega) (by omega)]; exact hq q hq'
/-! writers, as readers see them -/
theorem gI_sI (u : St) (k j : Nat) (v : Int32) : gI (sI u k v) j = if j = k then v else gI u j := rfl
theorem gI_sJ (u : St) (k j : Nat) (v : Int64) : gI (sJ u k v) j = gI u j := rfl
theorem gI_sA (u : St) (k j : Nat) (v : Nat → Int32) : gI (sA u k v) j = gI u j := rfl
theorem gI_sL (u : St) (k j : Nat) (v : Nat → Int64) : gI (sL u k v) j = gI u j := rfl
theorem gJ_sI (u : St) (k j : Nat) (v : Int32) : gJ (sI u k v) j = gJ u j := rfl
theorem gJ_sJ (u : St) (k j : Nat) (v : Int64) : gJ (sJ u k v) j = if j = k then v else gJ u j := rfl
theorem gJ_sA (u : St) (k j : Nat) (v : Nat → Int32) : gJ (sA u k v) j = gJ u j := rfl
theorem gJ_sL (u : St) (k j : Nat) (v : Nat → Int64) : gJ (sL u k v) j = gJ u j := rfl
theorem gA_sI (u : St) (k j : Nat) (v : Int32) : gA (sI u k v) j = gA u j := rfl
theorem gA_sJ (u : St) (k j : Nat) (v : Int64) : gA (sJ u k v) j = gA u j := rfl
theorem gA_sA (u : St) (k j : Nat) (v : Nat → Int32) : gA (sA u k v) j = if j = k then v else gA u j := rfl
theorem gA_sL (u : St) (k j : Nat) (v : Nat → Int64) : gA (sL u k v) j = gA u j := rfl
theorem gL_sI (u : St) (k j : Nat) (v : Int32) : gL (sI u k v) j = gL u j := rfl
theorem gL_sJ (u : St) (k j : Nat) (v : Int64) : gL (sJ u k v) j = gL u j := rfl
theorem gL_sA (u : St) (k j : Nat) (v : Nat → Int32) : gL (sA u k v) j = gL u j := rfl
theorem gL_sL (u : St) (k j : Nat) (v : Nat → Int64) : gL (sL u k v) j = if j = k then v else gL u j := rfl
theorem up_at (f : Nat → Int32) (k j : Nat) (x : Int32) : upd f k x j = if j = k then x else f j := rfl
theorem upL_at (f : Nat → Int64) (k j : Nat) (x : Int64) : vp_updL f k x j = if j = k then x else f j := rfl
/-! numbers -/
def dt_sq (a b : Nat) : Nat := (a - b) * (a - b) + (b - a) * (b - a)
theorem sq_nI (a b : Nat) : (nI a - nI b) * (nI a - nI b) = nI (dt_sq a b) := by
  unfold dt_sq
  rcases Nat.le_total b a with h | h
  · rw [pk_sub h, pk_mul, Nat.sub_eq_zero_of_le h]; simp
  · have e : nI a - nI b = -(nI (b - a)) := by rw [← pk_sub h, Int32.neg_sub]
    rw [e, Int32.neg_mul_neg, pk_mul, Nat.sub_eq_zero_of_le h]; simp
theorem sq_le {a b : Nat} (ha : a ≤ 50) (hb : b ≤ 50) : dt_sq a b ≤ 2500 := by
  unfold dt_sq
  rcases Nat.le_total b a with h | h
  · rw [Nat.sub_eq_zero_of_le h]
    have : a - b ≤ 50 := by omega
    have := Nat.mul_le_mul this this
    omega
  · rw [Nat.sub_eq_zero_of_le h]
    have : b - a ≤ 50 := by omega
    have := Nat.mul_le_mul this this
    omega
def dt_den (d : Dt) (p q : Nat) : Nat := dH d * dH d + dt_sq (dA d 4 p) (dA d 6 q) + dt_sq (dA d 5 p) (dA d 7 q)
/-- LIGHT -/
def lg (d : Dt) (k p q : Nat) : Nat := 1000 * dA d 0 k / dt_den d p q
theorem den_pos {d : Dt} (hw : dt_wf d) (p q : Nat) : 1 ≤ dt_den d p q := by
  have h1 : 1 ≤ dH d := hw.1.2.2.2.1
  have := Nat.mul_le_mul h1 h1
  unfold dt_den; omega
theorem den_le {d : Dt} (hw : dt_wf d) {p q : Nat} (hp : p < dP d) (hq : q < dQ d) : dt_den d p q ≤ 7500 := by
  have h1 : dH d ≤ 50 := hw.1.2.2.2.2
  have h2 := Nat.mul_le_mul h1 h1
  have a := hw.2.2.1 p hp
  have b := hw.2.2.2 q hq
  have s1 := sq_le a.1 b.1
  have s2 := sq_le a.2.1 b.2.1
  unfold dt_den; omega
theorem lg_le {d : Dt} (hw : dt_wf d) {k : Nat} (hk : k < dK d) (p q : Nat) : lg d k p q ≤ 10000000 := by
  have a := (hw.2.1 k hk).1.2
  unfold lg
  exact Nat.le_trans (Nat.div_le_self _ _) (by omega)
theorem c1000 : (1000 : Int64) = lN 1000 := by decide
theorem c1000i : (1000 : Int32) = nI 1000 := by decide
/-- LampChoice$Room.lightOf -/
theorem p_lightOf {d : Dt} {u : St} (hw : dt_wf d) (h : isC d u) {k p q : Nat} (hk : k < dK d) (hp : p < dP d) (hq : q < dQ d) : Ev (fun n => FX2_lightOf n (nI k) (nI p) (nI q) u) (nI (lg d k p q), u) := by
  have hK := hw.1.1
  have hP := hw.1.2.1
  have hQ := hw.1.2.2.1
  have hd1 := den_pos hw p q
  have hd2 := den_le hw hp hq
  have hs := (hw.2.1 k hk).1
  obtain ⟨⟨h0, h1, h2, h3⟩, hk', hp', hq'⟩ := h
  obtain ⟨e0, -⟩ := hk' k hk
  obtain ⟨e4, e5, -⟩ := hp' p hp
  obtain ⟨e7, e8, -⟩ := hq' q hq
  have hden : gI u 3 * gI u 3 + (gA u 4 p - gA u 7 q) * (gA u 4 p - gA u 7 q) + (gA u 5 p - gA u 8 q) * (gA u 5 p - gA u 8 q) = nI (dt_den d p q) := by
    rw [h3, e4, e5, e7, e8, sq_nI, sq_nI, pk_mul, nI_add, nI_add]; rfl
  have c1 : (nI k).toNatClampNeg = k := nI_clamp (by omega)
  have c2 : (nI p).toNatClampNeg = p := nI_clamp (by omega)
  have c3 : (nI q).toNatClampNeg = q := nI_clamp (by omega)
  show Ev (fun n => fX2_lightOf n 0 (nI k) (nI p) (nI q) u) _
  rw [vX2_lightOf_0]
  rw [c1, c2, c3, hden, nI_l (by omega), e0, nI_l (by omega), c1000, lN_mul]
  simp only [ck_nI (show p < 7 by omega) (by decide), ck_nI (show q < 16 by omega) (by decide), ck_nI (show k < 3 by omega) (by decide), if_true]
  have hq0 : Ev (fun n => FX4_quotient n (lN (1000 * dA d 0 k)) (lN (dt_den d p q))) (lN (lg d k p q)) := by
    show Ev (fun n => fX4_quotient n 0 (lN (1000 * dA d 0 k)) (lN (dt_den d p q))) _
    rw [vX4_quotient_0]
    have g1 : ¬ lN (dt_den d p q) ≤ 0 := by
      rw [show (0 : Int64) = lN 0 from rfl, pk_lLE (by omega) (by omega)]; omega
    have g2 : ¬ lN (dt_den d p q) = 0 := by
      rw [show (0 : Int64) = lN 0 from rfl, pk_lEQ (by omega) (by omega)]; omega
    simp only [if_neg g1, if_neg g2]
    exact Ev_some (pk_lDiv (by omega) (by omega) (by omega))
  rw [Ev_bind hq0]
  exact Ev_some (by rw [lN_i])
/-- LampChoiceModel.lightOf -/
theorem q_lightOf {d : Dt} {u : St} (hw : dt_wf d) (h : isM d u) {k p q : Nat} (hk : k < dK d) (hp : p < dP d) (hq : q < dQ d) : Ev (fun n => FX5_lightOf n (nI k) (nI p) (nI q) u) (nI (lg d k p q), u) := by
  have hK := hw.1.1
  have hP := hw.1.2.1
  have hQ := hw.1.2.2.1
  have hd1 := den_pos hw p q
  have hd2 := den_le hw hp hq
  have hs := (hw.2.1 k hk).1
  obtain ⟨⟨h0, h1, h2, h3⟩, hk', hp', hq'⟩ := h
  obtain ⟨e0, -⟩ := hk' k hk
  obtain ⟨e4, e5, -⟩ := hp' p hp
  obtain ⟨e7, e8, -⟩ := hq' q hq
  have hden : gI u 4 * gI u 4 + (gA u 4 p - gA u 8 q) * (gA u 4 p - gA u 8 q) + (gA u 5 p - gA u 9 q) * (gA u 5 p - gA u 9 q) = nI (dt_den d p q) := by
    rw [h3, e4, e5, e7, e8, sq_nI, sq_nI, pk_mul, nI_add, nI_add]; rfl
  have c1 : (nI k).toNatClampNeg = k := nI_clamp (by omega)
  have c2 : (nI p).toNatClampNeg = p := nI_clamp (by omega)
  have c3 : (nI q).toNatClampNeg = q := nI_clamp (by omega)
  have g2 : ¬ nI (dt_den d p q) = 0 := nI_ne0 (by omega) (by omega)
  show Ev (fun n => fX5_lightOf n 0 (nI k) (nI p) (nI q) u) _
  rw [vX5_lightOf_0]
  rw [c1, c2, c3, hden, e0, c1000i, pk_mul, pk_div (by omega) (by omega) (by omega)]
  simp only [ck_nI (show p < 7 by omega) (by decide), ck_nI (show q < 16 by omega) (by decide), ck_nI (show k < 3 by omega) (by decide), if_true, if_neg g2]
  exact Ev_some rfl

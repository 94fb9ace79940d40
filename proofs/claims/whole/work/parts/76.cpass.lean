/-! NEED -/
def ndl (L w y : Nat) : Nat → Nat → Nat
  | 0, x => x
  | t + 1, x => if w ≤ y + L * x / 100 then x else ndl L w y t (x + 1)
theorem ndl_le (L w y : Nat) : ∀ t x, x ≤ ndl L w y t x ∧ ndl L w y t x ≤ x + t := by
  intro t
  induction t with
  | zero => intro x; rw [ndl]; omega
  | succ t ih =>
    intro x
    rw [ndl]
    split
    · omega
    · have := ih (x + 1); omega
theorem ndl_spec (L w y : Nat) : ∀ (t x : Nat), (∀ e, x ≤ e → e < ndl L w y t x → ¬ w ≤ y + L * e / 100) ∧ (ndl L w y t x < x + t → w ≤ y + L * ndl L w y t x / 100) := by
  intro t
  induction t with
  | zero => intro x; rw [ndl]; exact ⟨fun e h1 h2 => absurd h2 (by omega), fun h => absurd h (by omega)⟩
  | succ t ih =>
    intro x
    rw [ndl]
    split
    · rename_i h; exact ⟨fun e h1 h2 => absurd h2 (by omega), fun _ => h⟩
    · rename_i h
      obtain ⟨a, c⟩ := ih (x + 1)
      refine ⟨fun e h1 h2 => ?_, fun h3 => c (by omega)⟩
      rcases Nat.lt_or_ge e (x + 1) with g | g
      · have : e = x := by omega
        subst this; exact h
      · exact a e g h2
/-- the class's closed form -/
theorem ndl_closed (L w y : Nat) : ndl L w y 100 0 = if y < w then (if L = 0 then 100 else min 100 ((100 * (w - y) + L - 1) / L)) else 0 := by
  obtain ⟨a, c⟩ := ndl_spec L w y 100 0
  have hb := ndl_le L w y 100 0
  generalize ndl L w y 100 0 = x at a c hb ⊢
  by_cases g : y < w
  · rw [if_pos g]
    have iff : ∀ e, (w ≤ y + L * e / 100) ↔ (w - y) * 100 ≤ L * e := by
      intro e
      rw [← Nat.le_div_iff_mul_le (by omega)]
      omega
    by_cases z : L = 0
    · rw [if_pos z]
      rcases Nat.lt_or_ge x 100 with h | h
      · have := (iff x).mp (c (by omega))
        rw [z, Nat.zero_mul] at this
        omega
      · omega
    · rw [if_neg z]
      generalize hq : (100 * (w - y) + L - 1) / L = q
      have q1 : (w - y) * 100 ≤ L * q := by
        have := Nat.lt_mul_div_succ (100 * (w - y) + L - 1) (show 0 < L by omega)
        rw [hq, Nat.mul_succ] at this
        omega
      have q2 : ∀ e, e < q → ¬ (w - y) * 100 ≤ L * e := by
        intro e he h
        have h3 : q * L ≤ 100 * (w - y) + L - 1 := by rw [← hq]; exact Nat.div_mul_le_self _ _
        have h4 : (e + 1) * L ≤ q * L := Nat.mul_le_mul_right L he
        rw [Nat.succ_mul, Nat.mul_comm e L] at h4
        omega
      have x1 : x ≤ q := by
        rcases Nat.lt_or_ge q x with h | h
        · exact absurd ((iff q).mpr q1) (a q (by omega) h)
        · exact h
      rcases Nat.lt_or_ge x 100 with h | h
      · have := (iff x).mp (c (by omega))
        rcases Nat.lt_or_ge x q with h5 | h5
        · exact absurd this (q2 x h5)
        · omega
      · omega
  · rw [if_neg g]
    rcases Nat.eq_zero_or_pos x with h | h
    · exact h
    · exact absurd (show w ≤ y + L * 0 / 100 by omega) (a 0 (by omega) h)
def NE (d : Dt) (b : Nat → Int) (dy : Nat → Nat) (sn : Nat → Int) (p : Nat) : Nat := if sn p < 0 then 100 else ndl (cl d b p (sn p).toNat) (dA d 8 (sn p).toNat) (dy (sn p).toNat) 100 0
theorem NE_le (d : Dt) (b : Nat → Int) (dy : Nat → Nat) (sn : Nat → Int) (p : Nat) : NE d b dy sn p ≤ 100 := by
  unfold NE
  split
  · omega
  · have := (ndl_le (cl d b p (sn p).toNat) (dA d 8 (sn p).toNat) (dy (sn p).toNat) 100 0).2; omega
/-- step, daylight and sensors, in the class -/
def enC (d : Dt) (u : St) (st : Nat) (dy : Nat → Nat) (sn : Nat → Int) : Prop := (gI u 9 = nI st ∧ 1 ≤ st ∧ st ≤ 100) ∧ (∀ q, q < dQ d → dy q ≤ 100000 ∧ gA u 19 q = nI (dy q)) ∧ (∀ p, p < dP d → -1 ≤ sn p ∧ sn p < dQ d ∧ gA u 18 p = iI (sn p))
theorem p_needOf {d : Dt} (hw : dt_wf d) {u : St} {b : Nat → Int} (hl : lmC d u b) {st : Nat} {dy : Nat → Nat} {sn : Nat → Int} (he : enC d u st dy sn) {p : Nat} (hp : p < dP d) : Ev (fun n => FX1_needOf n (nI p) u) (nI (NE d b dy sn p), u) := by
  have hP := hw.1.2.1
  have hQ := hw.1.2.2.1
  have hK := hw.1.1
  obtain ⟨s1, s2, s3⟩ := he.2.2 p hp
  show Ev (fun n => fX1_needOf n 0 (nI p) u) _
  rw [vX1_needOf_0]
  have cmp : (0 ≤ iI (sn p)) ↔ 0 ≤ sn p := by
    rw [Int32.le_iff_toInt_le, iI_toInt (by omega) (by omega)]; rfl
  simp only [ck_nI (show p < 7 by omega) (by decide), if_true, nI_clamp (show p < 2 ^ 31 by omega), s3, cmp]
  unfold NE
  by_cases g : 0 ≤ sn p
  · rw [if_neg (show ¬ sn p < 0 by omega)]
    simp only [if_pos g]
    rw [iI_nonneg g]
    generalize hq : (sn p).toNat = q
    have hq' : q < dQ d := by omega
    obtain ⟨y1, y2⟩ := he.2.1 q hq'
    have w1 := (hw.2.2.2 q hq').2.2
    have w2 := (hl.1.2.2.2 q hq').2.2
    have bc := cl_le hw (hl.2.2.1 p hp) q
    have cmp2 : (0 < nI (dA d 8 q) - nI (dy q)) ↔ dy q < dA d 8 q := by
      rw [Int32.lt_iff_toInt_lt, pk_sub_toInt (by omega) (by omega)]
      show (0 : Int) < _ ↔ _
      omega
    simp only [ck_nI (show q < 16 by omega) (by decide), if_true, nI_clamp (show q < 2 ^ 31 by omega), w2, y2, cmp2]
    rw [ndl_closed]
    by_cases c : dy q < dA d 8 q
    · simp only [if_pos c]
      rw [Ev_bind (p_lampLight hw hl hp hq')]
      have z0 : (nI (cl d b p q)).toInt64 = lN (cl d b p q) := nI_l (by omega)
      have z1 : (lN (cl d b p q) = 0) ↔ cl d b p q = 0 := by rw [show (0 : Int64) = lN 0 from rfl, pk_lEQ (by omega) (by omega)]
      simp only [z0, z1]
      by_cases z : cl d b p q = 0
      · simp only [if_pos z]
        exact Ev_some rfl
      · simp only [if_neg z]
        rw [pk_sub (by omega), nI_l (by omega), show (100 : Int64) = lN 100 from rfl, lN_mul, lN_add, show (1 : Int64) = lN 1 from rfl, lN_sub (by omega), Ev_bind (p_quo (by omega) (by omega) (by omega))]
        generalize hx : (100 * (dA d 8 q - dy q) + cl d b p q - 1) / cl d b p q = x
        have hx2 : x ≤ 100 * (dA d 8 q - dy q) + cl d b p q - 1 := by rw [← hx]; exact Nat.div_le_self _ _
        refine Ev_some ?_
        by_cases h : x < 100
        · rw [if_pos ((pk_lLT (by omega) (by omega)).mpr h), lN_i, show min 100 x = x by omega]
        · rw [if_neg (fun k => h ((pk_lLT (by omega) (by omega)).mp k)), lN_i, show min 100 x = 100 by omega]
    · simp only [if_neg c]
      exact Ev_some rfl
  · rw [if_pos (show sn p < 0 by omega)]
    simp only [if_neg g]
    exact Ev_some rfl
/-! a run: every lamp's minutes -/
def ZZ (d : Dt) (b : Nat → Int) (st : Nat) (dy : Nat → Nat) (sn : Nat → Int) (n : Nat) (X Y : Nat → Nat) (p : Nat) : Nat × Nat × Nat × Nat :=
  if b p < 0 then (X p, Y p, 0, 0) else MN st (NE d b dy sn p) (60 * dA d 2 (b p).toNat) n (X p, Y p, 0, 0)
def S2 (d : Dt) (b : Nat → Int) (Z : Nat → Nat × Nat × Nat × Nat) : Nat → Nat
  | 0 => 0
  | p + 1 => S2 d b Z p + (if b p < 0 then 0 else (Z p).2.2.2 * dA d 1 (b p).toNat)
def S3 (d : Dt) (b : Nat → Int) (Z : Nat → Nat × Nat × Nat × Nat) : Nat → Nat
  | 0 => 0
  | p + 1 => S3 d b Z p + (if b p < 0 then 0 else (Z p).2.2.1 * dA d 3 (b p).toNat)
def S4 (b : Nat → Int) (Z : Nat → Nat × Nat × Nat × Nat) : Nat → Nat
  | 0 => 0
  | p + 1 => S4 b Z p + (if b p < 0 then 0 else (Z p).2.2.1)
/-- levels and minutes lasted -/
def xyC (d : Dt) (u : St) (b : Nat → Int) (X Y : Nat → Nat) : Prop := ∀ p, p < dP d → X p ≤ 100 ∧ gA u 20 p = nI (X p) ∧ gA u 21 p = nI (Y p) ∧ (0 ≤ b p → Y p ≤ 60 * dA d 2 (b p).toNat)
/-- after the lamps before p -/
def psC (d : Dt) (b : Nat → Int) (Z : Nat → Nat × Nat × Nat × Nat) (u v : St) (p : Nat) : Prop := (∀ i, i < p → gA v 20 i = nI (Z i).1 ∧ gA v 21 i = nI (Z i).2.1) ∧ (∀ i, p ≤ i → gA v 20 i = gA u 20 i ∧ gA v 21 i = gA u 21 i) ∧ (gJ v 2 = gJ u 2 + lN (S2 d b Z p) ∧ gJ v 3 = gJ u 3 + lN (S3 d b Z p) ∧ gJ v 4 = gJ u 4 + lN (S4 b Z p)) ∧ v.1 = u.1 ∧ (∀ j, j < 2 → gJ v j = gJ u j) ∧ (∀ a, a ≠ 20 → a ≠ 21 → gA v a = gA u a) ∧ v.2.2.2 = u.2.2.2
theorem J0 (x : Int64) : x = x + lN (0 * 0) := by rw [Nat.zero_mul]; exact (Int64.add_zero x).symm
theorem p_pass2 {d : Dt} (hw : dt_wf d) {u : St} {b : Nat → Int} (hl : lmC d u b) {st : Nat} {dy : Nat → Nat} {sn : Nat → Int} (he : enC d u st dy sn) {X Y : Nat → Nat} (hxy : xyC d u b X Y) {c : Nat} (hc : c ≤ 10000) :
    ∀ (m p : Nat) (v : St), p + m = dP d → psC d b (ZZ d b st dy sn c X Y) u v p → EvP (fun n => fX1_pass n 2 (nI c) (nI p) v) (fun w => ∃ v, w = sI v 10 (gI v 10 + nI c) ∧ psC d b (ZZ d b st dy sn c X Y) u v (dP d)) := by
  have hP := hw.1.2.1
  have hK := hw.1.1
  intro m
  induction m with
  | zero =>
    intro p v hp hv
    obtain ⟨v1, v2, v3, vI, vJ, vA, vL⟩ := id hv
    have e1 : gI v 1 = nI (dP d) := by show v.1 1 = _; rw [vI]; exact hl.1.1.2.1
    rw [wX1_pass_2, e1]
    simp only [if_pos (nI_le (show dP d ≤ p by omega) (show p < 2 ^ 31 by omega))]
    have : p = dP d := by omega
    subst this
    exact EvP_some ⟨v, rfl, hv⟩
  | succ m ih =>
    intro p v hp hv
    have hp' : p < dP d := by omega
    have hbp := hl.2.2.1 p hp'
    obtain ⟨v1, v2, v3, vI, vJ, vA, vL⟩ := id hv
    have hlv : lmC d v b := by
      obtain ⟨h1, h2, h3, h4⟩ := hl
      refine ⟨isC_mv h1 (fun i _ => by show v.1 i = u.1 i; rw [vI]) (fun a ha => vA a (by omega) (by omega)), fun p k q a b e => ?_, h3, fun p hp => ?_⟩
      · rw [vA 10 (by omega) (by omega)]; exact h2 p k q a b e
      · rw [vA 14 (by omega) (by omega)]; exact h4 p hp
    have hev : enC d v st dy sn := ⟨⟨by show v.1 9 = _; rw [vI]; exact he.1.1, he.1.2⟩, by rw [vA 19 (by omega) (by omega)]; exact he.2.1, by rw [vA 18 (by omega) (by omega)]; exact he.2.2⟩
    rw [wX1_pass_2, hlv.1.1.2.1]
    simp only [if_neg (nI_ge hp' (show dP d < 2 ^ 31 by omega)), ck_nI (show p < 7 by omega) (by decide), if_true, nI_clamp (show p < 2 ^ 31 by omega), hlv.2.2.2 p hp', iI_eqm1 hbp.1 (show b p < 2147483648 by omega)]
    obtain ⟨x1, x2, x3, x4⟩ := hxy p hp'
    by_cases g : b p < 0
    · simp only [if_pos g, nI_1]
      refine ih (p + 1) v (by omega) ⟨fun i hi => ?_, fun i hi => v2 i (by omega), ?_, vI, vJ, vA, vL⟩
      · rcases Nat.lt_or_ge i p with h | h
        · exact v1 i h
        · have : i = p := by omega
          subst this
          have ez : ZZ d b st dy sn c X Y i = (X i, Y i, 0, 0) := if_pos g
          rw [ez, (v2 i h).1, (v2 i h).2]
          exact ⟨x2, x3⟩
      · rw [S2, S3, S4, if_pos g, if_pos g, if_pos g]; exact v3
    · simp only [if_neg g]
      obtain ⟨k, hk⟩ : ∃ k : Nat, b p = (k : Int) := ⟨(b p).toNat, by omega⟩
      have hkn : (b p).toNat = k := by omega
      have ez : ZZ d b st dy sn c X Y p = MN st (NE d b dy sn p) (60 * dA d 2 k) c (X p, Y p, 0, 0) := by
        unfold ZZ; rw [if_neg g, hkn]
      have hy : Y p ≤ 60 * dA d 2 k := by rw [← hkn]; exact x4 (by omega)
      have hfol : EvP (fun n => FX1_follow n (nI p) (nI c) v) (fun w => dyC (dA d 1 k) (dA d 3 k) p v w (ZZ d b st dy sn c X Y p)) := by
        show EvP (fun n => fX1_follow n 0 (nI p) (nI c) 0 0 v) _
        rw [wX1_follow_0, EvP_bind (p_needOf hw hlv hev hp'), ez]
        refine p_follow9 hw hlv hp' hk hev.1.1 hev.1.2.2 (NE_le d b dy sn p) c (X p, Y p, 0, 0) v hc x1 hy ⟨?_, ?_, ?_, ?_, ?_, rfl, fun _ _ => rfl, fun _ _ _ => rfl, rfl⟩
        · show gA v 20 = upd (gA v 20) p (nI (X p))
          rw [← x2, ← (v2 p (Nat.le_refl p)).1, upd_same]
        · show gA v 21 = upd (gA v 21) p (nI (Y p))
          rw [← x3, ← (v2 p (Nat.le_refl p)).2, upd_same]
        · show gJ v 2 = gJ v 2 + lN (0 * _)
          rw [Nat.zero_mul]; exact (Int64.add_zero _).symm
        · show gJ v 3 = gJ v 3 + lN (0 * _)
          rw [Nat.zero_mul]; exact (Int64.add_zero _).symm
        · show gJ v 4 = gJ v 4 + lN 0
          exact (Int64.add_zero _).symm
      refine EvP_bindP hfol (fun w hw2 => ?_)
      obtain ⟨w20, w21, j2, j3, j4, wI, wJ, wA, wL⟩ := hw2
      rw [nI_1]
      refine ih (p + 1) w (by omega) ⟨fun i hi => ?_, fun i hi => ?_, ?_, wI.trans vI, fun j hj => (wJ j hj).trans (vJ j hj), fun a a1 a2 => (wA a a1 a2).trans (vA a a1 a2), wL.trans vL⟩
      · rw [w20, w21, up_at, up_at]
        by_cases h : i = p
        · rw [if_pos h, if_pos h, h]; exact ⟨rfl, rfl⟩
        · rw [if_neg h, if_neg h]; exact v1 i (by omega)
      · rw [w20, w21, up_at, up_at, if_neg (by omega), if_neg (by omega)]; exact v2 i (by omega)
      · rw [S2, S3, S4, if_neg g, if_neg g, if_neg g, hkn, j2, j3, j4, v3.1, v3.2.1, v3.2.2, Int64.add_assoc, Int64.add_assoc, Int64.add_assoc, lN_add, lN_add, lN_add]
        exact ⟨rfl, rfl, rfl⟩
theorem p_pass {d : Dt} (hw : dt_wf d) {u : St} {b : Nat → Int} (hl : lmC d u b) {st : Nat} {dy : Nat → Nat} {sn : Nat → Int} (he : enC d u st dy sn) {X Y : Nat → Nat} (hxy : xyC d u b X Y) {c : Nat} (hc : c ≤ 10000) :
    EvP (fun n => FX1_pass n (nI c) u) (fun w => ∃ v, w = sI v 10 (gI v 10 + nI c) ∧ psC d b (ZZ d b st dy sn c X Y) u v (dP d)) := by
  show EvP (fun n => fX1_pass n 0 (nI c) 0 u) _
  rw [wX1_pass_0]
  exact p_pass2 hw hl he hxy hc (dP d) 0 u (by omega) ⟨fun i hi => absurd hi (by omega), fun _ _ => ⟨rfl, rfl⟩, ⟨(Int64.add_zero _).symm, (Int64.add_zero _).symm, (Int64.add_zero _).symm⟩, rfl, fun _ _ => rfl, fun _ _ _ => rfl, rfl⟩

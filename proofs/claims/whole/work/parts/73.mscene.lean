/-! the reference's scene -/
def lmM (d : Dt) (u : St) (b : Nat → Int) : Prop := isM d u ∧ vd d b (dP d) ∧ ((gI u 7 = 0 ∧ ∀ p, p < dP d → b p = -1) ∨ (gI u 7 = 1 ∧ ∀ p, p < dP d → gA u 13 p = iI (b p)))
theorem lmM_of {d : Dt} {u : St} {acc : Option (Nat → Int)} (hw : dt_wf d) (hu : isM d u) (ha : accM d u acc) : lmM d u (bbo acc) := by
  cases acc with
  | none => exact ⟨hu, fun i _ => ⟨by show (-1 : Int) ≤ -1; omega, by show (-1 : Int) < _; omega⟩, Or.inl ⟨ha, fun p _ => rfl⟩⟩
  | some b => exact ⟨hu, ha.1, Or.inr ⟨ha.2.1, ha.2.2.2.2.2⟩⟩
theorem lmM_mv {d : Dt} {u v : St} {b : Nat → Int} (h : lmM d u b) (hI : ∀ i, 1 ≤ i → i < 8 → i ≠ 5 → i ≠ 6 → gI v i = gI u i) (hA : ∀ a, a < 14 → a ≠ 7 → a ≠ 11 → a ≠ 12 → gA v a = gA u a) : lmM d v b := by
  obtain ⟨h1, h2, h3⟩ := h
  refine ⟨isM_mv h1 (fun i a b => hI i a (by omega) (by omega) (by omega)) (fun a x y => hA a (by omega) y (by omega) (by omega)), h2, ?_⟩
  rcases h3 with ⟨a, c⟩ | ⟨a, c⟩
  · exact Or.inl ⟨by rw [hI 7 (by omega) (by omega) (by omega) (by omega)]; exact a, c⟩
  · exact Or.inr ⟨by rw [hI 7 (by omega) (by omega) (by omega) (by omega)]; exact a, by rw [hA 13 (by omega) (by omega) (by omega) (by omega)]; exact c⟩
theorem q_hasLamp {d : Dt} (hw : dt_wf d) {u : St} {b : Nat → Int} (h : lmM d u b) {p : Nat} (hp : p < dP d) : Ev (fun n => FX5_hasLamp n (nI p) u) (bI (decide (0 ≤ b p)), u) := by
  have hP := hw.1.2.1
  have hK := hw.1.1
  have hbp := h.2.1 p hp
  show Ev (fun n => fX5_hasLamp n 0 (nI p) u) _
  rw [vX5_hasLamp_0]
  rcases h.2.2 with ⟨a, c⟩ | ⟨a, c⟩
  · have := c p hp
    simp only [a, if_true]
    rw [this]
    exact Ev_some rfl
  · simp only [a, if_neg (show ¬ (1 : Int32) = 0 by decide), ck_nI (show p < 7 by omega) (by decide), if_true, nI_clamp (show p < 2 ^ 31 by omega), c p hp, iI_neg (show -2147483648 ≤ b p by omega) (show b p < 2147483648 by omega)]
    by_cases g : b p < 0
    · simp only [if_pos g]
      rw [show decide (0 ≤ b p) = false from by simp; omega]
      exact Ev_some rfl
    · simp only [if_neg g]
      rw [show decide (0 ≤ b p) = true from by simp; omega]
      exact Ev_some rfl
/-- the kind of a lamp that stands there -/
theorem lmM_at {d : Dt} {u : St} {b : Nat → Int} (h : lmM d u b) {p : Nat} (hp : p < dP d) (g : 0 ≤ b p) : gA u 13 p = nI (b p).toNat ∧ (b p).toNat < dK d := by
  have hbp := h.2.1 p hp
  rcases h.2.2 with ⟨a, c⟩ | ⟨a, c⟩
  · have := c p hp; omega
  · rw [c p hp, iI_nonneg g]; exact ⟨rfl, by omega⟩
theorem q_lampLight {d : Dt} (hw : dt_wf d) {u : St} {b : Nat → Int} (h : lmM d u b) {p q : Nat} (hp : p < dP d) (hq : q < dQ d) (g : 0 ≤ b p) : Ev (fun n => FX5_lightOf n (gA u 13 p) (nI p) (nI q) u) (nI (cl d b p q), u) := by
  obtain ⟨e, hk⟩ := lmM_at h hp g
  rw [e]
  have : cl d b p q = lg d (b p).toNat p q := by unfold cl; rw [if_neg (by omega)]
  rw [this]
  exact q_lightOf hw h.1 hk hp hq
/-- dims as the reference has them -/
def dmM (d : Dt) (u : St) (D : Nat → Nat) : Prop := ∀ p, p < dP d → D p ≤ 100 ∧ gA u 18 p = nI (D p)
def amM (d : Dt) (u : St) (am : Nat → Nat) : Prop := ∀ q, q < dQ d → am q ≤ 1000000 ∧ gA u 11 q = nI (am q)
theorem q_missOf {d : Dt} (hw : dt_wf d) {u : St} {b : Nat → Int} (h : lmM d u b) {am D : Nat → Nat} (ha : amM d u am) (hd : dmM d u D) {q : Nat} (hq : q < dQ d) : Ev (fun n => FX5_missOf n (nI q) u) (jL (mss d b am D q), u) := by
  have hP := hw.1.2.1
  have hQ := hw.1.2.2.1
  have hK := hw.1.1
  have key : ∀ (m p : Nat), p + m = dP d → Ev (fun n => fX5_missOf n 15 (nI q) (jL (100 * (am q : Int) - DS d b D q p)) (nI p) u) (jL (mss d b am D q), u) := by
    intro m
    induction m with
    | zero =>
      intro p hp
      rw [vX5_missOf_15, h.1.1.2.1]
      simp only [if_pos (nI_le (show dP d ≤ p by omega) (show p < 2 ^ 31 by omega))]
      have : p = dP d := by omega
      subst this
      exact Ev_some rfl
    | succ m ih =>
      intro p hp
      have hp' : p < dP d := by omega
      have hbp := h.2.1 p hp'
      have bc := cl_le hw hbp q
      have hD := hd p hp'
      have := ih (p + 1) (by omega)
      rw [DS] at this
      rw [vX5_missOf_15, h.1.1.2.1]
      simp only [if_neg (nI_ge hp' (show dP d < 2 ^ 31 by omega))]
      rw [Ev_bind (q_hasLamp hw h hp')]
      by_cases g : 0 ≤ b p
      · rw [show decide (0 ≤ b p) = true from by simp; omega]
        simp only [bI_z, if_neg (show ¬ (true = false) by decide), ck_nI (show p < 7 by omega) (by decide), if_true, nI_clamp (show p < 2 ^ 31 by omega)]
        rw [Ev_bind (q_lampLight hw h hp' hq g)]
        simp only [hD.2, nI_jL (show cl d b p q < 2 ^ 31 by omega), nI_jL (show D p < 2 ^ 31 by omega), jL_mul, jL_sub, nI_1]
        rw [show 100 * (am q : Int) - DS d b D q p - (cl d b p q : Int) * (D p : Int) = 100 * (am q : Int) - (DS d b D q p + cz d b p q * (D p : Int)) from by
          show _ = 100 * (am q : Int) - (DS d b D q p + (cl d b p q : Int) * (D p : Int))
          omega]
        exact this
      · rw [show decide (0 ≤ b p) = false from by simp; omega]
        simp only [bI_z, if_true, nI_1]
        have z : cz d b p q = 0 := by
          show (cl d b p q : Int) = 0
          unfold cl; rw [if_pos (by omega)]; rfl
        rw [z, Int.zero_mul, Int.add_zero] at this
        rw [show (0 : Int64) = jL 0 from rfl, jL_sub, Int.sub_zero]
        exact this
  show Ev (fun n => fX5_missOf n 0 (nI q) 0 0 u) _
  rw [vX5_missOf_0]
  simp only [ck_nI (show q < 16 by omega) (by decide), if_true, nI_clamp (show q < 2 ^ 31 by omega), (ha q hq).2, nI_jL (show am q < 2 ^ 31 by have := (ha q hq).1; omega)]
  rw [show (100 : Int64) = jL 100 from rfl, jL_mul]
  have := key (dP d) 0 (by omega)
  rw [DS, Int.sub_zero] at this
  exact this
theorem n100 : (100 : Int32) = nI 100 := by decide
theorem q_dim71 {u : St} {S A : Int} (s1 : 0 ≤ S) (s2 : S ≤ 1600000000000000) (a1 : -1120000000000000000 ≤ A) (a2 : A ≤ 1120000000000000000) : ∀ (t x : Nat), x + t = 100 → Ev (fun n => fX5_dimOf n 71 0 (jL A) (jL S) (nI x) u) (nI (fdm S A t x), u) := by
  intro t
  induction t with
  | zero =>
    intro x hx
    rw [vX5_dimOf_71, n100]
    simp only [if_pos (nI_le (show 100 ≤ x by omega) (show x < 2 ^ 31 by omega))]
    exact Ev_some rfl
  | succ t ih =>
    intro x hx
    rw [vX5_dimOf_71, n100]
    have m1 : (2 * (x : Int) + 1) * S ≤ 201 * 1600000000000000 := Int.mul_le_mul (by omega) s2 s1 (by omega)
    have m2 : 0 ≤ (2 * (x : Int) + 1) * S := Int.mul_nonneg (by omega) s1
    simp only [if_neg (nI_ge (show x < 100 by omega) (show 100 < 2 ^ 31 by omega)), nI_jL (show x < 2 ^ 31 by omega), nI_1]
    rw [show (2 : Int64) = jL 2 from rfl, show (1 : Int64) = jL 1 from rfl, show (0 : Int64) = jL 0 from rfl]
    simp only [jL_mul, jL_add, jL_sub, jL_le (show -9223372036854775808 ≤ (0 : Int) by omega) (show (0 : Int) < 9223372036854775808 by omega) (show -9223372036854775808 ≤ (2 * (x : Int) + 1) * S - 2 * A by omega) (show (2 * (x : Int) + 1) * S - 2 * A < 9223372036854775808 by omega)]
    rw [fdm]
    by_cases g : 0 ≤ (2 * (x : Int) + 1) * S - 2 * A
    · simp only [if_pos g]
      exact Ev_some rfl
    · simp only [if_neg g]
      exact ih (x + 1) (by omega)
/-- only dims change -/
def frD (u v : St) : Prop := v.1 = u.1 ∧ v.2.1 = u.2.1 ∧ ∀ a, a ≠ 18 → gA v a = gA u a
theorem frD.rf (u : St) : frD u u := ⟨rfl, rfl, fun _ _ => rfl⟩
theorem frD.tr {u v w : St} (a : frD u v) (b : frD v w) : frD u w := ⟨b.1.trans a.1, b.2.1.trans a.2.1, fun k h => (b.2.2 k h).trans (a.2.2 k h)⟩
theorem frD.lm {d : Dt} {u v : St} {b : Nat → Int} (f : frD u v) (h : lmM d u b) : lmM d v b := lmM_mv h (fun i _ _ _ _ => by show v.1 i = u.1 i; rw [f.1]) (fun a h1 _ _ _ => f.2.2 a (by omega))
theorem frD.am {d : Dt} {u v : St} {am : Nat → Nat} (f : frD u v) (h : amM d u am) : amM d v am := fun q hq => by rw [f.2.2 11 (by omega)]; exact h q hq
theorem frD.A {u : St} (f : Nat → Int32) : frD u (sA u 18 f) := ⟨rfl, rfl, fun a ha => by rw [gA_sA, if_neg ha]⟩
theorem dmM_up {d : Dt} {u : St} {D : Nat → Nat} (hd : dmM d u D) {p x : Nat} (hx : x ≤ 100) : dmM d (sA u 18 (upd (gA u 18) p (nI x))) (dup0 D p x) := by
  intro i hi
  rw [gA_sA, if_pos rfl, up_at]
  unfold dup0
  by_cases g : i = p
  · rw [if_pos g, if_pos g]; exact ⟨hx, rfl⟩
  · rw [if_neg g, if_neg g]; exact hd i hi
theorem q_dimOf {d : Dt} (hw : dt_wf d) {u : St} {b : Nat → Int} (h : lmM d u b) {am D : Nat → Nat} (ha : amM d u am) (hd : dmM d u D) {p : Nat} (hp : p < dP d) (g : 0 ≤ b p) : Ev (fun n => FX5_dimOf n (nI p) u) (nI (FD d b am D p), sA u 18 (upd (gA u 18) p 0)) := by
  have hP := hw.1.2.1
  have hQ := hw.1.2.2.1
  have hK := hw.1.1
  have hb := h.2.1
  have hd0 : dmM d (sA u 18 (upd (gA u 18) p 0)) (dup0 D p 0) := dmM_up hd (x := 0) (by omega)
  have h0 : lmM d (sA u 18 (upd (gA u 18) p 0)) b := (frD.A _).lm h
  have ha0 : amM d (sA u 18 (upd (gA u 18) p 0)) am := (frD.A _).am ha
  have hD : ∀ i, i < dP d → D i ≤ 100 := fun i hi => (hd i hi).1
  have bs := SQ_le hw hb hp (dQ d)
  have ba := AC_le hw hb hD (fun q hq => (ha q hq).1) hp (dQ d) (Nat.le_refl _)
  show Ev (fun n => fX5_dimOf n 0 (nI p) 0 0 0 u) _
  rw [vX5_dimOf_0]
  simp only [ck_nI (show p < 7 by omega) (by decide), if_true, nI_clamp (show p < 2 ^ 31 by omega)]
  generalize sA u 18 (upd (gA u 18) p 0) = v at hd0 h0 ha0 ⊢
  have key : ∀ (m q : Nat), q + m = dQ d → Ev (fun n => fX5_dimOf n 15 (nI p) (jL (AC d b am D p q)) (jL (SQ d b p q)) (nI q) v) (nI (FD d b am D p), v) := by
    intro m
    induction m with
    | zero =>
      intro q hq
      rw [vX5_dimOf_15, h0.1.1.2.2.1]
      simp only [if_pos (nI_le (show dQ d ≤ q by omega) (show q < 2 ^ 31 by omega))]
      have : q = dQ d := by omega
      subst this
      exact q_dim71 bs.1 (by omega) (by omega) (by omega) 100 0 (by omega)
    | succ m ih =>
      intro q hq
      have hq' : q < dQ d := by omega
      have bc := cl_le hw (hb p hp) q
      rw [vX5_dimOf_15, h0.1.1.2.2.1]
      simp only [if_neg (nI_ge hq' (show dQ d < 2 ^ 31 by omega)), ck_nI (show p < 7 by omega) (by decide), if_true, nI_clamp (show p < 2 ^ 31 by omega)]
      rw [Ev_bind (q_lampLight hw h0 hp hq' g), Ev_bind (q_missOf hw h0 ha0 hd0 hq')]
      simp only [nI_jL (show cl d b p q < 2 ^ 31 by omega), jL_mul, jL_add, nI_1]
      have := ih (q + 1) (by omega)
      rw [SQ, AC] at this
      exact this
  exact key (dQ d) 0 (by omega)
theorem q_sweep75 {d : Dt} (hw : dt_wf d) {b : Nat → Int} {am : Nat → Nat} {F : Int32 × St → Prop} {k : Int32} : ∀ (r p : Nat) (D : Nat → Nat) (ch : Bool) (u : St), p + r = dP d → lmM d u b → amM d u am → dmM d u D →
    (∀ v, dmM d v (SW d b am r p (D, ch)).1 → frD u v → EvP (fun n => fX5_sweep n 57 0 k (bI (SW d b am r p (D, ch)).2) 0 v) F) →
    EvP (fun n => fX5_sweep n 75 0 k (bI ch) (nI p) u) F := by
  have hP := hw.1.2.1
  have hK := hw.1.1
  intro r
  induction r with
  | zero =>
    intro p D ch u hp hl ha hd kk
    rw [wX5_sweep_75, hl.1.1.2.1]
    simp only [if_pos (nI_le (show dP d ≤ p by omega) (show p < 2 ^ 31 by omega))]
    exact kk u hd (frD.rf u)
  | succ r ih =>
    intro p D ch u hp hl ha hd kk
    have hp' : p < dP d := by omega
    have hbp := hl.2.1 p hp'
    have hDp := hd p hp'
    rw [SW] at kk
    rw [wX5_sweep_75, hl.1.1.2.1]
    simp only [if_neg (nI_ge hp' (show dP d < 2 ^ 31 by omega))]
    rw [EvP_bind (q_hasLamp hw hl hp')]
    by_cases g : 0 ≤ b p
    · rw [show decide (0 ≤ b p) = true from by simp; omega]
      rw [if_neg (show ¬ b p < 0 by omega)] at kk
      simp only [bI_z, if_neg (show ¬ (true = false) by decide), ck_nI (show p < 7 by omega) (by decide), if_true, nI_clamp (show p < 2 ^ 31 by omega)]
      rw [EvP_bind (q_dimOf hw hl ha hd hp' g)]
      have hfd := FD_le d b am D p
      have he : (nI (FD d b am D p) = nI (D p)) ↔ FD d b am D p = D p := by
        rw [← iI_nat, ← iI_nat, iI_inj (by omega) (by omega) (by omega) (by omega)]; omega
      have e2 : sA (sA u 18 (upd (gA u 18) p 0)) 18 (upd (gA (sA u 18 (upd (gA u 18) p 0)) 18) p (nI (FD d b am D p))) = sA u 18 (upd (gA u 18) p (nI (FD d b am D p))) := by
        rw [sA_sA, gA_sA, if_pos rfl]
        congr 1
        funext i
        rw [up_at, up_at, up_at]
        split <;> rfl
      simp only [e2, up_at, if_true, hDp.2, he, nI_1]
      have go : EvP (fun n => fX5_sweep n 75 0 k (bI (ch || decide (FD d b am D p ≠ D p))) (nI (p + 1)) (sA u 18 (upd (gA u 18) p (nI (FD d b am D p))))) F :=
        ih (p + 1) _ _ _ (by omega) ((frD.A _).lm hl) ((frD.A _).am ha) (dmM_up hd hfd) (fun v h1 h2 => kk v h1 ((frD.A _).tr h2))
      cases ch with
      | true =>
        simp only [if_neg (show ¬ (true = false) by decide)]
        exact go
      | false =>
        simp only [if_true]
        by_cases e : FD d b am D p = D p
        · simp only [if_pos e]
          rw [show (false || decide (FD d b am D p ≠ D p)) = false from by simp [e]] at go
          exact go
        · simp only [if_neg e]
          rw [show (false || decide (FD d b am D p ≠ D p)) = true from by simp [e]] at go
          exact go
    · rw [show decide (0 ≤ b p) = false from by simp; omega]
      rw [if_pos (show b p < 0 by omega)] at kk
      simp only [bI_z, if_true, nI_1]
      exact ih (p + 1) D ch u (by omega) hl ha hd kk
theorem q_sweep57 {d : Dt} (hw : dt_wf d) {b : Nat → Int} {am : Nat → Nat} : ∀ (t k : Nat) (D : Nat → Nat) (ch : Bool) (u : St), k + t = 20 → lmM d u b → amM d u am → dmM d u D →
    EvP (fun n => fX5_sweep n 57 0 (nI k) (bI ch) 0 u) (fun w => w.1 = nI (SC d b am t D ch k).2 ∧ dmM d w.2 (SC d b am t D ch k).1 ∧ frD u w.2) := by
  intro t
  induction t with
  | zero =>
    intro k D ch u hk hl ha hd
    rw [wX5_sweep_57, n20]
    simp only [if_pos (nI_le (show 20 ≤ k by omega) (show k < 2 ^ 31 by omega)), ite_self]
    exact EvP_some ⟨rfl, hd, frD.rf u⟩
  | succ t ih =>
    intro k D ch u hk hl ha hd
    rw [wX5_sweep_57, n20]
    simp only [if_neg (nI_ge (show k < 20 by omega) (show 20 < 2 ^ 31 by omega)), bI_z]
    rw [SC]
    cases ch with
    | false =>
      simp only [if_true, if_neg (show ¬ (false = true) by decide)]
      exact EvP_some ⟨rfl, hd, frD.rf u⟩
    | true =>
      simp only [if_neg (show ¬ (true = false) by decide), if_true, nI_1]
      refine q_sweep75 hw (dP d) 0 D false u (by omega) hl ha hd (fun v h1 h2 => ?_)
      exact EvP_imp (ih (k + 1) _ _ v (by omega) (h2.lm hl) (h2.am ha) h1) (fun w hv => ⟨hv.1, hv.2.1, h2.tr hv.2.2⟩)
theorem q_sweep8 {d : Dt} (hw : dt_wf d) {b : Nat → Int} {am : Nat → Nat} : ∀ (m p : Nat) (u : St), p + m = 7 → lmM d u b → amM d u am → (∀ j, j < p → gA u 18 j = 0) →
    EvP (fun n => fX5_sweep n 8 (bI (hasL b (min p (dP d)))) (nI p) 0 0 u) (fun w => w.1 = nI (scn d b am).2 ∧ dmM d w.2 (scn d b am).1 ∧ frD u w.2) := by
  have hP := hw.1.2.1
  have hK := hw.1.1
  intro m
  induction m with
  | zero =>
    intro p u hp hl ha hz
    rw [wX5_sweep_8, n7]
    simp only [if_pos (nI_le (show 7 ≤ p by omega) (show p < 2 ^ 31 by omega))]
    rw [show min p (dP d) = dP d by omega]
    exact q_sweep57 hw 20 0 (fun _ => 0) (hasL b (dP d)) u (by omega) hl ha (fun i hi => ⟨Nat.zero_le 100, hz i (by omega)⟩)
  | succ m ih =>
    intro p u hp hl ha hz
    rw [wX5_sweep_8, n7]
    simp only [if_neg (nI_ge (show p < 7 by omega) (show 7 < 2 ^ 31 by omega)), ck_nI (show p < 7 by omega) (by decide), if_true, nI_clamp (show p < 2 ^ 31 by omega), bI_z, hl.1.1.2.1, nI_1]
    have fr : frD u (sA u 18 (upd (gA u 18) p 0)) := frD.A _
    have hz' : ∀ j, j < p + 1 → gA (sA u 18 (upd (gA u 18) p 0)) 18 j = 0 := by
      intro j hj
      rw [gA_sA, if_pos rfl, up_at]
      by_cases g : j = p
      · rw [if_pos g]
      · rw [if_neg g]; exact hz j (by omega)
    have go : EvP (fun n => fX5_sweep n 8 (bI (hasL b (min (p + 1) (dP d)))) (nI (p + 1)) 0 0 (sA u 18 (upd (gA u 18) p 0))) (fun w => w.1 = nI (scn d b am).2 ∧ dmM d w.2 (scn d b am).1 ∧ frD u w.2) :=
      EvP_imp (ih (p + 1) _ (by omega) (fr.lm hl) (fr.am ha) hz') (fun w hv => ⟨hv.1, hv.2.1, fr.tr hv.2.2⟩)
    by_cases c : dP d ≤ p
    · simp only [if_pos (nI_le c (show p < 2 ^ 31 by omega))]
      rw [show min (p + 1) (dP d) = min p (dP d) by omega] at go
      cases e : hasL b (min p (dP d)) with
      | true => simp only [if_neg (show ¬ (true = false) by decide)]; rw [e] at go; exact go
      | false => simp only [if_true]; rw [e] at go; exact go
    · have hp' : p < dP d := by omega
      simp only [if_neg (nI_ge hp' (show dP d < 2 ^ 31 by omega))]
      rw [show min (p + 1) (dP d) = p + 1 by omega] at go
      rw [show min p (dP d) = p by omega]
      rw [hasL] at go
      cases e : hasL b p with
      | true => simp only [if_neg (show ¬ (true = false) by decide)]; rw [e] at go; exact go
      | false =>
        simp only [if_true]
        rw [EvP_bind (q_hasLamp hw (fr.lm hl) hp')]
        rw [e, Bool.false_or] at go
        simp only [bI_z]
        cases f : decide (0 ≤ b p) with
        | true => simp only [if_neg (show ¬ (true = false) by decide)]; rw [f] at go; exact go
        | false => simp only [if_true]; rw [f] at go; exact go

/-! the reference's search -/
theorem isM_A {d : Dt} {u : St} (h : isM d u) {k : Nat} (hk : 11 ≤ k) (f : Nat → Int32) : isM d (sA u k f) := isM_mv h (fun _ _ _ => rfl) (fun a ha _ => by rw [gA_sA, if_neg (by omega)])
theorem n112 : (112 : Int32) = nI 112 := by decide
theorem n7 : (7 : Int32) = nI 7 := by decide
def liM (d : Dt) (u : St) : Prop := ∀ k p q, k < dK d → p < dP d → q < dQ d → gA u 17 (112 * k + 16 * p + q) = nI (lg d k p q)
theorem fk_in {d : Dt} (hw : dt_wf d) {p : Nat} (hp : p < dP d) : -1 ≤ fk d p ∧ fk d p < dK d := by
  have := (hw.2.2.1 p hp).2.2
  unfold fk
  split
  · omega
  · omega
theorem q_firstOf {d : Dt} {u : St} (hw : dt_wf d) (h : isM d u) {p : Nat} (hp : p < dP d) : Ev (fun n => FX5_firstOf n (nI p) u) (iI (fk d p), u) := by
  have hK := hw.1.1
  have hP := hw.1.2.1
  have e6 := (h.2.2.1 p hp).2.2
  have r6 := (hw.2.2.1 p hp).2.2
  show Ev (fun n => fX5_firstOf n 0 (nI p) u) _
  rw [vX5_firstOf_0, nI_clamp (show p < 2 ^ 31 by omega), e6, ← iI_m2, ← iI_m1]
  simp only [ck_nI (show p < 7 by omega) (by decide), if_true, iI_inj (show -2147483648 ≤ dE d p by omega) (show dE d p < 2147483648 by omega) (show -2147483648 ≤ (-2 : Int) by omega) (show (-2 : Int) < 2147483648 by omega)]
  unfold fk
  by_cases a : dE d p = -2
  · simp only [if_pos a]; exact Ev_some rfl
  · simp only [if_neg a]; exact Ev_some rfl
/-- rows of sums and watts, up to row j, for the choice c -/
def roM (d : Dt) (u : St) (c : Nat → Int) (j : Nat) : Prop := (∀ i q, i ≤ j → q < dQ d → gA u 15 (16 * i + q) = nI (LV d c q i)) ∧ (∀ i, i ≤ j → gA u 16 i = nI (WT d c i))
theorem q_au2 {d : Dt} (hw : dt_wf d) {c : Nat → Int} {p : Nat} (hp : p < dP d) (hc : -1 ≤ c p ∧ c p < dK d) {F : St → Prop} : ∀ (m q : Nat) (u : St), q + m = dQ d → isM d u → liM d u → (∀ j, j < dQ d → gA u 15 (16 * p + j) = nI (LV d c j p)) →
    (∀ f : Nat → Int32, (∀ j, j < 16 * (p + 1) + q → f j = gA u 15 j) → (∀ j, q ≤ j → j < dQ d → f (16 * (p + 1) + j) = nI (LV d c j (p + 1))) → EvP (fun n => fX5_addUp n 2 0 (nI (p + 1)) 0 0 (sA u 15 f)) F) →
    EvP (fun n => fX5_addUp n 49 0 (nI p) (iI (c p)) (nI q) u) F := by
  have hK := hw.1.1
  have hP := hw.1.2.1
  have hQ := hw.1.2.2.1
  intro m
  induction m with
  | zero =>
    intro q u hq hu hli hr kk
    rw [wX5_addUp_49, hu.1.2.2.1]
    simp only [if_pos (nI_le (show dQ d ≤ q by omega) (show q < 2 ^ 31 by omega)), nI_1]
    have := kk (gA u 15) (fun _ _ => rfl) (fun j h1 h2 => absurd h2 (by omega))
    rw [sA_self] at this
    exact this
  | succ m ih =>
    intro q u hq hu hli hr kk
    have hq' : q < dQ d := by omega
    have step : ∀ x : Nat, LV d c q (p + 1) = LV d c q p + x → EvP (fun n => fX5_addUp n 49 0 (nI p) (iI (c p)) (nI (q + 1)) (sA u 15 (upd (gA u 15) (16 * (p + 1) + q) (nI (LV d c q p + x))))) F := by
      intro x hx
      refine ih (q + 1) _ (by omega) (isM_A hu (by omega) _) (fun a b e x1 x2 x3 => by rw [gA_sA, if_neg (by omega)]; exact hli a b e x1 x2 x3) (fun j hj => by rw [gA_sA, if_pos rfl, up_at, if_neg (by omega)]; exact hr j hj) (fun f f1 f2 => ?_)
      rw [sA_sA]
      refine kk f (fun j hj => ?_) (fun j h1 h2 => ?_)
      · rw [f1 j (by omega), gA_sA, if_pos rfl, up_at, if_neg (by omega)]
      · rcases Nat.lt_or_ge j (q + 1) with g | g
        · have : j = q := by omega
          subst this
          rw [f1 _ (by omega), gA_sA, if_pos rfl, up_at, if_pos rfl, hx]
        · exact f2 j g h2
    rw [wX5_addUp_49, hu.1.2.2.1]
    simp only [if_neg (nI_ge hq' (show dQ d < 2 ^ 31 by omega)), n16, n112, n1, pk_mul, nI_add, ck_nI (show 16 * p + q < 128 by omega) (by decide), ck_nI (show 16 * (p + 1) + q < 128 by omega) (by decide), if_true, nI_clamp (show 16 * p + q < 2 ^ 31 by omega), nI_clamp (show 16 * (p + 1) + q < 2 ^ 31 by omega), hr q hq']
    by_cases hk : c p < 0
    · have g : ¬ 0 ≤ iI (c p) := by
        have := (iI_neg (show -2147483648 ≤ c p by omega) (show c p < 2147483648 by omega)).mpr hk
        exact fun x => absurd (Int32.lt_of_lt_of_le this x) (Int32.lt_irrefl)
      simp only [if_neg g]
      have := step 0 (by rw [LV]; unfold cl; rw [if_pos hk])
      rw [show nI (LV d c q p + 0) = nI (LV d c q p) + 0 from (nI_add _ 0).symm] at this
      exact this
    · have g : 0 ≤ iI (c p) := by rw [iI_nonneg (by omega)]; exact nI_pos' (by omega)
      simp only [if_pos g]
      have e : iI (c p) = nI (c p).toNat := iI_nonneg (by omega)
      rw [e] at step ⊢
      simp only [pk_mul, nI_add, ck_nI (show 112 * (c p).toNat + 16 * p + q < 336 by omega) (by decide), if_true, nI_clamp (show 112 * (c p).toNat + 16 * p + q < 2 ^ 31 by omega), hli (c p).toNat p q (by omega) hp hq']
      exact step _ (by rw [LV]; unfold cl; rw [if_neg hk])
theorem q_addUp {d : Dt} (hw : dt_wf d) {c : Nat → Int} (hc : vd d c (dP d)) : ∀ (m p : Nat) (u : St), p + m = dP d → isM d u → liM d u → (∀ i, i < dP d → gA u 14 i = iI (c i)) → roM d u c p →
    EvP (fun n => fX5_addUp n 2 0 (nI p) 0 0 u) (fun v => ∃ f g, v = sA (sA u 15 f) 16 g ∧ roM d v c (dP d) ∧ (∀ j, j < 16 → f j = gA u 15 j) ∧ g 0 = gA u 16 0) := by
  have hK := hw.1.1
  have hP := hw.1.2.1
  have hQ := hw.1.2.2.1
  intro m
  induction m with
  | zero =>
    intro p u hp hu hli hch hro
    have : p = dP d := by omega
    subst this
    rw [wX5_addUp_2, hu.1.2.1]
    simp only [if_pos (nI_le (Nat.le_refl (dP d)) (show dP d < 2 ^ 31 by omega))]
    refine EvP_some ⟨gA u 15, gA u 16, ?_, hro, fun _ _ => rfl, rfl⟩
    rw [sA_self, sA_self]
  | succ m ih =>
    intro p u hp hu hli hch hro
    have hp' : p < dP d := by omega
    have hcp := hc p hp'
    have bw := WT_le hw (show vd d c p from fun i hi => hc i (by omega))
    have step : ∀ x : Nat, WT d c (p + 1) = WT d c p + x → EvP (fun n => fX5_addUp n 49 0 (nI p) (iI (c p)) 0 (sA u 16 (upd (gA u 16) (p + 1) (nI (WT d c p + x))))) (fun v => ∃ f g, v = sA (sA u 15 f) 16 g ∧ roM d v c (dP d) ∧ (∀ j, j < 16 → f j = gA u 15 j) ∧ g 0 = gA u 16 0) := by
      intro x hx
      rw [show (0 : Int32) = nI 0 from n0]
      refine q_au2 hw hp' hcp (dQ d) 0 _ (by omega) (isM_A hu (by omega) _) (fun a b e x1 x2 x3 => by rw [gA_sA, if_neg (by omega)]; exact hli a b e x1 x2 x3) (fun j hj => by rw [gA_sA, if_neg (by omega)]; exact hro.1 p j (Nat.le_refl _) hj) (fun f f1 f2 => ?_)
      have q1 : isM d (sA (sA u 16 (upd (gA u 16) (p + 1) (nI (WT d c p + x)))) 15 f) := isM_A (isM_A hu (by omega) _) (by omega) _
      refine EvP_imp (ih (p + 1) _ (by omega) q1 (fun a b e x1 x2 x3 => by rw [gA_sA, if_neg (by omega), gA_sA, if_neg (by omega)]; exact hli a b e x1 x2 x3) (fun i hi => by rw [gA_sA, if_neg (by omega), gA_sA, if_neg (by omega)]; exact hch i hi) ⟨fun i q hi hq => ?_, fun i hi => ?_⟩) ?_
      · rw [gA_sA, if_pos rfl]
        rcases Nat.lt_or_ge i (p + 1) with y | y
        · rw [f1 _ (by omega), gA_sA, if_neg (by omega)]; exact hro.1 i q (by omega) hq
        · have : i = p + 1 := by omega
          subst this; exact f2 q (by omega) hq
      · rw [gA_sA, if_neg (by omega), gA_sA, if_pos rfl, up_at]
        rcases Nat.lt_or_ge i (p + 1) with y | y
        · rw [if_neg (by omega)]; exact hro.2 i (by omega)
        · have : i = p + 1 := by omega
          subst this; rw [if_pos rfl, hx]
      · rintro v ⟨f9, g9, rfl, a1, a2, a3⟩
        refine ⟨f9, g9, ?_, a1, fun j hj => ?_, ?_⟩
        · refine Prod.ext rfl (Prod.ext rfl (Prod.ext (funext fun j => ?_) rfl))
          show (if j = 16 then g9 else if j = 15 then f9 else if j = 15 then f else if j = 16 then _ else u.2.2.1 j) = if j = 16 then g9 else if j = 15 then f9 else u.2.2.1 j
          split
          · rfl
          · split <;> rfl
        · rw [a2 j hj, gA_sA, if_pos rfl, f1 j (by omega), gA_sA, if_neg (by omega)]
        · rw [a3, gA_sA, if_neg (by omega), gA_sA, if_pos rfl, up_at, if_neg (by omega)]
    rw [wX5_addUp_2, hu.1.2.1]
    simp only [if_neg (nI_ge hp' (show dP d < 2 ^ 31 by omega)), n1, nI_add, ck_nI (show p < 7 by omega) (by decide), ck_nI (show p < 8 by omega) (by decide), ck_nI (show p + 1 < 8 by omega) (by decide), if_true, nI_clamp (show p < 2 ^ 31 by omega), nI_clamp (show p + 1 < 2 ^ 31 by omega), hch p hp', hro.2 p (Nat.le_refl p)]
    by_cases hk : c p < 0
    · have g : ¬ 0 ≤ iI (c p) := by
        have := (iI_neg (show -2147483648 ≤ c p by omega) (show c p < 2147483648 by omega)).mpr hk
        exact fun x => absurd (Int32.lt_of_lt_of_le this x) (Int32.lt_irrefl)
      simp only [if_neg g]
      have := step 0 (by rw [WT]; unfold cwt; rw [if_pos hk])
      rw [show nI (WT d c p + 0) = nI (WT d c p) + 0 from (nI_add _ 0).symm] at this
      exact this
    · have g : 0 ≤ iI (c p) := by rw [iI_nonneg (by omega)]; exact nI_pos' (by omega)
      have e : iI (c p) = nI (c p).toNat := iI_nonneg (by omega)
      simp only [if_pos g]
      rw [e] at step ⊢
      simp only [ck_nI (show (c p).toNat < 3 by omega) (by decide), if_true, nI_clamp (show (c p).toNat < 2 ^ 31 by omega), (hu.2.1 (c p).toNat (by omega)).2.1, nI_add]
      exact step _ (by rw [WT]; unfold cwt; rw [if_neg hk])

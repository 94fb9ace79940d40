/-- findBest: the lights -/
theorem q_fb3 {d : Dt} (hw : dt_wf d) {k p : Nat} (hk : k < dK d) (hp : p < dP d) {F : St → Prop} : ∀ (m q : Nat) (u : St), q + m = dQ d → isM d u →
    (∀ f : Nat → Int32, (∀ j, ¬ (112 * k + 16 * p + q ≤ j ∧ j < 112 * k + 16 * p + dQ d) → f j = gA u 17 j) → (∀ j, q ≤ j → j < dQ d → f (112 * k + 16 * p + j) = nI (lg d k p j)) → EvP (fun n => fX5_findBest n 30 (nI k) (nI (p + 1)) 0 (sA u 17 f)) F) →
    EvP (fun n => fX5_findBest n 40 (nI k) (nI p) (nI q) u) F := by
  have hK := hw.1.1
  have hP := hw.1.2.1
  have hQ := hw.1.2.2.1
  intro m
  induction m with
  | zero =>
    intro q u hq hu kk
    rw [wX5_findBest_40, hu.1.2.2.1]
    simp only [if_pos (nI_le (show dQ d ≤ q by omega) (show q < 2 ^ 31 by omega)), nI_1]
    have := kk (gA u 17) (fun _ _ => rfl) (fun j h1 h2 => absurd h2 (by omega))
    rw [sA_self] at this
    exact this
  | succ m ih =>
    intro q u hq hu kk
    rw [wX5_findBest_40, hu.1.2.2.1]
    simp only [if_neg (nI_ge (show q < dQ d by omega) (show dQ d < 2 ^ 31 by omega))]
    rw [EvP_bind (q_lightOf hw hu hk hp (show q < dQ d by omega))]
    simp only [n112, n16, pk_mul, nI_add, ck_nI (show 112 * k + 16 * p + q < 336 by omega) (by decide), if_true, nI_clamp (show 112 * k + 16 * p + q < 2 ^ 31 by omega), nI_1]
    refine ih (q + 1) _ (by omega) (isM_A hu (by omega) _) (fun f f1 f2 => ?_)
    rw [sA_sA]
    refine kk f (fun j hj => ?_) (fun j h1 h2 => ?_)
    · rw [f1 j (by omega), gA_sA, if_pos rfl, up_at, if_neg (by omega)]
    · rcases Nat.lt_or_ge j (q + 1) with g | g
      · have : j = q := by omega
        subst this
        rw [f1 _ (by omega), gA_sA, if_pos rfl, up_at, if_pos rfl]
      · exact f2 j g h2
theorem q_fb2 {d : Dt} (hw : dt_wf d) {k : Nat} (hk : k < dK d) {F : St → Prop} : ∀ (m p : Nat) (u : St), p + m = dP d → isM d u →
    (∀ f : Nat → Int32, (∀ j, ¬ (112 * k + 16 * p ≤ j ∧ j < 112 * k + 112) → f j = gA u 17 j) → (∀ i j, p ≤ i → i < dP d → j < dQ d → f (112 * k + 16 * i + j) = nI (lg d k i j)) → EvP (fun n => fX5_findBest n 20 (nI (k + 1)) 0 0 (sA u 17 f)) F) →
    EvP (fun n => fX5_findBest n 30 (nI k) (nI p) 0 u) F := by
  have hK := hw.1.1
  have hP := hw.1.2.1
  have hQ := hw.1.2.2.1
  intro m
  induction m with
  | zero =>
    intro p u hp hu kk
    rw [wX5_findBest_30, hu.1.2.1]
    simp only [if_pos (nI_le (show dP d ≤ p by omega) (show p < 2 ^ 31 by omega)), nI_1]
    have := kk (gA u 17) (fun _ _ => rfl) (fun i j h1 h2 => absurd h2 (by omega))
    rw [sA_self] at this
    exact this
  | succ m ih =>
    intro p u hp hu kk
    rw [wX5_findBest_30, hu.1.2.1]
    simp only [if_neg (nI_ge (show p < dP d by omega) (show dP d < 2 ^ 31 by omega))]
    refine q_fb3 hw hk (show p < dP d by omega) (dQ d) 0 u (by omega) hu (fun f f1 f2 => ih (p + 1) _ (by omega) (isM_A hu (by omega) _) (fun g g1 g2 => ?_))
    rw [sA_sA]
    refine kk g (fun j hj => ?_) (fun i j h1 h2 h3 => ?_)
    · rw [g1 j (by omega), gA_sA, if_pos rfl, f1 j (by omega)]
    · rcases Nat.lt_or_ge i (p + 1) with x | x
      · have : i = p := by omega
        subst this
        rw [g1 _ (by omega), gA_sA, if_pos rfl, f2 j (by omega) h3]
      · exact g2 i j x h2 h3
theorem q_fb1 {d : Dt} (hw : dt_wf d) {F : St → Prop} : ∀ (m k : Nat) (u : St), k + m = dK d → isM d u →
    (∀ f : Nat → Int32, (∀ j, j < 112 * k → f j = gA u 17 j) → (∀ e i j, k ≤ e → e < dK d → i < dP d → j < dQ d → f (112 * e + 16 * i + j) = nI (lg d e i j)) → EvP (fun n => fX5_findBest n 91 0 0 0 (sA u 17 f)) F) →
    EvP (fun n => fX5_findBest n 20 (nI k) 0 0 u) F := by
  have hK := hw.1.1
  have hP := hw.1.2.1
  have hQ := hw.1.2.2.1
  intro m
  induction m with
  | zero =>
    intro k u hk hu kk
    rw [wX5_findBest_20, hu.1.1]
    simp only [if_pos (nI_le (show dK d ≤ k by omega) (show k < 2 ^ 31 by omega))]
    have := kk (gA u 17) (fun _ _ => rfl) (fun e i j h1 h2 => absurd h2 (by omega))
    rw [sA_self] at this
    exact this
  | succ m ih =>
    intro k u hk hu kk
    rw [wX5_findBest_20, hu.1.1]
    simp only [if_neg (nI_ge (show k < dK d by omega) (show dK d < 2 ^ 31 by omega))]
    have key := q_fb2 hw (show k < dK d by omega) (F := F) (dP d) 0 u (by omega) hu (fun f f1 f2 => ih (k + 1) _ (by omega) (isM_A hu (by omega) _) (fun g g1 g2 => ?_))
    · exact key
    · rw [sA_sA]
      refine kk g (fun j hj => ?_) (fun e i j h1 h2 h3 h4 => ?_)
      · rw [g1 j (by omega), gA_sA, if_pos rfl, f1 j (by omega)]
      · rcases Nat.lt_or_ge e (k + 1) with x | x
        · have : e = k := by omega
          subst this
          rw [g1 _ (by omega), gA_sA, if_pos rfl, f2 i j (by omega) h3 h4]
        · exact g2 e i j x h2 h3 h4
theorem q_fb91 {F : St → Prop} : ∀ (m q : Nat) (u : St), q + m = 16 → (∀ f : Nat → Int32, (∀ j, q ≤ j → j < 16 → f j = 0) → (∀ j, j < q → f j = gA u 15 j) → EvP (fun n => fX5_findBest n 112 0 0 0 (sA u 15 f)) F) → EvP (fun n => fX5_findBest n 91 (nI q) 0 0 u) F := by
  intro m
  induction m with
  | zero =>
    intro q u hq kk
    rw [wX5_findBest_91, n16]
    simp only [if_pos (nI_le (show 16 ≤ q by omega) (show q < 2 ^ 31 by omega))]
    have := kk (gA u 15) (fun j a b => absurd b (by omega)) (fun _ _ => rfl)
    rw [sA_self] at this
    exact this
  | succ m ih =>
    intro q u hq kk
    rw [wX5_findBest_91, n16]
    simp only [if_neg (nI_ge (show q < 16 by omega) (show 16 < 2 ^ 31 by omega)), ck_nI (show q < 128 by omega) (by decide), if_true, nI_clamp (show q < 2 ^ 31 by omega), nI_1]
    refine ih (q + 1) _ (by omega) (fun f f1 f2 => ?_)
    rw [sA_sA]
    refine kk f (fun j a b => ?_) (fun j hj => ?_)
    · rcases Nat.lt_or_ge j (q + 1) with x | x
      · have : j = q := by omega
        subst this
        rw [f2 _ (by omega), gA_sA, if_pos rfl, up_at, if_pos rfl]
      · exact f1 j x b
    · rw [f2 j (by omega), gA_sA, if_pos rfl, up_at, if_neg (by omega)]
theorem q_fb112 {d : Dt} (hw : dt_wf d) {F : St → Prop} : ∀ (m p : Nat) (u : St), p + m = dP d → isM d u → (∀ f : Nat → Int32, (∀ j, p ≤ j → j < dP d → f j = iI (fk d j)) → (∀ j, j < p → f j = gA u 14 j) → EvP (fun n => fX5_findBest n 139 0 0 0 (sA u 14 f)) F) → EvP (fun n => fX5_findBest n 112 (nI p) 0 0 u) F := by
  have hP := hw.1.2.1
  intro m
  induction m with
  | zero =>
    intro p u hp hu kk
    rw [wX5_findBest_112, hu.1.2.1]
    simp only [if_pos (nI_le (show dP d ≤ p by omega) (show p < 2 ^ 31 by omega))]
    have := kk (gA u 14) (fun j a b => absurd b (by omega)) (fun _ _ => rfl)
    rw [sA_self] at this
    exact this
  | succ m ih =>
    intro p u hp hu kk
    rw [wX5_findBest_112, hu.1.2.1]
    simp only [if_neg (nI_ge (show p < dP d by omega) (show dP d < 2 ^ 31 by omega))]
    rw [EvP_bind (q_firstOf hw hu (show p < dP d by omega))]
    simp only [ck_nI (show p < 7 by omega) (by decide), if_true, nI_clamp (show p < 2 ^ 31 by omega), nI_1]
    refine ih (p + 1) _ (by omega) (isM_A hu (by omega) _) (fun f f1 f2 => ?_)
    rw [sA_sA]
    refine kk f (fun j a b => ?_) (fun j hj => ?_)
    · rcases Nat.lt_or_ge j (p + 1) with x | x
      · have : j = p := by omega
        subst this
        rw [f2 _ (by omega), gA_sA, if_pos rfl, up_at, if_pos rfl]
      · exact f1 j x b
    · rw [f2 j (by omega), gA_sA, if_pos rfl, up_at, if_neg (by omega)]
/-- what finding the best may change in the reference -/
def frB (u v : St) : Prop := (∀ i, i < 6 ∨ 9 ≤ i → gI v i = gI u i) ∧ (∀ j, 2 ≤ j → gJ v j = gJ u j) ∧ (∀ a, a < 13 ∨ 18 ≤ a → gA v a = gA u a)
theorem q_findBest {d : Dt} (hw : dt_wf d) {u : St} (hu : isM d u) (h6 : gI u 6 = 0) (h16 : gA u 16 0 = 0) : EvP (fun n => FX5_findBest n u) (fun v => isM d v ∧ accM d v (bst d) ∧ gI v 6 = 1 ∧ gA v 16 0 = 0 ∧ frB u v) := by
  have hK := hw.1.1
  have hP := hw.1.2.1
  have hQ := hw.1.2.2.1
  show EvP (fun n => fX5_findBest n 0 0 0 0 u) _
  rw [wX5_findBest_0]
  simp only [h6, if_true]
  have hu1 : isM d (sI (sI u 6 1) 7 0) := isM_mv hu (fun i h1 h2 => by simp only [gI_sI, if_neg (show i ≠ 7 by omega), if_neg (show i ≠ 6 by omega)]) (fun _ _ _ => rfl)
  refine q_fb1 hw (dK d) 0 _ (by omega) hu1 (fun f17 _ f2 => ?_)
  have hu2 := isM_A hu1 (show 11 ≤ 17 by omega) f17
  refine q_fb91 16 0 _ (by omega) (fun f15 g1 _ => ?_)
  have hu3 := isM_A hu2 (show 11 ≤ 15 by omega) f15
  refine q_fb112 hw (dP d) 0 _ (by omega) hu3 (fun f14 k1 _ => ?_)
  have hu4 := isM_A hu3 (show 11 ≤ 14 by omega) f14
  generalize hw4 : sA (sA (sA (sI (sI u 6 1) 7 0) 17 f17) 15 f15) 14 f14 = w4 at hu4 ⊢
  have a17 : gA w4 17 = f17 := by rw [← hw4]; rfl
  have a15 : gA w4 15 = f15 := by rw [← hw4]; rfl
  have a14 : gA w4 14 = f14 := by rw [← hw4]; rfl
  have a16 : gA w4 16 = gA u 16 := by rw [← hw4]; rfl
  have i6 : gI w4 6 = 1 := by rw [← hw4]; rfl
  have fb4 : frB u w4 := by
    rw [← hw4]
    refine ⟨fun i hi => ?_, fun _ _ => rfl, fun a ha => ?_⟩
    · simp only [gI_sA, gI_sI, if_neg (show i ≠ 7 by omega), if_neg (show i ≠ 6 by omega)]
    · simp only [gA_sA, gA_sI, if_neg (show a ≠ 14 by omega), if_neg (show a ≠ 15 by omega), if_neg (show a ≠ 17 by omega)]
  have hi : MI d w4 (fk d) none 0 := by
    refine ⟨hu4, fun k p q x y z => ?_, fun i hi => ?_, fun i hi => fk_in hw hi, ⟨fun i q hi hq => ?_, fun i hi => ?_⟩, ?_⟩
    · rw [a17]; exact f2 k p q (by omega) x y z
    · rw [a14]; exact k1 i (by omega) hi
    · have : i = 0 := by omega
      subst this
      rw [a15, g1 _ (by omega) (by omega)]; rfl
    · have : i = 0 := by omega
      subst this
      rw [a16, h16]; rfl
    · show gI w4 7 = 0
      rw [← hw4]; rfl
  refine q_odo hw (dP d) 0 (fk d) none w4 0 (by omega) (by omega) hi (fun _ _ _ => rfl) (fun v c' _ h2 h3 h4 => ?_)
  obtain ⟨hv, hlv, hch, hvd, hro, hac⟩ := id h3
  have key : EvP (fun n => FX5_nextChoice n v) (fun w => w.1 = -1 ∧ ∃ f, w.2 = sA v 14 f) := by
    show EvP (fun n => fX5_nextChoice n 0 0 v) _
    rw [wX5_nextChoice_0, hv.1.2.1]
    refine q_nxs hw hvd (p := 0) (by omega) h2 (dP d) (dP d) v (by omega) (Nat.le_refl _) hv hch (fun f _ _ _ => ?_)
    rw [wX5_nextChoice_7]
    simp only [show nI 0 - 1 < 0 by decide, if_true]
    exact EvP_some ⟨rfl, f, rfl⟩
  refine EvP_bindP key (fun w h5 => ?_)
  obtain ⟨e1, f, e2⟩ := h5
  rw [e1, e2, wX5_findBest_139]
  simp only [show (-1 : Int32) < 0 by decide, if_true]
  refine EvP_some ⟨isM_A hv (by omega) f, accM_mv hac rfl rfl rfl rfl rfl, ?_, ?_, ?_⟩
  · show gI v 6 = 1
    rw [h4.1 6 (by omega) (by omega)]; exact i6
  · show gA v 16 0 = 0
    rw [hro.2 0 (by omega)]; rfl
  · refine ⟨fun i hi => ?_, fun j hj => ?_, fun a ha => ?_⟩
    · show gI v i = gI u i
      rw [h4.1 i (by omega) (by omega)]; exact fb4.1 i hi
    · show gJ v j = gJ u j
      rw [h4.2.1 j hj]; exact fb4.2.1 j hj
    · rw [gA_sA, if_neg (by omega), h4.2.2.1 a (by omega)]; exact fb4.2.2 a ha

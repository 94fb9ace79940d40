/-! the class's search -/
theorem n16 : (16 : Int32) = nI 16 := by decide
theorem n3 : (3 : Int32) = nI 3 := by decide
theorem n1 : (1 : Int32) = nI 1 := by decide
theorem n0 : (0 : Int32) = nI 0 := by decide
theorem iI_nat (k : Nat) : iI (k : Int) = nI k := by
  unfold iI nI
  rfl
theorem iI_m1 : iI (-1) = (-1 : Int32) := by decide
theorem iI_m2 : iI (-2) = (-2 : Int32) := by decide
theorem iI_toInt {z : Int} (h1 : -2147483648 ≤ z) (h2 : z < 2147483648) : (iI z).toInt = z := by
  unfold iI
  exact Int32.toInt_ofInt_of_le (by simpa using h1) (by simpa using h2)
theorem iI_inj {a b : Int} (a1 : -2147483648 ≤ a) (a2 : a < 2147483648) (b1 : -2147483648 ≤ b) (b2 : b < 2147483648) : iI a = iI b ↔ a = b := by
  constructor
  · intro h
    have := congrArg Int32.toInt h
    rw [iI_toInt a1 a2, iI_toInt b1 b2] at this
    exact this
  · intro h; rw [h]
theorem iI_neg {a : Int} (a1 : -2147483648 ≤ a) (a2 : a < 2147483648) : iI a < 0 ↔ a < 0 := by
  rw [Int32.lt_iff_toInt_lt, iI_toInt a1 a2]
  simp
theorem iI_nonneg {a : Int} (h : 0 ≤ a) : iI a = nI a.toNat := by
  rw [← iI_nat, Int.toNat_of_nonneg h]
theorem iI_1 (z : Int) : iI z + 1 = iI (z + 1) := by
  unfold iI
  exact (Int32.ofInt_add z 1).symm
/-- LampChoice$Room.mayHave -/
theorem p_mayHave {d : Dt} {u : St} (hw : dt_wf d) (h : isC d u) {p : Nat} {k : Int} (hp : p < dP d) (h1 : -1 ≤ k) (h2 : k < dK d) : Ev (fun n => FX2_mayHave n (nI p) (iI k) u) (@ite _ (okk d p k) (Classical.propDecidable _) 1 0, u) := by
  have hK := hw.1.1
  have hP := hw.1.2.1
  have e6 := (h.2.2.1 p hp).2.2
  have r6 := (hw.2.2.1 p hp).2.2
  show Ev (fun n => fX2_mayHave n 0 (nI p) (iI k) u) _
  rw [vX2_mayHave_0, nI_clamp (show p < 2 ^ 31 by omega), e6, ← iI_m2]
  simp only [ck_nI (show p < 7 by omega) (by decide), if_true, iI_inj (show -2147483648 ≤ dE d p by omega) (show dE d p < 2147483648 by omega) (show -2147483648 ≤ (-2 : Int) by omega) (show (-2 : Int) < 2147483648 by omega), iI_inj (show -2147483648 ≤ dE d p by omega) (show dE d p < 2147483648 by omega) (show -2147483648 ≤ k by omega) (show k < 2147483648 by omega)]
  by_cases a : dE d p = -2
  · simp only [if_pos a]; exact Ev_some (by rw [if_pos (show okk d p k from Or.inl a)])
  · by_cases b : dE d p = k
    · simp only [if_neg a, if_pos b]; exact Ev_some (by rw [if_pos (show okk d p k from Or.inr b)])
    · simp only [if_neg a, if_neg b]; exact Ev_some (by rw [if_neg (show ¬ okk d p k from fun x => x.elim a b)])
/-- LampChoice$Room.wattsOf -/
theorem p_wattsOf {d : Dt} {u : St} (hw : dt_wf d) (h : isC d u) {k : Int} (h1 : -1 ≤ k) (h2 : k < dK d) : Ev (fun n => FX2_wattsOf n (iI k) u) (nI (if k < 0 then 0 else dA d 1 k.toNat), u) := by
  have hK := hw.1.1
  show Ev (fun n => fX2_wattsOf n 0 (iI k) u) _
  rw [vX2_wattsOf_0]
  simp only [iI_neg (show -2147483648 ≤ k by omega) (show k < 2147483648 by omega)]
  by_cases a : k < 0
  · simp only [if_pos a]; exact Ev_some rfl
  · simp only [if_neg a]
    rw [iI_nonneg (by omega), nI_clamp (show k.toNat < 2 ^ 31 by omega), (h.2.1 k.toNat (by omega)).2.1]
    simp only [ck_nI (show k.toNat < 3 by omega) (by decide), if_true]
    exact Ev_some rfl
theorem p_lightRow (p k : Nat) : Ev (fun n => FX0_lightRow n (nI p) (nI k)) (nI ((p * 3 + k) * 16)) := by
  show Ev (fun n => fX0_lightRow n 0 (nI p) (nI k)) _
  rw [vX0_lightRow_0]
  exact Ev_some (by rw [n16, n3, pk_mul, nI_add, pk_mul])
/-- all lights stand in their rows -/
def liC (d : Dt) (u : St) : Prop := ∀ p k q, p < dP d → k < dK d → q < dQ d → gA u 10 ((p * 3 + k) * 16 + q) = nI (lg d k p q)
theorem sA_sA (u : St) (k : Nat) (f g : Nat → Int32) : sA (sA u k f) k g = sA u k g := by
  unfold sA
  refine Prod.ext rfl (Prod.ext rfl (Prod.ext (funext fun j => ?_) rfl))
  show (if j = k then g else if j = k then f else u.2.2.1 j) = if j = k then g else u.2.2.1 j
  split <;> rfl
theorem sA_self (u : St) (k : Nat) : sA u k (gA u k) = u := by
  unfold sA
  refine Prod.ext rfl (Prod.ext rfl (Prod.ext (funext fun j => ?_) rfl))
  show (if j = k then u.2.2.1 k else u.2.2.1 j) = u.2.2.1 j
  split
  · rename_i h; rw [h]
  · rfl
theorem isC_A {d : Dt} {u : St} (h : isC d u) {k : Nat} (hk : 10 ≤ k) (f : Nat → Int32) : isC d (sA u k f) := isC_mv h (fun _ _ => rfl) (fun a ha => by rw [gA_sA, if_neg (by omega)])
/-- fillLights: its inmost loop -/
theorem p_fl3 {d : Dt} (hw : dt_wf d) {p k : Nat} (hp : p < dP d) (hk : k < dK d) {F : St → Prop} : ∀ (m q : Nat) (u : St), q + m = dQ d → isC d u →
    (∀ f : Nat → Int32, (∀ j, ¬ ((p * 3 + k) * 16 + q ≤ j ∧ j < (p * 3 + k) * 16 + dQ d) → f j = gA u 10 j) → (∀ j, q ≤ j → j < dQ d → f ((p * 3 + k) * 16 + j) = nI (lg d k p j)) → EvP (fun n => fX0_fillLights n 15 (nI p) (nI (k + 1)) 0 0 (sA u 10 f)) F) →
    EvP (fun n => fX0_fillLights n 35 (nI p) (nI k) (nI ((p * 3 + k) * 16)) (nI q) u) F := by
  have hK := hw.1.1
  have hP := hw.1.2.1
  have hQ := hw.1.2.2.1
  intro m
  induction m with
  | zero =>
    intro q u hq hu kk
    rw [wX0_fillLights_35, hu.1.2.2.1]
    simp only [if_pos (nI_le (show dQ d ≤ q by omega) (show q < 2 ^ 31 by omega)), nI_1]
    have := kk (gA u 10) (fun _ _ => rfl) (fun j h1 h2 => absurd h2 (by omega))
    rw [sA_self] at this
    exact this
  | succ m ih =>
    intro q u hq hu kk
    rw [wX0_fillLights_35, hu.1.2.2.1]
    simp only [if_neg (nI_ge (show q < dQ d by omega) (show dQ d < 2 ^ 31 by omega))]
    rw [EvP_bind (p_lightOf hw hu hk hp (show q < dQ d by omega))]
    simp only [nI_add, ck_nI (show (p * 3 + k) * 16 + q < 336 by omega) (by decide), if_true, nI_clamp (show (p * 3 + k) * 16 + q < 2 ^ 31 by omega), nI_1]
    refine ih (q + 1) _ (by omega) (isC_A hu (by omega) _) (fun f f1 f2 => ?_)
    rw [sA_sA]
    refine kk f (fun j hj => ?_) (fun j h1 h2 => ?_)
    · rw [f1 j (by omega), gA_sA, if_pos rfl, up_at, if_neg (by omega)]
    · rcases Nat.lt_or_ge j (q + 1) with g | g
      · have : j = q := by omega
        subst this
        rw [f1 _ (by omega), gA_sA, if_pos rfl, up_at, if_pos rfl]
      · exact f2 j g h2
theorem p_fl2 {d : Dt} (hw : dt_wf d) {p : Nat} (hp : p < dP d) {F : St → Prop} : ∀ (m k : Nat) (u : St), k + m = dK d → isC d u →
    (∀ f : Nat → Int32, (∀ j, ¬ ((p * 3 + k) * 16 ≤ j ∧ j < (p * 3 + 3) * 16) → f j = gA u 10 j) → (∀ i j, k ≤ i → i < dK d → j < dQ d → f ((p * 3 + i) * 16 + j) = nI (lg d i p j)) → EvP (fun n => fX0_fillLights n 2 (nI (p + 1)) 0 0 0 (sA u 10 f)) F) →
    EvP (fun n => fX0_fillLights n 15 (nI p) (nI k) 0 0 u) F := by
  have hK := hw.1.1
  have hP := hw.1.2.1
  have hQ := hw.1.2.2.1
  intro m
  induction m with
  | zero =>
    intro k u hk hu kk
    rw [wX0_fillLights_15, hu.1.1]
    simp only [if_pos (nI_le (show dK d ≤ k by omega) (show k < 2 ^ 31 by omega)), nI_1]
    have := kk (gA u 10) (fun _ _ => rfl) (fun i j h1 h2 => absurd h2 (by omega))
    rw [sA_self] at this
    exact this
  | succ m ih =>
    intro k u hk hu kk
    rw [wX0_fillLights_15, hu.1.1]
    simp only [if_neg (nI_ge (show k < dK d by omega) (show dK d < 2 ^ 31 by omega))]
    rw [EvP_bind (p_lightRow p k)]
    refine p_fl3 hw hp (show k < dK d by omega) (dQ d) 0 u (by omega) hu (fun f f1 f2 => ih (k + 1) _ (by omega) (isC_A hu (by omega) _) (fun g g1 g2 => ?_))
    rw [sA_sA]
    refine kk g (fun j hj => ?_) (fun i j h1 h2 h3 => ?_)
    · rw [g1 j (by omega), gA_sA, if_pos rfl, f1 j (by omega)]
    · rcases Nat.lt_or_ge i (k + 1) with q | q
      · have : i = k := by omega
        subst this
        rw [g1 _ (by omega), gA_sA, if_pos rfl, f2 j (by omega) h3]
      · exact g2 i j q h2 h3
theorem p_fl1 {d : Dt} (hw : dt_wf d) {F : St → Prop} : ∀ (m p : Nat) (u : St), p + m = dP d → isC d u →
    (∀ f : Nat → Int32, (∀ j, j < p * 48 → f j = gA u 10 j) → (∀ e i j, p ≤ e → e < dP d → i < dK d → j < dQ d → f ((e * 3 + i) * 16 + j) = nI (lg d i e j)) → F (sA u 10 f)) →
    EvP (fun n => fX0_fillLights n 2 (nI p) 0 0 0 u) F := by
  have hK := hw.1.1
  have hP := hw.1.2.1
  have hQ := hw.1.2.2.1
  intro m
  induction m with
  | zero =>
    intro p u hp hu kk
    rw [wX0_fillLights_2, hu.1.2.1]
    simp only [if_pos (nI_le (show dP d ≤ p by omega) (show p < 2 ^ 31 by omega))]
    have := kk (gA u 10) (fun _ _ => rfl) (fun e i j h1 h2 => absurd h2 (by omega))
    rw [sA_self] at this
    exact EvP_some this
  | succ m ih =>
    intro p u hp hu kk
    rw [wX0_fillLights_2, hu.1.2.1]
    simp only [if_neg (nI_ge (show p < dP d by omega) (show dP d < 2 ^ 31 by omega))]
    have key := p_fl2 hw (show p < dP d by omega) (F := F) (dK d) 0 u (by omega) hu (fun f f1 f2 => ih (p + 1) _ (by omega) (isC_A hu (by omega) _) (fun g g1 g2 => ?_))
    · exact key
    · rw [sA_sA]
      refine kk g (fun j hj => ?_) (fun e i j h1 h2 h3 h4 => ?_)
      · rw [g1 j (by omega), gA_sA, if_pos rfl, f1 j (by omega)]
      · rcases Nat.lt_or_ge e (p + 1) with q | q
        · have : e = p := by omega
          subst this
          rw [g1 _ (by omega), gA_sA, if_pos rfl, f2 i j (by omega) h3 h4]
        · exact g2 e i j q h2 h3 h4
theorem p_fillLights {d : Dt} (hw : dt_wf d) {u : St} (hu : isC d u) : EvP (fun n => FX0_fillLights n u) (fun v => ∃ f, v = sA u 10 f ∧ liC d v) := by
  show EvP (fun n => fX0_fillLights n 0 0 0 0 0 u) _
  rw [wX0_fillLights_0]
  exact p_fl1 hw (dP d) 0 u (by omega) hu (fun f _ f2 => ⟨f, rfl, fun p k q hp hk hq => by rw [gA_sA, if_pos rfl]; exact f2 p k q (by omega) hp hk hq⟩)
/-- mostLight -/
theorem p_mostLight {d : Dt} (hw : dt_wf d) {u : St} (hu : isC d u) (hli : liC d u) {p q : Nat} (hp : p < dP d) (hq : q < dQ d) : Ev (fun n => FX0_mostLight n (nI p) (nI q) u) (nI (ML d p q (dK d)), u) := by
  have hK := hw.1.1
  have hP := hw.1.2.1
  have hQ := hw.1.2.2.1
  have key : ∀ (m k : Nat), k + m = dK d → Ev (fun n => fX0_mostLight n 5 (nI p) (nI q) (nI (ML d p q k)) (nI k) u) (nI (ML d p q (dK d)), u) := by
    intro m
    induction m with
    | zero =>
      intro k hk
      have : k = dK d := by omega
      subst this
      rw [vX0_mostLight_5, hu.1.1]
      simp only [if_pos (nI_le (Nat.le_refl (dK d)) (show dK d < 2 ^ 31 by omega))]
      exact Ev_some rfl
    | succ m ih =>
      intro k hk
      have hk' : k < dK d := by omega
      have hm := p_mayHave hw hu hp (k := (k : Int)) (by omega) (by omega)
      rw [iI_nat] at hm
      have hi := ih (k + 1) (by omega)
      rw [ML] at hi
      rw [vX0_mostLight_5, hu.1.1]
      simp only [if_neg (nI_ge hk' (show dK d < 2 ^ 31 by omega))]
      rw [Ev_bind hm]
      by_cases ho : okk d p (k : Int)
      · rw [if_pos ho] at hi ⊢
        simp only [show ¬ ((1 : Int32) = 0) by decide, if_false]
        rw [Ev_bind (p_lightRow p k)]
        have b1 := ML_le hw p q (show k ≤ dK d by omega)
        have b2 := lg_le hw hk' p q
        simp only [nI_add, ck_nI (show (p * 3 + k) * 16 + q < 336 by omega) (by decide), if_true, nI_clamp (show (p * 3 + k) * 16 + q < 2 ^ 31 by omega), hli p k q hp hk' hq, nI_ltI (show ML d p q k < 2 ^ 31 by omega) (show lg d k p q < 2 ^ 31 by omega), nI_1]
        by_cases g : ML d p q k < lg d k p q
        · simp only [if_pos g] at hi ⊢; exact hi
        · simp only [if_neg g] at hi ⊢; exact hi
      · rw [if_neg ho] at hi ⊢
        simp only [if_true, nI_1]
        exact hi
  show Ev (fun n => fX0_mostLight n 0 (nI p) (nI q) 0 0 u) _
  rw [vX0_mostLight_0]
  exact key (dK d) 0 (by omega)
/-- reach: row p and those behind it -/
def reC (d : Dt) (u : St) (p : Nat) : Prop := ∀ e q, p ≤ e → e ≤ dP d → q < dQ d → gA u 11 (e * 16 + q) = nI (RE d q (dP d - e))
theorem p_fr2 {d : Dt} (hw : dt_wf d) {p : Nat} (hp : p < dP d) {F : St → Prop} : ∀ (m q : Nat) (u : St), q + m = dQ d → isC d u → liC d u → reC d u (p + 1) →
    (∀ f : Nat → Int32, (∀ j, ¬ (p * 16 + q ≤ j ∧ j < p * 16 + dQ d) → f j = gA u 11 j) → (∀ j, q ≤ j → j < dQ d → f (p * 16 + j) = nI (RE d j (dP d - p))) → EvP (fun n => fX0_fillReach n 10 (nI p + (-1)) 0 (sA u 11 f)) F) →
    EvP (fun n => fX0_fillReach n 16 (nI p) (nI q) u) F := by
  have hK := hw.1.1
  have hP := hw.1.2.1
  have hQ := hw.1.2.2.1
  intro m
  induction m with
  | zero =>
    intro q u hq hu hli hre kk
    rw [wX0_fillReach_16, hu.1.2.2.1]
    simp only [if_pos (nI_le (show dQ d ≤ q by omega) (show q < 2 ^ 31 by omega))]
    have := kk (gA u 11) (fun _ _ => rfl) (fun j h1 h2 => absurd h2 (by omega))
    rw [sA_self] at this
    exact this
  | succ m ih =>
    intro q u hq hu hli hre kk
    have hq' : q < dQ d := by omega
    rw [wX0_fillReach_16, hu.1.2.2.1]
    simp only [if_neg (nI_ge hq' (show dQ d < 2 ^ 31 by omega)), n16, pk_mul, nI_add, ck_nI (show p * 16 + q + 16 < 128 by omega) (by decide), if_true]
    rw [EvP_bind (p_mostLight hw hu hli hp hq')]
    have e1 := hre (p + 1) q (Nat.le_refl _) (by omega) hq'
    rw [show (p + 1) * 16 + q = p * 16 + q + 16 by omega] at e1
    have e2 : RE d q (dP d - p) = RE d q (dP d - (p + 1)) + ML d p q (dK d) := by
      have : dP d - p = (dP d - (p + 1)) + 1 := by omega
      rw [this, RE, show dP d - (dP d - (p + 1) + 1) = p by omega]
    simp only [ck_nI (show p * 16 + q < 128 by omega) (by decide), if_true, nI_clamp (show p * 16 + q < 2 ^ 31 by omega), nI_clamp (show p * 16 + q + 16 < 2 ^ 31 by omega), e1, nI_add, nI_1]
    rw [← e2]
    refine ih (q + 1) _ (by omega) (isC_A hu (by omega) _) (fun a b c h1 h2 h3 => by rw [gA_sA, if_neg (by omega)]; exact hli a b c h1 h2 h3) (fun e j h1 h2 h3 => by rw [gA_sA, if_pos rfl, up_at, if_neg (by omega)]; exact hre e j h1 h2 h3) (fun f f1 f2 => ?_)
    rw [sA_sA]
    refine kk f (fun j hj => ?_) (fun j h1 h2 => ?_)
    · rw [f1 j (by omega), gA_sA, if_pos rfl, up_at, if_neg (by omega)]
    · rcases Nat.lt_or_ge j (q + 1) with g | g
      · have : j = q := by omega
        subst this
        rw [f1 _ (by omega), gA_sA, if_pos rfl, up_at, if_pos rfl]
      · exact f2 j g h2
theorem p_fr1 {d : Dt} (hw : dt_wf d) {F : St → Prop} : ∀ (p : Nat) (u : St), p ≤ dP d → isC d u → liC d u → reC d u p →
    (∀ f : Nat → Int32, (∀ j, dP d * 16 ≤ j → f j = gA u 11 j) → reC d (sA u 11 f) 0 → F (sA u 11 f)) →
    EvP (fun n => fX0_fillReach n 10 (nI p - 1) 0 u) F := by
  have hK := hw.1.1
  have hP := hw.1.2.1
  have hQ := hw.1.2.2.1
  intro p
  induction p with
  | zero =>
    intro u hp hu hli hre kk
    rw [wX0_fillReach_10]
    simp only [show nI 0 - 1 < 0 by decide, if_true]
    have := kk (gA u 11) (fun _ _ => rfl) (by rw [sA_self]; exact hre)
    rw [sA_self] at this
    exact EvP_some this
  | succ p ih =>
    intro u hp hu hli hre kk
    rw [wX0_fillReach_10, nI_pred]
    simp only [if_neg (nI_pos (show p < 2 ^ 31 by omega))]
    refine p_fr2 hw (show p < dP d by omega) (dQ d) 0 u (by omega) hu hli hre (fun f f1 f2 => ?_)
    rw [show nI p + (-1) = nI p - 1 by rw [Int32.sub_eq_add_neg]]
    refine ih _ (by omega) (isC_A hu (by omega) _) (fun a b c h1 h2 h3 => by rw [gA_sA, if_neg (by omega)]; exact hli a b c h1 h2 h3) ?_ (fun g g1 g2 => ?_)
    · intro e q h1 h2 h3
      rw [gA_sA, if_pos rfl]
      rcases Nat.lt_or_ge e (p + 1) with x | x
      · have : e = p := by omega
        subst this
        exact f2 q (by omega) h3
      · rw [f1 _ (by omega)]; exact hre e q x h2 h3
    · rw [sA_sA] at g2 ⊢
      exact kk g (fun j hj => by rw [g1 j hj, gA_sA, if_pos rfl, f1 j (by omega)]) g2
theorem p_fillReach {d : Dt} (hw : dt_wf d) {u : St} (hu : isC d u) (hli : liC d u) (h0 : ∀ j, dP d * 16 ≤ j → j < 128 → gA u 11 j = 0) : EvP (fun n => FX0_fillReach n u) (fun v => ∃ f, v = sA u 11 f ∧ reC d v 0 ∧ ∀ j, dP d * 16 ≤ j → j < 128 → gA v 11 j = 0) := by
  have hP := hw.1.2.1
  have hQ := hw.1.2.2.1
  show EvP (fun n => fX0_fillReach n 0 0 0 u) _
  rw [wX0_fillReach_0, hu.1.2.1]
  refine p_fr1 hw (dP d) u (Nat.le_refl _) hu hli ?_ (fun f f1 f2 => ⟨f, rfl, f2, fun j h1 h2 => by rw [gA_sA, if_pos rfl, f1 j h1]; exact h0 j h1 h2⟩)
  intro e q h1 h2 h3
  have : e = dP d := by omega
  subst this
  rw [h0 _ (by omega) (by omega), Nat.sub_self]; rfl

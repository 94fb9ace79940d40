theorem ckc_nI {a b n n0 n1 : Nat} (h1 : a + n ≤ n0) (h2 : b + n ≤ n1) (h3 : n0 < 2 ^ 31) (h4 : n1 < 2 ^ 31) : ckc (nI a) (nI b) (nI n) n0 n1 = true := by
  unfold ckc
  rw [nI_clamp (show a < 2 ^ 31 by omega), nI_clamp (show b < 2 ^ 31 by omega), nI_clamp (show n < 2 ^ 31 by omega)]
  exact decide_eq_true ⟨nI_pos (by omega), nI_pos (by omega), nI_pos (by omega), h1, h2⟩
/-- gather -/
theorem p_gather {d : Dt} (hw : dt_wf d) {u : St} (hu : isC d u) (hli : liC d u) {p : Nat} (hp : p < dP d) {c : Nat → Int} {k : Int} (h1 : -1 ≤ k) (h2 : k < dK d)
    (hrow : ∀ q, q < dQ d → gA u 12 (p * 16 + q) = nI (LV d c q p)) :
    EvP (fun n => FX0_gather n (nI p) (iI k) u) (fun v => ∃ f, v = sA u 12 f ∧ (∀ q, q < dQ d → f ((p + 1) * 16 + q) = nI (LV d (cu c p k) q (p + 1))) ∧ ∀ j, j < (p + 1) * 16 → f j = gA u 12 j) := by
  have hK := hw.1.1
  have hP := hw.1.2.1
  have hQ := hw.1.2.2.1
  have hlv : ∀ q, LV d (cu c p k) q (p + 1) = LV d c q p + (if k < 0 then 0 else lg d k.toNat p q) := by
    intro q
    rw [LV, LV_cg (b := c) (fun i hi => cu_lt c k hi)]
    unfold cl
    rw [cu_at]
  show EvP (fun n => fX0_gather n 0 (nI p) (iI k) 0 0 0 0 u) _
  rw [wX0_gather_0, hu.1.2.2.1]
  by_cases hk : k < 0
  · have g : ¬ 0 ≤ iI k := by
      have := (iI_neg (show -2147483648 ≤ k by omega) (show k < 2147483648 by omega)).mpr hk
      exact fun x => absurd (Int32.lt_of_lt_of_le this x) (Int32.lt_irrefl)
    simp only [if_neg g, n16, pk_mul, nI_add, ckc_nI (show p * 16 + dQ d ≤ 128 by omega) (show p * 16 + 16 + dQ d ≤ 128 by omega) (by decide) (by decide), if_true, nI_clamp (show p * 16 < 2 ^ 31 by omega), nI_clamp (show p * 16 + 16 < 2 ^ 31 by omega), nI_clamp (show dQ d < 2 ^ 31 by omega)]
    refine EvP_some ⟨_, rfl, fun q hq => ?_, fun j hj => ?_⟩
    · rw [pk_cpy_in (by omega) (by omega), show p * 16 + ((p + 1) * 16 + q - (p * 16 + 16)) = p * 16 + q by omega, hrow q hq, hlv q, if_pos hk, Nat.add_zero]
    · exact pk_cpy_out (Or.inl (by omega))
  · have g : 0 ≤ iI k := by
      rw [iI_nonneg (by omega)]; exact nI_pos' (by omega)
    simp only [if_pos g]
    rw [iI_nonneg (by omega), EvP_bind (p_lightRow p k.toNat)]
    simp only [n16, pk_mul, nI_add]
    have key : ∀ (m q : Nat) (v : St), q + m = dQ d → isC d v → liC d v → (∀ j, q ≤ j → j < dQ d → gA v 12 (p * 16 + j) = nI (LV d c j p)) →
        EvP (fun n => fX0_gather n 47 0 0 (nI (p * 16)) (nI (p * 16 + 16)) (nI ((p * 3 + k.toNat) * 16)) (nI q) v) (fun w => ∃ f, w = sA v 12 f ∧ (∀ j, q ≤ j → j < dQ d → f ((p + 1) * 16 + j) = nI (LV d c j p + lg d k.toNat p j)) ∧ ∀ j, j < (p + 1) * 16 + q → f j = gA v 12 j) := by
      intro m
      induction m with
      | zero =>
        intro q v hq hv hlv2 hr
        rw [wX0_gather_47, hv.1.2.2.1]
        simp only [if_pos (nI_le (show dQ d ≤ q by omega) (show q < 2 ^ 31 by omega))]
        exact EvP_some ⟨gA v 12, (sA_self v 12).symm, fun j a b => absurd b (by omega), fun _ _ => rfl⟩
      | succ m ih =>
        intro q v hq hv hlv2 hr
        have hq' : q < dQ d := by omega
        rw [wX0_gather_47, hv.1.2.2.1]
        simp only [if_neg (nI_ge hq' (show dQ d < 2 ^ 31 by omega)), nI_add, ck_nI (show p * 16 + q < 128 by omega) (by decide), ck_nI (show (p * 3 + k.toNat) * 16 + q < 336 by omega) (by decide), ck_nI (show p * 16 + 16 + q < 128 by omega) (by decide), if_true, nI_clamp (show p * 16 + q < 2 ^ 31 by omega), nI_clamp (show (p * 3 + k.toNat) * 16 + q < 2 ^ 31 by omega), nI_clamp (show p * 16 + 16 + q < 2 ^ 31 by omega), hr q (Nat.le_refl q) hq', hlv2 p k.toNat q hp (show k.toNat < dK d by omega) hq', nI_1]
        refine EvP_imp (ih (q + 1) _ (by omega) (isC_A hv (by omega) _) (fun a b e x y z => by rw [gA_sA, if_neg (by omega)]; exact hlv2 a b e x y z) (fun j a b => by rw [gA_sA, if_pos rfl, up_at, if_neg (by omega)]; exact hr j (by omega) b)) ?_
        rintro w ⟨f, rfl, f1, f2⟩
        refine ⟨f, sA_sA _ _ _ _, fun j a b => ?_, fun j hj => ?_⟩
        · rcases Nat.lt_or_ge j (q + 1) with x | x
          · have : j = q := by omega
            subst this
            rw [f2 _ (by omega), gA_sA, if_pos rfl, up_at, if_pos (by omega)]
          · exact f1 j x b
        · rw [f2 j (by omega), gA_sA, if_pos rfl, up_at, if_neg (by omega)]
    refine EvP_imp (key (dQ d) 0 u (by omega) hu hli (fun j _ b => hrow j b)) ?_
    rintro w ⟨f, rfl, f1, f2⟩
    exact ⟨f, rfl, fun q hq => by rw [f1 q (by omega) hq, hlv q, if_neg hk], fun j hj => f2 j (by omega)⟩
/-- canBecomeEnough -/
theorem p_cbe {d : Dt} (hw : dt_wf d) {u : St} (hu : isC d u) {p : Nat} (hp : p ≤ dP d) {c : Nat → Int} (hc : vd d c p) (hre : reC d u 0) (hrow : ∀ q, q < dQ d → gA u 12 (p * 16 + q) = nI (LV d c q p)) :
    Ev (fun n => FX0_canBecomeEnough n (nI p) u) (if ∀ q, q < dQ d → dA d 8 q ≤ LV d c q p + RE d q (dP d - p) then 1 else 0, u) := by
  have hK := hw.1.1
  have hP := hw.1.2.1
  have hQ := hw.1.2.2.1
  have key : ∀ (m q : Nat), q + m = dQ d → (∀ j, j < q → dA d 8 j ≤ LV d c j p + RE d j (dP d - p)) → Ev (fun n => fX0_canBecomeEnough n 7 0 (nI (p * 16)) (nI q) u) (if ∀ q, q < dQ d → dA d 8 q ≤ LV d c q p + RE d q (dP d - p) then 1 else 0, u) := by
    intro m
    induction m with
    | zero =>
      intro q hq hall
      have : q = dQ d := by omega
      subst this
      rw [vX0_canBecomeEnough_7, hu.1.2.2.1]
      simp only [if_pos (nI_le (Nat.le_refl (dQ d)) (show dQ d < 2 ^ 31 by omega))]
      exact Ev_some (by rw [if_pos hall])
    | succ m ih =>
      intro q hq hall
      have hq' : q < dQ d := by omega
      have b1 := LV_le hw (q := q) hc
      have b2 := RE_le hw q (dP d - p)
      have b3 := (hw.2.2.2 q hq').2.2
      rw [vX0_canBecomeEnough_7, hu.1.2.2.1]
      simp only [if_neg (nI_ge hq' (show dQ d < 2 ^ 31 by omega)), nI_add, ck_nI (show p * 16 + q < 128 by omega) (by decide), ck_nI (show q < 16 by omega) (by decide), if_true, nI_clamp (show p * 16 + q < 2 ^ 31 by omega), nI_clamp (show q < 2 ^ 31 by omega), hrow q hq', hre p q (by omega) hp hq', (hu.2.2.2 q hq').2.2, nI_leI (show dA d 8 q < 2 ^ 31 by omega) (show LV d c q p + RE d q (dP d - p) < 2 ^ 31 by omega), nI_1]
      by_cases g : dA d 8 q ≤ LV d c q p + RE d q (dP d - p)
      · simp only [if_pos g]
        refine ih (q + 1) (by omega) (fun j hj => ?_)
        rcases Nat.lt_or_ge j q with x | x
        · exact hall j x
        · have : j = q := by omega
          subst this; exact g
      · simp only [if_neg g]
        exact Ev_some (by rw [if_neg (fun h => g (h q hq'))])
  show Ev (fun n => fX0_canBecomeEnough n 0 (nI p) 0 0 u) _
  rw [vX0_canBecomeEnough_0, n16, pk_mul]
  exact key (dQ d) 0 (by omega) (fun j hj => absurd hj (by omega))
/-- the best so far, in the class's state -/
def accC (d : Dt) (u : St) (acc : Option (Nat → Int)) : Prop := match acc with
  | none => gI u 5 = 0 ∧ ∀ p, p < 7 → gA u 14 p = -1
  | some b => vd d b (dP d) ∧ gI u 5 = 1 ∧ gI u 4 = nI (WT d b (dP d)) ∧ gJ u 0 = lN (lst d b) ∧ gJ u 1 = lN (smx d b) ∧ (∀ p, p < dP d → gA u 14 p = iI (b p)) ∧ (∀ q, q < dQ d → gA u 15 q = nI (LV d b q (dP d)))
theorem accC_mv {d : Dt} {u v : St} {acc : Option (Nat → Int)} (h : accC d u acc) (h5 : gI v 5 = gI u 5) (h4 : gI v 4 = gI u 4) (j0 : gJ v 0 = gJ u 0) (j1 : gJ v 1 = gJ u 1) (a14 : gA v 14 = gA u 14) (a15 : gA v 15 = gA u 15) : accC d v acc := by
  cases acc with
  | none => exact ⟨by rw [h5]; exact h.1, by rw [a14]; exact h.2⟩
  | some b => exact ⟨h.1, by rw [h5]; exact h.2.1, by rw [h4]; exact h.2.2.1, by rw [j0]; exact h.2.2.2.1, by rw [j1]; exact h.2.2.2.2.1, by rw [a14]; exact h.2.2.2.2.2.1, by rw [a15]; exact h.2.2.2.2.2.2⟩
/-- what the search may change -/
def frT (u v : St) : Prop := (∀ i, i ≠ 4 → i ≠ 5 → gI v i = gI u i) ∧ (∀ j, 2 ≤ j → gJ v j = gJ u j) ∧ (∀ a, a < 12 ∨ 16 ≤ a → gA v a = gA u a) ∧ v.2.2.2 = u.2.2.2 ∧ (∀ j, j < 16 → gA v 12 j = gA u 12 j)
theorem frT.rf (u : St) : frT u u := ⟨fun _ _ _ => rfl, fun _ _ => rfl, fun _ _ => rfl, rfl, fun _ _ => rfl⟩
theorem frT.tr {u v w : St} (a : frT u v) (b : frT v w) : frT u w := ⟨fun i h1 h2 => (b.1 i h1 h2).trans (a.1 i h1 h2), fun j h => (b.2.1 j h).trans (a.2.1 j h), fun k h => (b.2.2.1 k h).trans (a.2.2.1 k h), b.2.2.2.1.trans a.2.2.2.1, fun j h => (b.2.2.2.2 j h).trans (a.2.2.2.2 j h)⟩
theorem frT.C {d : Dt} {u v : St} (f : frT u v) (h : isC d u) : isC d v := isC_mv h (fun i hi => f.1 i (by omega) (by omega)) (fun a ha => f.2.2.1 a (by omega))
theorem frT.li {d : Dt} {u v : St} (f : frT u v) (h : liC d u) : liC d v := fun p k q a b e => by rw [f.2.2.1 10 (by omega)]; exact h p k q a b e
theorem frT.re {d : Dt} {u v : St} {p : Nat} (f : frT u v) (h : reC d u p) : reC d v p := fun e q a b x => by rw [f.2.2.1 11 (by omega)]; exact h e q a b x
/-- weigh -/
theorem p_weigh {d : Dt} (hw : dt_wf d) {u : St} (hu : isC d u) {c : Nat → Int} (hc : vd d c (dP d)) (he : en d c) {acc : Option (Nat → Int)} (ha : accC d u acc)
    (htr : ∀ p, p < dP d → gA u 13 p = iI (c p)) (hrow : ∀ q, q < dQ d → gA u 12 (dP d * 16 + q) = nI (LV d c q (dP d))) :
    EvP (fun n => FX0_weigh n (nI (WT d c (dP d))) u) (fun v => accC d v (lk d acc c) ∧ frT u v ∧ gA v 12 = gA u 12 ∧ gA v 13 = gA u 13) := by
  have hK := hw.1.1
  have hP := hw.1.2.1
  have hQ := hw.1.2.2.1
  have bl := lst_le hw hc
  have bs := smx_le hw hc
  have bw := WT_le hw hc
  -- the new one is kept
  have new : ∀ (v1 : Int32), v1 = nI (WT d c (dP d)) → EvP (fun n => fX0_weigh n 135 v1 (nI (dP d * 16)) (lN (lst d c)) (lN (smx d c)) 0 u) (fun v => accC d v (some c) ∧ frT u v ∧ gA v 12 = gA u 12 ∧ gA v 13 = gA u 13) := by
    intro v1 e1
    rw [wX0_weigh_135, wX0_weigh_156]
    have q1 : gI (sJ (sJ (sI (sI u 5 1) 4 v1) 0 (lN (lst d c))) 1 (lN (smx d c))) 1 = nI (dP d) := hu.1.2.1
    rw [q1, n0]
    simp only [ckc_nI (show 0 + dP d ≤ 7 by omega) (show 0 + dP d ≤ 7 by omega) (by decide) (by decide), if_true, nI_clamp (show 0 < 2 ^ 31 by omega), nI_clamp (show dP d < 2 ^ 31 by omega)]
    rw [wX0_weigh_176]
    have q2 : ∀ f, gI (sA (sJ (sJ (sI (sI u 5 1) 4 v1) 0 (lN (lst d c))) 1 (lN (smx d c))) 14 f) 2 = nI (dQ d) := fun _ => hu.1.2.2.1
    rw [q2, n0]
    simp only [ckc_nI (show dP d * 16 + dQ d ≤ 128 by omega) (show 0 + dQ d ≤ 16 by omega) (by decide) (by decide), if_true, nI_clamp (show 0 < 2 ^ 31 by omega), nI_clamp (show dP d * 16 < 2 ^ 31 by omega), nI_clamp (show dQ d < 2 ^ 31 by omega)]
    refine EvP_some ⟨⟨hc, rfl, e1, rfl, rfl, fun p hp => ?_, fun q hq => ?_⟩, ⟨fun i i1 i2 => ?_, fun j hj => ?_, fun a ha => ?_, rfl, fun _ _ => rfl⟩, rfl, rfl⟩
    · show va_cpy (gA u 13) (gA u 14) 0 0 (dP d) p = _
      rw [pk_cpy_in (by omega) (by omega), Nat.zero_add, Nat.sub_zero]; exact htr p hp
    · show va_cpy (gA u 12) (gA u 15) (dP d * 16) 0 (dQ d) q = _
      rw [pk_cpy_in (by omega) (by omega), Nat.sub_zero]; exact hrow q hq
    · simp only [gI_sA, gI_sJ, gI_sI, if_neg i1, if_neg i2]
    · simp only [gJ_sA, gJ_sJ, gJ_sI, if_neg (show j ≠ 0 by omega), if_neg (show j ≠ 1 by omega)]
    · simp only [gA_sA, gA_sJ, gA_sI, if_neg (show a ≠ 14 by omega), if_neg (show a ≠ 15 by omega)]
  have stay : ∀ {b}, acc = some b → ¬ bt d c b → EvP (fun _ => some u) (fun v => accC d v (lk d acc c) ∧ frT u v ∧ gA v 12 = gA u 12 ∧ gA v 13 = gA u 13) := by
    intro b e h
    subst e
    refine EvP_some ⟨?_, frT.rf u, rfl, rfl⟩
    rw [lk_some he, if_neg h]; exact ha
  have key : ∀ (m q : Nat), q + m = dQ d → (1 ≤ dQ d) → EvP (fun n => fX0_weigh n 39 (nI (WT d c (dP d))) (nI (dP d * 16)) (lN (LM d c (dQ d))) (lN (SMq d c (dQ d))) (nI (dQ d)) u) (fun v => accC d v (lk d acc c) ∧ frT u v ∧ gA v 12 = gA u 12 ∧ gA v 13 = gA u 13) → EvP (fun n => fX0_weigh n 39 (nI (WT d c (dP d))) (nI (dP d * 16)) (lN (LM d c q)) (lN (SMq d c q)) (nI q) u) (fun v => accC d v (lk d acc c) ∧ frT u v ∧ gA v 12 = gA u 12 ∧ gA v 13 = gA u 13) := by
    intro m
    induction m with
    | zero => intro q hq _ h; have : q = dQ d := by omega
              subst this; exact h
    | succ m ih =>
      intro q hq h1 h
      have hq' : q < dQ d := by omega
      have b0 := LM_le hw hc q
      have b1 := SMq_le hw hc q
      have b2 := LV_le hw (q := q) hc
      rw [wX0_weigh_39, hu.1.2.2.1]
      simp only [if_neg (nI_ge hq' (show dQ d < 2 ^ 31 by omega)), nI_add, ck_nI (show dP d * 16 + q < 128 by omega) (by decide), if_true, nI_clamp (show dP d * 16 + q < 2 ^ 31 by omega), hrow q hq', nI_l (show LV d c q (dP d) < 2 ^ 31 by omega), lN_add, pk_lLT (show LV d c q (dP d) < 2 ^ 63 by omega) (show LM d c q < 2 ^ 63 by omega), nI_1]
      have := ih (q + 1) (by omega) h1 h
      rw [LM, SMq] at this
      by_cases g : LV d c q (dP d) < LM d c q
      · rw [if_pos g] at this; simp only [if_pos g]; exact this
      · rw [if_neg g] at this; simp only [if_neg g]; exact this
  -- behind the loop
  have fin : ∀ (q : Nat) (w3 w5 : Int64), dQ d ≤ q → q < 2 ^ 31 → w3 = lN (lst d c) → (if (1 : Int64) < w5 then w5 else 1) = lN (smx d c) → EvP (fun n => fX0_weigh n 39 (nI (WT d c (dP d))) (nI (dP d * 16)) w3 w5 (nI q) u) (fun v => accC d v (lk d acc c) ∧ frT u v ∧ gA v 12 = gA u 12 ∧ gA v 13 = gA u 13) := by
    intro q w3 w5 hq hq2 e3 e5
    rw [wX0_weigh_39, hu.1.2.2.1]
    simp only [if_pos (nI_le hq hq2), e5, e3]
    cases acc with
    | none =>
      simp only [show gI u 5 = 0 from ha.1, if_true]
      rw [lk_none he]
      exact new _ rfl
    | some b =>
      obtain ⟨hb, h5, h4, j0, j1, -, -⟩ := id ha
      have cl' := lst_le hw hb
      have cs := smx_le hw hb
      have cw9 := WT_le hw hb
      have m1 : lst d c * smx d b ≤ 70000000 * 1120000000 := Nat.mul_le_mul bl cs
      have m2 : lst d b * smx d c ≤ 70000000 * 1120000000 := Nat.mul_le_mul cl' bs
      simp only [h5, show ¬ ((1 : Int32) = 0) by decide, if_false, h4, j0, j1, lN_mul, nI_ltI (show WT d c (dP d) < 2 ^ 31 by omega) (show WT d b (dP d) < 2 ^ 31 by omega), nI_eq (show WT d c (dP d) < 2 ^ 31 by omega) (show WT d b (dP d) < 2 ^ 31 by omega), pk_lLE (show lst d c * smx d b < 2 ^ 63 by omega) (show lst d b * smx d c < 2 ^ 63 by omega)]
      by_cases g1 : WT d c (dP d) < WT d b (dP d)
      · simp only [if_pos g1]
        rw [lk_some he, if_pos (show bt d c b from Or.inl g1)]
        exact new _ rfl
      · simp only [if_neg g1]
        by_cases g2 : WT d c (dP d) = WT d b (dP d)
        · simp only [if_pos g2]
          by_cases g3 : lst d c * smx d b ≤ lst d b * smx d c
          · simp only [if_pos g3]
            exact stay rfl (by rintro (x | x) <;> omega)
          · simp only [if_neg g3]
            rw [lk_some he, if_pos (show bt d c b from Or.inr ⟨g2, by omega⟩)]
            exact new _ (by rw [g2])
        · simp only [if_neg g2]
          exact stay rfl (by rintro (x | x) <;> omega)
  have c1 : (1 : Int64) = lN 1 := by decide
  have e5 : (if (1 : Int64) < lN (SMq d c (dQ d)) then lN (SMq d c (dQ d)) else 1) = lN (smx d c) := by
    have := SMq_le hw hc (dQ d)
    rw [c1, smx]
    by_cases g : 1 < SMq d c (dQ d)
    · rw [if_pos ((pk_lLT (by omega) (by omega)).mpr g), if_pos g]
    · rw [if_neg (fun x => g ((pk_lLT (by omega) (by omega)).mp x)), if_neg g]
  show EvP (fun n => fX0_weigh n 0 (nI (WT d c (dP d))) 0 0 0 0 u) _
  rw [wX0_weigh_0, hu.1.2.2.1, hu.1.2.1]
  by_cases hq0 : dQ d = 0
  · simp only [if_pos (show nI (dQ d) ≤ 0 by rw [hq0]; decide), n16, pk_mul]
    refine fin 0 0 0 (by omega) (by omega) (by unfold lst; rw [if_pos hq0]; rfl) ?_
    rw [← e5, hq0]; rfl
  · simp only [if_neg (nI_nle (show 0 < dQ d by omega) (show dQ d < 2 ^ 31 by omega)), n16, pk_mul, ck_nI (show dP d * 16 < 128 by omega) (by decide), if_true, nI_clamp (show dP d * 16 < 2 ^ 31 by omega)]
    have r0 := hrow 0 (by omega)
    rw [Nat.add_zero] at r0
    have b2 := LV_le hw (q := 0) hc
    rw [r0, nI_l (show LV d c 0 (dP d) < 2 ^ 31 by omega)]
    exact key (dQ d) 0 (by omega) (by omega) (fin (dQ d) _ _ (Nat.le_refl _) (by omega) (by unfold lst; rw [if_neg hq0]) e5)

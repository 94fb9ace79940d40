/-- the best so far, in the reference's state -/
def accM (d : Dt) (u : St) (acc : Option (Nat → Int)) : Prop := match acc with
  | none => gI u 7 = 0
  | some b => vd d b (dP d) ∧ gI u 7 = 1 ∧ gI u 8 = nI (WT d b (dP d)) ∧ gJ u 0 = lN (lst d b * dQ d) ∧ gJ u 1 = lN (smx d b) ∧ (∀ p, p < dP d → gA u 13 p = iI (b p))
theorem accM_mv {d : Dt} {u v : St} {acc : Option (Nat → Int)} (h : accM d u acc) (h7 : gI v 7 = gI u 7) (h8 : gI v 8 = gI u 8) (j0 : gJ v 0 = gJ u 0) (j1 : gJ v 1 = gJ u 1) (a13 : gA v 13 = gA u 13) : accM d v acc := by
  cases acc with
  | none => show gI v 7 = 0; rw [h7]; exact h
  | some b => exact ⟨h.1, by rw [h7]; exact h.2.1, by rw [h8]; exact h.2.2.1, by rw [j0]; exact h.2.2.2.1, by rw [j1]; exact h.2.2.2.2.1, by rw [a13]; exact h.2.2.2.2.2⟩
/-- what the reference's search may change -/
def frM (u v : St) : Prop := (∀ i, i ≠ 7 → i ≠ 8 → gI v i = gI u i) ∧ (∀ j, 2 ≤ j → gJ v j = gJ u j) ∧ (∀ a, a < 13 ∨ 17 ≤ a → gA v a = gA u a) ∧ v.2.2.2 = u.2.2.2
theorem frM.rf (u : St) : frM u u := ⟨fun _ _ _ => rfl, fun _ _ => rfl, fun _ _ => rfl, rfl⟩
theorem frM.tr {u v w : St} (a : frM u v) (b : frM v w) : frM u w := ⟨fun i h1 h2 => (b.1 i h1 h2).trans (a.1 i h1 h2), fun j h => (b.2.1 j h).trans (a.2.1 j h), fun k h => (b.2.2.1 k h).trans (a.2.2.1 k h), b.2.2.2.trans a.2.2.2⟩
theorem frM.A {u : St} {k : Nat} (f : Nat → Int32) (h1 : 13 ≤ k) (h2 : k < 17) : frM u (sA u k f) := ⟨fun _ _ _ => rfl, fun _ _ => rfl, fun a ha => by rw [gA_sA, if_neg (by omega)], rfl⟩
theorem frM.M {d : Dt} {u v : St} (f : frM u v) (h : isM d u) : isM d v := isM_mv h (fun i h1 h2 => f.1 i (by omega) (by omega)) (fun a ha _ => f.2.2.1 a (by omega))
theorem frM.li {d : Dt} {u v : St} (f : frM u v) (h : liM d u) : liM d v := fun p k q a b e => by rw [f.2.2.1 17 (by omega)]; exact h p k q a b e
/-- look -/
theorem q_look {d : Dt} (hw : dt_wf d) {u : St} (hu : isM d u) {c : Nat → Int} (hc : vd d c (dP d)) {acc : Option (Nat → Int)} (ha : accM d u acc) (hch : ∀ p, p < dP d → gA u 14 p = iI (c p)) (hro : roM d u c (dP d)) :
    EvP (fun n => FX5_look n u) (fun v => accM d v (lk d acc c) ∧ frM u v ∧ gA v 14 = gA u 14 ∧ gA v 15 = gA u 15 ∧ gA v 16 = gA u 16) := by
  have hK := hw.1.1
  have hP := hw.1.2.1
  have hQ := hw.1.2.2.1
  have bl := lst_le hw hc
  have bs := smx_le hw hc
  have bw := WT_le hw hc
  have stay : lk d acc c = acc → EvP (fun _ => some u) (fun v => accM d v (lk d acc c) ∧ frM u v ∧ gA v 14 = gA u 14 ∧ gA v 15 = gA u 15 ∧ gA v 16 = gA u 16) := by
    intro e
    refine EvP_some ⟨?_, frM.rf u, rfl, rfl, rfl⟩
    rw [e]; exact ha
  -- the new one is kept
  have cpy : ∀ (m p : Nat) (w : St), p + m = dP d → gI w 2 = nI (dP d) → (∀ i, i < dP d → gA w 14 i = iI (c i)) → EvP (fun n => fX5_look n 187 0 0 0 (nI p) 0 w) (fun v => ∃ f, v = sA w 13 f ∧ (∀ i, p ≤ i → i < dP d → f i = iI (c i)) ∧ ∀ i, i < p → f i = gA w 13 i) := by
    intro m
    induction m with
    | zero =>
      intro p w hp h2 h14
      rw [wX5_look_187, h2]
      simp only [if_pos (nI_le (show dP d ≤ p by omega) (show p < 2 ^ 31 by omega))]
      exact EvP_some ⟨gA w 13, (sA_self w 13).symm, fun i a b => absurd b (by omega), fun _ _ => rfl⟩
    | succ m ih =>
      intro p w hp h2 h14
      rw [wX5_look_187, h2]
      simp only [if_neg (nI_ge (show p < dP d by omega) (show dP d < 2 ^ 31 by omega)), ck_nI (show p < 7 by omega) (by decide), if_true, nI_clamp (show p < 2 ^ 31 by omega), h14 p (by omega), nI_1]
      refine EvP_imp (ih (p + 1) _ (by omega) h2 h14) ?_
      rintro v ⟨f, rfl, f1, f2⟩
      refine ⟨f, sA_sA _ _ _ _, fun i a b => ?_, fun i hi => ?_⟩
      · rcases Nat.lt_or_ge i (p + 1) with x | x
        · have : i = p := by omega
          subst this
          rw [f2 _ (by omega), gA_sA, if_pos rfl, up_at, if_pos rfl]
        · exact f1 i x b
      · rw [f2 i (by omega), gA_sA, if_pos rfl, up_at, if_neg (by omega)]
  have new : ∀ (w2 w4 : Int64), w2 = lN (lst d c * dQ d) → w4 = lN (smx d c) → EvP (fun n => fX5_look n 163 (nI (WT d c (dP d))) w2 w4 0 0 u) (fun v => accM d v (some c) ∧ frM u v ∧ gA v 14 = gA u 14 ∧ gA v 15 = gA u 15 ∧ gA v 16 = gA u 16) := by
    intro w2 w4 e2 e4
    rw [wX5_look_163]
    refine EvP_imp (cpy (dP d) 0 _ (by omega) hu.1.2.1 hch) ?_
    rintro v ⟨f, rfl, f1, -⟩
    refine ⟨⟨hc, rfl, rfl, e2, e4, fun p hp => f1 p (by omega) hp⟩, ⟨fun i i1 i2 => ?_, fun j hj => ?_, fun a ha => ?_, rfl⟩, rfl, rfl, rfl⟩
    · simp only [gI_sA, gI_sJ, gI_sI, if_neg i1, if_neg i2]
    · simp only [gJ_sA, gJ_sJ, gJ_sI, if_neg (show j ≠ 0 by omega), if_neg (show j ≠ 1 by omega)]
    · simp only [gA_sA, gA_sJ, gA_sI, if_neg (show a ≠ 13 by omega)]
  -- the loop over the points
  have key : ∀ (m q : Nat), q + m = dQ d → (∀ j, j < q → dA d 8 j ≤ LV d c j (dP d)) →
      (en d c → EvP (fun n => fX5_look n 34 (nI (WT d c (dP d))) (lN (lst d c)) (lN (SMq d c (dQ d))) (nI (dQ d)) 0 u) (fun v => accM d v (lk d acc c) ∧ frM u v ∧ gA v 14 = gA u 14 ∧ gA v 15 = gA u 15 ∧ gA v 16 = gA u 16)) →
      EvP (fun n => fX5_look n 34 (nI (WT d c (dP d))) (if q = 0 then 0 else lN (LM d c q)) (lN (SMq d c q)) (nI q) 0 u) (fun v => accM d v (lk d acc c) ∧ frM u v ∧ gA v 14 = gA u 14 ∧ gA v 15 = gA u 15 ∧ gA v 16 = gA u 16) := by
    intro m
    induction m with
    | zero =>
      intro q hq hall h
      have : q = dQ d := by omega
      subst this
      have e : (if dQ d = 0 then 0 else lN (LM d c (dQ d))) = lN (lst d c) := by
        unfold lst; split <;> rfl
      rw [e]
      exact h hall
    | succ m ih =>
      intro q hq hall h
      have hq' : q < dQ d := by omega
      have b0 := LM_le hw hc q
      have b1 := SMq_le hw hc q
      have b2 := LV_le hw (q := q) hc
      have b3 := (hw.2.2.2 q hq').2.2
      rw [wX5_look_34, hu.1.2.2.1, hu.1.2.1]
      simp only [if_neg (nI_ge hq' (show dQ d < 2 ^ 31 by omega)), n16, pk_mul, nI_add, ck_nI (show 16 * dP d + q < 128 by omega) (by decide), ck_nI (show q < 16 by omega) (by decide), if_true, nI_clamp (show 16 * dP d + q < 2 ^ 31 by omega), nI_clamp (show q < 2 ^ 31 by omega), hro.1 (dP d) q (Nat.le_refl _) hq', (hu.2.2.2 q hq').2.2, nI_leI (show dA d 8 q < 2 ^ 31 by omega) (show LV d c q (dP d) < 2 ^ 31 by omega)]
      by_cases g : dA d 8 q ≤ LV d c q (dP d)
      · simp only [if_pos g]
        have hall' : ∀ j, j < q + 1 → dA d 8 j ≤ LV d c j (dP d) := fun j hj => by
          rcases Nat.lt_or_ge j q with x | x
          · exact hall j x
          · have : j = q := by omega
            subst this; exact g
        have nxt := ih (q + 1) (by omega) hall' h
        rw [if_neg (show ¬ q + 1 = 0 by omega), SMq] at nxt
        have at86 : LM d c (q + 1) = LV d c q (dP d) → EvP (fun n => fX5_look n 86 (nI (WT d c (dP d))) 0 (lN (SMq d c q)) (nI q) (nI (LV d c q (dP d))) u) (fun v => accM d v (lk d acc c) ∧ frM u v ∧ gA v 14 = gA u 14 ∧ gA v 15 = gA u 15 ∧ gA v 16 = gA u 16) := by
          intro e
          rw [wX5_look_86, nI_l (show LV d c q (dP d) < 2 ^ 31 by omega), lN_add, nI_1]
          rw [e] at nxt
          exact nxt
        by_cases q0 : q = 0
        · subst q0
          simp only [if_pos (show nI 0 = 0 from rfl)]
          refine at86 ?_
          rw [LM, LM]; split <;> rfl
        · simp only [if_neg (nI_ne0 (show 0 < q by omega) (show q < 2 ^ 31 by omega)), if_neg q0, nI_l (show LV d c q (dP d) < 2 ^ 31 by omega), lN_add, pk_lLE (show LM d c q < 2 ^ 63 by omega) (show LV d c q (dP d) < 2 ^ 63 by omega), nI_1]
          by_cases g2 : LM d c q ≤ LV d c q (dP d)
          · simp only [if_pos g2]
            have e : LM d c (q + 1) = LM d c q := by rw [LM, if_neg (by omega)]
            rw [e] at nxt
            exact nxt
          · simp only [if_neg g2]
            exact at86 (by rw [LM, if_pos (by omega)])
      · simp only [if_neg g]
        exact stay (lk_neg (fun he => g (he q hq')))
  have c1 : (1 : Int64) = lN 1 := by decide
  have hsm : (if SMq d c (dQ d) = 0 then 1 else SMq d c (dQ d)) = smx d c := by
    unfold smx; split <;> split <;> omega
  have fin : en d c → (∀ b, acc = some b → WT d c (dP d) ≤ WT d b (dP d)) → EvP (fun n => fX5_look n 34 (nI (WT d c (dP d))) (lN (lst d c)) (lN (SMq d c (dQ d))) (nI (dQ d)) 0 u) (fun v => accM d v (lk d acc c) ∧ frM u v ∧ gA v 14 = gA u 14 ∧ gA v 15 = gA u 15 ∧ gA v 16 = gA u 16) := by
    intro he hww
    have b1 := SMq_le hw hc (dQ d)
    have body : ∀ w4 : Int64, w4 = lN (smx d c) → EvP (fun n => (if gI u 7 = 0 then fX5_look n 163 (nI (WT d c (dP d))) (lN (lst d c) * (nI (dQ d)).toInt64) w4 0 0 u else (if nI (WT d c (dP d)) < gI u 8 then fX5_look n 163 (nI (WT d c (dP d))) (lN (lst d c) * (nI (dQ d)).toInt64) w4 0 0 u else (if (lN (lst d c) * (nI (dQ d)).toInt64) * (gJ u 1) ≤ (gJ u 0) * w4 then some u else fX5_look n 163 (nI (WT d c (dP d))) (lN (lst d c) * (nI (dQ d)).toInt64) w4 0 0 u)))) (fun v => accM d v (lk d acc c) ∧ frM u v ∧ gA v 14 = gA u 14 ∧ gA v 15 = gA u 15 ∧ gA v 16 = gA u 16) := by
      intro w4 e4
      rw [nI_l (show dQ d < 2 ^ 31 by omega), lN_mul, e4]
      cases acc with
      | none =>
        simp only [show gI u 7 = 0 from ha, if_true]
        rw [lk_none he]
        exact new _ _ rfl rfl
      | some b =>
        obtain ⟨hb, h7, h8, j0, j1, -⟩ := id ha
        have cl' := lst_le hw hb
        have cs := smx_le hw hb
        have cw9 := WT_le hw hb
        have m0 : lst d c * dQ d ≤ 70000000 * 16 := Nat.mul_le_mul bl hQ
        have m0' : lst d b * dQ d ≤ 70000000 * 16 := Nat.mul_le_mul cl' hQ
        have m1 : lst d c * dQ d * smx d b ≤ 70000000 * 16 * 1120000000 := Nat.mul_le_mul m0 cs
        have m2 : lst d b * dQ d * smx d c ≤ 70000000 * 16 * 1120000000 := Nat.mul_le_mul m0' bs
        have hwb := hww b rfl
        simp only [h7, show ¬ ((1 : Int32) = 0) by decide, if_false, h8, j0, j1, lN_mul, nI_ltI (show WT d c (dP d) < 2 ^ 31 by omega) (show WT d b (dP d) < 2 ^ 31 by omega), pk_lLE (show lst d c * dQ d * smx d b < 2 ^ 63 by omega) (show lst d b * dQ d * smx d c < 2 ^ 63 by omega)]
        by_cases g1 : WT d c (dP d) < WT d b (dP d)
        · simp only [if_pos g1]
          rw [lk_some he, if_pos (show bt d c b from Or.inl g1)]
          exact new _ _ rfl rfl
        · simp only [if_neg g1]
          have x1 : lst d c * dQ d * smx d b = dQ d * (lst d c * smx d b) := by rw [Nat.mul_comm (lst d c), Nat.mul_assoc]
          have x2 : lst d b * dQ d * smx d c = dQ d * (lst d b * smx d c) := by rw [Nat.mul_comm (lst d b), Nat.mul_assoc]
          rw [x1, x2]
          by_cases g3 : dQ d * (lst d c * smx d b) ≤ dQ d * (lst d b * smx d c)
          · simp only [if_pos g3]
            refine stay ?_
            rw [lk_some he, if_neg]
            rintro (x | ⟨-, x⟩)
            · omega
            · rcases Nat.eq_zero_or_pos (dQ d) with z | z
              · have l1 : lst d c = 0 := by unfold lst; rw [if_pos z]
                rw [l1, Nat.zero_mul] at x
                omega
              · exact absurd (Nat.le_of_mul_le_mul_left g3 z) (by omega)
          · simp only [if_neg g3]
            rw [lk_some he, if_pos (show bt d c b from Or.inr ⟨by omega, Nat.lt_of_not_le (fun x => g3 (Nat.mul_le_mul_left _ x))⟩)]
            exact new _ _ rfl rfl
    rw [wX5_look_34, hu.1.2.2.1]
    simp only [if_pos (nI_le (Nat.le_refl (dQ d)) (show dQ d < 2 ^ 31 by omega))]
    by_cases z : SMq d c (dQ d) = 0
    · simp only [if_pos (show lN (SMq d c (dQ d)) = 0 by rw [z]; rfl)]
      exact body 1 (by rw [c1, ← hsm, if_pos z])
    · simp only [if_neg (show ¬ lN (SMq d c (dQ d)) = 0 from fun x => z ((pk_lEQ (show SMq d c (dQ d) < 2 ^ 63 by omega) (show 0 < 2 ^ 63 by omega)).mp x))]
      exact body _ (by rw [← hsm, if_neg z])
  show EvP (fun n => fX5_look n 0 0 0 0 0 0 u) _
  rw [wX5_look_0, hu.1.2.1]
  simp only [ck_nI (show dP d < 8 by omega) (by decide), if_true, nI_clamp (show dP d < 2 ^ 31 by omega), hro.2 (dP d) (Nat.le_refl _)]
  have k0 := key (dQ d) 0 (by omega) (fun j hj => absurd hj (by omega))
  rw [if_pos rfl] at k0
  cases acc with
  | none =>
    simp only [show gI u 7 = 0 from ha, if_true]
    exact k0 (fun he => fin he (fun b hb => by cases hb))
  | some b =>
    obtain ⟨hb, h7, h8, -⟩ := id ha
    have cw9 := WT_le hw hb
    simp only [h7, show ¬ ((1 : Int32) = 0) by decide, if_false, h8, nI_leI (show WT d c (dP d) < 2 ^ 31 by omega) (show WT d b (dP d) < 2 ^ 31 by omega)]
    by_cases g : WT d c (dP d) ≤ WT d b (dP d)
    · simp only [if_pos g]
      exact k0 (fun he => fin he (fun b' hb' => by cases hb'; exact g))
    · simp only [if_neg g]
      refine stay ?_
      by_cases he : en d c
      · rw [lk_some he, if_neg]
        rintro (x | x) <;> omega
      · exact lk_neg he

/-- between the calls of tryFrom -/
def inv (d : Dt) (u : St) (p : Nat) (c : Nat → Int) (acc : Option (Nat → Int)) : Prop := isC d u ∧ liC d u ∧ reC d u 0 ∧ accC d u acc ∧ vd d c p ∧ (∀ i, i < p → gA u 13 i = iI (c i)) ∧ (∀ j q, j ≤ p → q < dQ d → gA u 12 (j * 16 + q) = nI (LV d c q j))
theorem p_try {d : Dt} (hw : dt_wf d) : ∀ (r e p : Nat) (c : Nat → Int) (acc : Option (Nat → Int)) (u : St), r + 1 ≤ e → p + r = dP d → inv d u p c acc → (∀ q, q < dQ d → dA d 8 q ≤ LV d c q p + RE d q r) →
    EvP (fun n => FX0_tryFrom e n (nI p) (nI (WT d c p)) u) (fun v => inv d v p c (TT d r c acc) ∧ frT u v) := by
  have hK := hw.1.1
  have hP := hw.1.2.1
  have hQ := hw.1.2.2.1
  intro r
  induction r with
  | zero =>
    intro e p c acc u he hp hi hen
    have : p = dP d := by omega
    subst this
    obtain ⟨e, rfl⟩ : ∃ e', e = e' + 1 := ⟨e - 1, by omega⟩
    obtain ⟨hu, hli, hre, hac, hv, htr, hro⟩ := id hi
    show EvP (fun n => fX0_tryFrom (fun n v1 v2 u => FX0_tryFrom e n v1 v2 u) n 0 (nI (dP d)) (nI (WT d c (dP d))) 0 0 u) _
    rw [wX0_tryFrom_0, hu.1.2.1]
    simp only [if_neg (nI_nlt (Nat.le_refl (dP d)) (show dP d < 2 ^ 31 by omega))]
    refine EvP_bindP (p_weigh hw hu hv (fun q hq => by have := hen q hq; simp only [RE] at this; omega) hac htr (fun q hq => hro (dP d) q (Nat.le_refl _) hq)) (fun v hh => EvP_some ?_)
    obtain ⟨h1, h2, h3, h4⟩ := hh
    exact ⟨⟨h2.C hu, h2.li hli, h2.re hre, h1, hv, by rw [h4]; exact htr, by rw [h3]; exact hro⟩, h2⟩
  | succ r ih =>
    intro e p c acc u he hp hi hen
    obtain ⟨e, rfl⟩ : ∃ e', e = e' + 1 := ⟨e - 1, by omega⟩
    have hpP : p < dP d := by omega
    have hpr : dP d - (r + 1) = p := by omega
    have bw : WT d c p ≤ 500 * p := WT_le hw hi.2.2.2.2.1
    have loop : ∀ (j : Nat) (acc : Option (Nat → Int)) (w : St), j ≤ dK d + 1 → inv d w p c acc → frT u w →
        EvP (fun n => fX0_tryFrom (fun n v1 v2 u => FX0_tryFrom e n v1 v2 u) n 19 (nI p) (nI (WT d c p)) (iI ((dK d : Int) - (j : Nat))) 0 w) (fun v => inv d v p c (TK d (TT d r) p c j acc) ∧ frT u v) := by
      intro j
      induction j with
      | zero =>
        intro acc w _ hi hf
        rw [wX0_tryFrom_19, hi.1.1.1]
        have e0 : iI ((dK d : Int) - (0 : Nat)) = nI (dK d) := by rw [← iI_nat, show (dK d : Int) - ((0 : Nat) : Int) = dK d by omega]
        rw [e0]
        simp only [if_pos (nI_le (Nat.le_refl (dK d)) (show dK d < 2 ^ 31 by omega))]
        exact EvP_some ⟨hi, hf⟩
      | succ j ihj =>
        intro acc w hj hi hf
        obtain ⟨hu, hli, hre, hac, hv, htr, hro⟩ := id hi
        generalize hk : (dK d : Int) - ((j + 1 : Nat) : Int) = k
        have hk1 : -1 ≤ k := by omega
        have hk2 : k < dK d := by omega
        have hkn : iI k + 1 = iI ((dK d : Int) - (j : Nat)) := by rw [iI_1]; congr 1; omega
        have bk : (if k < 0 then 0 else dA d 1 k.toNat) ≤ 500 := by
          split
          · omega
          · exact (hw.2.1 k.toNat (by omega)).2.1.2
        have hwt : WT d (cu c p k) (p + 1) = WT d c p + (if k < 0 then 0 else dA d 1 k.toNat) := by
          rw [WT, WT_cg (b := c) (fun i hi => cu_lt c k hi)]; unfold cwt; rw [cu_at]
        have hle : ¬ gI w 0 ≤ iI k := by
          rw [hu.1.1, ← iI_nat, Int32.le_iff_toInt_le, iI_toInt (by omega) (by omega), iI_toInt (by omega) (by omega)]; omega
        rw [wX0_tryFrom_19]
        simp only [if_neg hle]
        rw [EvP_bind (p_wattsOf hw hu hk1 hk2)]
        dsimp only
        rw [EvP_bind (p_mayHave hw hu hpP hk1 hk2)]
        dsimp only
        rw [TK, hk]
        by_cases ho : okk d p k
        · simp only [if_pos ho, show ¬ ((1 : Int32) = 0) by decide, if_false, nI_add]
          rw [← hwt]
          -- tried, gathered, and on
          have go : EvP (fun n => fX0_tryFrom (fun n v1 v2 u => FX0_tryFrom e n v1 v2 u) n 70 (nI p) (nI (WT d c p)) (iI k) (nI (WT d (cu c p k) (p + 1))) w) (fun v => inv d v p c (TK d (TT d r) p c j (TT d r (cu c p k) acc)) ∧ frT u v) := by
            rw [wX0_tryFrom_70]
            simp only [ck_nI (show p < 7 by omega) (by decide), if_true, nI_clamp (show p < 2 ^ 31 by omega)]
            have f13 : frT w (sA w 13 (upd (gA w 13) p (iI k))) := ⟨fun _ _ _ => rfl, fun _ _ => rfl, fun a ha => by rw [gA_sA, if_neg (by omega)], rfl, fun _ _ => rfl⟩
            refine EvP_bindP (p_gather hw (f13.C hu) (f13.li hli) hpP (c := c) hk1 hk2 (fun q hq => hro p q (Nat.le_refl p) hq)) (fun w2 hh => ?_)
            obtain ⟨f, rfl, g1, g2⟩ := hh
            have fr2 : frT w (sA (sA w 13 (upd (gA w 13) p (iI k))) 12 f) := f13.tr ⟨fun _ _ _ => rfl, fun _ _ => rfl, fun a ha => by rw [gA_sA, if_neg (by omega)], rfl, fun j hj => by rw [gA_sA, if_pos rfl, g2 j (by omega)]⟩
            have hv' : vd d (cu c p k) (p + 1) := vd_cu hv hk1 hk2
            have i2 : inv d (sA (sA w 13 (upd (gA w 13) p (iI k))) 12 f) (p + 1) (cu c p k) acc := by
              refine ⟨fr2.C hu, fr2.li hli, fr2.re hre, accC_mv hac rfl rfl rfl rfl rfl rfl, hv', fun i hi => ?_, fun x q hx hq => ?_⟩
              · show upd (gA w 13) p (iI k) i = _
                rw [up_at]
                rcases Nat.lt_or_ge i p with y | y
                · rw [if_neg (by omega), cu_lt c k y]; exact htr i y
                · have : i = p := by omega
                  subst this; rw [if_pos rfl, cu_at]
              · show f (x * 16 + q) = _
                rcases Nat.lt_or_ge x (p + 1) with y | y
                · rw [g2 _ (by omega), LV_cg (b := c) (fun i hi => cu_lt c k (by omega))]
                  exact hro x q (by omega) hq
                · have : x = p + 1 := by omega
                  subst this; exact g1 q hq
            have back : ∀ (v : St) (acc : Option (Nat → Int)), inv d v (p + 1) (cu c p k) acc → inv d v p c acc := by
              rintro v acc ⟨a1, a2, a3, a4, a5, a6, a7⟩
              refine ⟨a1, a2, a3, a4, hv, fun i hi => ?_, fun x q hx hq => ?_⟩
              · rw [a6 i (by omega), cu_lt c k hi]
              · rw [a7 x q (by omega) hq, LV_cg (b := c) (fun i hi => cu_lt c k (by omega))]
            rw [nI_1, EvP_bind (p_cbe hw i2.1 (by omega) hv' i2.2.2.1 (fun q hq => i2.2.2.2.2.2.2 (p + 1) q (Nat.le_refl _) hq))]
            dsimp only
            by_cases hcb : ∀ q, q < dQ d → dA d 8 q ≤ LV d (cu c p k) q (p + 1) + RE d q (dP d - (p + 1))
            · simp only [if_pos hcb, show ¬ ((1 : Int32) = 0) by decide, if_false]
              have hh := ih e (p + 1) (cu c p k) acc _ (by omega) (by omega) i2 (fun q hq => by have := hcb q hq; rw [show dP d - (p + 1) = r by omega] at this; exact this)
              refine EvP_bindP hh (fun w3 h3 => ?_)
              rw [hkn]
              exact ihj _ w3 (by omega) (back w3 _ h3.1) (hf.tr (fr2.tr h3.2))
            · simp only [if_neg hcb, if_true]
              have : TT d r (cu c p k) acc = acc := by
                obtain ⟨q, hq⟩ : ∃ q, ¬ (q < dQ d → dA d 8 q ≤ LV d (cu c p k) q (p + 1) + RE d q (dP d - (p + 1))) := Classical.not_forall.mp hcb
                obtain ⟨hq1, hq2⟩ := Classical.not_imp.mp hq
                refine TT_dark hq1 r _ _ (by omega) ?_
                rw [show dP d - r = p + 1 by omega]
                rw [show dP d - (p + 1) = r by omega] at hq2
                omega
              rw [this, hkn]
              exact ihj _ _ (by omega) (back _ _ i2) (hf.tr fr2)
          cases acc with
          | none =>
            simp only [show gI w 5 = 0 from hac.1, if_true]
            exact go
          | some b =>
            obtain ⟨hb, h5, h4, -⟩ := id hac
            have bb := WT_le hw hb
            have bc : WT d (cu c p k) (p + 1) ≤ 4000 := by rw [hwt]; omega
            simp only [h5, show ¬ ((1 : Int32) = 0) by decide, if_false, h4, nI_ltI (show WT d b (dP d) < 2 ^ 31 by omega) (show WT d (cu c p k) (p + 1) < 2 ^ 31 by omega)]
            by_cases g : WT d b (dP d) < WT d (cu c p k) (p + 1)
            · simp only [if_pos g]
              rw [TT_dear r (cu c p k) (by omega) (by rw [show dP d - r = p + 1 by omega]; exact g), hkn]
              exact ihj _ w (by omega) hi hf
            · simp only [if_neg g]
              exact go
        · simp only [if_neg ho, if_true]
          rw [hkn]
          exact ihj acc w (by omega) hi hf
    show EvP (fun n => fX0_tryFrom (fun n v1 v2 u => FX0_tryFrom e n v1 v2 u) n 0 (nI p) (nI (WT d c p)) 0 0 u) _
    rw [wX0_tryFrom_0, hi.1.1.2.1]
    simp only [if_pos (nI_lt hpP (show dP d < 2 ^ 31 by omega))]
    have := loop (dK d + 1) acc u (Nat.le_refl _) hi (frT.rf u)
    rw [show iI ((dK d : Int) - ((dK d + 1 : Nat) : Int)) = (-1 : Int32) by rw [← iI_m1]; congr 1; omega] at this
    rw [TT, hpr]
    exact this
/-- Arrays.fill -/
theorem p_fill {k : Nat} (hk : k < 2 ^ 31) (x : Int32) : ∀ (m i : Nat) (f : Nat → Int32), i + m = k → Ev (fun n => fJ7_fill k n 5 x (nI i) (nI k) f) (fun j => if i ≤ j ∧ j < k then x else f j) := by
  intro m
  induction m with
  | zero =>
    intro i f hi
    rw [vJ7_fill_5]
    simp only [if_pos (nI_le (show k ≤ i by omega) (show i < 2 ^ 31 by omega))]
    exact Ev_some (funext fun j => by rw [if_neg (by omega)])
  | succ m ih =>
    intro i f hi
    rw [vJ7_fill_5]
    simp only [if_neg (nI_ge (show i < k by omega) hk), ck_nI (show i < k by omega) hk, if_true, nI_clamp (show i < 2 ^ 31 by omega), nI_1]
    have := ih (i + 1) (upd f i x) (by omega)
    have e : (fun j => if i + 1 ≤ j ∧ j < k then x else upd f i x j) = (fun j => if i ≤ j ∧ j < k then x else f j) := by
      funext j
      rw [up_at]
      by_cases a : i + 1 ≤ j ∧ j < k
      · rw [if_pos a, if_pos (by omega)]
      · by_cases b : j = i
        · rw [if_neg a, if_pos b, if_pos (by omega)]
        · rw [if_neg a, if_neg b, if_neg (by omega)]
    rw [e] at this
    exact this
theorem p_fill7 (x : Int32) (f : Nat → Int32) : Ev (fun n => FJ7_fill n 7 x f) (fun j => if j < 7 then x else f j) := by
  show Ev (fun n => fJ7_fill 7 n 0 x 0 0 f) _
  rw [vJ7_fill_0]
  have := p_fill (show 7 < 2 ^ 31 by decide) x 7 0 f (by omega)
  have e : (fun j => if 0 ≤ j ∧ j < 7 then x else f j) = (fun j => if j < 7 then x else f j) := by
    funext j; simp only [Nat.zero_le, true_and]
  rw [e] at this
  exact this
/-- rows that the search leaves clean -/
def scr (d : Dt) (u : St) : Prop := (∀ j, dP d * 16 ≤ j → j < 128 → gA u 11 j = 0) ∧ (∀ j, j < 16 → gA u 12 j = 0)
/-- what settling may change -/
def frK (u v : St) : Prop := (∀ i, i ≠ 4 → i ≠ 5 → i ≠ 6 → gI v i = gI u i) ∧ (∀ j, 2 ≤ j → gJ v j = gJ u j) ∧ (∀ a, a < 10 ∨ 16 ≤ a → gA v a = gA u a) ∧ v.2.2.2 = u.2.2.2
theorem p_settle {d : Dt} (hw : dt_wf d) {u : St} (hu : isC d u) (hs : scr d u) (h6 : gI u 6 = 0) : EvP (fun n => FX0_settle n u) (fun v => isC d v ∧ liC d v ∧ accC d v (bst d) ∧ gI v 6 = 1 ∧ scr d v ∧ frK u v) := by
  have hK := hw.1.1
  have hP := hw.1.2.1
  have hQ := hw.1.2.2.1
  show EvP (fun n => fX0_settle n 0 u) _
  rw [wX0_settle_0]
  simp only [h6, if_true]
  rw [EvP_bind (p_fill7 (-1) (gA u 14))]
  generalize hf14 : (fun j => if j < 7 then (-1 : Int32) else gA u 14 j) = f14
  have hu1 : isC d (sA (sI (sI u 6 1) 5 0) 14 f14) := isC_mv hu (fun i hi => by simp only [gI_sA, gI_sI, if_neg (show i ≠ 5 by omega), if_neg (show i ≠ 6 by omega)]) (fun a ha => by simp only [gA_sA, gA_sI, if_neg (show a ≠ 14 by omega)])
  refine EvP_bindP (p_fillLights hw hu1) (fun w1 h1 => ?_)
  obtain ⟨f10, rfl, hli⟩ := h1
  have hu2 := isC_A hu1 (show 10 ≤ 10 by omega) f10
  refine EvP_bindP (p_fillReach hw hu2 hli (fun j a b => hs.1 j a b)) (fun w2 h2 => ?_)
  obtain ⟨f11, rfl, hre, hz⟩ := h2
  have hu3 := isC_A hu2 (show 10 ≤ 11 by omega) f11
  generalize hw3 : sA (sA (sA (sI (sI u 6 1) 5 0) 14 f14) 10 f10) 11 f11 = w3 at hre hz hu3 ⊢
  have li3 : liC d w3 := by
    intro p k q a b e
    rw [← hw3, gA_sA, if_neg (by omega)]
    exact hli p k q a b e
  have ac3 : accC d w3 none := by
    refine ⟨by rw [← hw3]; rfl, fun p hp => ?_⟩
    rw [← hw3]
    show f14 p = -1
    rw [← hf14]
    exact if_pos hp
  have r12 : gA w3 12 = gA u 12 := by rw [← hw3]; rfl
  have row0 : ∀ q, q < dQ d → gA w3 12 (0 * 16 + q) = nI (LV d (fk d) q 0) := by
    intro q hq
    rw [r12, hs.2 _ (by omega)]; rfl
  have fk3 : frK u w3 := by
    rw [← hw3]
    refine ⟨fun i a b e => ?_, fun _ _ => rfl, fun a ha => ?_, rfl⟩
    · simp only [gI_sA, gI_sI, if_neg b, if_neg e]
    · simp only [gA_sA, gA_sI, if_neg (show a ≠ 14 by omega), if_neg (show a ≠ 10 by omega), if_neg (show a ≠ 11 by omega)]
  have i6 : gI w3 6 = 1 := by rw [← hw3]; rfl
  have cb := p_cbe hw hu3 (show 0 ≤ dP d by omega) (c := fk d) (fun i hi => absurd hi (by omega)) hre row0
  rw [show (0 : Int32) = nI 0 from n0, EvP_bind cb]
  dsimp only
  by_cases hcb : ∀ q, q < dQ d → dA d 8 q ≤ LV d (fk d) q 0 + RE d q (dP d - 0)
  · simp only [if_pos hcb, show ¬ ((1 : Int32) = nI 0) by decide, if_false]
    have hi : inv d w3 0 (fk d) none := ⟨hu3, li3, hre, ac3, fun i hi => absurd hi (by omega), fun i hi => absurd hi (by omega), fun j q hj hq => by
      have : j = 0 := by omega
      subst this; exact row0 q hq⟩
    refine EvP_bindP (p_try hw (dP d) 8 0 (fk d) none w3 (by omega) (by omega) hi hcb) (fun v hv => EvP_some ?_)
    obtain ⟨hiv, fr⟩ := hv
    refine ⟨hiv.1, hiv.2.1, hiv.2.2.2.1, by rw [fr.1 6 (by omega) (by omega)]; exact i6, ⟨fun j a b => by rw [fr.2.2.1 11 (by omega)]; exact hz j a b, fun j hj => by rw [fr.2.2.2.2 j hj, r12]; exact hs.2 j hj⟩, fun i a b e => by rw [fr.1 i a b]; exact fk3.1 i a b e, fun j hj => by rw [fr.2.1 j hj]; exact fk3.2.1 j hj, fun a ha => by rw [fr.2.2.1 a (by omega)]; exact fk3.2.2.1 a ha, fr.2.2.2.1.trans fk3.2.2.2⟩
  · simp only [if_neg hcb, show (0 : Int32) = nI 0 from n0, if_true]
    have hb : bst d = none := by
      obtain ⟨q, hq⟩ := Classical.not_forall.mp hcb
      obtain ⟨hq1, hq2⟩ := Classical.not_imp.mp hq
      refine TT_dark hq1 (dP d) _ _ (Nat.le_refl _) ?_
      rw [Nat.sub_self]
      rw [Nat.sub_zero] at hq2
      omega
    rw [hb]
    exact EvP_some ⟨hu3, li3, ac3, i6, ⟨hz, fun j hj => by rw [r12]; exact hs.2 j hj⟩, fk3⟩

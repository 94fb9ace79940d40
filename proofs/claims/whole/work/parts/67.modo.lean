/-! the reference's counting through all choices -/
def exh (d : Dt) (c : Nat → Int) (i : Nat) : Prop := ¬ (dE d i = -2 ∧ c i < (dK d : Int) - 1)
theorem q_nx {d : Dt} (hw : dt_wf d) {u : St} (hu : isM d u) {j : Nat} (hj : j < dP d) {x : Int} (hx : gA u 14 j = iI x) (h1 : -1 ≤ x) (h2 : x < dK d) :
    (exh d (fun _ => x) j → ∀ {F : Int32 × St → Prop}, EvP (fun n => fX5_nextChoice n 7 (nI j - 1) (sA u 14 (upd (gA u 14) j (iI (fk d j))))) F → EvP (fun n => fX5_nextChoice n 7 (nI (j + 1) - 1) u) F) ∧
    (¬ exh d (fun _ => x) j → Ev (fun n => fX5_nextChoice n 7 (nI (j + 1) - 1) u) (nI j, sA u 14 (upd (gA u 14) j (iI (x + 1))))) := by
  have hK := hw.1.1
  have hP := hw.1.2.1
  have e6 := (hu.2.2.1 j hj).2.2
  have r6 := (hw.2.2.1 j hj).2.2
  have hkk : gI u 1 - 1 = iI ((dK d : Int) - 1) := by
    rw [hu.1.1, ← iI_nat, show (1 : Int32) = iI 1 from rfl]
    unfold iI
    exact (Int32.ofInt_sub _ _).symm
  have cmp : (gI u 1 - 1 ≤ iI x) ↔ (dK d : Int) - 1 ≤ x := by
    rw [hkk, Int32.le_iff_toInt_le, iI_toInt (by omega) (by omega), iI_toInt (by omega) (by omega)]
  have held : (iI (dE d j) = -2) ↔ dE d j = -2 := by
    rw [← iI_m2, iI_inj (by omega) (by omega) (by omega) (by omega)]
  constructor
  · intro hex F hk
    rw [nI_pred, wX5_nextChoice_7]
    simp only [if_neg (nI_pos (show j < 2 ^ 31 by omega)), ck_nI (show j < 7 by omega) (by decide), if_true, nI_clamp (show j < 2 ^ 31 by omega), e6, hx, held, cmp]
    have at49 : EvP (fun n => fX5_nextChoice n 49 (nI j) u) F := by
      rw [wX5_nextChoice_49, EvP_bind (q_firstOf hw hu hj)]
      simp only [ck_nI (show j < 7 by omega) (by decide), if_true, nI_clamp (show j < 2 ^ 31 by omega)]
      rw [show nI j + (-1) = nI j - 1 by rw [Int32.sub_eq_add_neg]]
      exact hk
    by_cases a : dE d j = -2
    · simp only [if_pos a]
      have : (dK d : Int) - 1 ≤ x := by
        rcases (show x < (dK d : Int) - 1 ∨ (dK d : Int) - 1 ≤ x by omega) with y | y
        · exact absurd ⟨a, y⟩ hex
        · exact y
      simp only [if_pos this]
      exact at49
    · simp only [if_neg a]
      exact at49
  · intro hex
    obtain ⟨a, b⟩ := Classical.not_not.mp hex
    rw [nI_pred, vX5_nextChoice_7]
    simp only [if_neg (nI_pos (show j < 2 ^ 31 by omega)), ck_nI (show j < 7 by omega) (by decide), if_true, nI_clamp (show j < 2 ^ 31 by omega), e6, hx, held, cmp, if_pos a, if_neg (show ¬ (dK d : Int) - 1 ≤ x by have : x < (dK d : Int) - 1 := b; omega), iI_1]
    exact Ev_some rfl
/-- from the last place down to place p everything is at its end: all go back to their first -/
theorem q_nxs {d : Dt} (hw : dt_wf d) {c : Nat → Int} (hc : vd d c (dP d)) {p : Nat} (hp : p ≤ dP d) (hex : ∀ i, p ≤ i → i < dP d → exh d c i) {F : Int32 × St → Prop} : ∀ (m j : Nat) (u : St), p + m = j → j ≤ dP d → isM d u → (∀ i, i < j → gA u 14 i = iI (c i)) →
    (∀ f : Nat → Int32, (∀ i, i < p → f i = gA u 14 i) → (∀ i, p ≤ i → i < j → f i = iI (fk d i)) → (∀ i, j ≤ i → f i = gA u 14 i) → EvP (fun n => fX5_nextChoice n 7 (nI p - 1) (sA u 14 f)) F) →
    EvP (fun n => fX5_nextChoice n 7 (nI j - 1) u) F := by
  intro m
  induction m with
  | zero =>
    intro j u hj hj2 hu h14 kk
    have : j = p := by omega
    subst this
    have := kk (gA u 14) (fun _ _ => rfl) (fun i a b => absurd b (by omega)) (fun _ _ => rfl)
    rw [sA_self] at this
    exact this
  | succ m ih =>
    intro j u hj hj2 hu h14 kk
    obtain ⟨j, rfl⟩ : ∃ j', j = j' + 1 := ⟨j - 1, by omega⟩
    have hcj := hc j (by omega)
    refine (q_nx hw hu (show j < dP d by omega) (h14 j (by omega)) hcj.1 hcj.2).1 (hex j (by omega) (by omega)) ?_
    refine ih j _ (by omega) (by omega) (isM_A hu (by omega) _) (fun i hi => by rw [gA_sA, if_pos rfl, up_at, if_neg (by omega)]; exact h14 i (by omega)) (fun f f1 f2 f3 => ?_)
    rw [sA_sA]
    refine kk f (fun i hi => ?_) (fun i a b => ?_) (fun i hi => ?_)
    · rw [f1 i hi, gA_sA, if_pos rfl, up_at, if_neg (by omega)]
    · rcases Nat.lt_or_ge i j with x | x
      · exact f2 i a x
      · have : i = j := by omega
        subst this
        rw [f3 i (Nat.le_refl i), gA_sA, if_pos rfl, up_at, if_pos rfl]
    · rw [f3 i (by omega), gA_sA, if_pos rfl, up_at, if_neg (by omega)]
/-- all of the reference's search state, for the choice c -/
def MI (d : Dt) (u : St) (c : Nat → Int) (acc : Option (Nat → Int)) (j : Nat) : Prop := isM d u ∧ liM d u ∧ (∀ i, i < dP d → gA u 14 i = iI (c i)) ∧ vd d c (dP d) ∧ roM d u c j ∧ accM d u acc
theorem TK_one {d : Dt} {rec : (Nat → Int) → Option (Nat → Int) → Option (Nat → Int)} {p : Nat} {c : Nat → Int} {h : Int} (hh : dE d p = h) (hn : h ≠ -2) : ∀ (n : Nat) (acc : Option (Nat → Int)), TK d rec p c n acc = if (dK d : Int) - n ≤ h ∧ h < dK d then rec (cu c p h) acc else acc := by
  intro n
  induction n with
  | zero => intro acc; rw [TK, if_neg (by omega)]
  | succ n ih =>
    intro acc
    rw [TK, ih]
    by_cases a : okk d p ((dK d : Int) - (n + 1 : Nat))
    · have e : (dK d : Int) - (n + 1 : Nat) = h := by
        rcases a with x | x
        · exact absurd (hh.symm.trans x) hn
        · exact x.symm.trans hh
      rw [if_pos a, if_neg (by omega), if_pos (by omega), e]
    · have ne : (dK d : Int) - (n + 1 : Nat) ≠ h := fun x => a (Or.inr (hh.trans x.symm))
      rw [if_neg a]
      by_cases b : (dK d : Int) - n ≤ h ∧ h < dK d
      · rw [if_pos b, if_pos (by omega)]
      · rw [if_neg b, if_neg (by omega)]
theorem cu_self (c : Nat → Int) (p : Nat) : cu c p (c p) = c := by
  funext i
  unfold cu
  split
  · rename_i h; rw [h]
  · rfl
theorem cu_cu (c : Nat → Int) (p : Nat) (a b : Int) : cu (cu c p a) p b = cu c p b := by
  funext i
  unfold cu
  split <;> rfl
theorem q_odo {d : Dt} (hw : dt_wf d) {F : St → Prop} : ∀ (r p : Nat) (c : Nat → Int) (acc : Option (Nat → Int)) (u : St) (j : Nat), p + r = dP d → j ≤ dP d → MI d u c acc j → (∀ i, p ≤ i → i < dP d → c i = fk d i) →
    (∀ (v : St) (c' : Nat → Int), (∀ i, i < p → c' i = c i) → (∀ i, p ≤ i → i < dP d → exh d c' i) → MI d v c' (TT d r c acc) (dP d) → frM u v → EvP (fun n => (FX5_nextChoice n v).bind fun w => fX5_findBest n 139 w.1 0 0 w.2) F) →
    EvP (fun n => fX5_findBest n 139 (nI j) 0 0 u) F := by
  have hK := hw.1.1
  have hP := hw.1.2.1
  have hQ := hw.1.2.2.1
  intro r
  induction r with
  | zero =>
    intro p c acc u j hp hj hi hf kk
    obtain ⟨hu, hli, hch, hv, hro, hac⟩ := id hi
    rw [wX5_findBest_139]
    simp only [if_neg (nI_pos (show j < 2 ^ 31 by omega))]
    have hadd : EvP (fun n => FX5_addUp n (nI j) u) (fun v => ∃ f g, v = sA (sA u 15 f) 16 g ∧ roM d v c (dP d) ∧ (∀ j, j < 16 → f j = gA u 15 j) ∧ g 0 = gA u 16 0) := by
      show EvP (fun n => fX5_addUp n 0 (nI j) 0 0 0 u) _
      rw [wX5_addUp_0]
      exact q_addUp hw hv (dP d - j) j u (by omega) hu hli hch hro
    refine EvP_bindP hadd (fun w1 h1 => ?_)
    obtain ⟨f, g, rfl, hro1, -, -⟩ := h1
    have fr1 : frM u (sA (sA u 15 f) 16 g) := (frM.A f (by omega) (by omega)).tr (frM.A g (by omega) (by omega))
    refine EvP_bindP (q_look hw (fr1.M hu) hv (accM_mv hac rfl rfl rfl rfl rfl) hch hro1) (fun w2 h2 => ?_)
    obtain ⟨hac2, fr2, e14, e15, e16⟩ := h2
    refine kk w2 c (fun _ _ => rfl) (fun i a b => absurd b (by omega)) ⟨fr2.M (fr1.M hu), fr2.li (fr1.li hli), by rw [e14]; exact hch, hv, ⟨by rw [e15]; exact hro1.1, by rw [e16]; exact hro1.2⟩, hac2⟩ (fr1.tr fr2)
  | succ r ih =>
    intro p c acc u j hp hj hi hf kk
    have hp' : p < dP d := by omega
    have hpr : dP d - (r + 1) = p := by omega
    have hcp : c p = fk d p := hf p (Nat.le_refl p) hp'
    have r6 := (hw.2.2.1 p hp').2.2
    by_cases he : dE d p = -2
    · -- all kinds, one after the other
      have hm1 : c p = -1 := by rw [hcp]; unfold fk; rw [if_pos he]
      have loop : ∀ (t : Nat) (acc : Option (Nat → Int)) (w : St) (j : Nat), t ≤ dK d → j ≤ dP d → MI d w (cu c p ((dK d : Int) - 1 - t)) acc j → frM u w → (TK d (TT d r) p c (t + 1) acc = TT d (r + 1) c (acc) → True) →
          (∀ (v : St) (c' : Nat → Int), (∀ i, i < p → c' i = c i) → (∀ i, p ≤ i → i < dP d → exh d c' i) → MI d v c' (TK d (TT d r) p c (t + 1) acc) (dP d) → frM u v → EvP (fun n => (FX5_nextChoice n v).bind fun w => fX5_findBest n 139 w.1 0 0 w.2) F) →
          EvP (fun n => fX5_findBest n 139 (nI j) 0 0 w) F := by
        intro t
        induction t with
        | zero =>
          intro acc w j _ hj hi hfr _ kk
          refine ih (p + 1) _ acc w j (by omega) hj hi (fun i a b => by unfold cu; rw [if_neg (by omega)]; exact hf i (by omega) b) (fun v c' h1 h2 h3 h4 => ?_)
          have e : TK d (TT d r) p c (0 + 1) acc = TT d r (cu c p ((dK d : Int) - 1 - (0 : Nat))) acc := by
            rw [TK, TK, if_pos (show okk d p _ from Or.inl he)]
            congr 2
            omega
          rw [e] at kk
          refine kk v c' (fun i hi => by rw [h1 i (by omega), cu_lt c _ hi]) (fun i a b => ?_) h3 (hfr.tr h4)
          rcases Nat.lt_or_ge i (p + 1) with x | x
          · have : i = p := by omega
            subst this
            have := h1 i (by omega)
            rw [cu_at] at this
            rintro ⟨-, y⟩
            rw [this] at y
            omega
          · exact h2 i x b
        | succ t iht =>
          intro acc w j ht hj hi hfr _ kk
          refine ih (p + 1) _ acc w j (by omega) hj hi (fun i a b => by unfold cu; rw [if_neg (by omega)]; exact hf i (by omega) b) (fun v c' h1 h2 h3 h4 => ?_)
          obtain ⟨hu, hli, hch, hv, hro, hac⟩ := id h3
          have hcp' : c' p = (dK d : Int) - 1 - (t + 1 : Nat) := by rw [h1 p (by omega), cu_at]
          -- the next choice
          have key : EvP (fun n => FX5_nextChoice n v) (fun w => w.1 = nI p ∧ ∃ f, w.2 = sA v 14 f ∧ (∀ i, i < dP d → f i = iI (cu c p ((dK d : Int) - 1 - t) i))) := by
            show EvP (fun n => fX5_nextChoice n 0 0 v) _
            rw [wX5_nextChoice_0, hu.1.2.1]
            refine q_nxs hw hv (p := p + 1) (by omega) h2 (dP d - (p + 1)) (dP d) v (by omega) (Nat.le_refl _) hu hch (fun f f1 f2 f3 => ?_)
            have hx : gA (sA v 14 f) 14 p = iI ((dK d : Int) - 1 - (t + 1 : Nat)) := by
              rw [gA_sA, if_pos rfl, f1 p (by omega), hch p hp', hcp']
            have := (q_nx hw (isM_A hu (by omega) f) hp' hx (by omega) (by omega)).2 (by
              intro hh
              exact hh ⟨he, by show (dK d : Int) - 1 - (t + 1 : Nat) < (dK d : Int) - 1; omega⟩)
            rw [sA_sA] at this
            refine EvP_of this ⟨rfl, _, rfl, fun i hi => ?_⟩
            rw [up_at]
            rcases Nat.lt_trichotomy i p with x | x | x
            · rw [if_neg (by omega), gA_sA, if_pos rfl, f1 i (by omega), hch i hi, h1 i (by omega), cu_lt c _ x, cu_lt c _ x]
            · subst x
              rw [if_pos rfl, cu_at]
              congr 1; omega
            · rw [if_neg (by omega), gA_sA, if_pos rfl, f2 i (by omega) hi]
              unfold cu; rw [if_neg (by omega), hf i (by omega) hi]
          refine EvP_bindP key (fun w2 h5 => ?_)
          obtain ⟨e1, f, e2, hf14⟩ := h5
          rw [e1, e2]
          have hv2 : vd d (cu c p ((dK d : Int) - 1 - t)) (dP d) := by
            intro i hi
            rcases Nat.lt_trichotomy i p with x | x | x
            · rw [cu_lt c _ x]
              have := hv i hi
              rw [h1 i (by omega), cu_lt c _ x] at this
              exact this
            · subst x; rw [cu_at]; omega
            · unfold cu; rw [if_neg (by omega), hf i (by omega) hi]; exact fk_in hw hi
          have e : TK d (TT d r) p c (t + 1 + 1) acc = TK d (TT d r) p c (t + 1) (TT d r (cu c p ((dK d : Int) - 1 - (t + 1 : Nat))) acc) := by
            rw [TK, if_pos (show okk d p _ from Or.inl he)]
            congr 3
            omega
          rw [e] at kk
          refine iht _ _ p (by omega) (by omega) ⟨isM_A hu (by omega) f, fun a b x y1 y2 y3 => by rw [gA_sA, if_neg (by omega)]; exact hli a b x y1 y2 y3, fun i hi => by rw [gA_sA, if_pos rfl]; exact hf14 i hi, hv2, ⟨fun i q hi hq => ?_, fun i hi => ?_⟩, accM_mv hac rfl rfl rfl rfl rfl⟩ (hfr.tr (h4.tr (frM.A f (by omega) (by omega)))) (fun _ => trivial) kk
          · rw [gA_sA, if_neg (by omega), hro.1 i q (by omega) hq]
            congr 1
            exact LV_cg (fun x hx => by rw [h1 x (by omega), cu_lt c _ (by omega), cu_lt c _ (by omega)])
          · rw [gA_sA, if_neg (by omega), hro.2 i (by omega)]
            congr 1
            exact WT_cg (fun x hx => by rw [h1 x (by omega), cu_lt c _ (by omega), cu_lt c _ (by omega)])
      have hc0 : cu c p ((dK d : Int) - 1 - (dK d : Nat)) = c := by
        have : (dK d : Int) - 1 - (dK d : Nat) = c p := by omega
        rw [this]; exact cu_self c p
      refine loop (dK d) acc u j (Nat.le_refl _) hj (by rw [hc0]; exact hi) (frM.rf u) (fun _ => trivial) ?_
      intro v c' h1 h2 h3 h4
      refine kk v c' h1 h2 ?_ h4
      rw [TT, hpr]; exact h3
    · -- held: one kind
      have hh : dE d p = c p := by rw [hcp]; unfold fk; rw [if_neg he]
      refine ih (p + 1) c acc u j (by omega) hj hi (fun i a b => hf i (by omega) b) (fun v c' h1 h2 h3 h4 => ?_)
      refine kk v c' (fun i hi => h1 i (by omega)) (fun i a b => ?_) ?_ h4
      · rcases Nat.lt_or_ge i (p + 1) with x | x
        · have : i = p := by omega
          subst this
          exact fun y => he y.1
        · exact h2 i x b
      · rw [TT, hpr, TK_one hh (by omega), if_pos (by omega), cu_self]; exact h3

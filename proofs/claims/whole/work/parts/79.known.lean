/-! asked for: the best choice, and the scene -/
theorem p_known {d : Dt} {st mi : Nat} {dy am X Y : Nat → Nat} {sn : Nat → Int} {j2 j3 j4 : Int64} {u : St} (hb : BS d st mi dy am sn) (h0 : C0 d st mi dy am sn j2 j3 j4 u) (h1 : C1 d am X Y u) : EvP (fun n => FX0_settle n u) (fun v => C0 d st mi dy am sn j2 j3 j4 v ∧ C1 d am X Y v ∧ liC d v ∧ accC d v (bst d) ∧ gI v 6 = 1) := by
  have hw := hb.1
  rcases h1.2.1 with a | ⟨a, hli, hac⟩
  · refine EvP_imp (p_settle hw h0.1.1 h0.1.2 a) (fun v hv => ?_)
    obtain ⟨v1, v2, v3, v4, v5, f1, f2, f3, f4⟩ := hv
    refine ⟨C0_mv h0 v5 (fun i hi => f1 i (by omega) (by omega) (by omega)) f2 (fun a ha => f3 a (by omega)), ⟨?_, Or.inr ⟨v4, v2, v3⟩, ?_⟩, v2, v3, v4⟩
    · rw [f3 20 (by omega), f3 21 (by omega)]; exact h1.1
    · rcases h1.2.2 with e | ⟨-, e, -⟩
      · exact Or.inl (by rw [f1 8 (by omega) (by omega) (by omega)]; exact e)
      · rw [a] at e; exact absurd e (by decide)
  · show EvP (fun n => fX0_settle n 0 u) _
    rw [wX0_settle_0, a]
    simp only [if_neg (show ¬ (1 : Int32) = 0 by decide)]
    exact EvP_some ⟨h0, h1, hli, hac, a⟩
theorem q_known {d : Dt} {st mi : Nat} {dy am X Y : Nat → Nat} {sn : Nat → Int} {j2 j3 j4 : Int64} {u : St} (hb : BS d st mi dy am sn) (h0 : M0 d st mi dy am sn j2 j3 j4 u) (h1 : M1 d X Y u) : EvP (fun n => FX5_findBest n u) (fun v => M0 d st mi dy am sn j2 j3 j4 v ∧ M1 d X Y v ∧ accM d v (bst d) ∧ gI v 0 = gI u 0) := by
  have hw := hb.1
  rcases h1.2 with a | ⟨a, hac⟩
  · refine EvP_imp (q_findBest hw h0.1.1 a h0.1.2) (fun v hv => ?_)
    obtain ⟨v1, v2, v3, v4, f1, f2, f3⟩ := hv
    refine ⟨M0_mv h0 v4 (fun i hi => f1 i (by omega)) f2 (fun a ha => f3 a (by omega)), ⟨?_, Or.inr ⟨v3, v2⟩⟩, v2, f1 0 (by omega)⟩
    rw [f3 19 (by omega), f3 20 (by omega)]; exact h1.1
  · show EvP (fun n => fX5_findBest n 0 0 0 0 u) _
    rw [wX5_findBest_0, a]
    simp only [if_neg (show ¬ (1 : Int32) = 0 by decide)]
    exact EvP_some ⟨h0, h1, hac, rfl⟩
theorem p_settleScene {d : Dt} {st mi : Nat} {dy am X Y : Nat → Nat} {sn : Nat → Int} {j2 j3 j4 : Int64} {u : St} (hb : BS d st mi dy am sn) (h0 : C0 d st mi dy am sn j2 j3 j4 u) (h1 : C1 d am X Y u) : EvP (fun n => FX4_settleScene n u) (fun v => C0 d st mi dy am sn j2 j3 j4 v ∧ C1 d am X Y v ∧ lmC d v (bbo (bst d)) ∧ gI v 7 = nI (scn d (bbo (bst d)) am).2 ∧ dmC d v (bbo (bst d)) am (scn d (bbo (bst d)) am).1) := by
  have hw := hb.1
  have hQ := hw.1.2.2.1
  show EvP (fun n => fX4_settleScene n 0 u) _
  rw [wX4_settleScene_0]
  refine EvP_bindP (p_known hb h0 h1) (fun v hv => ?_)
  obtain ⟨v0, v1, v2, v3, v6⟩ := hv
  have hl := lmC_of hw v0.1.1 v2 v3
  rcases v1.2.2 with a | ⟨a, a6, a7, ad⟩
  · refine EvP_bindP (p_scene hw (am := am) (fun q hq => (hb.2.2.2.1 q (by omega)).2) hl (fun j hj => (v0.2.2.1 j (by omega)).2) a) (fun w hw2 => EvP_some ?_)
    obtain ⟨w7, wd, w8, f1, f2, f3⟩ := hw2
    have e6 : gI w 6 = gI v 6 := f1 6 (by omega) (by omega)
    have wl : lmC d w (bbo (bst d)) := lmC_mv hl (fun i hi => f1 i (by omega) (by omega)) f3
    have wli : liC d w := fun p k q a b e => by rw [f3 10 (by omega)]; exact v2 p k q a b e
    have wac : accC d w (bst d) := accC_mv v3 (f1 5 (by omega) (by omega)) (f1 4 (by omega) (by omega)) (by show w.2.1 0 = _; rw [f2]) (by show w.2.1 1 = _; rw [f2]) (f3 14 (by omega)) (f3 15 (by omega))
    have e6' : gI w 6 = 1 := e6.trans v6
    exact ⟨C0_mv v0 ⟨by rw [f3 11 (by omega)]; exact v0.1.2.1, by rw [f3 12 (by omega)]; exact v0.1.2.2⟩ (fun i hi => f1 i (by omega) (by omega)) (fun j _ => by show w.2.1 j = _; rw [f2]) (fun a ha => f3 a (by omega)), ⟨by rw [f3 20 (by omega), f3 21 (by omega)]; exact v1.1, Or.inr ⟨e6', wli, wac⟩, Or.inr ⟨w8, e6', w7, wd⟩⟩, wl, w7, wd⟩
  · have : Ev (fun n => FX3_settle n v) v := by
      show Ev (fun n => fX3_settle n 0 0 v) _
      rw [vX3_settle_0, a]
      simp only [if_neg (show ¬ (1 : Int32) = 0 by decide)]
      exact Ev_some rfl
    rw [EvP_bind this]
    exact EvP_some ⟨v0, v1, hl, a7, ad⟩
theorem q_sweep {d : Dt} {st mi : Nat} {dy am X Y : Nat → Nat} {sn : Nat → Int} {j2 j3 j4 : Int64} {u : St} (hb : BS d st mi dy am sn) (h0 : M0 d st mi dy am sn j2 j3 j4 u) (h1 : M1 d X Y u) : EvP (fun n => FX5_sweep n u) (fun w => w.1 = nI (scn d (bbo (bst d)) am).2 ∧ M0 d st mi dy am sn j2 j3 j4 w.2 ∧ M1 d X Y w.2 ∧ lmM d w.2 (bbo (bst d)) ∧ amM d w.2 am ∧ dmM d w.2 (scn d (bbo (bst d)) am).1 ∧ gI w.2 0 = gI u 0) := by
  have hw := hb.1
  have hQ := hw.1.2.2.1
  show EvP (fun n => fX5_sweep n 0 0 0 0 0 u) _
  rw [wX5_sweep_0]
  refine EvP_bindP (q_known hb h0 h1) (fun v hv => ?_)
  obtain ⟨v0, v1, v2, v3⟩ := hv
  have hl := lmM_of hw v0.1.1 v2
  have ha : amM d v am := fun q hq => ⟨(hb.2.2.2.1 q (by omega)).2, (v0.2.2.1 q (by omega)).2⟩
  refine EvP_imp (q_sweep8 hw 7 0 v (by omega) hl ha (fun j hj => absurd hj (by omega))) (fun w hw2 => ?_)
  obtain ⟨w1, w2, fr⟩ := hw2
  obtain ⟨f1, f2, f3⟩ := id fr
  have hI : ∀ i, gI w.2 i = gI v i := fun i => by show w.2.1 i = v.1 i; rw [f1]
  have hJ : ∀ j, gJ w.2 j = gJ v j := fun j => by show w.2.2.1 j = v.2.1 j; rw [f2]
  refine ⟨w1, M0_mv v0 (by rw [f3 16 (by omega)]; exact v0.1.2) (fun i _ => hI i) (fun j _ => hJ j) (fun a ha => f3 a (by omega)), ⟨by rw [f3 19 (by omega), f3 20 (by omega)]; exact v1.1, ?_⟩, fr.lm hl, fr.am ha, w2, (hI 0).trans v3⟩
  rcases v1.2 with a | ⟨a, c⟩
  · exact Or.inl (by rw [hI]; exact a)
  · exact Or.inr ⟨by rw [hI]; exact a, accM_mv c (hI 7) (hI 8) (hJ 0) (hJ 1) (f3 13 (by omega))⟩

theorem C1_mv {d : Dt} {am X Y X' Y' : Nat → Nat} {u v : St} (h : C1 d am X Y u) (hxy : ∀ p, p < dP d → gA v 20 p = nI (X' p) ∧ gA v 21 p = nI (Y' p)) (hI : ∀ i, 4 ≤ i → i < 9 → gI v i = gI u i) (hJ : ∀ j, j < 2 → gJ v j = gJ u j) (hA : ∀ a, 10 ≤ a → a < 18 → a ≠ 16 → gA v a = gA u a) (hL : v.2.2.2 = u.2.2.2) : C1 d am X' Y' v := by
  refine ⟨hxy, ?_, ?_⟩
  · rcases h.2.1 with a | ⟨a, b, c⟩
    · exact Or.inl (by rw [hI 6 (by omega) (by omega)]; exact a)
    · refine Or.inr ⟨by rw [hI 6 (by omega) (by omega)]; exact a, fun p k q x y z => ?_, accC_mv c (hI 5 (by omega) (by omega)) (hI 4 (by omega) (by omega)) (hJ 0 (by omega)) (hJ 1 (by omega)) (hA 14 (by omega) (by omega) (by omega)) (hA 15 (by omega) (by omega) (by omega))⟩
      rw [hA 10 (by omega) (by omega) (by omega)]; exact b p k q x y z
  · rcases h.2.2 with a | ⟨a, b, c, e⟩
    · exact Or.inl (by rw [hI 8 (by omega) (by omega)]; exact a)
    · refine Or.inr ⟨by rw [hI 8 (by omega) (by omega)]; exact a, by rw [hI 6 (by omega) (by omega)]; exact b, by rw [hI 7 (by omega) (by omega)]; exact c, ?_, ?_⟩
      · rw [hA 17 (by omega) (by omega) (by omega)]; exact e.1
      · intro q hq
        have := e.2 q hq
        refine ⟨this.1, ?_⟩
        show v.2.2.2 0 q = _
        rw [hL]; exact this.2
theorem M1_mv {d : Dt} {X Y X' Y' : Nat → Nat} {u v : St} (h : M1 d X Y u) (hxy : ∀ p, p < dP d → gA v 19 p = nI (X' p) ∧ gA v 20 p = nI (Y' p)) (hI : ∀ i, 6 ≤ i → i < 9 → gI v i = gI u i) (hJ : ∀ j, j < 2 → gJ v j = gJ u j) (hA : gA v 13 = gA u 13) : M1 d X' Y' v := by
  refine ⟨hxy, ?_⟩
  rcases h.2 with a | ⟨a, c⟩
  · exact Or.inl (by rw [hI 6 (by omega) (by omega)]; exact a)
  · exact Or.inr ⟨by rw [hI 6 (by omega) (by omega)]; exact a, accM_mv c (hI 7 (by omega) (by omega)) (hI 8 (by omega) (by omega)) (hJ 0 (by omega)) (hJ 1 (by omega)) hA⟩
/-- hold -/
theorem st_hold {x1 x2 x3 x4 : Int32} {u m : St} (h : RR u m) : stepE 4 x1 x2 x3 x4 u m := by
  have hR := h
  obtain ⟨d, st, mi, dy, am, X, Y, sn, j2, j3, j4, hb, hx, c0, c1, m0, m1⟩ := h
  have hw := hb.1
  have hK := hw.1.1
  have hP := hw.1.2.1
  have hQ := hw.1.2.2.1
  have key : EvP (fun n => FX4_hold n x1 x2 u) (fun r => EvP (fun n => FX5_hold n x1 x2 m) (fun s => okV r s)) := by
    show EvP (fun n => fX4_hold n 0 x1 x2 u) (fun r => EvP (fun n => fX5_hold n 0 x1 x2 m) _)
    rw [wX4_hold_0]
    refine swp ?_
    rw [wX5_hold_0, EvP_bind (q_isPlace m0.1.1.1.2.1)]
    refine swq ?_
    rw [EvP_bind (p_cp c0.1.1.1.2.1)]
    by_cases b1 : inb x1 0 (nI (dP d) - 1)
    · rw [inbN_y b1, inbI_y b1]
      obtain ⟨p, hp, rfl⟩ := inb_ix (by omega) b1
      simp only [if_true, if_neg z10]
      rw [c0.1.1.1.1, EvP_bind p_cb]
      refine swp ?_
      rw [EvP_bind (q_isKind m0.1.1.1.1)]
      refine swq ?_
      have iff2 := inb_int (v := x2) (lo := -2) (n := dK d) (a := -2) (by omega) rfl (by omega) (by omega)
      have iff0 := inb_int (v := x2) (lo := 0) (n := dK d) (a := 0) (by omega) rfl (by omega) (by omega)
      by_cases b2 : inb x2 (-2) (nI (dK d) - 1)
      · obtain ⟨z, z1, z2, rfl⟩ := iff2.mp b2
        rw [inbN_y b2]
        simp only [if_true, ck_nI (show p < 7 by omega) (show 7 < 2 ^ 31 by omega), nI_clamp (show p < 2 ^ 31 by omega)]
        have hw' : dt_wf (dhold d p z) := by
          refine ⟨hw.1, hw.2.1, fun i hi => ?_, hw.2.2.2⟩
          have := hw.2.2.1 i hi
          refine ⟨this.1, this.2.1, ?_⟩
          show -2 ≤ (if i = p then z else dE d i) ∧ (if i = p then z else dE d i) < (dK d : Int)
          by_cases e : i = p
          · simp only [if_pos e]; exact ⟨z1, z2⟩
          · simp only [if_neg e]; exact this.2.2
        have hC : C0 (dhold d p z) st mi dy am sn j2 j3 j4 (sA u 6 (upd (gA u 6) p (iI z))) := by
          obtain ⟨⟨hu, hs⟩, hc1, hc2, hc3, hc4⟩ := c0
          refine ⟨⟨⟨hu.1, hu.2.1, fun i hi => ?_, hu.2.2.2⟩, hs⟩, hc1, hc2, hc3, fun i i1 i2 => ?_⟩
          · have := hu.2.2.1 i hi
            refine ⟨this.1, this.2.1, ?_⟩
            show upd (gA u 6) p (iI z) i = iI (if i = p then z else dE d i)
            rw [up_at]
            by_cases e : i = p
            · simp only [if_pos e]
            · simp only [if_neg e]; exact this.2.2
          · have i1 : dP d ≤ i := i1
            refine ⟨?_, (hc4 i i1 i2).2⟩
            show upd (gA u 6) p (iI z) i = -2
            rw [up_at, if_neg (by omega)]; exact (hc4 i i1 i2).1
        refine EvP_bindP (p_lampsGo hw' hC) (fun v hv => EvP_some ?_)
        have hM : M0 (dhold d p z) st mi dy am sn j2 j3 j4 (sA (sI m 0 0) 6 (upd (gA m 6) p (iI z))) := by
          obtain ⟨⟨hu, hs⟩, hc1, hc2, hc3⟩ := m0
          refine ⟨⟨⟨hu.1, hu.2.1, fun i hi => ?_, hu.2.2.2⟩, hs⟩, hc1, hc2, hc3⟩
          have := hu.2.2.1 i hi
          refine ⟨this.1, this.2.1, ?_⟩
          show upd (gA m 6) p (iI z) i = iI (if i = p then z else dE d i)
          rw [up_at]
          by_cases e : i = p
          · simp only [if_pos e]
          · simp only [if_neg e]; exact this.2.2
        have go : EvP (fun n => (FX5_renew n (sA (sI m 0 0) 6 (upd (gA m 6) p (iI z)))).bind fun w => some w) (fun s => okV (0, v) s) := by
          refine EvP_bindP (q_renew hw' hM) (fun w hw2 => EvP_some ?_)
          refine ⟨?_, by show 0 ≤ 1; omega, dhold d p z, st, mi, dy, am, _, _, _, j2, j3, j4, ⟨hw', hb.2⟩, BX_0 _, hv.1, hv.2, hw2.1, hw2.2.1⟩
          show gI w 0 = nI 0
          rw [hw2.2.2 0 (by omega)]; rfl
        by_cases b3 : inb (iI z) 0 (nI (dK d) - 1)
        · rw [inbI_y b3]
          simp only [if_neg z10]
          exact go
        · rw [inbI_n b3]
          simp only [if_true]
          have hz : z = -1 ∨ z = -2 := by
            rcases (show z < 0 ∨ 0 ≤ z by omega) with y | y
            · omega
            · exact absurd (iff0.mpr ⟨z, y, z2, rfl⟩) b3
          rcases hz with y | y
          · subst y
            simp only [if_pos iI_m1]
            exact go
          · subst y
            simp only [if_neg (show ¬ iI (-2) = -1 by decide), if_pos iI_m2]
            exact go
      · rw [inbN_n b2]
        have n0 : ¬ inb x2 0 (nI (dK d) - 1) := fun h => by
          obtain ⟨z, z1, z2, z3⟩ := iff0.mp h
          exact b2 (iff2.mpr ⟨z, by omega, z2, z3⟩)
        have n1 : ¬ x2 = -1 := fun h => b2 (iff2.mpr ⟨-1, by omega, by omega, by rw [h]; rfl⟩)
        have n2 : ¬ x2 = -2 := fun h => b2 (iff2.mpr ⟨-2, by omega, by omega, by rw [h]; rfl⟩)
        rw [inbI_n n0]
        simp only [if_true, if_neg z10n, if_neg n1, if_neg n2]
        exact EvP_some (EvP_some (badV hR))
    · rw [inbN_n b1, inbI_n b1]
      simp only [if_true, if_neg z10n]
      exact EvP_some (EvP_some (badV hR))
  obtain ⟨r, ⟨n1, e1⟩, s, ⟨n2, e2⟩, q1, q3, q4⟩ := key
  exact ⟨r.2, s, ⟨max n1 n2, fun N hN => ⟨r, s, e1 N (by omega), e2 N (by omega), q1, q3, rfl, rfl⟩⟩, q4⟩
/-- light -/
theorem st_light {x1 x2 x3 x4 : Int32} {u m : St} (h : RR u m) : stepE 5 x1 x2 x3 x4 u m := by
  have hR := h
  obtain ⟨d, st, mi, dy, am, X, Y, sn, j2, j3, j4, hb, hx, c0, c1, m0, m1⟩ := h
  have hw := hb.1
  have hK := hw.1.1
  have hP := hw.1.2.1
  have hQ := hw.1.2.2.1
  have key : EvP (fun n => FX4_light n x1 x2 x3 u) (fun r => EvP (fun n => FX5_light n x1 x2 x3 m) (fun s => ok1 1 r s)) := by
    show EvP (fun n => fX4_light n 0 x1 x2 x3 u) (fun r => EvP (fun n => fX5_light n 0 x1 x2 x3 m) _)
    rw [wX4_light_0]
    refine swp ?_
    rw [wX5_light_0, EvP_bind (q_isKind m0.1.1.1.1)]
    refine swq ?_
    rw [c0.1.1.1.1, EvP_bind p_cb]
    by_cases b1 : inb x1 0 (nI (dK d) - 1)
    · rw [inbN_y b1, inbI_y b1]
      simp only [if_true, if_neg z10]
      rw [EvP_bind (p_cp c0.1.1.1.2.1)]
      refine swp ?_
      rw [EvP_bind (q_isPlace m0.1.1.1.2.1)]
      refine swq ?_
      by_cases b2 : inb x2 0 (nI (dP d) - 1)
      · rw [inbN_y b2, inbI_y b2]
        simp only [if_true, if_neg z10]
        rw [EvP_bind (p_cq c0.1.1.1.2.2.1)]
        refine swp ?_
        rw [EvP_bind (q_isPoint m0.1.1.1.2.2.1)]
        refine swq ?_
        by_cases b3 : inb x3 0 (nI (dQ d) - 1)
        · rw [inbN_y b3, inbI_y b3]
          simp only [if_true, if_neg z10]
          obtain ⟨k, hk, rfl⟩ := inb_ix (by omega) b1
          obtain ⟨p, hp, rfl⟩ := inb_ix (by omega) b2
          obtain ⟨q, hq, rfl⟩ := inb_ix (by omega) b3
          rw [EvP_bind (p_lightOf hw c0.1.1 hk hp hq)]
          refine swp ?_
          rw [EvP_bind (q_lightOf hw (M0_s m0 0).1.1 hk hp hq)]
          exact EvP_some (EvP_some ⟨rfl, fun _ => rfl, Nat.zero_le 1, RR_s hR 0⟩)
        · rw [inbN_n b3, inbI_n b3]
          simp only [if_true, if_neg z10n]
          exact EvP_some (EvP_some (bad1 hR (by omega)))
      · rw [inbN_n b2, inbI_n b2]
        simp only [if_true, if_neg z10n]
        exact EvP_some (EvP_some (bad1 hR (by omega)))
    · rw [inbN_n b1, inbI_n b1]
      simp only [if_true, if_neg z10n]
      exact EvP_some (EvP_some (bad1 hR (by omega)))
  obtain ⟨r, ⟨n1, e1⟩, s, ⟨n2, e2⟩, q1, q2, q3, q4⟩ := key
  exact ⟨r.2.2, s.2, ⟨max n1 n2, fun N hN => ⟨r, s, e1 N (by omega), e2 N (by omega), q1, fun z => by rw [q2 z], q3, rfl, rfl⟩⟩, q4⟩
/-- best -/
theorem st_best {x1 x2 x3 x4 : Int32} {u m : St} (h : RR u m) : stepE 6 x1 x2 x3 x4 u m := by
  obtain ⟨d, st, mi, dy, am, X, Y, sn, j2, j3, j4, hb, hx, c0, c1, m0, m1⟩ := h
  have key : EvP (fun n => FX4_best n u) (fun r => EvP (fun n => FX5_best n m) (fun s => okN r s)) := by
    show EvP (fun n => fX4_best n 0 u) (fun r => EvP (fun n => fX5_best n 0 m) _)
    rw [wX4_best_0]
    refine EvP_bindP (p_known hb c0 c1) (fun v hv => ?_)
    refine swp ?_
    rw [wX5_best_0]
    refine EvP_bindP (q_known hb (M0_s m0 0) (M1_s m1 0)) (fun w hw2 => ?_)
    obtain ⟨v0, v1, v2, v3, v4⟩ := hv
    obtain ⟨w0, w1, w3, w4⟩ := hw2
    have hRR : RR v w := ⟨d, st, mi, dy, am, X, Y, sn, j2, j3, j4, hb, hx, v0, v1, w0, w1⟩
    cases e : bst d with
    | none =>
      rw [e] at v3 w3
      have w3 : gI w 7 = 0 := w3
      simp only [v3.1, w3, if_true]
      exact EvP_some (EvP_some ⟨rfl, hRR⟩)
    | some b =>
      rw [e] at v3 w3
      simp only [v3.2.1, w3.2.1, if_neg z10]
      exact EvP_some (EvP_some ⟨by show gI v 4 = gI w 8; rw [v3.2.2.1, w3.2.2.1], hRR⟩)
  obtain ⟨r, ⟨n1, e1⟩, s, ⟨n2, e2⟩, q1, q4⟩ := key
  exact ⟨r.2, s.2, ⟨max n1 n2, fun N hN => ⟨r, s, e1 N (by omega), e2 N (by omega), q1, rfl, rfl⟩⟩, q4⟩
/-- lamp -/
theorem st_lamp {x1 x2 x3 x4 : Int32} {u m : St} (h : RR u m) : stepE 7 x1 x2 x3 x4 u m := by
  have hR := h
  obtain ⟨d, st, mi, dy, am, X, Y, sn, j2, j3, j4, hb, hx, c0, c1, m0, m1⟩ := h
  have hw := hb.1
  have hP := hw.1.2.1
  have key : EvP (fun n => FX4_lamp n x1 u) (fun r => EvP (fun n => FX5_lamp n x1 m) (fun s => ok1 1 r s)) := by
    show EvP (fun n => fX4_lamp n 0 x1 u) (fun r => EvP (fun n => fX5_lamp n 0 x1 m) _)
    rw [wX4_lamp_0, EvP_bind (p_cp c0.1.1.1.2.1)]
    refine swp ?_
    rw [wX5_lamp_0, EvP_bind (q_isPlace m0.1.1.1.2.1)]
    refine swq ?_
    by_cases b1 : inb x1 0 (nI (dP d) - 1)
    · rw [inbN_y b1, inbI_y b1]
      simp only [if_true, if_neg z10]
      obtain ⟨p, hp, rfl⟩ := inb_ix (by omega) b1
      refine EvP_bindP (p_known hb c0 c1) (fun v hv => ?_)
      refine swp ?_
      refine EvP_bindP (q_known hb (M0_s m0 0) (M1_s m1 0)) (fun w hw2 => ?_)
      obtain ⟨v0, v1, v2, v3, v4⟩ := hv
      obtain ⟨w0, w1, w3, w4⟩ := hw2
      have hRR : RR v w := ⟨d, st, mi, dy, am, X, Y, sn, j2, j3, j4, hb, hx, v0, v1, w0, w1⟩
      simp only [ck_nI (show p < 7 by omega) (show 7 < 2 ^ 31 by omega), if_true, nI_clamp (show p < 2 ^ 31 by omega)]
      cases e : bst d with
      | none =>
        rw [e] at v3 w3
        have w3 : gI w 7 = 0 := w3
        simp only [v3.1, w3, if_true]
        exact EvP_some (EvP_some ⟨w4, fun _ => rfl, Nat.zero_le 1, hRR⟩)
      | some b =>
        rw [e] at v3 w3
        simp only [v3.2.1, w3.2.1, if_neg z10]
        exact EvP_some (EvP_some ⟨w4, fun _ => by show gA v 14 p = gA w 13 p; rw [v3.2.2.2.2.2.1 p hp, w3.2.2.2.2.2 p hp], Nat.zero_le 1, hRR⟩)
    · rw [inbN_n b1, inbI_n b1]
      simp only [if_true, if_neg z10n]
      exact EvP_some (EvP_some (bad1 hR (by omega)))
  obtain ⟨r, ⟨n1, e1⟩, s, ⟨n2, e2⟩, q1, q2, q3, q4⟩ := key
  exact ⟨r.2.2, s.2, ⟨max n1 n2, fun N hN => ⟨r, s, e1 N (by omega), e2 N (by omega), q1, fun z => by rw [q2 z], q3, rfl, rfl⟩⟩, q4⟩
/-- level -/
theorem st_level {x1 x2 x3 x4 : Int32} {u m : St} (h : RR u m) : stepE 8 x1 x2 x3 x4 u m := by
  have hR := h
  obtain ⟨d, st, mi, dy, am, X, Y, sn, j2, j3, j4, hb, hx, c0, c1, m0, m1⟩ := h
  have hw := hb.1
  have hQ := hw.1.2.2.1
  have key : EvP (fun n => FX4_level n x1 u) (fun r => EvP (fun n => FX5_level n x1 m) (fun s => ok1 1 r s)) := by
    show EvP (fun n => fX4_level n 0 x1 u) (fun r => EvP (fun n => fX5_level n 0 x1 0 0 m) _)
    rw [wX4_level_0, EvP_bind (p_cq c0.1.1.1.2.2.1)]
    refine swp ?_
    rw [wX5_level_0, EvP_bind (q_isPoint m0.1.1.1.2.2.1)]
    refine swq ?_
    by_cases b1 : inb x1 0 (nI (dQ d) - 1)
    · rw [inbN_y b1, inbI_y b1]
      simp only [if_true, if_neg z10]
      obtain ⟨q, hq, rfl⟩ := inb_ix (by omega) b1
      refine EvP_bindP (p_known hb c0 c1) (fun v hv => ?_)
      refine swp ?_
      refine EvP_bindP (q_known hb (M0_s m0 0) (M1_s m1 0)) (fun w hw2 => ?_)
      obtain ⟨v0, v1, v2, v3, v4⟩ := hv
      obtain ⟨w0, w1, w3, w4⟩ := hw2
      have hRR : RR v w := ⟨d, st, mi, dy, am, X, Y, sn, j2, j3, j4, hb, hx, v0, v1, w0, w1⟩
      simp only [ck_nI (show q < 16 by omega) (show 16 < 2 ^ 31 by omega), if_true, nI_clamp (show q < 2 ^ 31 by omega)]
      have hlm := lmM_of hw w0.1.1 w3
      cases e : bst d with
      | none =>
        rw [e] at v3 w3
        have w3 : gI w 7 = 0 := w3
        simp only [v3.1, w3, if_true]
        exact EvP_some (EvP_some ⟨w4, fun _ => rfl, Nat.zero_le 1, hRR⟩)
      | some b =>
        rw [e] at v3 w3 hlm
        simp only [v3.2.1, w3.2.1, if_neg z10]
        have hlev : Ev (fun n => fX5_level n 44 (nI q) 0 0 w) (nI (LV d b q (dP d)), w) := q_lev hw hlm w3.2.1 hq (dP d) 0 (by omega)
        exact EvP_of hlev (EvP_some ⟨w4, fun _ => v3.2.2.2.2.2.2 q hq, Nat.zero_le 1, hRR⟩)
    · rw [inbN_n b1, inbI_n b1]
      simp only [if_true, if_neg z10n]
      exact EvP_some (EvP_some (bad1 hR (by omega)))
  obtain ⟨r, ⟨n1, e1⟩, s, ⟨n2, e2⟩, q1, q2, q3, q4⟩ := key
  exact ⟨r.2.2, s.2, ⟨max n1 n2, fun N hN => ⟨r, s, e1 N (by omega), e2 N (by omega), q1, fun z => by rw [q2 z], q3, rfl, rfl⟩⟩, q4⟩
/-- even -/
theorem st_even {x1 x2 x3 x4 : Int32} {u m : St} (h : RR u m) : stepE 9 x1 x2 x3 x4 u m := by
  have hR := h
  obtain ⟨d, st, mi, dy, am, X, Y, sn, j2, j3, j4, hb, hx, c0, c1, m0, m1⟩ := h
  have hw := hb.1
  have hQ := hw.1.2.2.1
  have key : EvP (fun n => FX4_even n x1 u) (fun r => EvP (fun n => FX5_even n x1 m) (fun s => okJ r s)) := by
    show EvP (fun n => fX4_even n 0 x1 u) (fun r => EvP (fun n => fX5_even n 0 x1 m) _)
    rw [wX4_even_0, EvP_bind p_cb]
    refine swp ?_
    rw [wX5_even_0, EvP_bind q_in]
    refine swq ?_
    by_cases b1 : inb x1 0 1
    · rw [inbN_y b1, inbI_y b1]
      simp only [if_true, if_neg z10]
      obtain ⟨t, -, ht, rfl⟩ := inb_nat (a := 0) (b := 1) (by omega) b1 (by omega)
      refine EvP_bindP (p_known hb c0 c1) (fun v hv => ?_)
      refine swp ?_
      refine EvP_bindP (q_known hb (M0_s m0 0) (M1_s m1 0)) (fun w hw2 => ?_)
      obtain ⟨v0, v1, v2, v3, v4⟩ := hv
      obtain ⟨w0, w1, w3, w4⟩ := hw2
      have hRR : RR v w := ⟨d, st, mi, dy, am, X, Y, sn, j2, j3, j4, hb, hx, v0, v1, w0, w1⟩
      cases e : bst d with
      | none =>
        rw [e] at v3 w3
        have w3 : gI w 7 = 0 := w3
        simp only [v3.1, w3, if_true]
        exact EvP_some (EvP_some ⟨w4, fun _ => rfl, Nat.le_refl 0 |> fun _ => Nat.zero_le 1, hRR⟩)
      | some b =>
        rw [e] at v3 w3
        obtain ⟨vb, v5, v6, vj0, vj1, v7, v8⟩ := v3
        obtain ⟨-, w5, w6, wj0, wj1, w7⟩ := w3
        obtain ⟨g1, g2, g3, g4, g5⟩ := ev_bd hw vb
        have pe := p_even hw v0.1.1 vb vj0 vj1
        simp only [v5, w5, if_neg z10, wj0, wj1]
        rw [EvP_bind (q_common (show lst d b * dQ d < 2 ^ 62 by omega) (show smx d b < 2 ^ 62 by omega))]
        have zg : ¬ lN (Nat.gcd (lst d b * dQ d) (smx d b)) = 0 := by
          rw [show (0 : Int64) = lN 0 from rfl, pk_lEQ (by omega) (by omega)]; omega
        have za : (lN (lst d b * dQ d) = 0) ↔ lst d b * dQ d = 0 := by
          rw [show (0 : Int64) = lN 0 from rfl, pk_lEQ (by omega) (by omega)]
        simp only [if_neg zg, za]
        rw [pk_lDiv (by omega) (by omega) (by omega), pk_lDiv (by omega) (by omega) (by omega)]
        -- the reference's answer is the fraction in its least terms
        have ref : ∀ G : Int64 × St → Prop, G ((if nI t = 0 then lN (evA d b) else lN (evB d b)), w) → EvP (fun _ => if lst d b * dQ d = 0 then some ((nI t).toInt64, w) else if nI t = 0 then some (lN (lst d b * dQ d / Nat.gcd (lst d b * dQ d) (smx d b)), w) else some (lN (smx d b / Nat.gcd (lst d b * dQ d) (smx d b)), w)) G := by
          intro G hG
          rcases (show t = 0 ∨ t = 1 by omega) with y | y
          · subst y
            simp only [if_pos (show nI 0 = 0 by decide)] at hG ⊢
            by_cases c : lst d b * dQ d = 0
            · simp only [if_pos c]
              refine EvP_some ?_
              unfold evA at hG
              rw [c, Nat.zero_div] at hG
              exact hG
            · simp only [if_neg c]
              exact EvP_some hG
          · subst y
            simp only [if_neg (show ¬ nI 1 = 0 by decide)] at hG ⊢
            by_cases c : lst d b * dQ d = 0
            · simp only [if_pos c]
              refine EvP_some ?_
              unfold evB at hG
              rw [c, Nat.gcd_zero_left, Nat.div_self (by omega)] at hG
              exact hG
            · simp only [if_neg c]
              exact EvP_some hG
        refine ref _ ?_
        rcases (show t = 0 ∨ t = 1 by omega) with y | y
        · subst y
          simp only [if_pos (show nI 0 = 0 by decide)]
          rw [EvP_bind pe.1]
          exact EvP_some ⟨w4, fun _ => rfl, Nat.zero_le 1, hRR⟩
        · subst y
          simp only [if_neg (show ¬ nI 1 = 0 by decide)]
          rw [EvP_bind pe.2]
          exact EvP_some ⟨w4, fun _ => rfl, Nat.zero_le 1, hRR⟩
    · rw [inbN_n b1, inbI_n b1]
      simp only [if_true, if_neg z10n]
      exact EvP_some (EvP_some (badJ hR))
  obtain ⟨r, ⟨n1, e1⟩, s, ⟨n2, e2⟩, q1, q2, q3, q4⟩ := key
  exact ⟨r.2.2, s.2, ⟨max n1 n2, fun N hN => ⟨r, s, e1 N (by omega), e2 N (by omega), q1, q2, q3, rfl, rfl⟩⟩, q4⟩

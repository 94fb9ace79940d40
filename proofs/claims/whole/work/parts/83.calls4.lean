/-- aim -/
theorem st_aim {x1 x2 x3 x4 : Int32} {u m : St} (h : RR u m) : stepE 10 x1 x2 x3 x4 u m := by
  have hR := h
  obtain ⟨d, st, mi, dy, am, X, Y, sn, j2, j3, j4, hb, hx, c0, c1, m0, m1⟩ := h
  have hw := hb.1
  have hQ := hw.1.2.2.1
  have key : EvP (fun n => FX4_aim n x1 x2 u) (fun r => EvP (fun n => FX5_aim n x1 x2 m) (fun s => ok1 1 r s)) := by
    show EvP (fun n => fX4_aim n 0 x1 x2 u) (fun r => EvP (fun n => fX5_aim n 0 x1 x2 m) _)
    rw [wX4_aim_0, EvP_bind (p_cq c0.1.1.1.2.2.1)]
    refine swp ?_
    rw [wX5_aim_0, EvP_bind (q_isPoint m0.1.1.1.2.2.1)]
    refine swq ?_
    by_cases b1 : inb x1 0 (nI (dQ d) - 1)
    · rw [inbN_y b1, inbI_y b1]
      simp only [if_true, if_neg z10]
      rw [EvP_bind p_cb]
      refine swp ?_
      rw [EvP_bind q_in]
      refine swq ?_
      by_cases b2 : inb x2 0 1000000
      · rw [inbN_y b2, inbI_y b2]
        simp only [if_true, if_neg z10]
        obtain ⟨q, hq, rfl⟩ := inb_ix (by omega) b1
        obtain ⟨k, -, hk, rfl⟩ := inb_nat (a := 0) (b := 1000000) (by omega) b2 (by omega)
        have hch : Ev (fun n => FX3_changeAim n (nI q) (nI k) u) (gA u 16 q, sI (sA u 16 (upd (gA u 16) q (nI k))) 8 0) := by
          show Ev (fun n => fX3_changeAim n 0 (nI q) (nI k) u) _
          rw [vX3_changeAim_0]
          simp only [ck_nI (show q < 16 by omega) (show 16 < 2 ^ 31 by omega), if_true, nI_clamp (show q < 2 ^ 31 by omega)]
          exact Ev_some rfl
        rw [EvP_bind hch]
        simp only [ck_nI (show q < 16 by omega) (show 16 < 2 ^ 31 by omega), if_true, nI_clamp (show q < 2 ^ 31 by omega)]
        refine EvP_some (EvP_some ⟨rfl, fun _ => ?_, Nat.zero_le 1, d, st, mi, dy, (fun i => if i = q then k else am i), X, Y, sn, j2, j3, j4, ⟨hw, hb.2.1, hb.2.2.1, fun i hi => ?_, hb.2.2.2.2⟩, hx, ?_, ⟨c1.1, ?_, Or.inl rfl⟩, ?_, ?_⟩)
        · show gA u 16 q = gA m 11 q
          rw [(c0.2.2.1 q (by omega)).2, (m0.2.2.1 q (by omega)).2]
        · have := hb.2.2.2.1 i hi
          refine ⟨this.1, ?_⟩
          show (if i = q then k else am i) ≤ 1000000
          split
          · exact hk
          · exact this.2
        · obtain ⟨h1, h2, h3, h4, h5⟩ := c0
          refine ⟨⟨isC_mv h1.1 (fun i hi => by rw [gI_sI, if_neg (by omega)]; rfl) (fun a ha => by rw [gA_sI, gA_sA, if_neg (by omega)]), h1.2⟩, h2, fun i hi => ⟨(h3 i hi).1, ?_⟩, h4, h5⟩
          show upd (gA u 16) q (nI k) i = nI (if i = q then k else am i)
          rw [up_at]
          by_cases e : i = q
          · rw [if_pos e, if_pos e]
          · rw [if_neg e, if_neg e]; exact (h3 i hi).2
        · rcases c1.2.1 with a | ⟨a, b, c⟩
          · exact Or.inl a
          · exact Or.inr ⟨a, b, accC_mv c rfl rfl rfl rfl rfl rfl⟩
        · obtain ⟨h1, h2, h3, h4⟩ := M0_s m0 0
          refine ⟨⟨isM_mv h1.1 (fun i _ _ => rfl) (fun a ha _ => ?_), h1.2⟩, h2, fun i hi => ⟨(h3 i hi).1, ?_⟩, h4⟩
          · by_cases e : a = 11
            · omega
            · rw [gA_sA, if_neg e]
          · show upd (gA m 11) q (nI k) i = nI (if i = q then k else am i)
            rw [up_at]
            by_cases e : i = q
            · rw [if_pos e, if_pos e]
            · rw [if_neg e, if_neg e]; exact (h3 i hi).2
        · exact M1_mv (M1_s m1 0) m1.1 (fun _ _ _ => rfl) (fun _ _ => rfl) rfl
      · rw [inbN_n b2, inbI_n b2]
        simp only [if_true, if_neg z10n]
        exact EvP_some (EvP_some (bad1 hR (by omega)))
    · rw [inbN_n b1, inbI_n b1]
      simp only [if_true, if_neg z10n]
      exact EvP_some (EvP_some (bad1 hR (by omega)))
  obtain ⟨r, ⟨n1, e1⟩, s, ⟨n2, e2⟩, q1, q2, q3, q4⟩ := key
  exact ⟨r.2.2, s.2, ⟨max n1 n2, fun N hN => ⟨r, s, e1 N (by omega), e2 N (by omega), q1, fun z => by rw [q2 z], q3, rfl, rfl⟩⟩, q4⟩
/-- scene -/
theorem st_scene {x1 x2 x3 x4 : Int32} {u m : St} (h : RR u m) : stepE 11 x1 x2 x3 x4 u m := by
  obtain ⟨d, st, mi, dy, am, X, Y, sn, j2, j3, j4, hb, hx, c0, c1, m0, m1⟩ := h
  have key : EvP (fun n => FX4_scene n u) (fun r => EvP (fun n => FX5_scene n m) (fun s => okN r s)) := by
    show EvP (fun n => fX4_scene n 0 u) (fun r => EvP (fun n => fX5_scene n 0 m) _)
    rw [wX4_scene_0]
    refine EvP_bindP (p_settleScene hb c0 c1) (fun v hv => ?_)
    refine swp ?_
    rw [wX5_scene_0]
    refine EvP_bindP (q_sweep hb (M0_s m0 0) (M1_s m1 0)) (fun w hw2 => ?_)
    obtain ⟨v0, v1, v2, v3, v4⟩ := hv
    obtain ⟨w0, w1, w2, w3, w4, w5, w6⟩ := hw2
    exact EvP_some (EvP_some ⟨by show gI v 7 = w.1; rw [v3, w0], d, st, mi, dy, am, X, Y, sn, j2, j3, j4, hb, hx, v0, v1, w1, w2⟩)
  obtain ⟨r, ⟨n1, e1⟩, s, ⟨n2, e2⟩, q1, q4⟩ := key
  exact ⟨r.2, s.2, ⟨max n1 n2, fun N hN => ⟨r, s, e1 N (by omega), e2 N (by omega), q1, rfl, rfl⟩⟩, q4⟩
/-- dim -/
theorem st_dim {x1 x2 x3 x4 : Int32} {u m : St} (h : RR u m) : stepE 12 x1 x2 x3 x4 u m := by
  have hR := h
  obtain ⟨d, st, mi, dy, am, X, Y, sn, j2, j3, j4, hb, hx, c0, c1, m0, m1⟩ := h
  have hw := hb.1
  have hP := hw.1.2.1
  have hK := hw.1.1
  have key : EvP (fun n => FX4_dim n x1 u) (fun r => EvP (fun n => FX5_dim n x1 m) (fun s => ok1 1 r s)) := by
    show EvP (fun n => fX4_dim n 0 x1 u) (fun r => EvP (fun n => fX5_dim n 0 x1 m) _)
    rw [wX4_dim_0, EvP_bind (p_cp c0.1.1.1.2.1)]
    refine swp ?_
    rw [wX5_dim_0, EvP_bind (q_isPlace m0.1.1.1.2.1)]
    refine swq ?_
    by_cases b1 : inb x1 0 (nI (dP d) - 1)
    · rw [inbN_y b1, inbI_y b1]
      simp only [if_true, if_neg z10]
      obtain ⟨p, hp, rfl⟩ := inb_ix (by omega) b1
      refine EvP_bindP (p_settleScene hb c0 c1) (fun v hv => ?_)
      refine swp ?_
      refine EvP_bindP (q_sweep hb (M0_s m0 0) (M1_s m1 0)) (fun w hw2 => ?_)
      obtain ⟨v0, v1, v2, v3, v4⟩ := hv
      obtain ⟨w0, w1, w2, w3, w4, w5, w6⟩ := hw2
      have hRR : RR v w.2 := ⟨d, st, mi, dy, am, X, Y, sn, j2, j3, j4, hb, hx, v0, v1, w1, w2⟩
      have hbp := v2.2.2.1 p hp
      rw [EvP_bind (q_hasLamp hw w3 hp)]
      simp only [ck_nI (show p < 7 by omega) (show 7 < 2 ^ 31 by omega), if_true, nI_clamp (show p < 2 ^ 31 by omega), v2.2.2.2 p hp, iI_eqm1 hbp.1 (show bbo (bst d) p < 2147483648 by omega), bI_z]
      by_cases g : bbo (bst d) p < 0
      · simp only [if_pos g, show decide (0 ≤ bbo (bst d) p) = false from by simp; omega, if_true]
        exact EvP_some (EvP_some ⟨w6, fun _ => rfl, Nat.zero_le 1, hRR⟩)
      · simp only [if_neg g, show decide (0 ≤ bbo (bst d) p) = true from by simp; omega, if_neg (show ¬ (true = false) by decide)]
        exact EvP_some (EvP_some ⟨w6, fun _ => by show gA v 17 p = gA w.2 18 p; rw [(v4.1 p hp).2, (w5 p hp).2], Nat.zero_le 1, hRR⟩)
    · rw [inbN_n b1, inbI_n b1]
      simp only [if_true, if_neg z10n]
      exact EvP_some (EvP_some (bad1 hR (by omega)))
  obtain ⟨r, ⟨n1, e1⟩, s, ⟨n2, e2⟩, q1, q2, q3, q4⟩ := key
  exact ⟨r.2.2, s.2, ⟨max n1 n2, fun N hN => ⟨r, s, e1 N (by omega), e2 N (by omega), q1, fun z => by rw [q2 z], q3, rfl, rfl⟩⟩, q4⟩
/-- miss -/
theorem st_miss {x1 x2 x3 x4 : Int32} {u m : St} (h : RR u m) : stepE 13 x1 x2 x3 x4 u m := by
  have hR := h
  obtain ⟨d, st, mi, dy, am, X, Y, sn, j2, j3, j4, hb, hx, c0, c1, m0, m1⟩ := h
  have hw := hb.1
  have hQ := hw.1.2.2.1
  have key : EvP (fun n => FX4_miss n x1 u) (fun r => EvP (fun n => FX5_miss n x1 m) (fun s => okJ r s)) := by
    show EvP (fun n => fX4_miss n 0 x1 u) (fun r => EvP (fun n => fX5_miss n 0 x1 m) _)
    rw [wX4_miss_0, EvP_bind (p_cq c0.1.1.1.2.2.1)]
    refine swp ?_
    rw [wX5_miss_0, EvP_bind (q_isPoint m0.1.1.1.2.2.1)]
    refine swq ?_
    by_cases b1 : inb x1 0 (nI (dQ d) - 1)
    · rw [inbN_y b1, inbI_y b1]
      simp only [if_true, if_neg z10]
      obtain ⟨q, hq, rfl⟩ := inb_ix (by omega) b1
      refine EvP_bindP (p_settleScene hb c0 c1) (fun v hv => ?_)
      refine swp ?_
      refine EvP_bindP (q_sweep hb (M0_s m0 0) (M1_s m1 0)) (fun w hw2 => ?_)
      obtain ⟨v0, v1, v2, v3, v4⟩ := hv
      obtain ⟨w0, w1, w2, w3, w4, w5, w6⟩ := hw2
      have hRR : RR v w.2 := ⟨d, st, mi, dy, am, X, Y, sn, j2, j3, j4, hb, hx, v0, v1, w1, w2⟩
      rw [EvP_bind (q_missOf hw w3 w4 w5 hq)]
      simp only [ck_nI (show q < 16 by omega) (show 16 < 2 ^ 31 by omega), if_true, nI_clamp (show q < 2 ^ 31 by omega)]
      exact EvP_some (EvP_some ⟨w6, fun _ => (v4.2 q hq).2, Nat.zero_le 1, hRR⟩)
    · rw [inbN_n b1, inbI_n b1]
      simp only [if_true, if_neg z10n]
      exact EvP_some (EvP_some (badJ hR))
  obtain ⟨r, ⟨n1, e1⟩, s, ⟨n2, e2⟩, q1, q2, q3, q4⟩ := key
  exact ⟨r.2.2, s.2, ⟨max n1 n2, fun N hN => ⟨r, s, e1 N (by omega), e2 N (by omega), q1, q2, q3, rfl, rfl⟩⟩, q4⟩
/-- sensor -/
theorem st_sensor {x1 x2 x3 x4 : Int32} {u m : St} (h : RR u m) : stepE 14 x1 x2 x3 x4 u m := by
  have hR := h
  obtain ⟨d, st, mi, dy, am, X, Y, sn, j2, j3, j4, hb, hx, c0, c1, m0, m1⟩ := h
  have hw := hb.1
  have hP := hw.1.2.1
  have hQ := hw.1.2.2.1
  have key : EvP (fun n => FX4_sensor n x1 x2 u) (fun r => EvP (fun n => FX5_sensor n x1 x2 m) (fun s => okV r s)) := by
    show EvP (fun n => fX4_sensor n 0 x1 x2 u) (fun r => EvP (fun n => fX5_sensor n 0 x1 x2 m) _)
    rw [wX4_sensor_0]
    refine swp ?_
    rw [wX5_sensor_0, EvP_bind (q_isPlace m0.1.1.1.2.1)]
    refine swq ?_
    rw [EvP_bind (p_cp c0.1.1.1.2.1)]
    by_cases b1 : inb x1 0 (nI (dP d) - 1)
    · rw [inbN_y b1, inbI_y b1]
      obtain ⟨p, hp, rfl⟩ := inb_ix (by omega) b1
      simp only [if_true, if_neg z10]
      rw [c0.1.1.1.2.2.1, EvP_bind p_cb]
      refine swp ?_
      rw [EvP_bind (q_isPoint m0.1.1.1.2.2.1)]
      refine swq ?_
      have iff1 := inb_int (v := x2) (lo := -1) (n := dQ d) (a := -1) (by omega) rfl (by omega) (by omega)
      have iff0 := inb_int (v := x2) (lo := 0) (n := dQ d) (a := 0) (by omega) rfl (by omega) (by omega)
      by_cases b2 : inb x2 (-1) (nI (dQ d) - 1)
      · obtain ⟨z, z1, z2, rfl⟩ := iff1.mp b2
        rw [inbN_y b2]
        simp only [if_true, ck_nI (show p < 7 by omega) (show 7 < 2 ^ 31 by omega), nI_clamp (show p < 2 ^ 31 by omega)]
        have hbs : BS d st mi dy am (fun i => if i = p then z else sn i) := by
          refine ⟨hw, hb.2.1, hb.2.2.1, hb.2.2.2.1, fun i hi => ?_⟩
          show -1 ≤ (if i = p then z else sn i) ∧ (if i = p then z else sn i) < (dQ d : Int)
          by_cases e : i = p
          · simp only [if_pos e]; exact ⟨z1, z2⟩
          · simp only [if_neg e]; exact hb.2.2.2.2 i hi
        have hC : C0 d st mi dy am (fun i => if i = p then z else sn i) j2 j3 j4 (sA u 18 (upd (gA u 18) p (iI z))) := by
          obtain ⟨⟨hu, hs⟩, hc1, hc2, hc3, hc4⟩ := c0
          refine ⟨⟨isC_A hu (by omega) _, hs⟩, hc1, hc2, fun i hi => ?_, fun i i1 i2 => ⟨(hc4 i i1 i2).1, ?_⟩⟩
          · show upd (gA u 18) p (iI z) i = iI (if i = p then z else sn i)
            rw [up_at]
            by_cases e : i = p
            · simp only [if_pos e]
            · simp only [if_neg e]; exact hc3 i hi
          · show upd (gA u 18) p (iI z) i = -1
            rw [up_at, if_neg (by omega)]; exact (hc4 i i1 i2).2
        refine EvP_bindP (p_lampsGo hw hC) (fun v hv => EvP_some ?_)
        have hM : M0 d st mi dy am (fun i => if i = p then z else sn i) j2 j3 j4 (sA (sI m 0 0) 7 (upd (gA m 7) p (iI z))) := by
          obtain ⟨⟨hu, hs⟩, hc1, hc2, hc3⟩ := m0
          refine ⟨⟨isM_mv hu (fun i h1 h2 => by rw [gI_sA, gI_sI, if_neg (by omega)]) (fun a ha ne => by rw [gA_sA, if_neg ne]; rfl), hs⟩, hc1, hc2, fun i hi => ?_⟩
          show upd (gA m 7) p (iI z) i = iI (if i = p then z else sn i)
          rw [up_at]
          by_cases e : i = p
          · simp only [if_pos e]
          · simp only [if_neg e]; exact hc3 i hi
        have go : EvP (fun n => (FX5_renew n (sA (sI m 0 0) 7 (upd (gA m 7) p (iI z)))).bind fun w => some w) (fun s => okV (0, v) s) := by
          refine EvP_bindP (q_renew hw hM) (fun w hw2 => EvP_some ?_)
          refine ⟨?_, by show 0 ≤ 1; omega, d, st, mi, dy, am, _, _, _, j2, j3, j4, hbs, BX_0 _, hv.1, hv.2, hw2.1, hw2.2.1⟩
          show gI w 0 = nI 0
          rw [hw2.2.2 0 (by omega)]; rfl
        by_cases b3 : inb (iI z) 0 (nI (dQ d) - 1)
        · rw [inbI_y b3]
          simp only [if_neg z10]
          exact go
        · rw [inbI_n b3]
          simp only [if_true]
          have hz : z = -1 := by
            rcases (show z < 0 ∨ 0 ≤ z by omega) with y | y
            · omega
            · exact absurd (iff0.mpr ⟨z, y, z2, rfl⟩) b3
          subst hz
          simp only [if_pos iI_m1]
          exact go
      · rw [inbN_n b2]
        have n0 : ¬ inb x2 0 (nI (dQ d) - 1) := fun h => by
          obtain ⟨z, z1, z2, z3⟩ := iff0.mp h
          exact b2 (iff1.mpr ⟨z, by omega, z2, z3⟩)
        have n1 : ¬ x2 = -1 := fun h => b2 (iff1.mpr ⟨-1, by omega, by omega, by rw [h]; rfl⟩)
        rw [inbI_n n0]
        simp only [if_true, if_neg z10n, if_neg n1]
        exact EvP_some (EvP_some (badV hR))
    · rw [inbN_n b1, inbI_n b1]
      simp only [if_true, if_neg z10n]
      exact EvP_some (EvP_some (badV hR))
  obtain ⟨r, ⟨n1, e1⟩, s, ⟨n2, e2⟩, q1, q3, q4⟩ := key
  exact ⟨r.2, s, ⟨max n1 n2, fun N hN => ⟨r, s, e1 N (by omega), e2 N (by omega), q1, q3, rfl, rfl⟩⟩, q4⟩
/-- daylight -/
theorem st_daylight {x1 x2 x3 x4 : Int32} {u m : St} (h : RR u m) : stepE 15 x1 x2 x3 x4 u m := by
  have hR := h
  obtain ⟨d, st, mi, dy, am, X, Y, sn, j2, j3, j4, hb, hx, c0, c1, m0, m1⟩ := h
  have hw := hb.1
  have hQ := hw.1.2.2.1
  have key : EvP (fun n => FX4_daylight n x1 x2 u) (fun r => EvP (fun n => FX5_daylight n x1 x2 m) (fun s => ok1 1 r s)) := by
    show EvP (fun n => fX4_daylight n 0 x1 x2 u) (fun r => EvP (fun n => fX5_daylight n 0 x1 x2 m) _)
    rw [wX4_daylight_0, EvP_bind (p_cq c0.1.1.1.2.2.1)]
    refine swp ?_
    rw [wX5_daylight_0, EvP_bind (q_isPoint m0.1.1.1.2.2.1)]
    refine swq ?_
    by_cases b1 : inb x1 0 (nI (dQ d) - 1)
    · rw [inbN_y b1, inbI_y b1]
      simp only [if_true, if_neg z10]
      rw [EvP_bind p_cb]
      refine swp ?_
      rw [EvP_bind q_in]
      refine swq ?_
      by_cases b2 : inb x2 0 100000
      · rw [inbN_y b2, inbI_y b2]
        simp only [if_true, if_neg z10]
        obtain ⟨q, hq, rfl⟩ := inb_ix (by omega) b1
        obtain ⟨k, -, hk, rfl⟩ := inb_nat (a := 0) (b := 100000) (by omega) b2 (by omega)
        simp only [ck_nI (show q < 16 by omega) (show 16 < 2 ^ 31 by omega), if_true, nI_clamp (show q < 2 ^ 31 by omega)]
        refine EvP_some (EvP_some ⟨rfl, fun _ => ?_, Nat.zero_le 1, d, st, mi, (fun i => if i = q then k else dy i), am, X, Y, sn, j2, j3, j4, ⟨hw, hb.2.1, hb.2.2.1, fun i hi => ?_, hb.2.2.2.2⟩, hx, ?_, ?_, ?_, ?_⟩)
        · show gA u 19 q = gA m 12 q
          rw [(c0.2.2.1 q (by omega)).1, (m0.2.2.1 q (by omega)).1]
        · have := hb.2.2.2.1 i hi
          refine ⟨?_, this.2⟩
          show (if i = q then k else dy i) ≤ 100000
          split
          · exact hk
          · exact this.1
        · obtain ⟨h1, h2, h3, h4, h5⟩ := c0
          refine ⟨⟨isC_A h1.1 (by omega) _, h1.2⟩, h2, fun i hi => ⟨?_, (h3 i hi).2⟩, h4, h5⟩
          show upd (gA u 19) q (nI k) i = nI (if i = q then k else dy i)
          rw [up_at]
          by_cases e : i = q
          · rw [if_pos e, if_pos e]
          · rw [if_neg e, if_neg e]; exact (h3 i hi).1
        · exact C1_mv c1 c1.1 (fun _ _ _ => rfl) (fun _ _ => rfl) (fun a a1 a2 _ => by rw [gA_sA, if_neg (by omega)]) rfl
        · obtain ⟨h1, h2, h3, h4⟩ := M0_s m0 0
          refine ⟨⟨isM_A h1.1 (by omega) _, h1.2⟩, h2, fun i hi => ⟨?_, (h3 i hi).2⟩, h4⟩
          show upd (gA m 12) q (nI k) i = nI (if i = q then k else dy i)
          rw [up_at]
          by_cases e : i = q
          · rw [if_pos e, if_pos e]
          · rw [if_neg e, if_neg e]; exact (h3 i hi).1
        · exact M1_mv (M1_s m1 0) m1.1 (fun _ _ _ => rfl) (fun _ _ => rfl) rfl
      · rw [inbN_n b2, inbI_n b2]
        simp only [if_true, if_neg z10n]
        exact EvP_some (EvP_some (bad1 hR (by omega)))
    · rw [inbN_n b1, inbI_n b1]
      simp only [if_true, if_neg z10n]
      exact EvP_some (EvP_some (bad1 hR (by omega)))
  obtain ⟨r, ⟨n1, e1⟩, s, ⟨n2, e2⟩, q1, q2, q3, q4⟩ := key
  exact ⟨r.2.2, s.2, ⟨max n1 n2, fun N hN => ⟨r, s, e1 N (by omega), e2 N (by omega), q1, fun z => by rw [q2 z], q3, rfl, rfl⟩⟩, q4⟩
/-- step -/
theorem st_step {x1 x2 x3 x4 : Int32} {u m : St} (h : RR u m) : stepE 16 x1 x2 x3 x4 u m := by
  have hR := h
  obtain ⟨d, st, mi, dy, am, X, Y, sn, j2, j3, j4, hb, hx, c0, c1, m0, m1⟩ := h
  have hw := hb.1
  have key : EvP (fun n => FX4_step n x1 u) (fun r => EvP (fun n => FX5_step n x1 m) (fun s => ok1 1 r s)) := by
    show EvP (fun n => fX4_step n 0 x1 u) (fun r => EvP (fun n => fX5_step n 0 x1 m) _)
    rw [wX4_step_0, EvP_bind p_cb]
    refine swp ?_
    rw [wX5_step_0, EvP_bind q_in]
    refine swq ?_
    by_cases b1 : inb x1 1 100
    · rw [inbN_y b1, inbI_y b1]
      simp only [if_true, if_neg z10]
      obtain ⟨k, ka, hk, rfl⟩ := inb_nat (a := 1) (b := 100) (by omega) b1 (by omega)
      refine EvP_some (EvP_some ⟨rfl, fun _ => ?_, Nat.zero_le 1, d, k, mi, dy, am, X, Y, sn, j2, j3, j4, ⟨hw, ⟨ka, hk⟩, hb.2.2⟩, hx, ?_, ?_, ?_, ?_⟩)
      · show gI u 9 = gI m 5
        rw [c0.2.1.1, m0.2.1.1]
      · obtain ⟨h1, h2, h3⟩ := c0
        exact ⟨⟨isC_mv h1.1 (fun i hi => by rw [gI_sI, if_neg (by omega)]) (fun _ _ => rfl), h1.2⟩, ⟨rfl, h2.2⟩, h3⟩
      · exact C1_mv c1 c1.1 (fun i i1 i2 => by rw [gI_sI, if_neg (by omega)]) (fun _ _ => rfl) (fun _ _ _ _ => rfl) rfl
      · obtain ⟨h1, h2, h3⟩ := M0_s m0 0
        exact ⟨⟨isM_mv h1.1 (fun i h1 h2 => by rw [gI_sI, if_neg (by omega)]) (fun _ _ _ => rfl), h1.2⟩, ⟨rfl, h2.2⟩, h3⟩
      · exact M1_mv (M1_s m1 0) m1.1 (fun i i1 i2 => by rw [gI_sI, if_neg (by omega)]) (fun _ _ => rfl) rfl
    · rw [inbN_n b1, inbI_n b1]
      simp only [if_true, if_neg z10n]
      exact EvP_some (EvP_some (bad1 hR (by omega)))
  obtain ⟨r, ⟨n1, e1⟩, s, ⟨n2, e2⟩, q1, q2, q3, q4⟩ := key
  exact ⟨r.2.2, s.2, ⟨max n1 n2, fun N hN => ⟨r, s, e1 N (by omega), e2 N (by omega), q1, fun z => by rw [q2 z], q3, rfl, rfl⟩⟩, q4⟩
/-- run -/
theorem st_run {x1 x2 x3 x4 : Int32} {u m : St} (h : RR u m) : stepE 17 x1 x2 x3 x4 u m := by
  have hR := h
  obtain ⟨d, st, mi, dy, am, X, Y, sn, j2, j3, j4, hb, hx, c0, c1, m0, m1⟩ := h
  have hw := hb.1
  have hQ := hw.1.2.2.1
  have hmi := hb.2.2.1
  have key : EvP (fun n => FX4_run n x1 u) (fun r => EvP (fun n => FX5_run n x1 m) (fun s => ok1 2 r s)) := by
    show EvP (fun n => fX4_run n 0 x1 u) (fun r => EvP (fun n => fX5_run n 0 x1 0 0 0 m) _)
    rw [wX4_run_0, EvP_bind p_cb]
    refine swp ?_
    rw [wX5_run_0, EvP_bind q_in]
    refine swq ?_
    by_cases b1 : inb x1 1 10000
    · rw [inbN_y b1, inbI_y b1]
      simp only [if_true, if_neg z10]
      obtain ⟨c, ca, hc, rfl⟩ := inb_nat (a := 1) (b := 10000) (by omega) b1 (by omega)
      have l1 : (gI u 10 ≤ (1000000 : Int32) - nI c) ↔ mi + c ≤ 1000000 := by
        rw [c0.2.1.2.1, show (1000000 : Int32) = nI 1000000 by decide, pk_sub (by omega), nI_leI (by omega) (by omega)]; omega
      have l2 : (gI m 9 + nI c ≤ (1000000 : Int32)) ↔ mi + c ≤ 1000000 := by
        rw [m0.2.1.2.1, show (1000000 : Int32) = nI 1000000 by decide, nI_add, nI_leI (by omega) (by omega)]
      simp only [l1, l2]
      by_cases g : mi + c ≤ 1000000
      · simp only [if_pos g]
        refine EvP_bindP (p_known hb c0 c1) (fun v hv => ?_)
        refine swp ?_
        refine EvP_bindP (q_known hb (M0_s m0 0) (M1_s m1 0)) (fun w hw2 => ?_)
        obtain ⟨v0, v1, v2, v3, v4⟩ := hv
        obtain ⟨w0, w1, w3, w4⟩ := hw2
        have lc := lmC_of hw v0.1.1 v2 v3
        have lm := lmM_of hw w0.1.1 w3
        have ec : enC d v st dy sn := ⟨⟨v0.2.1.1, hb.2.1⟩, fun q hq => ⟨(hb.2.2.2.1 q (by omega)).1, (v0.2.2.1 q (by omega)).1⟩, fun p hp => ⟨(hb.2.2.2.2 p hp).1, (hb.2.2.2.2 p hp).2, v0.2.2.2.1 p hp⟩⟩
        have em : enM d w st dy sn := ⟨⟨w0.2.1.1, hb.2.1⟩, fun q hq => ⟨(hb.2.2.2.1 q (by omega)).1, (w0.2.2.1 q (by omega)).1⟩, fun p hp => ⟨(hb.2.2.2.2 p hp).1, (hb.2.2.2.2 p hp).2, w0.2.2.2 p hp⟩⟩
        have xc : xyC d v (bbo (bst d)) X Y := fun p hp => ⟨(hx p hp).1, (v1.1 p hp).1, (v1.1 p hp).2, (hx p hp).2⟩
        have xm : xyM d w (bbo (bst d)) X Y := fun p hp => ⟨(hx p hp).1, (w1.1 p hp).1, (w1.1 p hp).2, (hx p hp).2⟩
        refine EvP_imp (q_run50 hw lm em xm hc (dP d) 0 w (by omega) ⟨fun i hi => absurd hi (by omega), fun _ _ => ⟨rfl, rfl⟩, ⟨(Int64.add_zero _).symm, (Int64.add_zero _).symm, (Int64.add_zero _).symm⟩, rfl, fun _ _ => rfl, fun _ _ _ => rfl, rfl⟩) (fun s hs => ?_)
        obtain ⟨y, rfl, y1, y2, y3, yI, yJ, yA, yL⟩ := hs
        refine EvP_bindP (p_pass hw lc ec xc hc) (fun z hz => EvP_some ?_)
        obtain ⟨t, rfl, t1, t2, t3, tI, tJ, tA, tL⟩ := hz
        generalize hZ : ZZ d (bbo (bst d)) st dy sn c X Y = Z at y1 y3 t1 t3
        have e10 : gI t 10 + nI c = nI (mi + c) := by
          show t.1 10 + nI c = _
          rw [tI]
          show gI v 10 + nI c = _
          rw [v0.2.1.2.1, nI_add]
        have e9 : gI y 9 + nI c = nI (mi + c) := by
          show y.1 9 + nI c = _
          rw [yI]
          show gI w 9 + nI c = _
          rw [w0.2.1.2.1, nI_add]
        have iC : ∀ i, gI t i = gI v i := fun i => by show t.1 i = v.1 i; rw [tI]
        have iM : ∀ i, gI y i = gI w i := fun i => by show y.1 i = w.1 i; rw [yI]
        refine ⟨?_, fun _ => ?_, Nat.zero_le 2, d, st, mi + c, dy, am, (fun p => (Z p).1), (fun p => (Z p).2.1), sn, j2 + lN (S2 d (bbo (bst d)) Z (dP d)), j3 + lN (S3 d (bbo (bst d)) Z (dP d)), j4 + lN (S4 (bbo (bst d)) Z (dP d)), ⟨hw, hb.2.1, g, hb.2.2.2⟩, fun p hp => ?_, ?_, ?_, ?_, ?_⟩
        · show gI y 0 = nI 0
          rw [iM, w4]; rfl
        · show gI t 10 + nI c = gI y 9 + nI c
          rw [e10, e9]
        · show (Z p).1 ≤ 100 ∧ (0 ≤ bbo (bst d) p → (Z p).2.1 ≤ 60 * dA d 2 (bbo (bst d) p).toNat)
          rw [← hZ]
          unfold ZZ
          have hbp := hx p hp
          by_cases e : bbo (bst d) p < 0
          · rw [if_pos e]; exact hbp
          · rw [if_neg e]
            have hk : (bbo (bst d) p).toNat < dK d := by
              have := (lc.2.2.1 p hp).2
              omega
            have hl := (hw.2.1 _ hk).2.2.1
            have := MN_ok (st := st) (NE_le d (bbo (bst d)) dy sn p) (show 1 ≤ 60 * dA d 2 (bbo (bst d) p).toNat by omega) c (X p, Y p, 0, 0) hbp.1 (hbp.2 (by omega))
            exact ⟨this.1, fun _ => this.2⟩
        · obtain ⟨h1, h2, h3, h4, h5⟩ := v0
          refine ⟨⟨isC_mv h1.1 (fun i hi => by rw [gI_sI, if_neg (by omega), iC]) (fun a ha => by rw [gA_sI, tA a (by omega) (by omega)]), ?_, ?_⟩, ⟨?_, ?_, ?_, ?_, ?_⟩, ?_, ?_, ?_⟩
          · rw [gA_sI, tA 11 (by omega) (by omega)]; exact h1.2.1
          · rw [gA_sI, tA 12 (by omega) (by omega)]; exact h1.2.2
          · rw [gI_sI, if_neg (by omega), iC]; exact h2.1
          · rw [gI_sI, if_pos rfl]; exact e10
          · rw [gJ_sI, t3.1, h2.2.2.1]
          · rw [gJ_sI, t3.2.1, h2.2.2.2.1]
          · rw [gJ_sI, t3.2.2, h2.2.2.2.2]
          · rw [gA_sI, gA_sI, tA 19 (by omega) (by omega), tA 16 (by omega) (by omega)]; exact h3
          · rw [gA_sI, tA 18 (by omega) (by omega)]; exact h4
          · rw [gA_sI, gA_sI, tA 6 (by omega) (by omega), tA 18 (by omega) (by omega)]; exact h5
        · exact C1_mv v1 t1 (fun i i1 i2 => by rw [gI_sI, if_neg (by omega), iC]) tJ (fun a a1 a2 _ => tA a (by omega) (by omega)) tL
        · obtain ⟨h1, h2, h3, h4⟩ := w0
          refine ⟨⟨isM_mv h1.1 (fun i i1 i2 => by rw [gI_sI, if_neg (by omega), iM]) (fun a ha _ => by rw [gA_sI, yA a (by omega) (by omega)]), ?_⟩, ⟨?_, ?_, ?_, ?_, ?_⟩, ?_, ?_⟩
          · rw [gA_sI, yA 16 (by omega) (by omega)]; exact h1.2
          · rw [gI_sI, if_neg (by omega), iM]; exact h2.1
          · rw [gI_sI, if_pos rfl]; exact e9
          · rw [gJ_sI, y3.1, h2.2.2.1]
          · rw [gJ_sI, y3.2.1, h2.2.2.2.1]
          · rw [gJ_sI, y3.2.2, h2.2.2.2.2]
          · rw [gA_sI, gA_sI, yA 12 (by omega) (by omega), yA 11 (by omega) (by omega)]; exact h3
          · rw [gA_sI, yA 7 (by omega) (by omega)]; exact h4
        · exact M1_mv w1 y1 (fun i i1 i2 => by rw [gI_sI, if_neg (by omega), iM]) yJ (yA 13 (by omega) (by omega))
      · simp only [if_neg g]
        exact EvP_some (EvP_some (bad2 hR (by omega)))
    · rw [inbN_n b1, inbI_n b1]
      simp only [if_true, if_neg z10n]
      exact EvP_some (EvP_some (bad1 hR (by omega)))
  obtain ⟨r, ⟨n1, e1⟩, s, ⟨n2, e2⟩, q1, q2, q3, q4⟩ := key
  exact ⟨r.2.2, s.2, ⟨max n1 n2, fun N hN => ⟨r, s, e1 N (by omega), e2 N (by omega), q1, fun z => by rw [q2 z], q3, rfl, rfl⟩⟩, q4⟩
/-- own -/
theorem st_own {x1 x2 x3 x4 : Int32} {u m : St} (h : RR u m) : stepE 18 x1 x2 x3 x4 u m := by
  have hR := h
  obtain ⟨d, st, mi, dy, am, X, Y, sn, j2, j3, j4, hb, hx, c0, c1, m0, m1⟩ := h
  have hw := hb.1
  have hP := hw.1.2.1
  have hK := hw.1.1
  have key : EvP (fun n => FX4_own n x1 x2 u) (fun r => EvP (fun n => FX5_own n x1 x2 m) (fun s => ok1 1 r s)) := by
    show EvP (fun n => fX4_own n 0 x1 x2 u) (fun r => EvP (fun n => fX5_own n 0 x1 x2 m) _)
    rw [wX4_own_0, EvP_bind (p_cp c0.1.1.1.2.1)]
    refine swp ?_
    rw [wX5_own_0, EvP_bind (q_isPlace m0.1.1.1.2.1)]
    refine swq ?_
    by_cases b1 : inb x1 0 (nI (dP d) - 1)
    · rw [inbN_y b1, inbI_y b1]
      simp only [if_true, if_neg z10]
      rw [EvP_bind p_cb]
      refine swp ?_
      rw [EvP_bind q_in]
      refine swq ?_
      by_cases b2 : inb x2 0 1
      · rw [inbN_y b2, inbI_y b2]
        simp only [if_true, if_neg z10]
        obtain ⟨p, hp, rfl⟩ := inb_ix (by omega) b1
        refine EvP_bindP (p_known hb c0 c1) (fun v hv => ?_)
        refine swp ?_
        refine EvP_bindP (q_known hb (M0_s m0 0) (M1_s m1 0)) (fun w hw2 => ?_)
        obtain ⟨v0, v1, v2, v3, v4⟩ := hv
        obtain ⟨w0, w1, w3, w4⟩ := hw2
        have hRR : RR v w := ⟨d, st, mi, dy, am, X, Y, sn, j2, j3, j4, hb, hx, v0, v1, w0, w1⟩
        have lc := lmC_of hw v0.1.1 v2 v3
        have lm := lmM_of hw w0.1.1 w3
        have hbp := lc.2.2.1 p hp
        rw [EvP_bind (q_hasLamp hw lm hp)]
        simp only [ck_nI (show p < 7 by omega) (show 7 < 2 ^ 31 by omega), if_true, nI_clamp (show p < 2 ^ 31 by omega), lc.2.2.2 p hp, iI_eqm1 hbp.1 (show bbo (bst d) p < 2147483648 by omega), bI_z]
        by_cases g : bbo (bst d) p < 0
        · simp only [if_pos g, show decide (0 ≤ bbo (bst d) p) = false from by simp; omega, if_true]
          exact EvP_some (EvP_some ⟨w4, fun _ => rfl, Nat.zero_le 1, hRR⟩)
        · simp only [if_neg g, show decide (0 ≤ bbo (bst d) p) = true from by simp; omega, if_neg (show ¬ (true = false) by decide)]
          by_cases z : x2 = 0
          · simp only [if_pos z]
            exact EvP_some (EvP_some ⟨w4, fun _ => by show gA v 20 p = gA w 19 p; rw [(v1.1 p hp).1, (w1.1 p hp).1], Nat.zero_le 1, hRR⟩)
          · simp only [if_neg z]
            exact EvP_some (EvP_some ⟨w4, fun _ => by show gA v 21 p = gA w 20 p; rw [(v1.1 p hp).2, (w1.1 p hp).2], Nat.zero_le 1, hRR⟩)
      · rw [inbN_n b2, inbI_n b2]
        simp only [if_true, if_neg z10n]
        exact EvP_some (EvP_some (bad1 hR (by omega)))
    · rw [inbN_n b1, inbI_n b1]
      simp only [if_true, if_neg z10n]
      exact EvP_some (EvP_some (bad1 hR (by omega)))
  obtain ⟨r, ⟨n1, e1⟩, s, ⟨n2, e2⟩, q1, q2, q3, q4⟩ := key
  exact ⟨r.2.2, s.2, ⟨max n1 n2, fun N hN => ⟨r, s, e1 N (by omega), e2 N (by omega), q1, fun z => by rw [q2 z], q3, rfl, rfl⟩⟩, q4⟩
/-- used -/
theorem st_used {x1 x2 x3 x4 : Int32} {u m : St} (h : RR u m) : stepE 19 x1 x2 x3 x4 u m := by
  have hR := h
  obtain ⟨d, st, mi, dy, am, X, Y, sn, j2, j3, j4, hb, hx, c0, c1, m0, m1⟩ := h
  have key : EvP (fun n => FX4_used n x1 u) (fun r => EvP (fun n => FX5_used n x1 m) (fun s => okJ r s)) := by
    show EvP (fun n => fX4_used n 0 x1 u) (fun r => EvP (fun n => fX5_used n 0 x1 m) _)
    rw [wX4_used_0, EvP_bind p_cb]
    refine swp ?_
    rw [wX5_used_0, EvP_bind q_in]
    refine swq ?_
    by_cases b1 : inb x1 0 2
    · rw [inbN_y b1, inbI_y b1]
      simp only [if_true, if_neg z10]
      by_cases z : x1 = 0
      · simp only [if_pos z]
        exact EvP_some (EvP_some ⟨rfl, fun _ => by show gJ u 2 = gJ m 2; rw [c0.2.1.2.2.1, m0.2.1.2.2.1], Nat.zero_le 1, RR_s hR 0⟩)
      · simp only [if_neg z]
        by_cases y : x1 = 1
        · simp only [if_pos y]
          exact EvP_some (EvP_some ⟨rfl, fun _ => by show gJ u 3 = gJ m 3; rw [c0.2.1.2.2.2.1, m0.2.1.2.2.2.1], Nat.zero_le 1, RR_s hR 0⟩)
        · simp only [if_neg y]
          exact EvP_some (EvP_some ⟨rfl, fun _ => by show gJ u 4 = gJ m 4; rw [c0.2.1.2.2.2.2, m0.2.1.2.2.2.2], Nat.zero_le 1, RR_s hR 0⟩)
    · rw [inbN_n b1, inbI_n b1]
      simp only [if_true, if_neg z10n]
      exact EvP_some (EvP_some (badJ hR))
  obtain ⟨r, ⟨n1, e1⟩, s, ⟨n2, e2⟩, q1, q2, q3, q4⟩ := key
  exact ⟨r.2.2, s.2, ⟨max n1 n2, fun N hN => ⟨r, s, e1 N (by omega), e2 N (by omega), q1, q2, q3, rfl, rfl⟩⟩, q4⟩

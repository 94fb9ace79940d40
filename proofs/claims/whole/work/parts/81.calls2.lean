def ok1 (b : Nat) (r : Nat × Int32 × St) (s : Int32 × St) : Prop := gI s.2 0 = nI r.1 ∧ (r.1 = 0 → r.2.1 = s.1) ∧ r.1 ≤ b ∧ RR r.2.2 s.2
def okJ (r : Nat × Int64 × St) (s : Int64 × St) : Prop := gI s.2 0 = nI r.1 ∧ (r.1 = 0 → r.2.1 = s.1) ∧ r.1 ≤ 1 ∧ RR r.2.2 s.2
def okV (r : Nat × St) (s : St) : Prop := gI s 0 = nI r.1 ∧ r.1 ≤ 1 ∧ RR r.2 s
def okN (r : Int32 × St) (s : Int32 × St) : Prop := r.1 = s.1 ∧ RR r.2 s.2
theorem RR_s {u m : St} (h : RR u m) (x : Int32) : RR u (sI m 0 x) := by
  obtain ⟨d, st, mi, dy, am, X, Y, sn, j2, j3, j4, hb, hx, c0, c1, m0, m1⟩ := h
  exact ⟨d, st, mi, dy, am, X, Y, sn, j2, j3, j4, hb, hx, c0, c1, M0_s m0 x, M1_s m1 x⟩
theorem bad1 {u m : St} (h : RR u m) {b : Nat} (hb : 1 ≤ b) : ok1 b (1, 0, u) (0, sI m 0 1) := ⟨rfl, fun z => absurd z (show ¬ (1 = 0) by decide), hb, RR_s h 1⟩
theorem bad2 {u m : St} (h : RR u m) {b : Nat} (hb : 2 ≤ b) : ok1 b (2, 0, u) (0, sI m 0 2) := ⟨rfl, fun z => absurd z (show ¬ (2 = 0) by decide), hb, RR_s h 2⟩
theorem badJ {u m : St} (h : RR u m) : okJ (1, 0, u) (0, sI m 0 1) := ⟨rfl, fun z => absurd z (show ¬ (1 = 0) by decide), Nat.le_refl 1, RR_s h 1⟩
theorem badV {u m : St} (h : RR u m) : okV (1, u) (sI m 0 1) := ⟨rfl, Nat.le_refl 1, RR_s h 1⟩
theorem z10 : ¬ (1 : Int32) = 0 := by decide
theorem z10n : ¬ (1 : Nat) = 0 := by decide
theorem p_cc {n k : Nat} (hn : n ≤ 16) (hk : k ≤ 16) {x : Int32} (hx : x = nI k) : Ev (fun i => FX4_checkCount i (nI n) x) (if n < k then 0 else 2) := by
  subst hx
  show Ev (fun i => fX4_checkCount i 0 (nI n) (nI k)) _
  rw [vX4_checkCount_0]
  by_cases g : n < k
  · simp only [if_pos (nI_lt g (show k < 2 ^ 31 by omega)), if_pos g]; exact Ev_some rfl
  · simp only [if_neg (nI_nlt (show k ≤ n by omega) (show n < 2 ^ 31 by omega)), if_neg g]; exact Ev_some rfl
/-- place -/
theorem wf_place {d : Dt} (hw : dt_wf d) (hP : dP d < 7) {x y : Nat} (hx : x ≤ 50) (hy : y ≤ 50) : dt_wf (dplace d x y) := by
  obtain ⟨⟨h1, h2, h3, h4⟩, hk, hp, hq⟩ := hw
  refine ⟨⟨h1, show dP d + 1 ≤ 7 by omega, h3, h4⟩, fun k hk' => ?_, fun p hp' => ?_, fun q hq' => ?_⟩
  · have e : ∀ j, j < 4 → dA (dplace d x y) j k = dA d j k := fun j hj => by
      show (if k = dP d then (if j = 4 then x else if j = 5 then y else dA d j k) else dA d j k) = _
      rw [if_neg (show j ≠ 4 by omega), if_neg (show j ≠ 5 by omega), ite_self]
    rw [e 0 (by omega), e 1 (by omega), e 2 (by omega), e 3 (by omega)]
    exact hk k hk'
  · have hp' : p < dP d + 1 := hp'
    show (if p = dP d then _ else _) ≤ 50 ∧ (if p = dP d then _ else _) ≤ 50 ∧ -2 ≤ (if p = dP d then (-2 : Int) else dE d p) ∧ (if p = dP d then (-2 : Int) else dE d p) < (dK d : Int)
    by_cases g : p = dP d
    · simp only [if_pos g]
      exact ⟨hx, hy, by omega, by omega⟩
    · simp only [if_neg g]
      exact hp p (by omega)
  · have e : ∀ j, 6 ≤ j → dA (dplace d x y) j q = dA d j q := fun j hj => by
      show (if q = dP d then (if j = 4 then x else if j = 5 then y else dA d j q) else dA d j q) = _
      rw [if_neg (show j ≠ 4 by omega), if_neg (show j ≠ 5 by omega), ite_self]
    rw [e 6 (by omega), e 7 (by omega), e 8 (by omega)]
    exact hq q hq'
theorem pc_eq {d : Dt} {j : Nat} (hj : j < 4 ∨ 6 ≤ j) {x y i : Nat} : dA (dplace d x y) j i = dA d j i := by
  show (if i = dP d then (if j = 4 then x else if j = 5 then y else dA d j i) else dA d j i) = _
  rw [if_neg (show j ≠ 4 by omega), if_neg (show j ≠ 5 by omega), ite_self]
theorem st_place {x1 x2 x3 x4 : Int32} {u m : St} (h : RR u m) : stepE 1 x1 x2 x3 x4 u m := by
  have hR := h
  obtain ⟨d, st, mi, dy, am, X, Y, sn, j2, j3, j4, hb, hx, c0, c1, m0, m1⟩ := h
  have hw := hb.1
  have hK := hw.1.1
  have hP := hw.1.2.1
  have hQ := hw.1.2.2.1
  have key : EvP (fun n => FX4_place n x1 x2 u) (fun r => EvP (fun n => FX5_place n x1 x2 m) (fun s => ok1 2 r s)) := by
    show EvP (fun n => fX4_place n 0 x1 x2 u) (fun r => EvP (fun n => fX5_place n 0 x1 x2 m) _)
    rw [wX4_place_0]
    refine swp ?_
    rw [wX5_place_0, EvP_bind q_in]
    refine swq ?_
    rw [EvP_bind p_cb]
    by_cases b1 : inb x1 0 50
    · rw [inbN_y b1, inbI_y b1]
      simp only [if_true, if_neg z10]
      rw [EvP_bind p_cb]
      refine swp ?_
      rw [EvP_bind q_in]
      refine swq ?_
      by_cases b2 : inb x2 0 50
      · rw [inbN_y b2, inbI_y b2]
        simp only [if_true, if_neg z10]
        obtain ⟨k1, -, kb1, rfl⟩ := inb_nat (a := 0) (b := 50) (by omega) b1 (by omega)
        obtain ⟨k2, -, kb2, rfl⟩ := inb_nat (a := 0) (b := 50) (by omega) b2 (by omega)
        rw [c0.1.1.1.2.1, EvP_bind (p_cc (k := 7) (by omega) (by omega) n7), m0.1.1.1.2.1, n7]
        simp only [nI_eq (show dP d < 2 ^ 31 by omega) (show 7 < 2 ^ 31 by omega)]
        by_cases g : dP d < 7
        · simp only [if_pos g, if_true, if_neg (show ¬ dP d = 7 by omega), ck_nI g (show 7 < 2 ^ 31 by omega)]
          have hadd : Ev (fun n => FX2_addPlace n (nI k1) (nI k2) u) (nI (dP d), sI (sA (sA u 4 (upd (gA u 4) (dP d) (nI k1))) 5 (upd (gA u 5) (dP d) (nI k2))) 1 (nI (dP d + 1))) := by
            show Ev (fun n => fX2_addPlace n 0 (nI k1) (nI k2) u) _
            rw [vX2_addPlace_0, c0.1.1.1.2.1]
            simp only [ck_nI g (show 7 < 2 ^ 31 by omega), if_true, nI_clamp (show dP d < 2 ^ 31 by omega), nI_1]
            exact Ev_some rfl
          rw [EvP_bind hadd]
          have hw' := wf_place hw g kb1 kb2
          have hbs : BS (dplace d k1 k2) st mi dy am (fun p => if p = dP d then -1 else sn p) := by
            refine ⟨hw', hb.2.1, hb.2.2.1, hb.2.2.2.1, fun p hp => ?_⟩
            have hp : p < dP d + 1 := hp
            show -1 ≤ (if p = dP d then (-1 : Int) else sn p) ∧ (if p = dP d then (-1 : Int) else sn p) < (dQ d : Int)
            by_cases e : p = dP d
            · simp only [if_pos e]; omega
            · simp only [if_neg e]; exact hb.2.2.2.2 p (by omega)
          have hC : C0 (dplace d k1 k2) st mi dy am (fun p => if p = dP d then -1 else sn p) j2 j3 j4 (sI (sA (sA u 4 (upd (gA u 4) (dP d) (nI k1))) 5 (upd (gA u 5) (dP d) (nI k2))) 1 (nI (dP d + 1))) := by
            obtain ⟨⟨hu, hs⟩, hc1, hc2, hc3, hc4⟩ := c0
            refine ⟨⟨⟨⟨hu.1.1, rfl, hu.1.2.2⟩, fun k hk => ?_, fun p hp => ?_, fun q hq => ?_⟩, ?_, hs.2⟩, hc1, hc2, fun p hp => ?_, fun p p1 p2 => ?_⟩
            · rw [pc_eq (by omega), pc_eq (by omega), pc_eq (by omega), pc_eq (by omega)]; exact hu.2.1 k hk
            · have hp : p < dP d + 1 := hp
              show upd (gA u 4) (dP d) (nI k1) p = nI (if p = dP d then _ else _) ∧ upd (gA u 5) (dP d) (nI k2) p = nI (if p = dP d then _ else _) ∧ gA u 6 p = iI (if p = dP d then (-2 : Int) else dE d p)
              simp only [up_at]
              by_cases e : p = dP d
              · simp only [if_pos e]; exact ⟨rfl, rfl, by rw [(hc4 p (by omega) (by omega)).1]; rfl⟩
              · simp only [if_neg e]; exact hu.2.2.1 p (by omega)
            · rw [pc_eq (by omega), pc_eq (by omega), pc_eq (by omega)]; exact hu.2.2.2 q hq
            · intro j hj1 hj2
              have hj1 : (dP d + 1) * 16 ≤ j := hj1
              exact hs.1 j (by omega) hj2
            · have hp : p < dP d + 1 := hp
              show gA u 18 p = iI (if p = dP d then (-1 : Int) else sn p)
              by_cases e : p = dP d
              · simp only [if_pos e]; rw [(hc4 p (by omega) (by omega)).2]; rfl
              · simp only [if_neg e]; exact hc3 p (by omega)
            · have p1 : dP d + 1 ≤ p := p1
              exact hc4 p (by omega) p2
          refine EvP_bindP (p_lampsGo hw' hC) (fun v hv => EvP_some ?_)
          have hM : M0 (dplace d k1 k2) st mi dy am (fun p => if p = dP d then -1 else sn p) j2 j3 j4 (sI (sA (sA (sA (sA (sI m 0 0) 4 (upd (gA m 4) (dP d) (nI k1))) 5 (upd (gA m 5) (dP d) (nI k2))) 6 (upd (gA m 6) (dP d) (-2))) 7 (upd (gA m 7) (dP d) (-1))) 2 (nI (dP d + 1))) := by
            obtain ⟨⟨hu, hs⟩, hc1, hc2, hc3⟩ := m0
            refine ⟨⟨⟨⟨hu.1.1, rfl, hu.1.2.2⟩, fun k hk => ?_, fun p hp => ?_, fun q hq => ?_⟩, hs⟩, hc1, hc2, fun p hp => ?_⟩
            · rw [pc_eq (by omega), pc_eq (by omega), pc_eq (by omega), pc_eq (by omega)]; exact hu.2.1 k hk
            · have hp : p < dP d + 1 := hp
              show upd (gA m 4) (dP d) (nI k1) p = nI (if p = dP d then _ else _) ∧ upd (gA m 5) (dP d) (nI k2) p = nI (if p = dP d then _ else _) ∧ upd (gA m 6) (dP d) (-2) p = iI (if p = dP d then (-2 : Int) else dE d p)
              simp only [up_at]
              by_cases e : p = dP d
              · simp only [if_pos e]; exact ⟨rfl, rfl, rfl⟩
              · simp only [if_neg e]; exact hu.2.2.1 p (by omega)
            · rw [pc_eq (by omega), pc_eq (by omega), pc_eq (by omega)]; exact hu.2.2.2 q hq
            · have hp : p < dP d + 1 := hp
              show upd (gA m 7) (dP d) (-1) p = iI (if p = dP d then (-1 : Int) else sn p)
              rw [up_at]
              by_cases e : p = dP d
              · simp only [if_pos e]; rfl
              · simp only [if_neg e]; exact hc3 p (by omega)
          simp only [nI_clamp (show dP d < 2 ^ 31 by omega), nI_1]
          refine EvP_bindP (q_renew hw' hM) (fun w hw2 => EvP_some ?_)
          refine ⟨?_, fun _ => ?_, by show 0 ≤ 2; omega, dplace d k1 k2, st, mi, dy, am, _, _, _, j2, j3, j4, hbs, BX_0 _, hv.1, hv.2, hw2.1, hw2.2.1⟩
          · show gI w 0 = nI 0
            rw [hw2.2.2 0 (by omega)]; rfl
          · show nI (dP d) = gI w 2 - 1
            rw [hw2.2.2 2 (by omega)]
            exact (nI_pred (dP d)).symm
        · simp only [if_neg g, if_neg (show ¬ (2 = 0) by decide), if_pos (show dP d = 7 by omega)]
          exact EvP_some (EvP_some (bad2 hR (by omega)))
      · rw [inbN_n b2, inbI_n b2]
        simp only [if_true, if_neg z10n]
        exact EvP_some (EvP_some (bad1 hR (by omega)))
    · rw [inbN_n b1, inbI_n b1]
      simp only [if_true, if_neg z10n]
      exact EvP_some (EvP_some (bad1 hR (by omega)))
  obtain ⟨r, ⟨n1, e1⟩, s, ⟨n2, e2⟩, q1, q2, q3, q4⟩ := key
  exact ⟨r.2.2, s.2, ⟨max n1 n2, fun N hN => ⟨r, s, e1 N (by omega), e2 N (by omega), q1, fun z => by rw [q2 z], q3, rfl, rfl⟩⟩, q4⟩
/-- point -/
theorem qc_eq {d : Dt} {j : Nat} (hj : j < 6) {x y w i : Nat} : dA (dpoint d x y w) j i = dA d j i := by
  show (if i = dQ d then (if j = 6 then x else if j = 7 then y else if j = 8 then w else dA d j i) else dA d j i) = _
  rw [if_neg (show j ≠ 6 by omega), if_neg (show j ≠ 7 by omega), if_neg (show j ≠ 8 by omega), ite_self]
theorem wf_point {d : Dt} (hw : dt_wf d) (hQ : dQ d < 16) {x y w : Nat} (hx : x ≤ 50) (hy : y ≤ 50) (h9 : w ≤ 100000) : dt_wf (dpoint d x y w) := by
  obtain ⟨⟨h1, h2, h3, h4⟩, hk, hp, hq⟩ := hw
  refine ⟨⟨h1, h2, show dQ d + 1 ≤ 16 by omega, h4⟩, fun k hk' => ?_, fun p hp' => ?_, fun q hq' => ?_⟩
  · rw [qc_eq (by omega), qc_eq (by omega), qc_eq (by omega), qc_eq (by omega)]; exact hk k hk'
  · rw [qc_eq (by omega), qc_eq (by omega)]; exact hp p hp'
  · have hq' : q < dQ d + 1 := hq'
    show (if q = dQ d then _ else _) ≤ 50 ∧ (if q = dQ d then _ else _) ≤ 50 ∧ (if q = dQ d then _ else _) ≤ 100000
    by_cases g : q = dQ d
    · simp only [if_pos g]
      exact ⟨hx, hy, h9⟩
    · simp only [if_neg g]
      exact hq q (by omega)
theorem st_point {x1 x2 x3 x4 : Int32} {u m : St} (h : RR u m) : stepE 2 x1 x2 x3 x4 u m := by
  have hR := h
  obtain ⟨d, st, mi, dy, am, X, Y, sn, j2, j3, j4, hb, hx, c0, c1, m0, m1⟩ := h
  have hw := hb.1
  have hK := hw.1.1
  have hP := hw.1.2.1
  have hQ := hw.1.2.2.1
  have key : EvP (fun n => FX4_point n x1 x2 x3 u) (fun r => EvP (fun n => FX5_point n x1 x2 x3 m) (fun s => ok1 2 r s)) := by
    show EvP (fun n => fX4_point n 0 x1 x2 x3 u) (fun r => EvP (fun n => fX5_point n 0 x1 x2 x3 m) _)
    rw [wX4_point_0]
    refine swp ?_
    rw [wX5_point_0, EvP_bind q_in]
    refine swq ?_
    rw [EvP_bind p_cb]
    by_cases b1 : inb x1 0 50
    · rw [inbN_y b1, inbI_y b1]
      simp only [if_true, if_neg z10]
      rw [EvP_bind p_cb]
      refine swp ?_
      rw [EvP_bind q_in]
      refine swq ?_
      by_cases b2 : inb x2 0 50
      · rw [inbN_y b2, inbI_y b2]
        simp only [if_true, if_neg z10]
        rw [EvP_bind p_cb]
        refine swp ?_
        rw [EvP_bind q_in]
        refine swq ?_
        by_cases b3 : inb x3 0 100000
        · rw [inbN_y b3, inbI_y b3]
          simp only [if_true, if_neg z10]
          obtain ⟨k1, -, kb1, rfl⟩ := inb_nat (a := 0) (b := 50) (by omega) b1 (by omega)
          obtain ⟨k2, -, kb2, rfl⟩ := inb_nat (a := 0) (b := 50) (by omega) b2 (by omega)
          obtain ⟨k3, -, kb3, rfl⟩ := inb_nat (a := 0) (b := 100000) (by omega) b3 (by omega)
          rw [c0.1.1.1.2.2.1, EvP_bind (p_cc (k := 16) (by omega) (by omega) n16), m0.1.1.1.2.2.1, n16]
          simp only [nI_eq (show dQ d < 2 ^ 31 by omega) (show 16 < 2 ^ 31 by omega)]
          by_cases g : dQ d < 16
          · simp only [if_pos g, if_true, if_neg (show ¬ dQ d = 16 by omega), ck_nI g (show 16 < 2 ^ 31 by omega)]
            have hadd : Ev (fun n => FX2_addPoint n (nI k1) (nI k2) (nI k3) u) (nI (dQ d), sI (sA (sA (sA u 7 (upd (gA u 7) (dQ d) (nI k1))) 8 (upd (gA u 8) (dQ d) (nI k2))) 9 (upd (gA u 9) (dQ d) (nI k3))) 2 (nI (dQ d + 1))) := by
              show Ev (fun n => fX2_addPoint n 0 (nI k1) (nI k2) (nI k3) u) _
              rw [vX2_addPoint_0, c0.1.1.1.2.2.1]
              simp only [ck_nI g (show 16 < 2 ^ 31 by omega), if_true, nI_clamp (show dQ d < 2 ^ 31 by omega), nI_1]
              exact Ev_some rfl
            rw [EvP_bind hadd]
            have hw' := wf_point hw g kb1 kb2 kb3
            have hbs : BS (dpoint d k1 k2 k3) st mi dy am sn := by
              refine ⟨hw', hb.2.1, hb.2.2.1, hb.2.2.2.1, fun p hp => ?_⟩
              have := hb.2.2.2.2 p hp
              refine ⟨this.1, ?_⟩
              show sn p < ((dQ d + 1 : Nat) : Int)
              have := this.2
              omega
            have hC : C0 (dpoint d k1 k2 k3) st mi dy am sn j2 j3 j4 (sI (sA (sA (sA u 7 (upd (gA u 7) (dQ d) (nI k1))) 8 (upd (gA u 8) (dQ d) (nI k2))) 9 (upd (gA u 9) (dQ d) (nI k3))) 2 (nI (dQ d + 1))) := by
              obtain ⟨⟨hu, hs⟩, hc⟩ := c0
              refine ⟨⟨⟨⟨hu.1.1, hu.1.2.1, rfl, hu.1.2.2.2⟩, fun k hk => ?_, fun p hp => ?_, fun q hq => ?_⟩, hs⟩, hc⟩
              · rw [qc_eq (by omega), qc_eq (by omega), qc_eq (by omega), qc_eq (by omega)]; exact hu.2.1 k hk
              · rw [qc_eq (by omega), qc_eq (by omega)]; exact hu.2.2.1 p hp
              · have hq : q < dQ d + 1 := hq
                show upd (gA u 7) (dQ d) (nI k1) q = nI (if q = dQ d then _ else _) ∧ upd (gA u 8) (dQ d) (nI k2) q = nI (if q = dQ d then _ else _) ∧ upd (gA u 9) (dQ d) (nI k3) q = nI (if q = dQ d then _ else _)
                simp only [up_at]
                by_cases e : q = dQ d
                · simp only [if_pos e]; exact ⟨rfl, rfl, rfl⟩
                · simp only [if_neg e]; exact hu.2.2.2 q (by omega)
            refine EvP_bindP (p_lampsGo hw' hC) (fun v hv => EvP_some ?_)
            have hM : M0 (dpoint d k1 k2 k3) st mi dy am sn j2 j3 j4 (sI (sA (sA (sA (sI m 0 0) 8 (upd (gA m 8) (dQ d) (nI k1))) 9 (upd (gA m 9) (dQ d) (nI k2))) 10 (upd (gA m 10) (dQ d) (nI k3))) 3 (nI (dQ d + 1))) := by
              obtain ⟨⟨hu, hs⟩, hc⟩ := m0
              refine ⟨⟨⟨⟨hu.1.1, hu.1.2.1, rfl, hu.1.2.2.2⟩, fun k hk => ?_, fun p hp => ?_, fun q hq => ?_⟩, hs⟩, hc⟩
              · rw [qc_eq (by omega), qc_eq (by omega), qc_eq (by omega), qc_eq (by omega)]; exact hu.2.1 k hk
              · rw [qc_eq (by omega), qc_eq (by omega)]; exact hu.2.2.1 p hp
              · have hq : q < dQ d + 1 := hq
                show upd (gA m 8) (dQ d) (nI k1) q = nI (if q = dQ d then _ else _) ∧ upd (gA m 9) (dQ d) (nI k2) q = nI (if q = dQ d then _ else _) ∧ upd (gA m 10) (dQ d) (nI k3) q = nI (if q = dQ d then _ else _)
                simp only [up_at]
                by_cases e : q = dQ d
                · simp only [if_pos e]; exact ⟨rfl, rfl, rfl⟩
                · simp only [if_neg e]; exact hu.2.2.2 q (by omega)
            simp only [nI_clamp (show dQ d < 2 ^ 31 by omega), nI_1]
            refine EvP_bindP (q_renew hw' hM) (fun w hw2 => EvP_some ?_)
            refine ⟨?_, fun _ => ?_, by show 0 ≤ 2; omega, dpoint d k1 k2 k3, st, mi, dy, am, _, _, _, j2, j3, j4, hbs, BX_0 _, hv.1, hv.2, hw2.1, hw2.2.1⟩
            · show gI w 0 = nI 0
              rw [hw2.2.2 0 (by omega)]; rfl
            · show nI (dQ d) = gI w 3 - 1
              rw [hw2.2.2 3 (by omega)]
              exact (nI_pred (dQ d)).symm
          · simp only [if_neg g, if_neg (show ¬ (2 = 0) by decide), if_pos (show dQ d = 16 by omega)]
            exact EvP_some (EvP_some (bad2 hR (by omega)))
        · rw [inbN_n b3, inbI_n b3]
          simp only [if_true, if_neg z10n]
          exact EvP_some (EvP_some (bad1 hR (by omega)))
      · rw [inbN_n b2, inbI_n b2]
        simp only [if_true, if_neg z10n]
        exact EvP_some (EvP_some (bad1 hR (by omega)))
    · rw [inbN_n b1, inbI_n b1]
      simp only [if_true, if_neg z10n]
      exact EvP_some (EvP_some (bad1 hR (by omega)))
  obtain ⟨r, ⟨n1, e1⟩, s, ⟨n2, e2⟩, q1, q2, q3, q4⟩ := key
  exact ⟨r.2.2, s.2, ⟨max n1 n2, fun N hN => ⟨r, s, e1 N (by omega), e2 N (by omega), q1, fun z => by rw [q2 z], q3, rfl, rfl⟩⟩, q4⟩
/-- height -/
theorem st_height {x1 x2 x3 x4 : Int32} {u m : St} (h : RR u m) : stepE 3 x1 x2 x3 x4 u m := by
  have hR := h
  obtain ⟨d, st, mi, dy, am, X, Y, sn, j2, j3, j4, hb, hx, c0, c1, m0, m1⟩ := h
  have hw := hb.1
  have key : EvP (fun n => FX4_height n x1 u) (fun r => EvP (fun n => FX5_height n x1 m) (fun s => ok1 1 r s)) := by
    show EvP (fun n => fX4_height n 0 x1 u) (fun r => EvP (fun n => fX5_height n 0 x1 m) _)
    rw [wX4_height_0]
    refine swp ?_
    rw [wX5_height_0, EvP_bind q_in]
    refine swq ?_
    rw [EvP_bind p_cb]
    by_cases b1 : inb x1 1 50
    · rw [inbN_y b1, inbI_y b1]
      simp only [if_true, if_neg z10]
      obtain ⟨k1, ka1, kb1, rfl⟩ := inb_nat (a := 1) (b := 50) (by omega) b1 (by omega)
      have hw' : dt_wf (dheight d k1) := ⟨⟨hw.1.1, hw.1.2.1, hw.1.2.2.1, ka1, kb1⟩, hw.2⟩
      have hC : C0 (dheight d k1) st mi dy am sn j2 j3 j4 (sI u 3 (nI k1)) := by
        obtain ⟨⟨hu, hs⟩, hc⟩ := c0
        exact ⟨⟨⟨⟨hu.1.1, hu.1.2.1, hu.1.2.2.1, rfl⟩, hu.2⟩, hs⟩, hc⟩
      refine EvP_bindP (p_lampsGo hw' hC) (fun v hv => EvP_some ?_)
      have hM : M0 (dheight d k1) st mi dy am sn j2 j3 j4 (sI (sI m 0 0) 4 (nI k1)) := by
        obtain ⟨⟨hu, hs⟩, hc⟩ := m0
        exact ⟨⟨⟨⟨hu.1.1, hu.1.2.1, hu.1.2.2.1, rfl⟩, hu.2⟩, hs⟩, hc⟩
      refine EvP_bindP (q_renew hw' hM) (fun w hw2 => EvP_some ?_)
      refine ⟨?_, fun _ => ?_, by show 0 ≤ 1; omega, dheight d k1, st, mi, dy, am, _, _, _, j2, j3, j4, ⟨hw', hb.2⟩, BX_0 _, hv.1, hv.2, hw2.1, hw2.2.1⟩
      · show gI w 0 = nI 0
        rw [hw2.2.2 0 (by omega)]; rfl
      · show gI u 3 = gI m 4
        rw [c0.1.1.1.2.2.2, m0.1.1.1.2.2.2]
    · rw [inbN_n b1, inbI_n b1]
      simp only [if_true, if_neg z10n]
      exact EvP_some (EvP_some (bad1 hR (by omega)))
  obtain ⟨r, ⟨n1, e1⟩, s, ⟨n2, e2⟩, q1, q2, q3, q4⟩ := key
  exact ⟨r.2.2, s.2, ⟨max n1 n2, fun N hN => ⟨r, s, e1 N (by omega), e2 N (by omega), q1, fun z => by rw [q2 z], q3, rfl, rfl⟩⟩, q4⟩

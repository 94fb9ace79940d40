/-! one step of the law, with fuel enough -/
def stepE (j : Nat) (x1 x2 x3 x4 : Int32) (u m : St) : Prop := ∃ u' m', (∃ N0, ∀ N, N0 ≤ N → stepP N j x1 x2 x3 x4 u m u' m') ∧ RR u' m'
theorem swp {α β : Type} {f : Nat → Option α} {g : Nat → Option β} {G : α → β → Prop} (h : EvP g (fun s => EvP f (fun r => G r s))) : EvP f (fun r => EvP g (fun s => G r s)) := by
  obtain ⟨s, hs, r, hr, hG⟩ := h
  exact ⟨r, hr, s, hs, hG⟩
theorem swq {α β : Type} {f : Nat → Option α} {g : Nat → Option β} {G : α → β → Prop} (h : EvP f (fun r => EvP g (fun s => G r s))) : EvP g (fun s => EvP f (fun r => G r s)) := by
  obtain ⟨r, hr, s, hs, hG⟩ := h
  exact ⟨s, hs, r, hr, hG⟩
/-- kind -/
def dkind (d : Dt) (a b c e : Nat) : Dt := ((dK d + 1, dP d, dQ d, dH d), (fun j i => if i = dK d then (if j = 0 then a else if j = 1 then b else if j = 2 then c else if j = 3 then e else dA d j i) else dA d j i), d.2.2)
def dplace (d : Dt) (x y : Nat) : Dt := ((dK d, dP d + 1, dQ d, dH d), (fun j i => if i = dP d then (if j = 4 then x else if j = 5 then y else dA d j i) else dA d j i), fun p => if p = dP d then -2 else dE d p)
def dpoint (d : Dt) (x y w : Nat) : Dt := ((dK d, dP d, dQ d + 1, dH d), (fun j i => if i = dQ d then (if j = 6 then x else if j = 7 then y else if j = 8 then w else dA d j i) else dA d j i), d.2.2)
def dheight (d : Dt) (h : Nat) : Dt := ((dK d, dP d, dQ d, h), d.2)
def dhold (d : Dt) (p : Nat) (k : Int) : Dt := (d.1, d.2.1, fun i => if i = p then k else dE d i)
theorem wf_kind {d : Dt} (hw : dt_wf d) (hK : dK d < 3) {a b c e : Nat} (ha : 1 ≤ a ∧ a ≤ 10000) (hb : 1 ≤ b ∧ b ≤ 500) (hc : 1 ≤ c ∧ c ≤ 100000) (he : e ≤ 100000) : dt_wf (dkind d a b c e) := by
  obtain ⟨⟨h1, h2, h3, h4⟩, hk, hp, hq⟩ := hw
  refine ⟨⟨show dK d + 1 ≤ 3 by omega, h2, h3, h4⟩, fun k hk' => ?_, fun p hp' => ?_, fun q hq' => ?_⟩
  · show (1 ≤ (if k = dK d then _ else _) ∧ (if k = dK d then _ else _) ≤ _) ∧ (1 ≤ (if k = dK d then _ else _) ∧ (if k = dK d then _ else _) ≤ _) ∧ (1 ≤ (if k = dK d then _ else _) ∧ (if k = dK d then _ else _) ≤ _) ∧ (if k = dK d then _ else _) ≤ _
    have hk' : k < dK d + 1 := hk'
    by_cases g : k = dK d
    · simp only [if_pos g]
      exact ⟨ha, hb, hc, he⟩
    · simp only [if_neg g]
      exact hk k (by omega)
  · have := hp p hp'
    refine ⟨?_, ?_, this.2.2.1, ?_⟩
    · show (if p = dK d then dA d 4 p else dA d 4 p) ≤ 50
      rw [ite_self]; exact this.1
    · show (if p = dK d then dA d 5 p else dA d 5 p) ≤ 50
      rw [ite_self]; exact this.2.1
    · show dE d p < ((dK d + 1 : Nat) : Int)
      have := this.2.2.2
      omega
  · have := hq q hq'
    refine ⟨?_, ?_, ?_⟩
    · show (if q = dK d then dA d 6 q else dA d 6 q) ≤ 50
      rw [ite_self]; exact this.1
    · show (if q = dK d then dA d 7 q else dA d 7 q) ≤ 50
      rw [ite_self]; exact this.2.1
    · show (if q = dK d then dA d 8 q else dA d 8 q) ≤ 100000
      rw [ite_self]; exact this.2.2
theorem kc_eq {d : Dt} {j : Nat} (hj : 4 ≤ j) {a b c e i : Nat} : dA (dkind d a b c e) j i = dA d j i := by
  show (if i = dK d then (if j = 0 then a else if j = 1 then b else if j = 2 then c else if j = 3 then e else dA d j i) else dA d j i) = _
  rw [if_neg (show j ≠ 0 by omega), if_neg (show j ≠ 1 by omega), if_neg (show j ≠ 2 by omega), if_neg (show j ≠ 3 by omega), ite_self]
theorem st_kind {x1 x2 x3 x4 : Int32} {u m : St} (h : RR u m) : stepE 0 x1 x2 x3 x4 u m := by
  obtain ⟨d, st, mi, dy, am, X, Y, sn, j2, j3, j4, hb, hx, c0, c1, m0, m1⟩ := h
  have hw := hb.1
  have hK := hw.1.1
  have hP := hw.1.2.1
  have hQ := hw.1.2.2.1
  have key : EvP (fun n => FX4_kind n x1 x2 x3 x4 u) (fun r => EvP (fun n => FX5_kind n x1 x2 x3 x4 m) (fun s => gI s.2 0 = nI r.1 ∧ (r.1 = 0 → r.2.1 = s.1) ∧ r.1 ≤ 2 ∧ RR r.2.2 s.2)) := by
    show EvP (fun n => fX4_kind n 0 x1 x2 x3 x4 u) (fun r => EvP (fun n => fX5_kind n 0 x1 x2 x3 x4 m) _)
    rw [wX4_kind_0]
    refine swp ?_
    rw [wX5_kind_0]
    refine swq ?_
    rw [EvP_bind p_cb]
    have bad : ∀ v : St, v = sI m 0 1 → EvP (fun _ => some ((0 : Int32), v)) (fun s : Int32 × St => gI s.2 0 = nI ((1 : Nat), (0 : Int32), u).1 ∧ (((1 : Nat), (0 : Int32), u).1 = 0 → ((1 : Nat), (0 : Int32), u).2.1 = s.1) ∧ ((1 : Nat), (0 : Int32), u).1 ≤ 2 ∧ RR ((1 : Nat), (0 : Int32), u).2.2 s.2) := by
      intro v hv
      subst hv
      exact EvP_some ⟨rfl, fun h => absurd h (show ¬ (1 = 0) by decide), (show 1 ≤ 2 by decide), d, st, mi, dy, am, X, Y, sn, j2, j3, j4, hb, hx, c0, c1, M0_s m0 1, M1_s m1 1⟩
    have bad47 : EvP (fun n => fX5_kind n 47 x1 x2 x3 x4 m) (fun s : Int32 × St => gI s.2 0 = nI ((1 : Nat), (0 : Int32), u).1 ∧ (((1 : Nat), (0 : Int32), u).1 = 0 → ((1 : Nat), (0 : Int32), u).2.1 = s.1) ∧ ((1 : Nat), (0 : Int32), u).1 ≤ 2 ∧ RR ((1 : Nat), (0 : Int32), u).2.2 s.2) := by
      rw [wX5_kind_47]; exact bad _ rfl
    refine swp ?_
    rw [EvP_bind q_in]
    refine swq ?_
    by_cases b1 : inb x1 1 10000
    · rw [inbN_y b1, inbI_y b1]
      simp only [if_true, if_neg (show ¬ (1 : Int32) = 0 by decide)]
      rw [EvP_bind p_cb]
      refine swp ?_
      rw [EvP_bind q_in]
      refine swq ?_
      by_cases b2 : inb x2 1 500
      · rw [inbN_y b2, inbI_y b2]
        simp only [if_true, if_neg (show ¬ (1 : Int32) = 0 by decide)]
        rw [EvP_bind p_cb]
        refine swp ?_
        rw [EvP_bind q_in]
        refine swq ?_
        by_cases b3 : inb x3 1 100000
        · rw [inbN_y b3, inbI_y b3]
          simp only [if_true, if_neg (show ¬ (1 : Int32) = 0 by decide)]
          rw [EvP_bind p_cb]
          refine swp ?_
          rw [EvP_bind q_in]
          refine swq ?_
          by_cases b4 : inb x4 0 100000
          · rw [inbN_y b4, inbI_y b4]
            simp only [if_true, if_neg (show ¬ (1 : Int32) = 0 by decide)]
            obtain ⟨k1, ka1, kb1, rfl⟩ := inb_nat (a := 1) (b := 10000) (by omega) b1 (by omega)
            obtain ⟨k2, ka2, kb2, rfl⟩ := inb_nat (a := 1) (b := 500) (by omega) b2 (by omega)
            obtain ⟨k3, ka3, kb3, rfl⟩ := inb_nat (a := 1) (b := 100000) (by omega) b3 (by omega)
            obtain ⟨k4, ka4, kb4, rfl⟩ := inb_nat (a := 0) (b := 100000) (by omega) b4 (by omega)
            have hcc : Ev (fun n => FX4_checkCount n (nI (dK d)) 3) (if dK d < 3 then 0 else 2) := by
              show Ev (fun n => fX4_checkCount n 0 (nI (dK d)) 3) _
              rw [vX4_checkCount_0, n3]
              by_cases g : dK d < 3
              · simp only [if_pos (nI_lt g (show 3 < 2 ^ 31 by omega)), if_pos g]; exact Ev_some rfl
              · simp only [if_neg (nI_nlt (show 3 ≤ dK d by omega) (show dK d < 2 ^ 31 by omega)), if_neg g]; exact Ev_some rfl
            rw [c0.1.1.1.1, EvP_bind hcc, m0.1.1.1.1, n3]
            simp only [nI_eq (show dK d < 2 ^ 31 by omega) (show 3 < 2 ^ 31 by omega)]
            by_cases g : dK d < 3
            · simp only [if_pos g, if_true, if_neg (show ¬ dK d = 3 by omega), ck_nI g (show 3 < 2 ^ 31 by omega)]
              have hadd : Ev (fun n => FX2_addKind n (nI k1) (nI k2) (nI k3) (nI k4) u) (nI (dK d), sI (sA (sA (sA (sA u 0 (upd (gA u 0) (dK d) (nI k1))) 1 (upd (gA u 1) (dK d) (nI k2))) 2 (upd (gA u 2) (dK d) (nI k3))) 3 (upd (gA u 3) (dK d) (nI k4))) 0 (nI (dK d + 1))) := by
                show Ev (fun n => fX2_addKind n 0 (nI k1) (nI k2) (nI k3) (nI k4) u) _
                rw [vX2_addKind_0, c0.1.1.1.1]
                simp only [ck_nI g (show 3 < 2 ^ 31 by omega), if_true, nI_clamp (show dK d < 2 ^ 31 by omega), nI_1]
                exact Ev_some rfl
              rw [EvP_bind hadd]
              have hw' := wf_kind hw g ⟨ka1, kb1⟩ ⟨ka2, kb2⟩ ⟨ka3, kb3⟩ kb4
              have hC : C0 (dkind d k1 k2 k3 k4) st mi dy am sn j2 j3 j4 (sI (sA (sA (sA (sA u 0 (upd (gA u 0) (dK d) (nI k1))) 1 (upd (gA u 1) (dK d) (nI k2))) 2 (upd (gA u 2) (dK d) (nI k3))) 3 (upd (gA u 3) (dK d) (nI k4))) 0 (nI (dK d + 1))) := by
                obtain ⟨⟨hu, hs⟩, hc⟩ := c0
                refine ⟨⟨⟨⟨rfl, hu.1.2⟩, fun k hk => ?_, fun p hp => ?_, fun q hq => ?_⟩, hs⟩, hc⟩
                · have hk : k < dK d + 1 := hk
                  show upd (gA u 0) (dK d) (nI k1) k = nI (if k = dK d then _ else _) ∧ upd (gA u 1) (dK d) (nI k2) k = nI (if k = dK d then _ else _) ∧ upd (gA u 2) (dK d) (nI k3) k = nI (if k = dK d then _ else _) ∧ upd (gA u 3) (dK d) (nI k4) k = nI (if k = dK d then _ else _)
                  simp only [up_at]
                  by_cases e : k = dK d
                  · simp only [if_pos e]; exact ⟨rfl, rfl, rfl, rfl⟩
                  · simp only [if_neg e]; exact hu.2.1 k (by omega)
                · rw [kc_eq (by omega), kc_eq (by omega)]; exact hu.2.2.1 p hp
                · rw [kc_eq (by omega), kc_eq (by omega), kc_eq (by omega)]; exact hu.2.2.2 q hq
              refine EvP_bindP (p_lampsGo hw' hC) (fun v hv => EvP_some ?_)
              have hM : M0 (dkind d k1 k2 k3 k4) st mi dy am sn j2 j3 j4 (sI (sA (sA (sA (sA (sI m 0 0) 0 (upd (gA m 0) (dK d) (nI k1))) 1 (upd (gA m 1) (dK d) (nI k2))) 2 (upd (gA m 2) (dK d) (nI k3))) 3 (upd (gA m 3) (dK d) (nI k4))) 1 (nI (dK d + 1))) := by
                obtain ⟨⟨hu, hs⟩, hc⟩ := m0
                refine ⟨⟨⟨⟨rfl, hu.1.2⟩, fun k hk => ?_, fun p hp => ?_, fun q hq => ?_⟩, hs⟩, hc⟩
                · have hk : k < dK d + 1 := hk
                  show upd (gA m 0) (dK d) (nI k1) k = nI (if k = dK d then _ else _) ∧ upd (gA m 1) (dK d) (nI k2) k = nI (if k = dK d then _ else _) ∧ upd (gA m 2) (dK d) (nI k3) k = nI (if k = dK d then _ else _) ∧ upd (gA m 3) (dK d) (nI k4) k = nI (if k = dK d then _ else _)
                  simp only [up_at]
                  by_cases e : k = dK d
                  · simp only [if_pos e]; exact ⟨rfl, rfl, rfl, rfl⟩
                  · simp only [if_neg e]; exact hu.2.1 k (by omega)
                · rw [kc_eq (by omega), kc_eq (by omega)]; exact hu.2.2.1 p hp
                · rw [kc_eq (by omega), kc_eq (by omega), kc_eq (by omega)]; exact hu.2.2.2 q hq
              simp only [nI_clamp (show dK d < 2 ^ 31 by omega), nI_1]
              refine EvP_bindP (q_renew hw' hM) (fun w hw2 => EvP_some ?_)
              refine ⟨?_, fun _ => ?_, by show 0 ≤ 2; omega, dkind d k1 k2 k3 k4, st, mi, dy, am, _, _, sn, j2, j3, j4, ⟨hw', hb.2⟩, BX_0 _, hv.1, hv.2, hw2.1, hw2.2.1⟩
              · show gI w 0 = nI 0
                rw [hw2.2.2 0 (by omega)]; rfl
              · show nI (dK d) = gI w 1 - 1
                rw [hw2.2.2 1 (by omega)]
                exact (nI_pred (dK d)).symm
            · simp only [if_neg g, if_neg (show ¬ (2 = 0) by decide), if_pos (show dK d = 3 by omega)]
              refine EvP_some (EvP_some ⟨rfl, fun h => absurd h (by show ¬ (2 = 0); decide), by show 2 ≤ 2; omega, d, st, mi, dy, am, X, Y, sn, j2, j3, j4, hb, hx, c0, c1, M0_s m0 2, M1_s m1 2⟩)
          · rw [inbN_n b4, inbI_n b4]
            simp only [if_true, if_neg (show ¬ (1 = 0) by decide)]
            exact EvP_some bad47
        · rw [inbN_n b3, inbI_n b3]
          simp only [if_true, if_neg (show ¬ (1 = 0) by decide)]
          exact EvP_some bad47
      · rw [inbN_n b2, inbI_n b2]
        simp only [if_true, if_neg (show ¬ (1 = 0) by decide)]
        exact EvP_some bad47
    · rw [inbN_n b1, inbI_n b1]
      simp only [if_true, if_neg (show ¬ (1 = 0) by decide)]
      exact EvP_some bad47
  obtain ⟨r, ⟨n1, e1⟩, s, ⟨n2, e2⟩, q1, q2, q3, q4⟩ := key
  exact ⟨r.2.2, s.2, ⟨max n1 n2, fun N hN => ⟨r, s, e1 N (by omega), e2 N (by omega), q1, fun z => by rw [q2 z], q3, rfl, rfl⟩⟩, q4⟩

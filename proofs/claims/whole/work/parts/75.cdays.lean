/-! days: one minute of one lamp: level, lasted, renewed, light -/
def stp (st need x : Nat) : Nat := max (x - st) (min (x + st) need)
def mn (st need T : Nat) (z : Nat × Nat × Nat × Nat) : Nat × Nat × Nat × Nat :=
  if stp st need z.1 = 0 then (0, z.2.1, z.2.2.1, z.2.2.2) else
  if z.2.1 = T then (stp st need z.1, 1, z.2.2.1 + 1, z.2.2.2 + stp st need z.1) else (stp st need z.1, z.2.1 + 1, z.2.2.1, z.2.2.2 + stp st need z.1)
def MN (st need T : Nat) : Nat → Nat × Nat × Nat × Nat → Nat × Nat × Nat × Nat
  | 0, z => z
  | n + 1, z => MN st need T n (mn st need T z)
/-- c minutes at one level -/
def shn (T c : Nat) (z : Nat × Nat × Nat × Nat) : Nat × Nat × Nat × Nat :=
  if c = 0 then z else if z.1 = 0 then z else (z.1, z.2.1 + c - (z.2.1 + c - 1) / T * T, z.2.2.1 + (z.2.1 + c - 1) / T, z.2.2.2 + c * z.1)
theorem stp_le {st need x : Nat} (h1 : need ≤ 100) (h2 : x ≤ 100) : stp st need x ≤ 100 := by unfold stp; omega
theorem stp_self (st need : Nat) : stp st need need = need := by unfold stp; omega
theorem mn_ok {st need T : Nat} {z : Nat × Nat × Nat × Nat} (hn : need ≤ 100) (hT : 1 ≤ T) (h1 : z.1 ≤ 100) (h2 : z.2.1 ≤ T) : (mn st need T z).1 ≤ 100 ∧ (mn st need T z).2.1 ≤ T := by
  have := stp_le (st := st) hn h1
  unfold mn
  split
  · exact ⟨Nat.zero_le _, h2⟩
  · split
    · exact ⟨this, hT⟩
    · exact ⟨this, by show z.2.1 + 1 ≤ T; omega⟩
theorem MN_ok {st need T : Nat} (hn : need ≤ 100) (hT : 1 ≤ T) : ∀ (n : Nat) (z : Nat × Nat × Nat × Nat), z.1 ≤ 100 → z.2.1 ≤ T → (MN st need T n z).1 ≤ 100 ∧ (MN st need T n z).2.1 ≤ T := by
  intro n
  induction n with
  | zero => intro z h1 h2; exact ⟨h1, h2⟩
  | succ n ih => intro z h1 h2; have := mn_ok (st := st) hn hT h1 h2; exact ih _ this.1 this.2
/-- one minute is a step and then a minute at that level -/
theorem mn_shn {st need T : Nat} {z : Nat × Nat × Nat × Nat} (hT : 1 ≤ T) (h2 : z.2.1 ≤ T) : mn st need T z = shn T 1 (stp st need z.1, z.2) := by
  unfold mn shn
  rw [if_neg (show ¬ (1 = 0) by decide)]
  by_cases g : stp st need z.1 = 0
  · rw [if_pos g, if_pos g, g]
  · rw [if_neg g, if_neg g]
    show _ = (stp st need z.1, z.2.1 + 1 - (z.2.1 + 1 - 1) / T * T, z.2.2.1 + (z.2.1 + 1 - 1) / T, z.2.2.2 + 1 * stp st need z.1)
    rw [Nat.add_sub_cancel, Nat.one_mul]
    by_cases e : z.2.1 = T
    · rw [if_pos e, e, Nat.div_self (by omega), Nat.one_mul, Nat.add_sub_cancel_left]
    · rw [if_neg e, Nat.div_eq_of_lt (by omega), Nat.zero_mul, Nat.sub_zero]; rfl
theorem shn_add {T n : Nat} {z : Nat × Nat × Nat × Nat} (hT : 1 ≤ T) (h2 : z.2.1 ≤ T) : shn T n (shn T 1 z) = shn T (n + 1) z := by
  obtain ⟨x, l, r, e⟩ := z
  have h2 : l ≤ T := h2
  by_cases g : x = 0
  · subst g
    unfold shn
    simp
  · rcases Nat.eq_zero_or_pos n with y | y
    · subst y; unfold shn; simp
    · rcases Nat.lt_or_ge l T with c | c
      · have e1 : shn T 1 (x, l, r, e) = (x, l + 1, r, e + x) := by
          unfold shn
          rw [if_neg (show ¬ (1 = 0) by decide), if_neg g]
          show (x, l + 1 - (l + 1 - 1) / T * T, r + (l + 1 - 1) / T, e + 1 * x) = _
          rw [Nat.add_sub_cancel, Nat.div_eq_of_lt c, Nat.zero_mul, Nat.one_mul]; rfl
        rw [e1]
        unfold shn
        rw [if_neg (show ¬ n = 0 by omega), if_neg (show ¬ n + 1 = 0 by omega), if_neg (show ¬ (x, l + 1, r, e + x).1 = 0 from g), if_neg (show ¬ (x, l, r, e).1 = 0 from g)]
        show (x, l + 1 + n - (l + 1 + n - 1) / T * T, r + (l + 1 + n - 1) / T, e + x + n * x) = (x, l + (n + 1) - (l + (n + 1) - 1) / T * T, r + (l + (n + 1) - 1) / T, e + (n + 1) * x)
        rw [show l + 1 + n = l + (n + 1) by omega, Nat.succ_mul, show e + x + n * x = e + (n * x + x) by omega]
      · have c : l = T := by omega
        subst c
        have e1 : shn l 1 (x, l, r, e) = (x, 1, r + 1, e + x) := by
          unfold shn
          rw [if_neg (show ¬ (1 = 0) by decide), if_neg g]
          show (x, l + 1 - (l + 1 - 1) / l * l, r + (l + 1 - 1) / l, e + 1 * x) = _
          rw [Nat.add_sub_cancel, Nat.div_self (by omega), Nat.one_mul, Nat.one_mul, Nat.add_sub_cancel_left]
        rw [e1]
        unfold shn
        rw [if_neg (show ¬ n = 0 by omega), if_neg (show ¬ n + 1 = 0 by omega), if_neg (show ¬ (x, 1, r + 1, e + x).1 = 0 from g), if_neg (show ¬ (x, l, r, e).1 = 0 from g)]
        show (x, 1 + n - (1 + n - 1) / l * l, r + 1 + (1 + n - 1) / l, e + x + n * x) = (x, l + (n + 1) - (l + (n + 1) - 1) / l * l, r + (l + (n + 1) - 1) / l, e + (n + 1) * x)
        have q1 : 1 + n - 1 = n := by omega
        have q2 : (l + (n + 1) - 1) / l = n / l + 1 := by
          rw [show l + (n + 1) - 1 = n + l by omega]
          exact Nat.add_div_right n (by omega)
        rw [q1, q2, Nat.succ_mul, Nat.succ_mul, show e + x + n * x = e + (n * x + x) by omega, show 1 + n - n / l * l = l + (n + 1) - (n / l * l + l) by omega, show r + 1 + n / l = r + (n / l + 1) by omega]
theorem MN_const {st need T : Nat} (hT : 1 ≤ T) (hn : need ≤ 100) : ∀ (n : Nat) (z : Nat × Nat × Nat × Nat), z.1 = need → z.2.1 ≤ T → MN st need T n z = shn T n z := by
  intro n
  induction n with
  | zero => intro z _ _; unfold shn; rw [if_pos rfl]; rfl
  | succ n ih =>
    intro z h1 h2
    have e : mn st need T z = shn T 1 z := by
      rw [mn_shn hT h2, h1, stp_self, ← h1]
    have ok := mn_ok (st := st) (z := z) hn hT (by omega) h2
    rw [MN, ih _ ?_ ok.2, e, shn_add hT h2]
    unfold mn
    rw [h1, stp_self]
    split
    · rename_i g; exact g.symm
    · split <;> rfl
theorem upd_upd (f : Nat → Int32) (k : Nat) (x y : Int32) : upd (upd f k x) k y = upd f k y := by
  funext i
  rw [up_at, up_at, up_at]
  split <;> rfl
theorem upd_same (f : Nat → Int32) (k : Nat) : upd f k (f k) = f := by
  funext i
  rw [up_at]
  split
  · rename_i h; rw [h]
  · rfl
/-- place p's days in the class, from the state u on -/
def dyC (wt ct p : Nat) (u v : St) (z : Nat × Nat × Nat × Nat) : Prop := gA v 20 = upd (gA u 20) p (nI z.1) ∧ gA v 21 = upd (gA u 21) p (nI z.2.1) ∧ gJ v 2 = gJ u 2 + lN (z.2.2.2 * wt) ∧ gJ v 3 = gJ u 3 + lN (z.2.2.1 * ct) ∧ gJ v 4 = gJ u 4 + lN z.2.2.1 ∧ v.1 = u.1 ∧ (∀ j, j < 2 → gJ v j = gJ u j) ∧ (∀ a, a ≠ 20 → a ≠ 21 → gA v a = gA u a) ∧ v.2.2.2 = u.2.2.2
theorem dyC.lm {wt ct p : Nat} {u v : St} {z : Nat × Nat × Nat × Nat} (h : dyC wt ct p u v z) {d : Dt} {b : Nat → Int} (hl : lmC d u b) : lmC d v b := by
  obtain ⟨h1, h2, h3, h4⟩ := hl
  refine ⟨isC_mv h1 (fun i _ => by show v.1 i = u.1 i; rw [h.2.2.2.2.2.1]) (fun a ha => h.2.2.2.2.2.2.2.1 a (by omega) (by omega)), fun p k q a b e => ?_, h3, fun p hp => ?_⟩
  · rw [h.2.2.2.2.2.2.2.1 10 (by omega) (by omega)]; exact h2 p k q a b e
  · rw [h.2.2.2.2.2.2.2.1 14 (by omega) (by omega)]; exact h4 p hp
theorem n60 : (60 : Int32) = nI 60 := by decide
theorem p_shine {d : Dt} (hw : dt_wf d) {u v : St} {b : Nat → Int} (hl : lmC d v b) {p k : Nat} (hp : p < dP d) (hk : b p = (k : Int)) {z : Nat × Nat × Nat × Nat} (hz : dyC (dA d 1 k) (dA d 3 k) p u v z) {c : Nat} (hc : c ≤ 10000) (h1 : z.1 ≤ 100) (h2 : z.2.1 ≤ 60 * dA d 2 k) :
    EvP (fun n => FX1_shine n (nI p) (nI c) v) (fun w => dyC (dA d 1 k) (dA d 3 k) p u w (shn (60 * dA d 2 k) c z)) := by
  have hP := hw.1.2.1
  have hK := hw.1.1
  have hbp := hl.2.2.1 p hp
  have hk' : k < dK d := by omega
  obtain ⟨r0, r1, r2, r3⟩ := hw.2.1 k hk'
  obtain ⟨-, k1, k2, k3⟩ := hl.1.2.1 k hk'
  have e14 : gA v 14 p = nI k := by rw [hl.2.2.2 p hp, hk, iI_nat]
  obtain ⟨z20, z21, j2, j3, j4, zI, zJ, zA, zL⟩ := id hz
  have e20 : gA v 20 p = nI z.1 := by rw [z20, up_at, if_pos rfl]
  have e21 : gA v 21 p = nI z.2.1 := by rw [z21, up_at, if_pos rfl]
  show EvP (fun n => fX1_shine n 0 (nI p) (nI c) v) _
  rw [wX1_shine_0]
  simp only [ck_nI (show p < 7 by omega) (by decide), if_true, nI_clamp (show p < 2 ^ 31 by omega), e14, if_neg (nI_pos (show k < 2 ^ 31 by omega)), e20, e21, ck_nI (show k < 3 by omega) (by decide), nI_clamp (show k < 2 ^ 31 by omega), k1, k2, k3]
  unfold shn
  rcases Nat.eq_zero_or_pos c with y | y
  · subst y
    simp only [if_pos (show nI 0 ≤ 0 by decide), if_true]
    exact EvP_some hz
  · simp only [if_neg (nI_nle y (show c < 2 ^ 31 by omega)), if_neg (show ¬ c = 0 by omega)]
    by_cases g : z.1 = 0
    · simp only [g, if_pos (show nI 0 = 0 by decide), if_true]
      exact EvP_some hz
    · simp only [if_neg (nI_ne0 (show 0 < z.1 by omega) (show z.1 < 2 ^ 31 by omega)), if_neg g]
      have t1 : (nI z.2.1 + nI c - (1 : Int32)).toInt64 = lN (z.2.1 + c - 1) := by
        rw [nI_add, n1, pk_sub (by omega), nI_l (by omega)]
      have t2 : ((60 : Int32) * nI (dA d 2 k)).toInt64 = lN (60 * dA d 2 k) := by
        rw [n60, pk_mul, nI_l (by omega)]
      rw [t1, t2, EvP_bind (p_quo (by omega) (by omega) (by omega))]
      generalize hq : (z.2.1 + c - 1) / (60 * dA d 2 k) = q
      have hqT : q * (60 * dA d 2 k) ≤ z.2.1 + c - 1 := by rw [← hq]; exact Nat.div_mul_le_self _ _
      have hq2 : q ≤ z.2.1 + c - 1 := by rw [← hq]; exact Nat.div_le_self _ _
      refine EvP_some ?_
      rw [lN_i, nI_l (show c < 2 ^ 31 by omega), nI_l (show z.1 < 2 ^ 31 by omega), nI_l (show dA d 1 k < 2 ^ 31 by omega), nI_l (show q < 2 ^ 31 by omega), nI_l (show dA d 3 k < 2 ^ 31 by omega), lN_mul, lN_mul, lN_mul, n60, pk_mul, pk_mul, nI_add, pk_sub (by omega)]
      refine ⟨?_, ?_, ?_, ?_, ?_, zI, ?_, ?_, zL⟩
      · exact z20
      · show upd (gA v 21) p _ = _
        rw [z21, upd_upd]
      · show gJ v 2 + _ = _
        rw [j2, Int64.add_assoc, lN_add, Nat.add_mul]
      · show gJ v 3 + _ = _
        rw [j3, Int64.add_assoc, lN_add, Nat.add_mul]
      · show gJ v 4 + _ = _
        rw [j4, Int64.add_assoc, lN_add]
      · intro j hj
        simp only [gJ_sJ, gJ_sA, if_neg (show j ≠ 3 by omega), if_neg (show j ≠ 4 by omega), if_neg (show j ≠ 2 by omega)]
        exact zJ j hj
      · intro a a1 a2
        simp only [gA_sJ, gA_sA, if_neg a2]
        exact zA a a1 a2
theorem p_stepTowards {v : St} {st need x : Nat} (h9 : gI v 9 = nI st) (hs : st ≤ 100) (hn : need ≤ 100) (hx : x ≤ 100) : Ev (fun n => FX1_stepTowards n (nI x) (nI need) v) (nI (stp st need x), v) := by
  show Ev (fun n => fX1_stepTowards n 0 (nI x) (nI need) v) _
  rw [vX1_stepTowards_0, h9, nI_add]
  have e1 : (if nI need < nI (x + st) then nI need else nI (x + st)) = nI (min (x + st) need) := by
    by_cases g : need < x + st
    · rw [if_pos (nI_lt g (by omega)), show min (x + st) need = need by omega]
    · rw [if_neg (nI_nlt (by omega) (by omega)), show min (x + st) need = x + st by omega]
  rw [e1]
  refine Ev_some ?_
  have cmp : (nI x - nI st < nI (min (x + st) need)) ↔ (x : Int) - st < (min (x + st) need : Nat) := by
    rw [Int32.lt_iff_toInt_lt, pk_sub_toInt (by omega) (by omega), nI_toInt (by omega)]
  unfold stp
  by_cases g : (x : Int) - st < (min (x + st) need : Nat)
  · rw [if_pos (cmp.mpr g), show max (x - st) (min (x + st) need) = min (x + st) need by omega]
  · rw [if_neg (fun h => g (cmp.mp h)), show max (x - st) (min (x + st) need) = x - st by omega, pk_sub (by omega)]
theorem p_follow9 {d : Dt} (hw : dt_wf d) {u : St} {b : Nat → Int} (hl : lmC d u b) {p k st need : Nat} (hp : p < dP d) (hk : b p = (k : Int)) (h9 : gI u 9 = nI st) (hs : st ≤ 100) (hn : need ≤ 100) : ∀ (c : Nat) (z : Nat × Nat × Nat × Nat) (v : St), c ≤ 10000 → z.1 ≤ 100 → z.2.1 ≤ 60 * dA d 2 k → dyC (dA d 1 k) (dA d 3 k) p u v z →
    EvP (fun n => fX1_follow n 9 (nI p) 0 (nI need) (nI c) v) (fun w => dyC (dA d 1 k) (dA d 3 k) p u w (MN st need (60 * dA d 2 k) c z)) := by
  have hP := hw.1.2.1
  have hK := hw.1.1
  have hbp := hl.2.2.1 p hp
  have hk' : k < dK d := by omega
  obtain ⟨r0, r1, r2, r3⟩ := hw.2.1 k hk'
  intro c
  induction c with
  | zero =>
    intro z v hc h1 h2 hz
    rw [wX1_follow_9]
    simp only [if_pos (show nI 0 ≤ 0 by decide)]
    have hh := p_shine hw (hz.lm hl) hp hk hz (c := 0) (by omega) h1 h2
    refine EvP_bindP hh (fun w hw2 => EvP_some ?_)
    unfold shn at hw2
    rw [if_pos rfl] at hw2
    exact hw2
  | succ c ih =>
    intro z v hc h1 h2 hz
    have e20 : gA v 20 p = nI z.1 := by rw [hz.1, up_at, if_pos rfl]
    rw [wX1_follow_9]
    simp only [if_neg (nI_nle (show 0 < c + 1 by omega) (show c + 1 < 2 ^ 31 by omega)), ck_nI (show p < 7 by omega) (by decide), if_true, nI_clamp (show p < 2 ^ 31 by omega), e20, nI_eq (show z.1 < 2 ^ 31 by omega) (show need < 2 ^ 31 by omega)]
    by_cases g : z.1 = need
    · simp only [if_pos g]
      refine EvP_bindP (p_shine hw (hz.lm hl) hp hk hz (c := c + 1) (by omega) h1 h2) (fun w hw2 => EvP_some ?_)
      rw [MN_const (by omega) hn (c + 1) z g h2]
      exact hw2
    · simp only [if_neg g]
      have h9v : gI v 9 = nI st := by show v.1 9 = nI st; rw [hz.2.2.2.2.2.1]; exact h9
      rw [EvP_bind (p_stepTowards h9v hs hn h1)]
      have hst := stp_le (st := st) hn h1
      obtain ⟨z20, z21, j2, j3, j4, zI, zJ, zA, zL⟩ := id hz
      have hz1 : dyC (dA d 1 k) (dA d 3 k) p u (sA v 20 (upd (gA v 20) p (nI (stp st need z.1)))) (stp st need z.1, z.2) := by
        refine ⟨?_, z21, j2, j3, j4, zI, zJ, fun a a1 a2 => ?_, zL⟩
        · rw [gA_sA, if_pos rfl, z20, upd_upd]
        · rw [gA_sA, if_neg a1]; exact zA a a1 a2
      refine EvP_bindP (p_shine hw (hz1.lm hl) hp hk hz1 (c := 1) (by omega) hst h2) (fun w hw2 => ?_)
      rw [← mn_shn (by omega) h2] at hw2
      have ok := mn_ok (st := st) (z := z) hn (show 1 ≤ 60 * dA d 2 k by omega) h1 h2
      rw [pk_m1]
      exact ih _ w (by omega) ok.1 ok.2 hw2

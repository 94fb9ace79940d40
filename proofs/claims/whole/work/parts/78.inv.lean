/-! what holds between class and reference before every call of the law -/
def BS (d : Dt) (st mi : Nat) (dy am : Nat → Nat) (sn : Nat → Int) : Prop := dt_wf d ∧ (1 ≤ st ∧ st ≤ 100) ∧ mi ≤ 1000000 ∧ (∀ q, q < 16 → dy q ≤ 100000 ∧ am q ≤ 1000000) ∧ (∀ p, p < dP d → -1 ≤ sn p ∧ sn p < dQ d)
def BX (d : Dt) (X Y : Nat → Nat) : Prop := ∀ p, p < dP d → X p ≤ 100 ∧ (0 ≤ bbo (bst d) p → Y p ≤ 60 * dA d 2 (bbo (bst d) p).toNat)
theorem BX_0 (d : Dt) : BX d (fun _ => 0) (fun _ => 0) := fun _ _ => ⟨Nat.zero_le _, fun _ => Nat.zero_le _⟩
def C0 (d : Dt) (st mi : Nat) (dy am : Nat → Nat) (sn : Nat → Int) (j2 j3 j4 : Int64) (u : St) : Prop :=
  (isC d u ∧ scr d u) ∧ (gI u 9 = nI st ∧ gI u 10 = nI mi ∧ gJ u 2 = j2 ∧ gJ u 3 = j3 ∧ gJ u 4 = j4) ∧ (∀ q, q < 16 → gA u 19 q = nI (dy q) ∧ gA u 16 q = nI (am q)) ∧
  (∀ p, p < dP d → gA u 18 p = iI (sn p)) ∧ (∀ p, dP d ≤ p → p < 7 → gA u 6 p = -2 ∧ gA u 18 p = -1)
def M0 (d : Dt) (st mi : Nat) (dy am : Nat → Nat) (sn : Nat → Int) (j2 j3 j4 : Int64) (m : St) : Prop :=
  (isM d m ∧ gA m 16 0 = 0) ∧ (gI m 5 = nI st ∧ gI m 9 = nI mi ∧ gJ m 2 = j2 ∧ gJ m 3 = j3 ∧ gJ m 4 = j4) ∧ (∀ q, q < 16 → gA m 12 q = nI (dy q) ∧ gA m 11 q = nI (am q)) ∧ (∀ p, p < dP d → gA m 7 p = iI (sn p))
def C1 (d : Dt) (am X Y : Nat → Nat) (u : St) : Prop := (∀ p, p < dP d → gA u 20 p = nI (X p) ∧ gA u 21 p = nI (Y p)) ∧ (gI u 6 = 0 ∨ (gI u 6 = 1 ∧ liC d u ∧ accC d u (bst d))) ∧
  (gI u 8 = 0 ∨ (gI u 8 = 1 ∧ gI u 6 = 1 ∧ gI u 7 = nI (scn d (bbo (bst d)) am).2 ∧ dmC d u (bbo (bst d)) am (scn d (bbo (bst d)) am).1))
def M1 (d : Dt) (X Y : Nat → Nat) (m : St) : Prop := (∀ p, p < dP d → gA m 19 p = nI (X p) ∧ gA m 20 p = nI (Y p)) ∧ (gI m 6 = 0 ∨ (gI m 6 = 1 ∧ accM d m (bst d)))
def RR (u m : St) : Prop := ∃ (d : Dt) (st mi : Nat) (dy am X Y : Nat → Nat) (sn : Nat → Int) (j2 j3 j4 : Int64), BS d st mi dy am sn ∧ BX d X Y ∧ C0 d st mi dy am sn j2 j3 j4 u ∧ C1 d am X Y u ∧ M0 d st mi dy am sn j2 j3 j4 m ∧ M1 d X Y m
theorem C0_mv {d : Dt} {st mi : Nat} {dy am : Nat → Nat} {sn : Nat → Int} {j2 j3 j4 : Int64} {u v : St} (h : C0 d st mi dy am sn j2 j3 j4 u) (hs : scr d v) (hI : ∀ i, i < 4 ∨ 9 ≤ i → gI v i = gI u i) (hJ : ∀ j, 2 ≤ j → gJ v j = gJ u j) (hA : ∀ a, a < 10 ∨ (16 ≤ a ∧ a < 20 ∧ a ≠ 17) → gA v a = gA u a) : C0 d st mi dy am sn j2 j3 j4 v := by
  obtain ⟨⟨h1, -⟩, ⟨i9, i10, k2, k3, k4⟩, hq, hp, hd⟩ := h
  refine ⟨⟨isC_mv h1 (fun i hi => hI i (Or.inl hi)) (fun a ha => hA a (Or.inl ha)), hs⟩, ⟨by rw [hI 9 (by omega)]; exact i9, by rw [hI 10 (by omega)]; exact i10, by rw [hJ 2 (by omega)]; exact k2, by rw [hJ 3 (by omega)]; exact k3, by rw [hJ 4 (by omega)]; exact k4⟩, ?_, ?_, ?_⟩
  · rw [hA 19 (by omega), hA 16 (by omega)]; exact hq
  · rw [hA 18 (by omega)]; exact hp
  · rw [hA 6 (by omega), hA 18 (by omega)]; exact hd
theorem M0_mv {d : Dt} {st mi : Nat} {dy am : Nat → Nat} {sn : Nat → Int} {j2 j3 j4 : Int64} {u v : St} (h : M0 d st mi dy am sn j2 j3 j4 u) (h16 : gA v 16 0 = 0) (hI : ∀ i, (1 ≤ i ∧ i < 6) ∨ 9 ≤ i → gI v i = gI u i) (hJ : ∀ j, 2 ≤ j → gJ v j = gJ u j) (hA : ∀ a, a < 13 → gA v a = gA u a) : M0 d st mi dy am sn j2 j3 j4 v := by
  obtain ⟨⟨h1, -⟩, ⟨i9, i10, k2, k3, k4⟩, hq, hp⟩ := h
  refine ⟨⟨isM_mv h1 (fun i a b => hI i (by omega)) (fun a ha _ => hA a (by omega)), h16⟩, ⟨by rw [hI 5 (by omega)]; exact i9, by rw [hI 9 (by omega)]; exact i10, by rw [hJ 2 (by omega)]; exact k2, by rw [hJ 3 (by omega)]; exact k3, by rw [hJ 4 (by omega)]; exact k4⟩, ?_, ?_⟩
  · rw [hA 12 (by omega), hA 11 (by omega)]; exact hq
  · rw [hA 7 (by omega)]; exact hp
/-- the reference's code of what it threw is looked at by nobody else -/
theorem M0_s {d : Dt} {st mi : Nat} {dy am : Nat → Nat} {sn : Nat → Int} {j2 j3 j4 : Int64} {u : St} (h : M0 d st mi dy am sn j2 j3 j4 u) (x : Int32) : M0 d st mi dy am sn j2 j3 j4 (sI u 0 x) := M0_mv h h.1.2 (fun i hi => by rw [gI_sI, if_neg (by omega)]) (fun _ _ => rfl) (fun _ _ => rfl)
theorem M1_s {d : Dt} {X Y : Nat → Nat} {u : St} (h : M1 d X Y u) (x : Int32) : M1 d X Y (sI u 0 x) := by
  refine ⟨h.1, ?_⟩
  rcases h.2 with a | ⟨a, c⟩
  · exact Or.inl a
  · exact Or.inr ⟨a, accM_mv c rfl rfl rfl rfl rfl⟩
/-! bounds -/
def inb (v lo hi : Int32) : Prop := lo ≤ v ∧ v ≤ hi
noncomputable def inbN (v lo hi : Int32) : Nat := @ite _ (inb v lo hi) (Classical.propDecidable _) 0 1
theorem p_cb {v lo hi : Int32} : Ev (fun n => FX4_checkBounds n v lo hi) (inbN v lo hi) := by
  show Ev (fun n => fX4_checkBounds n 0 v lo hi) _
  rw [vX4_checkBounds_0]
  unfold inbN
  by_cases a : v < lo
  · simp only [if_pos a]
    rw [if_neg (fun h : inb v lo hi => absurd a (Int32.not_lt.mpr h.1))]
    exact Ev_some rfl
  · simp only [if_neg a]
    by_cases b : v ≤ hi
    · simp only [if_pos b]
      rw [if_pos (show inb v lo hi from ⟨Int32.not_lt.mp a, b⟩)]
      exact Ev_some rfl
    · simp only [if_neg b]
      rw [if_neg (fun h : inb v lo hi => b h.2)]
      exact Ev_some rfl
noncomputable def inbI (v lo hi : Int32) : Int32 := @ite _ (inb v lo hi) (Classical.propDecidable _) 1 0
theorem q_in {v lo hi : Int32} : Ev (fun n => FX5_isIn n v lo hi) (inbI v lo hi) := by
  show Ev (fun n => fX5_isIn n 0 v lo hi) _
  rw [vX5_isIn_0]
  unfold inbI
  by_cases a : v < lo
  · simp only [if_pos a]
    rw [if_neg (fun h : inb v lo hi => absurd a (Int32.not_lt.mpr h.1))]
    exact Ev_some rfl
  · simp only [if_neg a]
    by_cases b : hi < v
    · simp only [if_pos b]
      rw [if_neg (fun h : inb v lo hi => absurd b (Int32.not_lt.mpr h.2))]
      exact Ev_some rfl
    · simp only [if_neg b]
      rw [if_pos (show inb v lo hi from ⟨Int32.not_lt.mp a, Int32.not_lt.mp b⟩)]
      exact Ev_some rfl
theorem inbN_y {v lo hi : Int32} (h : inb v lo hi) : inbN v lo hi = 0 := if_pos h
theorem inbN_n {v lo hi : Int32} (h : ¬ inb v lo hi) : inbN v lo hi = 1 := if_neg h
theorem inbI_y {v lo hi : Int32} (h : inb v lo hi) : inbI v lo hi = 1 := if_pos h
theorem inbI_n {v lo hi : Int32} (h : ¬ inb v lo hi) : inbI v lo hi = 0 := if_neg h
theorem inbI_ok (v lo hi : Int32) : inbI v lo hi = 0 ∨ inbI v lo hi = 1 := by
  unfold inbI
  split
  · exact Or.inr rfl
  · exact Or.inl rfl
theorem inb_nat {v : Int32} {a b : Nat} (hb : b < 2 ^ 31) (h : inb v (nI a) (nI b)) (ha : a ≤ b) : ∃ k : Nat, a ≤ k ∧ k ≤ b ∧ v = nI k := by
  have h1 := Int32.le_iff_toInt_le.mp h.1
  have h2 := Int32.le_iff_toInt_le.mp h.2
  rw [nI_toInt (by omega)] at h1
  rw [nI_toInt hb] at h2
  refine ⟨v.toInt.toNat, by omega, by omega, ?_⟩
  refine Int32.toInt_inj.mp ?_
  rw [nI_toInt (by omega)]; omega
/-- v is the number of one of n things, or k before -/
theorem inb_int {v lo : Int32} {n : Nat} {a : Int} (hn : n ≤ 16) (hlo : lo.toInt = a) (ha : -2 ≤ a) (ha2 : a ≤ 0) : inb v lo (nI n - 1) ↔ ∃ z : Int, a ≤ z ∧ z < n ∧ v = iI z := by
  have e : (nI n - 1).toInt = (n : Int) - 1 := pk_sub_toInt (a := n) (b := 1) (by omega) (by omega)
  unfold inb
  rw [Int32.le_iff_toInt_le, Int32.le_iff_toInt_le, e, hlo]
  constructor
  · intro h
    refine ⟨v.toInt, h.1, by omega, ?_⟩
    refine Int32.toInt_inj.mp ?_
    rw [iI_toInt (by omega) (by omega)]
  · rintro ⟨z, h1, h2, rfl⟩
    rw [iI_toInt (by omega) (by omega)]; omega
theorem inb_ix {v : Int32} {n : Nat} (hn : n ≤ 16) (h : inb v 0 (nI n - 1)) : ∃ p : Nat, p < n ∧ v = nI p := by
  obtain ⟨z, h1, h2, h3⟩ := (inb_int hn (show (0 : Int32).toInt = 0 from rfl) (by omega) (by omega)).mp h
  exact ⟨z.toNat, by omega, by rw [h3, iI_nonneg h1]⟩
theorem p_cp {v : Int32} {u : St} {n : Nat} (h : gI u 1 = nI n) : Ev (fun n => FX4_checkPlace n v u) (inbN v 0 (nI n - 1), u) := by
  show Ev (fun n => fX4_checkPlace n 0 v u) _
  rw [vX4_checkPlace_0, h, Ev_bind p_cb]
  by_cases a : inbN v 0 (nI n - 1) = 0
  · simp only [if_pos a]; exact Ev_some (by rw [a])
  · simp only [if_neg a]; exact Ev_some rfl
theorem p_cq {v : Int32} {u : St} {n : Nat} (h : gI u 2 = nI n) : Ev (fun n => FX4_checkPoint n v u) (inbN v 0 (nI n - 1), u) := by
  show Ev (fun n => fX4_checkPoint n 0 v u) _
  rw [vX4_checkPoint_0, h, Ev_bind p_cb]
  by_cases a : inbN v 0 (nI n - 1) = 0
  · simp only [if_pos a]; exact Ev_some (by rw [a])
  · simp only [if_neg a]; exact Ev_some rfl
theorem q_isPlace {v : Int32} {u : St} {n : Nat} (h : gI u 2 = nI n) : Ev (fun n => FX5_isPlace n v u) (inbI v 0 (nI n - 1), u) := by
  show Ev (fun n => fX5_isPlace n 0 v u) _
  rw [vX5_isPlace_0, h, Ev_bind q_in]
  simp only [if_pos (inbI_ok v 0 (nI n - 1))]
  exact Ev_some rfl
theorem q_isPoint {v : Int32} {u : St} {n : Nat} (h : gI u 3 = nI n) : Ev (fun n => FX5_isPoint n v u) (inbI v 0 (nI n - 1), u) := by
  show Ev (fun n => fX5_isPoint n 0 v u) _
  rw [vX5_isPoint_0, h, Ev_bind q_in]
  simp only [if_pos (inbI_ok v 0 (nI n - 1))]
  exact Ev_some rfl
theorem q_isKind {v : Int32} {u : St} {n : Nat} (h : gI u 1 = nI n) : Ev (fun n => FX5_isKind n v u) (inbI v 0 (nI n - 1), u) := by
  show Ev (fun n => fX5_isKind n 0 v u) _
  rw [vX5_isKind_0, h, Ev_bind q_in]
  simp only [if_pos (inbI_ok v 0 (nI n - 1))]
  exact Ev_some rfl
/-! the lamps go -/
theorem p_lampsGo {d : Dt} {st mi : Nat} {dy am : Nat → Nat} {sn : Nat → Int} {j2 j3 j4 : Int64} {u : St} (hw : dt_wf d) (h : C0 d st mi dy am sn j2 j3 j4 u) : EvP (fun n => FX4_lampsGo n u) (fun v => C0 d st mi dy am sn j2 j3 j4 v ∧ C1 d am (fun _ => 0) (fun _ => 0) v) := by
  have hP := hw.1.2.1
  show EvP (fun n => fX4_lampsGo n 0 u) _
  rw [wX4_lampsGo_0]
  have hsa : Ev (fun n => FX1_startAnew n (sI (sI u 6 0) 8 0)) (sA (sA (sI (sI u 6 0) 8 0) 20 (fun j => if j < 7 then 0 else gA u 20 j)) 21 (fun j => if j < 7 then 0 else gA u 21 j)) := by
    show Ev (fun n => fX1_startAnew n 0 (sI (sI u 6 0) 8 0)) _
    rw [vX1_startAnew_0, Ev_bind (p_fill7 0 _), Ev_bind (p_fill7 0 _)]
    exact Ev_some rfl
  rw [EvP_bind hsa]
  refine EvP_some ⟨C0_mv h h.1.2 (fun i hi => ?_) (fun _ _ => rfl) (fun a ha => ?_), ⟨fun p hp => ?_, Or.inl rfl, Or.inl rfl⟩⟩
  · simp only [gI_sA, gI_sI, if_neg (show i ≠ 8 by omega), if_neg (show i ≠ 6 by omega)]
  · simp only [gA_sA, gA_sI, if_neg (show a ≠ 21 by omega), if_neg (show a ≠ 20 by omega)]
  · constructor
    · show (if p < 7 then (0 : Int32) else gA u 20 p) = _
      rw [if_pos (by omega)]; rfl
    · show (if p < 7 then (0 : Int32) else gA u 21 p) = _
      rw [if_pos (by omega)]; rfl
theorem q_renew {d : Dt} {st mi : Nat} {dy am : Nat → Nat} {sn : Nat → Int} {j2 j3 j4 : Int64} {u : St} (hw : dt_wf d) (h : M0 d st mi dy am sn j2 j3 j4 u) : EvP (fun n => FX5_renew n u) (fun v => M0 d st mi dy am sn j2 j3 j4 v ∧ M1 d (fun _ => 0) (fun _ => 0) v ∧ ∀ i, i < 6 → gI v i = gI u i) := by
  have hP := hw.1.2.1
  have key : ∀ (m i : Nat) (v : St), i + m = 7 → (∀ j, j < i → gA v 19 j = 0 ∧ gA v 20 j = 0) → gI v 6 = 0 → EvP (fun n => fX5_renew n 7 (nI i) v) (fun w => (∀ j, j < 7 → gA w 19 j = 0 ∧ gA w 20 j = 0) ∧ gI w 6 = 0 ∧ w.1 = v.1 ∧ w.2.1 = v.2.1 ∧ ∀ a, a ≠ 19 → a ≠ 20 → gA w a = gA v a) := by
    intro m
    induction m with
    | zero =>
      intro i v hi h0 h6
      rw [wX5_renew_7, n7]
      simp only [if_pos (nI_le (show 7 ≤ i by omega) (show i < 2 ^ 31 by omega))]
      exact EvP_some ⟨fun j hj => h0 j (by omega), h6, rfl, rfl, fun _ _ _ => rfl⟩
    | succ m ih =>
      intro i v hi h0 h6
      rw [wX5_renew_7, n7]
      simp only [if_neg (nI_ge (show i < 7 by omega) (show 7 < 2 ^ 31 by omega)), ck_nI (show i < 7 by omega) (by decide), if_true, nI_clamp (show i < 2 ^ 31 by omega), nI_1]
      refine EvP_imp (ih (i + 1) _ (by omega) (fun j hj => ?_) h6) (fun w hw2 => ⟨hw2.1, hw2.2.1, hw2.2.2.1, hw2.2.2.2.1, fun a a1 a2 => ?_⟩)
      · show upd (gA v 19) i 0 j = 0 ∧ upd (gA v 20) i 0 j = 0
        rw [up_at, up_at]
        by_cases g : j = i
        · rw [if_pos g, if_pos g]; exact ⟨rfl, rfl⟩
        · rw [if_neg g, if_neg g]; exact h0 j (by omega)
      · rw [hw2.2.2.2.2 a a1 a2]
        simp only [gA_sA, if_neg a1, if_neg a2]
  show EvP (fun n => fX5_renew n 0 0 u) _
  rw [wX5_renew_0]
  refine EvP_imp (key 7 0 _ (by omega) (fun j hj => absurd hj (by omega)) rfl) (fun w hw2 => ?_)
  obtain ⟨w1, w2, w3, w4, w5⟩ := hw2
  have hI : ∀ i, i ≠ 6 → gI w i = gI u i := fun i hi => by
    show w.1 i = _
    rw [w3]
    show gI (sI u 6 0) i = _
    rw [gI_sI, if_neg hi]
  refine ⟨M0_mv h ?_ (fun i hi => hI i (by omega)) (fun j _ => ?_) (fun a ha => ?_), ⟨fun p hp => ?_, Or.inl w2⟩, fun i hi => hI i (by omega)⟩
  · rw [w5 16 (by omega) (by omega)]; exact h.1.2
  · show w.2.1 j = _
    rw [w4]; rfl
  · rw [w5 a (by omega) (by omega)]; rfl
  · obtain ⟨a, c⟩ := w1 p (by omega)
    exact ⟨a, c⟩

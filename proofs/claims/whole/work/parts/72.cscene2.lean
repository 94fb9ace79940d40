/-! the class's scene -/
def bI (c : Bool) : Int32 := if c = true then 1 else 0
theorem bI_z (c : Bool) : bI c = 0 ↔ c = false := by cases c <;> decide
theorem bI_ok (c : Bool) : bI c = 0 ∨ bI c = 1 := by cases c <;> decide
theorem iI_sub (a b : Int) : iI a - iI b = iI (a - b) := (Int32.ofInt_sub a b).symm
theorem iI_l {z : Int} (h1 : -2147483648 ≤ z) (h2 : z < 2147483648) : (iI z).toInt64 = jL z := by
  refine Int64.toInt_inj.mp ?_
  rw [Int32.toInt_toInt64, iI_toInt h1 h2, jL_toInt (by omega) (by omega)]
/-- only dims and misses change -/
def frS (u v : St) : Prop := v.1 = u.1 ∧ v.2.1 = u.2.1 ∧ ∀ a, a ≠ 17 → gA v a = gA u a
theorem frS.rf (u : St) : frS u u := ⟨rfl, rfl, fun _ _ => rfl⟩
theorem frS.tr {u v w : St} (a : frS u v) (b : frS v w) : frS u w := ⟨b.1.trans a.1, b.2.1.trans a.2.1, fun k h => (b.2.2 k h).trans (a.2.2 k h)⟩
theorem lmC_mv {d : Dt} {u v : St} {b : Nat → Int} (h : lmC d u b) (hI : ∀ i, i < 4 → gI v i = gI u i) (hA : ∀ a, a ≠ 17 → gA v a = gA u a) : lmC d v b := by
  obtain ⟨h1, h2, h3, h4⟩ := h
  refine ⟨isC_mv h1 hI (fun a ha => hA a (by omega)), fun p k q a b e => ?_, h3, fun p hp => ?_⟩
  · rw [hA 10 (by omega)]; exact h2 p k q a b e
  · rw [hA 14 (by omega)]; exact h4 p hp
theorem frS.lm {d : Dt} {u v : St} {b : Nat → Int} (f : frS u v) (h : lmC d u b) : lmC d v b := lmC_mv h (fun i _ => by show v.1 i = u.1 i; rw [f.1]) f.2.2
theorem p_mv {d : Dt} (hw : dt_wf d) {b : Nat → Int} {am D : Nat → Nat} {p x : Nat} (hp : p < dP d) (hx : x ≤ 100) (hDp : D p ≤ 100) : ∀ (m q : Nat) (u : St), q + m = dQ d → lmC d u b → (∀ j, q ≤ j → j < dQ d → gL u 0 j = jL (mss d b am D j)) →
    EvP (fun n => fX3_moveTo n 13 (nI p) (nI x) (jL ((x : Int) - (D p : Int))) (nI q) u) (fun v => frS u v ∧ gA v 17 = upd (gA u 17) p (nI x) ∧ (∀ j, q ≤ j → j < dQ d → gL v 0 j = jL (mss d b am (dup0 D p x) j)) ∧ (∀ j, j < q → gL v 0 j = gL u 0 j)) := by
  have hP := hw.1.2.1
  have hQ := hw.1.2.2.1
  intro m
  induction m with
  | zero =>
    intro q u hq hl hm
    rw [wX3_moveTo_13, hl.1.1.2.2.1]
    simp only [if_pos (nI_le (show dQ d ≤ q by omega) (show q < 2 ^ 31 by omega)), ck_nI (show p < 7 by omega) (by decide), if_true, nI_clamp (show p < 2 ^ 31 by omega)]
    exact EvP_some ⟨⟨rfl, rfl, fun a ha => by rw [gA_sA, if_neg ha]⟩, by rw [gA_sA, if_pos rfl], fun j h1 h2 => absurd h2 (by omega), fun _ _ => rfl⟩
  | succ m ih =>
    intro q u hq hl hm
    have hq' : q < dQ d := by omega
    have hb := hl.2.2.1
    have bc := cl_le hw (hb p hp) q
    rw [wX3_moveTo_13, hl.1.1.2.2.1]
    simp only [if_neg (nI_ge hq' (show dQ d < 2 ^ 31 by omega)), ck_nI (show q < 16 by omega) (by decide), if_true]
    rw [EvP_bind (p_lampLight hw hl hp hq')]
    simp only [nI_clamp (show q < 2 ^ 31 by omega), hm q (Nat.le_refl q) hq', nI_jL (show cl d b p q < 2 ^ 31 by omega), jL_mul, jL_sub, nI_1]
    have e : mss d b am D q - ((x : Int) - (D p : Int)) * (cl d b p q : Int) = mss d b am (dup0 D p x) q := by
      rw [mss_dup hp, Int.mul_comm]
    rw [e]
    have fr : frS u (sL u 0 (vp_updL (gL u 0) q (jL (mss d b am (dup0 D p x) q)))) := ⟨rfl, rfl, fun _ _ => rfl⟩
    refine EvP_imp (ih (q + 1) _ (by omega) (fr.lm hl) (fun j h1 h2 => ?_)) (fun v hv => ?_)
    · rw [gL_sL, if_pos rfl, upL_at, if_neg (by omega)]; exact hm j (by omega) h2
    · obtain ⟨v1, v2, v3, v4⟩ := hv
      refine ⟨fr.tr v1, v2, fun j h1 h2 => ?_, fun j hj => ?_⟩
      · rcases Nat.lt_or_ge j (q + 1) with g | g
        · have : j = q := by omega
          subst this
          rw [v4 j (by omega), gL_sL, if_pos rfl, upL_at, if_pos rfl]
        · exact v3 j g h2
      · rw [v4 j (by omega), gL_sL, if_pos rfl, upL_at, if_neg (by omega)]
theorem p_moveTo {d : Dt} (hw : dt_wf d) {u : St} {b : Nat → Int} (h : lmC d u b) {am D : Nat → Nat} (hd : dmC d u b am D) {p x : Nat} (hp : p < dP d) (hx : x ≤ 100) : EvP (fun n => FX3_moveTo n (nI p) (nI x) u) (fun v => dmC d v b am (dup0 D p x) ∧ frS u v) := by
  have hP := hw.1.2.1
  have hDp := (hd.1 p hp).1
  show EvP (fun n => fX3_moveTo n 0 (nI p) (nI x) 0 0 u) _
  rw [wX3_moveTo_0]
  simp only [ck_nI (show p < 7 by omega) (by decide), if_true, nI_clamp (show p < 2 ^ 31 by omega), (hd.1 p hp).2]
  rw [← iI_nat x, ← iI_nat (D p), iI_sub, iI_l (by omega) (by omega), iI_nat]
  refine EvP_imp (p_mv hw hp hx hDp (dQ d) 0 u (by omega) h (fun j _ hj => (hd.2 j hj).2)) (fun v hv => ?_)
  obtain ⟨v1, v2, v3, -⟩ := hv
  refine ⟨⟨fun i hi => ?_, fun q hq => ⟨(hd.2 q hq).1, v3 q (by omega) hq⟩⟩, v1⟩
  rw [v2, up_at]
  unfold dup0
  by_cases g : i = p
  · rw [if_pos g, if_pos g]; exact ⟨hx, rfl⟩
  · rw [if_neg g, if_neg g]; exact hd.1 i hi
theorem dup0_self (D : Nat → Nat) (p : Nat) : dup0 D p (D p) = D := by
  funext i
  unfold dup0
  split
  · rename_i h; rw [h]
  · rfl
theorem iI_eqm1 {z : Int} (h1 : -1 ≤ z) (h2 : z < 2147483648) : iI z = -1 ↔ z < 0 := by
  rw [← iI_m1, iI_inj (by omega) h2 (by omega) (by omega)]; omega
theorem p_sweep4 {d : Dt} (hw : dt_wf d) {b : Nat → Int} {am : Nat → Nat} : ∀ (r p : Nat) (D : Nat → Nat) (ch : Bool) (u : St), p + r = dP d → lmC d u b → dmC d u b am D →
    EvP (fun n => fX3_sweep n 4 (bI ch) (nI p) u) (fun w => w.1 = bI (SW d b am r p (D, ch)).2 ∧ dmC d w.2 b am (SW d b am r p (D, ch)).1 ∧ frS u w.2) := by
  have hP := hw.1.2.1
  have hK := hw.1.1
  intro r
  induction r with
  | zero =>
    intro p D ch u hp hl hd
    rw [wX3_sweep_4, hl.1.1.2.1]
    simp only [if_pos (nI_le (show dP d ≤ p by omega) (show p < 2 ^ 31 by omega)), if_pos (bI_ok ch)]
    exact EvP_some ⟨rfl, hd, frS.rf u⟩
  | succ r ih =>
    intro p D ch u hp hl hd
    have hp' : p < dP d := by omega
    have hbp := hl.2.2.1 p hp'
    rw [wX3_sweep_4, hl.1.1.2.1]
    simp only [if_neg (nI_ge hp' (show dP d < 2 ^ 31 by omega)), ck_nI (show p < 7 by omega) (by decide), if_true, nI_clamp (show p < 2 ^ 31 by omega), hl.2.2.2 p hp', iI_eqm1 hbp.1 (show b p < 2147483648 by omega)]
    rw [SW]
    by_cases g : b p < 0
    · simp only [if_pos g, nI_1]
      exact ih (p + 1) D ch u (by omega) hl hd
    · simp only [if_neg g]
      rw [EvP_bind (p_fittingDim hw hl hd hp')]
      have hfd := FD_le d b am D p
      have hdp := hd.1 p hp'
      have he : (nI (FD d b am D p) = nI (D p)) ↔ FD d b am D p = D p := by
        rw [← iI_nat, ← iI_nat, iI_inj (by omega) (by omega) (by omega) (by omega)]; omega
      simp only [hdp.2, he]
      by_cases e : FD d b am D p = D p
      · simp only [if_pos e, nI_1]
        rw [show (dup0 D p (FD d b am D p), ch || decide (FD d b am D p ≠ D p)) = (D, ch) from by rw [e, dup0_self]; simp]
        exact ih (p + 1) D ch u (by omega) hl hd
      · simp only [if_neg e]
        refine EvP_bindP (p_moveTo hw hl hd hp' hfd) (fun w hv => ?_)
        rw [show (ch || decide (FD d b am D p ≠ D p)) = true from by simp [e]]
        rw [nI_1]
        exact EvP_imp (ih (p + 1) _ true w (by omega) (hv.2.lm hl) hv.1) (fun x hx => ⟨hx.1, hx.2.1, hv.2.tr hx.2.2⟩)
theorem p_sweep {d : Dt} (hw : dt_wf d) {b : Nat → Int} {am D : Nat → Nat} {u : St} (hl : lmC d u b) (hd : dmC d u b am D) :
    EvP (fun n => FX3_sweep n u) (fun w => w.1 = bI (SW d b am (dP d) 0 (D, false)).2 ∧ dmC d w.2 b am (SW d b am (dP d) 0 (D, false)).1 ∧ frS u w.2) := by
  show EvP (fun n => fX3_sweep n 0 0 0 u) _
  rw [wX3_sweep_0]
  exact p_sweep4 hw (dP d) 0 D false u (by omega) hl hd
/-- only dims, misses and the count of sweeps change -/
def frZ (u v : St) : Prop := (∀ i, i ≠ 7 → gI v i = gI u i) ∧ v.2.1 = u.2.1 ∧ ∀ a, a ≠ 17 → gA v a = gA u a
theorem frZ.tr {u v w : St} (a : frZ u v) (b : frZ v w) : frZ u w := ⟨fun i h => (b.1 i h).trans (a.1 i h), b.2.1.trans a.2.1, fun k h => (b.2.2 k h).trans (a.2.2 k h)⟩
theorem frZ.rf (u : St) : frZ u u := ⟨fun _ _ => rfl, rfl, fun _ _ => rfl⟩
theorem frZ.lm {d : Dt} {u v : St} {b : Nat → Int} (f : frZ u v) (h : lmC d u b) : lmC d v b := lmC_mv h (fun i _ => f.1 i (by omega)) f.2.2
theorem n20 : (20 : Int32) = nI 20 := by decide
theorem p_set70 {d : Dt} (hw : dt_wf d) {b : Nat → Int} {am : Nat → Nat} : ∀ (t k : Nat) (D : Nat → Nat) (ch : Bool) (u : St), k + t = 20 → lmC d u b → dmC d u b am D → gI u 7 = nI k →
    EvP (fun n => fX3_settle n 70 (bI ch) u) (fun v => gI v 7 = nI (SC d b am t D ch k).2 ∧ dmC d v b am (SC d b am t D ch k).1 ∧ frZ u v) := by
  intro t
  induction t with
  | zero =>
    intro k D ch u hk hl hd h7
    rw [wX3_settle_70, h7, n20]
    simp only [if_pos (nI_le (show 20 ≤ k by omega) (show k < 2 ^ 31 by omega)), ite_self]
    exact EvP_some ⟨h7, hd, frZ.rf u⟩
  | succ t ih =>
    intro k D ch u hk hl hd h7
    rw [wX3_settle_70, h7, n20]
    simp only [if_neg (nI_ge (show k < 20 by omega) (show 20 < 2 ^ 31 by omega)), bI_z]
    rw [SC]
    cases ch with
    | false =>
      simp only [if_true, if_neg (show ¬ (false = true) by decide)]
      exact EvP_some ⟨h7, hd, frZ.rf u⟩
    | true =>
      simp only [if_neg (show ¬ (true = false) by decide), if_true]
      refine EvP_bindP (p_sweep hw hl hd) (fun w hw2 => ?_)
      obtain ⟨e1, e2, e3⟩ := hw2
      have e7 : gI w.2 7 = nI k := by show w.2.1 7 = nI k; rw [e3.1]; exact h7
      rw [e1, e7, nI_1]
      have fr : frZ u (sI w.2 7 (nI (k + 1))) := ⟨fun i hi => by rw [gI_sI, if_neg hi]; show w.2.1 i = u.1 i; rw [e3.1], e3.2.1, e3.2.2⟩
      refine EvP_imp (ih (k + 1) _ _ _ (by omega) (fr.lm hl) e2 (by rw [gI_sI, if_pos rfl])) (fun v hv => ⟨hv.1, hv.2.1, fr.tr hv.2.2⟩)
theorem hasL_mono {b : Nat → Int} {i : Nat} (h : hasL b i = true) : ∀ m, hasL b (i + m) = true := by
  intro m
  induction m with
  | zero => exact h
  | succ m ih => show (hasL b (i + m) || decide (0 ≤ b (i + m))) = true; rw [ih]; rfl
theorem p_hasLamps {d : Dt} (hw : dt_wf d) {u : St} {b : Nat → Int} (h : lmC d u b) : Ev (fun n => FX0_hasLamps n u) (bI (hasL b (dP d)), u) := by
  have hP := hw.1.2.1
  have hK := hw.1.1
  have key : ∀ (m p : Nat), p + m = dP d → hasL b p = false → Ev (fun n => fX0_hasLamps n 2 (nI p) u) (bI (hasL b (dP d)), u) := by
    intro m
    induction m with
    | zero =>
      intro p hp h0
      rw [vX0_hasLamps_2, h.1.1.2.1]
      simp only [if_pos (nI_le (show dP d ≤ p by omega) (show p < 2 ^ 31 by omega))]
      have : dP d = p := by omega
      rw [this, h0]
      exact Ev_some rfl
    | succ m ih =>
      intro p hp h0
      have hp' : p < dP d := by omega
      have hbp := h.2.2.1 p hp'
      rw [vX0_hasLamps_2, h.1.1.2.1]
      simp only [if_neg (nI_ge hp' (show dP d < 2 ^ 31 by omega)), ck_nI (show p < 7 by omega) (by decide), if_true, nI_clamp (show p < 2 ^ 31 by omega), h.2.2.2 p hp', iI_eqm1 hbp.1 (show b p < 2147483648 by omega)]
      by_cases g : b p < 0
      · simp only [if_pos g, nI_1]
        refine ih (p + 1) (by omega) ?_
        show (hasL b p || decide (0 ≤ b p)) = false
        rw [h0]; simp; omega
      · simp only [if_neg g]
        have : hasL b (p + 1) = true := by
          show (hasL b p || decide (0 ≤ b p)) = true
          simp; right; omega
        have := hasL_mono this m
        rw [show p + 1 + m = dP d by omega] at this
        rw [this]
        exact Ev_some rfl
  show Ev (fun n => fX0_hasLamps n 0 0 u) _
  rw [vX0_hasLamps_0]
  exact key (dP d) 0 (by omega) rfl
theorem DS_0 (d : Dt) (b : Nat → Int) (q : Nat) : ∀ j, DS d b (fun _ => 0) q j = 0 := by
  intro j
  induction j with
  | zero => rfl
  | succ j ih => rw [DS, ih]; simp
theorem p_set23 {d : Dt} (hw : dt_wf d) {b : Nat → Int} {am : Nat → Nat} (ham : ∀ q, q < dQ d → am q ≤ 1000000) : ∀ (m q : Nat) (u : St), q + m = dQ d → lmC d u b → (∀ j, j < dQ d → gA u 16 j = nI (am j)) → (∀ j, j < 7 → gA u 17 j = 0) → (∀ j, j < q → gL u 0 j = jL (100 * (am j : Int))) →
    EvP (fun n => fX3_settle n 23 (nI q) u) (fun v => gI v 7 = nI (scn d b am).2 ∧ dmC d v b am (scn d b am).1 ∧ frZ u v) := by
  have hP := hw.1.2.1
  have hQ := hw.1.2.2.1
  intro m
  induction m with
  | zero =>
    intro q u hq hl h16 h17 hm
    rw [wX3_settle_23, hl.1.1.2.2.1]
    simp only [if_pos (nI_le (show dQ d ≤ q by omega) (show q < 2 ^ 31 by omega))]
    have fr : frZ u (sI u 7 0) := ⟨fun i hi => by rw [gI_sI, if_neg hi], rfl, fun _ _ => rfl⟩
    rw [EvP_bind (p_hasLamps hw (fr.lm hl))]
    refine EvP_imp (p_set70 hw 20 0 (fun _ => 0) (hasL b (dP d)) _ (by omega) (fr.lm hl) ⟨fun p hp => ⟨Nat.zero_le 100, h17 p (by omega)⟩, fun j hj => ⟨ham j hj, ?_⟩⟩ rfl) (fun v hv => ⟨hv.1, hv.2.1, fr.tr hv.2.2⟩)
    show gL u 0 j = _
    rw [hm j (by omega)]
    unfold mss
    rw [DS_0]; simp
  | succ m ih =>
    intro q u hq hl h16 h17 hm
    have hq' : q < dQ d := by omega
    have ha := ham q hq'
    rw [wX3_settle_23, hl.1.1.2.2.1]
    simp only [if_neg (nI_ge hq' (show dQ d < 2 ^ 31 by omega)), ck_nI (show q < 16 by omega) (by decide), if_true, nI_clamp (show q < 2 ^ 31 by omega), h16 q hq', nI_jL (show am q < 2 ^ 31 by omega), nI_1]
    rw [show (100 : Int64) = jL 100 from rfl, jL_mul]
    have fr : frZ u (sL u 0 (vp_updL (gL u 0) q (jL (100 * (am q : Int))))) := ⟨fun _ _ => rfl, rfl, fun _ _ => rfl⟩
    refine EvP_imp (ih (q + 1) _ (by omega) (fr.lm hl) h16 h17 (fun j hj => ?_)) (fun v hv => ⟨hv.1, hv.2.1, fr.tr hv.2.2⟩)
    rw [gL_sL, if_pos rfl, upL_at]
    rcases Nat.lt_or_ge j q with g | g
    · rw [if_neg (by omega)]; exact hm j g
    · have : j = q := by omega
      subst this; rw [if_pos rfl]
/-- what settling the scene may change -/
def frY (u v : St) : Prop := (∀ i, i ≠ 7 → i ≠ 8 → gI v i = gI u i) ∧ v.2.1 = u.2.1 ∧ ∀ a, a ≠ 17 → gA v a = gA u a
theorem p_scene {d : Dt} (hw : dt_wf d) {b : Nat → Int} {am : Nat → Nat} (ham : ∀ q, q < dQ d → am q ≤ 1000000) {u : St} (hl : lmC d u b) (h16 : ∀ j, j < dQ d → gA u 16 j = nI (am j)) (h8 : gI u 8 = 0) :
    EvP (fun n => FX3_settle n u) (fun v => gI v 7 = nI (scn d b am).2 ∧ dmC d v b am (scn d b am).1 ∧ gI v 8 = 1 ∧ frY u v) := by
  show EvP (fun n => fX3_settle n 0 0 u) _
  rw [wX3_settle_0]
  simp only [h8, if_true]
  rw [EvP_bind (p_fill7 0 (gA u 17))]
  have hl' : lmC d (sA (sI u 8 1) 17 (fun j => if j < 7 then 0 else gA u 17 j)) b := lmC_mv hl (fun i hi => by rw [gI_sA, gI_sI, if_neg (by omega)]) (fun a ha => by rw [gA_sA, if_neg ha]; rfl)
  refine EvP_imp (p_set23 hw ham (dQ d) 0 _ (by omega) hl' h16 (fun j hj => by rw [gA_sA, if_pos rfl, if_pos hj]) (fun j hj => absurd hj (by omega))) (fun v hv => ⟨hv.1, hv.2.1, ?_, ?_, ?_, ?_⟩)
  · rw [hv.2.2.1 8 (by omega)]; rfl
  · intro i h1 h2
    rw [hv.2.2.1 i h1, gI_sA, gI_sI, if_neg h2]
  · exact hv.2.2.2.1
  · intro a ha
    rw [hv.2.2.2.2 a ha, gA_sA, if_neg ha]; rfl
theorem lmC_of {d : Dt} {u : St} {acc : Option (Nat → Int)} (hw : dt_wf d) (hu : isC d u) (hli : liC d u) (ha : accC d u acc) : lmC d u (bbo acc) := by
  have hP := hw.1.2.1
  cases acc with
  | none => exact ⟨hu, hli, fun i _ => ⟨by show (-1 : Int) ≤ -1; omega, by show (-1 : Int) < _; omega⟩, fun p hp => by rw [ha.2 p (by omega)]; rfl⟩
  | some b => exact ⟨hu, hli, ha.1, ha.2.2.2.2.2.1⟩

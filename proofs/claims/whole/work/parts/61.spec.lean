/-! THE BEST choice, as a fold over all choices in their order -/
def cu (c : Nat → Int) (p : Nat) (k : Int) : Nat → Int := fun i => if i = p then k else c i
def cl (d : Dt) (c : Nat → Int) (p q : Nat) : Nat := if c p < 0 then 0 else lg d (c p).toNat p q
def LV (d : Dt) (c : Nat → Int) (q : Nat) : Nat → Nat
  | 0 => 0
  | j + 1 => LV d c q j + cl d c j q
def cwt (d : Dt) (c : Nat → Int) (p : Nat) : Nat := if c p < 0 then 0 else dA d 1 (c p).toNat
def WT (d : Dt) (c : Nat → Int) : Nat → Nat
  | 0 => 0
  | j + 1 => WT d c j + cwt d c j
/-- the least level, from the first point's on -/
def LM (d : Dt) (c : Nat → Int) : Nat → Nat
  | 0 => LV d c 0 (dP d)
  | j + 1 => if LV d c j (dP d) < LM d c j then LV d c j (dP d) else LM d c j
def lst (d : Dt) (c : Nat → Int) : Nat := if dQ d = 0 then 0 else LM d c (dQ d)
def SMq (d : Dt) (c : Nat → Int) : Nat → Nat
  | 0 => 0
  | j + 1 => SMq d c j + LV d c j (dP d)
def smx (d : Dt) (c : Nat → Int) : Nat := if 1 < SMq d c (dQ d) then SMq d c (dQ d) else 1
def vd (d : Dt) (c : Nat → Int) (n : Nat) : Prop := ∀ i, i < n → -1 ≤ c i ∧ c i < dK d
def en (d : Dt) (c : Nat → Int) : Prop := ∀ q, q < dQ d → dA d 8 q ≤ LV d c q (dP d)
def bt (d : Dt) (c b : Nat → Int) : Prop := WT d c (dP d) < WT d b (dP d) ∨ (WT d c (dP d) = WT d b (dP d) ∧ lst d b * smx d c < lst d c * smx d b)
noncomputable def lk (d : Dt) (acc : Option (Nat → Int)) (c : Nat → Int) : Option (Nat → Int) :=
  @ite _ (en d c) (Classical.propDecidable _) (match acc with | none => some c | some b => @ite _ (bt d c b) (Classical.propDecidable _) (some c) (some b)) acc
theorem lk_neg {d : Dt} {acc : Option (Nat → Int)} {c : Nat → Int} (h : ¬ en d c) : lk d acc c = acc := by unfold lk; exact if_neg h
theorem lk_none {d : Dt} {c : Nat → Int} (h : en d c) : lk d none c = some c := by unfold lk; exact if_pos h
theorem lk_some {d : Dt} {c b : Nat → Int} (h : en d c) : lk d (some b) c = @ite _ (bt d c b) (Classical.propDecidable _) (some c) (some b) := by unfold lk; exact if_pos h
def okk (d : Dt) (p : Nat) (k : Int) : Prop := dE d p = -2 ∨ dE d p = k
noncomputable def TK (d : Dt) (rec : (Nat → Int) → Option (Nat → Int) → Option (Nat → Int)) (p : Nat) (c : Nat → Int) : Nat → Option (Nat → Int) → Option (Nat → Int)
  | 0, acc => acc
  | j + 1, acc => TK d rec p c j (@ite _ (okk d p ((dK d : Int) - (j + 1 : Nat))) (Classical.propDecidable _) (rec (cu c p ((dK d : Int) - (j + 1 : Nat))) acc) acc)
noncomputable def TT (d : Dt) : Nat → (Nat → Int) → Option (Nat → Int) → Option (Nat → Int)
  | 0, c, acc => lk d acc c
  | r + 1, c, acc => TK d (TT d r) (dP d - (r + 1)) c (dK d + 1) acc
def fk (d : Dt) (i : Nat) : Int := if dE d i = -2 then -1 else dE d i
noncomputable def bst (d : Dt) : Option (Nat → Int) := TT d (dP d) (fk d) none
/-! agreeing choices -/
theorem LV_cg {d : Dt} {c b : Nat → Int} {q j : Nat} (h : ∀ i, i < j → c i = b i) : LV d c q j = LV d b q j := by
  induction j with
  | zero => rfl
  | succ j ih => rw [LV, LV, ih (fun i hi => h i (by omega))]; unfold cl; rw [h j (by omega)]
theorem WT_cg {d : Dt} {c b : Nat → Int} {j : Nat} (h : ∀ i, i < j → c i = b i) : WT d c j = WT d b j := by
  induction j with
  | zero => rfl
  | succ j ih => rw [WT, WT, ih (fun i hi => h i (by omega))]; unfold cwt; rw [h j (by omega)]
theorem cu_lt (c : Nat → Int) {p : Nat} (k : Int) {i : Nat} (h : i < p) : cu c p k i = c i := if_neg (by omega)
theorem cu_at (c : Nat → Int) (p : Nat) (k : Int) : cu c p k p = k := if_pos rfl
theorem vd_cu {d : Dt} {c : Nat → Int} {p : Nat} {k : Int} (h : vd d c p) (h1 : -1 ≤ k) (h2 : k < dK d) : vd d (cu c p k) (p + 1) := by
  intro i hi
  rcases Nat.lt_or_ge i p with q | q
  · rw [cu_lt c k q]; exact h i q
  · have : i = p := by omega
    subst this; rw [cu_at]; exact ⟨h1, h2⟩
theorem WT_mono {d : Dt} {c : Nat → Int} {i j : Nat} (h : i ≤ j) : WT d c i ≤ WT d c j := by
  induction j with
  | zero => have : i = 0 := by omega
            subst this; exact Nat.le_refl _
  | succ j ih =>
    rcases Nat.lt_or_ge i (j + 1) with q | q
    · have := ih (by omega); rw [WT]; omega
    · have : i = j + 1 := by omega
      subst this; exact Nat.le_refl _
/-! bounds -/
theorem cl_le {d : Dt} (hw : dt_wf d) {c : Nat → Int} {p : Nat} (h : -1 ≤ c p ∧ c p < dK d) (q : Nat) : cl d c p q ≤ 10000000 := by
  unfold cl
  split
  · omega
  · exact lg_le hw (by omega) p q
theorem LV_le {d : Dt} (hw : dt_wf d) {c : Nat → Int} {q j : Nat} (h : vd d c j) : LV d c q j ≤ 10000000 * j := by
  induction j with
  | zero => simp [LV]
  | succ j ih =>
    have a := ih (fun i hi => h i (by omega))
    have b := cl_le hw (h j (by omega)) q
    rw [LV]; omega
theorem cwt_le {d : Dt} (hw : dt_wf d) {c : Nat → Int} {p : Nat} (h : -1 ≤ c p ∧ c p < dK d) : cwt d c p ≤ 500 := by
  unfold cwt
  split
  · omega
  · exact (hw.2.1 (c p).toNat (by omega)).2.1.2
theorem WT_le {d : Dt} (hw : dt_wf d) {c : Nat → Int} {j : Nat} (h : vd d c j) : WT d c j ≤ 500 * j := by
  induction j with
  | zero => simp [WT]
  | succ j ih =>
    have a := ih (fun i hi => h i (by omega))
    have b := cwt_le hw (h j (by omega))
    rw [WT]; omega
theorem LM_le {d : Dt} (hw : dt_wf d) {c : Nat → Int} (h : vd d c (dP d)) (j : Nat) : LM d c j ≤ 70000000 := by
  have hP := hw.1.2.1
  induction j with
  | zero => have := LV_le hw (q := 0) h; rw [LM]; omega
  | succ j ih => rw [LM]; split
                 · omega
                 · exact ih
theorem lst_le {d : Dt} (hw : dt_wf d) {c : Nat → Int} (h : vd d c (dP d)) : lst d c ≤ 70000000 := by
  unfold lst; split
  · omega
  · exact LM_le hw h _
theorem SMq_le {d : Dt} (hw : dt_wf d) {c : Nat → Int} (h : vd d c (dP d)) (j : Nat) : SMq d c j ≤ 70000000 * j := by
  have hP := hw.1.2.1
  induction j with
  | zero => simp [SMq]
  | succ j ih => have := LV_le hw (q := j) h; rw [SMq]; omega
theorem smx_le {d : Dt} (hw : dt_wf d) {c : Nat → Int} (h : vd d c (dP d)) : smx d c ≤ 1120000000 := by
  have hQ := hw.1.2.2.1
  have := SMq_le hw h (dQ d)
  unfold smx; split <;> omega
theorem smx_pos (d : Dt) (c : Nat → Int) : 1 ≤ smx d c := by unfold smx; split <;> omega
/-! what a place and those behind it can give at most -/
noncomputable def ML (d : Dt) (p q : Nat) : Nat → Nat
  | 0 => 0
  | j + 1 => @ite _ (okk d p (j : Int)) (Classical.propDecidable _) (if ML d p q j < lg d j p q then lg d j p q else ML d p q j) (ML d p q j)
noncomputable def RE (d : Dt) (q : Nat) : Nat → Nat
  | 0 => 0
  | r + 1 => RE d q r + ML d (dP d - (r + 1)) q (dK d)
theorem ML_ge {d : Dt} {p q k n : Nat} (hk : k < n) (ho : okk d p (k : Int)) : lg d k p q ≤ ML d p q n := by
  induction n with
  | zero => omega
  | succ n ih =>
    rw [ML]
    rcases Nat.lt_or_ge k n with h | h
    · have := ih h
      split
      · split <;> omega
      · exact this
    · have : k = n := by omega
      subst this
      rw [if_pos ho]
      split <;> omega
theorem ML_le {d : Dt} (hw : dt_wf d) (p q : Nat) {n : Nat} (hn : n ≤ dK d) : ML d p q n ≤ 10000000 := by
  induction n with
  | zero => simp [ML]
  | succ n ih =>
    have a := ih (by omega)
    have b := lg_le hw (show n < dK d by omega) p q
    rw [ML]
    split
    · split <;> omega
    · exact a
theorem RE_le {d : Dt} (hw : dt_wf d) (q r : Nat) : RE d q r ≤ 10000000 * r := by
  induction r with
  | zero => simp [RE]
  | succ r ih => have := ML_le hw (dP d - (r + 1)) q (Nat.le_refl (dK d)); rw [RE]; omega
/-! leaving out what can't win -/
theorem TK_id {d : Dt} {rec : (Nat → Int) → Option (Nat → Int) → Option (Nat → Int)} {p : Nat} {c : Nat → Int} {acc : Option (Nat → Int)} {n : Nat} (hn : n ≤ dK d + 1) (h : ∀ k : Int, -1 ≤ k → k < dK d → okk d p k → rec (cu c p k) acc = acc) : TK d rec p c n acc = acc := by
  induction n with
  | zero => rfl
  | succ n ih =>
    rw [TK]
    have e : @ite _ (okk d p ((dK d : Int) - (n + 1 : Nat))) (Classical.propDecidable _) (rec (cu c p ((dK d : Int) - (n + 1 : Nat))) acc) acc = acc := by
      by_cases ho : okk d p ((dK d : Int) - (n + 1 : Nat))
      · rw [if_pos ho]; exact h _ (by omega) (by omega) ho
      · rw [if_neg ho]
    rw [e]; exact ih (by omega)
theorem TT_dark {d : Dt} {q : Nat} (hq : q < dQ d) : ∀ (r : Nat) (c : Nat → Int) (acc : Option (Nat → Int)), r ≤ dP d → LV d c q (dP d - r) + RE d q r < dA d 8 q → TT d r c acc = acc := by
  intro r
  induction r with
  | zero =>
    intro c acc _ h
    rw [TT]
    refine lk_neg (fun he => ?_)
    have := he q hq
    simp only [RE, Nat.sub_zero] at h
    omega
  | succ r ih =>
    intro c acc hr h
    rw [TT]
    refine TK_id (Nat.le_refl _) (fun k h1 h2 ho => ih _ _ (by omega) ?_)
    have e1 : dP d - r = (dP d - (r + 1)) + 1 := by omega
    rw [e1, LV, LV_cg (b := c) (fun i hi => cu_lt c k hi)]
    have e2 : cl d (cu c (dP d - (r + 1)) k) (dP d - (r + 1)) q ≤ ML d (dP d - (r + 1)) q (dK d) := by
      unfold cl
      rw [cu_at]
      split
      · omega
      · refine ML_ge (k := k.toNat) (by omega) ?_
        rw [Int.toNat_of_nonneg (by omega)]; exact ho
    rw [RE] at h
    omega
theorem TT_dear {d : Dt} {b : Nat → Int} : ∀ (r : Nat) (c : Nat → Int), r ≤ dP d → WT d b (dP d) < WT d c (dP d - r) → TT d r c (some b) = some b := by
  intro r
  induction r with
  | zero =>
    intro c _ h
    rw [Nat.sub_zero] at h
    rw [TT]
    by_cases he : en d c
    · rw [lk_some he, if_neg]
      rintro (x | x)
      · omega
      · omega
    · exact lk_neg he
  | succ r ih =>
    intro c hr h
    rw [TT]
    refine TK_id (Nat.le_refl _) (fun k h1 h2 ho => ih _ (by omega) ?_)
    have e1 : dP d - r = (dP d - (r + 1)) + 1 := by omega
    rw [e1, WT, WT_cg (b := c) (fun i hi => cu_lt c k hi)]
    omega

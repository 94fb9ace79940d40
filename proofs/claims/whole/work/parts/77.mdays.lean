/-! the reference's days -/
def enM (d : Dt) (u : St) (st : Nat) (dy : Nat → Nat) (sn : Nat → Int) : Prop := (gI u 5 = nI st ∧ 1 ≤ st ∧ st ≤ 100) ∧ (∀ q, q < dQ d → dy q ≤ 100000 ∧ gA u 12 q = nI (dy q)) ∧ (∀ p, p < dP d → -1 ≤ sn p ∧ sn p < dQ d ∧ gA u 7 p = iI (sn p))
theorem q_need31 {d : Dt} (hw : dt_wf d) {u : St} (hu : isM d u) {q L y : Nat} (hq : q < dQ d) (hL : L ≤ 10000000) (hy : y ≤ 100000) (e12 : gA u 12 q = nI y) : ∀ (t x : Nat), x + t = 100 → Ev (fun n => fX5_needOf n 31 0 (nI q) (lN L) (nI x) u) (nI (ndl L (dA d 8 q) y t x), u) := by
  have hQ := hw.1.2.2.1
  have w1 := (hw.2.2.2 q hq).2.2
  have w2 := (hu.2.2.2 q hq).2.2
  intro t
  induction t with
  | zero =>
    intro x hx
    rw [vX5_needOf_31, n100]
    simp only [if_pos (nI_le (show 100 ≤ x by omega) (show x < 2 ^ 31 by omega))]
    exact Ev_some rfl
  | succ t ih =>
    intro x hx
    rw [vX5_needOf_31, n100]
    have mx : L * x ≤ 10000000 * 100 := Nat.mul_le_mul hL (by omega)
    have md : L * x / 100 ≤ L * x := Nat.div_le_self _ _
    simp only [if_neg (nI_ge (show x < 100 by omega) (show 100 < 2 ^ 31 by omega)), ck_nI (show q < 16 by omega) (by decide), if_true, nI_clamp (show q < 2 ^ 31 by omega), if_neg (show ¬ (100 : Int64) = 0 by decide), w2, e12, nI_1]
    rw [nI_l (show dA d 8 q < 2 ^ 31 by omega), nI_l (show y < 2 ^ 31 by omega), nI_l (show x < 2 ^ 31 by omega), lN_mul, show (100 : Int64) = lN 100 from rfl, pk_lDiv (by omega) (by omega) (by omega), lN_add]
    simp only [pk_lLE (show dA d 8 q < 2 ^ 63 by omega) (show y + L * x / 100 < 2 ^ 63 by omega)]
    rw [ndl]
    by_cases g : dA d 8 q ≤ y + L * x / 100
    · simp only [if_pos g]
      exact Ev_some rfl
    · simp only [if_neg g]
      exact ih (x + 1) (by omega)
theorem q_needOf {d : Dt} (hw : dt_wf d) {u : St} {b : Nat → Int} (hl : lmM d u b) {st : Nat} {dy : Nat → Nat} {sn : Nat → Int} (he : enM d u st dy sn) {p : Nat} (hp : p < dP d) (hb : 0 ≤ b p) : Ev (fun n => FX5_needOf n (nI p) u) (nI (NE d b dy sn p), u) := by
  have hP := hw.1.2.1
  have hQ := hw.1.2.2.1
  have hK := hw.1.1
  obtain ⟨s1, s2, s3⟩ := he.2.2 p hp
  show Ev (fun n => fX5_needOf n 0 (nI p) 0 0 0 u) _
  rw [vX5_needOf_0]
  have cmp : (0 ≤ iI (sn p)) ↔ 0 ≤ sn p := by
    rw [Int32.le_iff_toInt_le, iI_toInt (by omega) (by omega)]; rfl
  simp only [ck_nI (show p < 7 by omega) (by decide), if_true, nI_clamp (show p < 2 ^ 31 by omega), s3, cmp]
  unfold NE
  by_cases g : 0 ≤ sn p
  · rw [if_neg (show ¬ sn p < 0 by omega)]
    simp only [if_pos g]
    rw [iI_nonneg g]
    have hq' : (sn p).toNat < dQ d := by omega
    obtain ⟨y1, y2⟩ := he.2.1 _ hq'
    have bc := cl_le hw (hl.2.1 p hp) (sn p).toNat
    rw [Ev_bind (q_lampLight hw hl hp hq' hb), nI_l (by omega)]
    exact q_need31 hw hl.1 hq' bc y1 y2 100 0 (by omega)
  · rw [if_pos (show sn p < 0 by omega)]
    simp only [if_neg g]
    exact Ev_some rfl
/-- place p's days in the reference, from the state u on -/
def dyM (wt ct p : Nat) (u v : St) (z : Nat × Nat × Nat × Nat) : Prop := gA v 19 = upd (gA u 19) p (nI z.1) ∧ gA v 20 = upd (gA u 20) p (nI z.2.1) ∧ gJ v 2 = gJ u 2 + lN (z.2.2.2 * wt) ∧ gJ v 3 = gJ u 3 + lN (z.2.2.1 * ct) ∧ gJ v 4 = gJ u 4 + lN z.2.2.1 ∧ v.1 = u.1 ∧ (∀ j, j < 2 → gJ v j = gJ u j) ∧ (∀ a, a ≠ 19 → a ≠ 20 → gA v a = gA u a) ∧ v.2.2.2 = u.2.2.2
theorem dyM.lm {wt ct p : Nat} {u v : St} {z : Nat × Nat × Nat × Nat} (h : dyM wt ct p u v z) {d : Dt} {b : Nat → Int} (hl : lmM d u b) : lmM d v b :=
  lmM_mv hl (fun i _ _ _ _ => by show v.1 i = u.1 i; rw [h.2.2.2.2.2.1]) (fun a a1 _ _ _ => h.2.2.2.2.2.2.2.1 a (by omega) (by omega))
theorem q_min132 {d : Dt} (hw : dt_wf d) {v : St} (hu : isM d v) {p k x : Nat} (hp : p < dP d) (hk : k < dK d) (h19 : gA v 19 p = nI x) (hx : x ≤ 100) : Ev (fun n => fX5_minute n 132 (nI p) 0 (nI k) v) (sJ v 2 (gJ v 2 + lN (x * dA d 1 k))) := by
  have hP := hw.1.2.1
  have hK := hw.1.1
  obtain ⟨r0, r1, r2, r3⟩ := hw.2.1 k hk
  obtain ⟨-, k1, k2, k3⟩ := hu.2.1 k hk
  rw [vX5_minute_132]
  simp only [ck_nI (show p < 7 by omega) (by decide), ck_nI (show k < 3 by omega) (by decide), if_true, nI_clamp (show p < 2 ^ 31 by omega), nI_clamp (show k < 2 ^ 31 by omega), h19, k1]
  rw [nI_l (by omega), nI_l (by omega), lN_mul]
  exact Ev_some rfl
theorem q_minute {d : Dt} (hw : dt_wf d) {u v : St} {b : Nat → Int} (hl : lmM d v b) {p k st need : Nat} (hp : p < dP d) (hk : b p = (k : Int)) (h5 : gI v 5 = nI st) (hs : st ≤ 100) (hn : need ≤ 100) {z : Nat × Nat × Nat × Nat} (h1 : z.1 ≤ 100) (h2 : z.2.1 ≤ 60 * dA d 2 k) (hz : dyM (dA d 1 k) (dA d 3 k) p u v z) :
    EvP (fun n => FX5_minute n (nI p) (nI need) v) (fun w => dyM (dA d 1 k) (dA d 3 k) p u w (mn st need (60 * dA d 2 k) z)) := by
  have hP := hw.1.2.1
  have hK := hw.1.1
  have hbp := hl.2.1 p hp
  have hk' : k < dK d := by omega
  obtain ⟨r0, r1, r2, r3⟩ := hw.2.1 k hk'
  obtain ⟨-, k1, k2, k3⟩ := hl.1.2.1 k hk'
  have e13 : gA v 13 p = nI k := by
    rw [(lmM_at hl hp (by omega)).1]; congr 1; omega
  obtain ⟨z19, z20, j2, j3, j4, zI, zJ, zA, zL⟩ := id hz
  have e19 : gA v 19 p = nI z.1 := by rw [z19, up_at, if_pos rfl]
  have e20 : gA v 20 p = nI z.2.1 := by rw [z20, up_at, if_pos rfl]
  have hst := stp_le (st := st) hn h1
  -- what follows once the new level is known
  have tail : EvP (fun n => if upd (gA v 19) p (nI (stp st need z.1)) p ≤ 0 then fX5_minute n 132 (nI p) 0 (nI k) (sA v 19 (upd (gA v 19) p (nI (stp st need z.1)))) else
      (if nI z.2.1 = (60 : Int32) * nI (dA d 2 k) then fX5_minute n 122 (nI p) 0 (nI k) (sJ (sJ (sA (sA v 19 (upd (gA v 19) p (nI (stp st need z.1)))) 20 (upd (gA v 20) p (0 : Int32))) 3 ((gJ v 3) + (nI (dA d 3 k)).toInt64)) 4 ((gJ v 4) + (1 : Int64)))
        else fX5_minute n 122 (nI p) 0 (nI k) (sA v 19 (upd (gA v 19) p (nI (stp st need z.1)))))) (fun w => dyM (dA d 1 k) (dA d 3 k) p u w (mn st need (60 * dA d 2 k) z)) := by
    have fr : ∀ (w : St), w.1 = v.1 → (∀ a, a ≠ 19 → a ≠ 20 → gA w a = gA v a) → isM d w := fun w hI hA => isM_mv hl.1 (fun i _ _ => by show w.1 i = v.1 i; rw [hI]) (fun a a1 _ => hA a (by omega) (by omega))
    rw [up_at, if_pos rfl]
    unfold mn
    by_cases g : stp st need z.1 = 0
    · simp only [g, if_pos (show nI 0 ≤ 0 by decide), if_true]
      refine EvP_of (q_min132 hw ?_ hp hk' (x := 0) ?_ (by omega)) ⟨?_, ?_, ?_, j3, j4, zI, ?_, ?_, zL⟩
      · exact fr _ rfl (fun a a1 _ => by rw [gA_sA, if_neg a1])
      · rw [gA_sA, if_pos rfl, up_at, if_pos rfl]
      · show upd (gA v 19) p (nI 0) = _
        rw [z19, upd_upd]
      · exact z20
      · show gJ v 2 + lN (0 * dA d 1 k) = _
        rw [Nat.zero_mul, j2]; exact Int64.add_zero _
      · intro j hj; rw [gJ_sJ, if_neg (by omega)]; exact zJ j hj
      · intro a a1 a2; rw [gA_sJ, gA_sA, if_neg a1]; exact zA a a1 a2
    · simp only [if_neg (nI_nle (show 0 < stp st need z.1 by omega) (show stp st need z.1 < 2 ^ 31 by omega)), if_neg g]
      rw [n60, pk_mul, nI_l (show dA d 3 k < 2 ^ 31 by omega)]
      simp only [nI_eq (show z.2.1 < 2 ^ 31 by omega) (show 60 * dA d 2 k < 2 ^ 31 by omega)]
      by_cases c : z.2.1 = 60 * dA d 2 k
      · simp only [if_pos c]
        rw [wX5_minute_122]
        simp only [ck_nI (show p < 7 by omega) (by decide), if_true, nI_clamp (show p < 2 ^ 31 by omega)]
        refine EvP_of (q_min132 hw ?_ hp hk' (x := stp st need z.1) ?_ hst) ⟨?_, ?_, ?_, ?_, ?_, zI, ?_, ?_, zL⟩
        · exact fr _ rfl (fun a a1 a2 => by simp only [gA_sA, gA_sJ, if_neg a1, if_neg a2])
        · simp only [gA_sA, gA_sJ, if_neg (show ¬ 19 = 20 by decide), if_true, up_at]
        · show upd (gA v 19) p _ = _
          rw [z19, upd_upd]
        · show upd (upd (gA v 20) p 0) p (upd (gA v 20) p 0 p + 1) = _
          rw [z20, upd_upd, upd_upd, up_at, if_pos rfl]; rfl
        · show gJ v 2 + _ = _
          rw [j2, Int64.add_assoc, lN_add, Nat.add_mul]
        · show gJ v 3 + _ = _
          rw [j3, Int64.add_assoc, lN_add, Nat.succ_mul]
        · show gJ v 4 + _ = _
          rw [j4, Int64.add_assoc, lN_1]
        · intro j hj
          simp only [gJ_sJ, gJ_sA, if_neg (show j ≠ 3 by omega), if_neg (show j ≠ 4 by omega), if_neg (show j ≠ 2 by omega)]
          exact zJ j hj
        · intro a a1 a2
          simp only [gA_sJ, gA_sA, if_neg a1, if_neg a2]
          exact zA a a1 a2
      · simp only [if_neg c]
        rw [wX5_minute_122]
        simp only [ck_nI (show p < 7 by omega) (by decide), if_true, nI_clamp (show p < 2 ^ 31 by omega)]
        refine EvP_of (q_min132 hw ?_ hp hk' (x := stp st need z.1) ?_ hst) ⟨?_, ?_, ?_, j3, j4, zI, ?_, ?_, zL⟩
        · exact fr _ rfl (fun a a1 a2 => by simp only [gA_sA, if_neg a1, if_neg a2])
        · simp only [gA_sA, if_neg (show ¬ 19 = 20 by decide), if_true, up_at]
        · show upd (gA v 19) p _ = _
          rw [z19, upd_upd]
        · show upd (gA v 20) p (gA v 20 p + 1) = _
          rw [e20, z20, upd_upd, nI_1]
        · show gJ v 2 + _ = _
          rw [j2, Int64.add_assoc, lN_add, Nat.add_mul]
        · intro j hj
          simp only [gJ_sJ, gJ_sA, if_neg (show j ≠ 2 by omega)]
          exact zJ j hj
        · intro a a1 a2
          simp only [gA_sJ, gA_sA, if_neg a1, if_neg a2]
          exact zA a a1 a2
  show EvP (fun n => fX5_minute n 0 (nI p) (nI need) 0 v) _
  rw [wX5_minute_0]
  have c1 : (nI need - nI z.1 ≤ nI st) ↔ (need : Int) - z.1 ≤ st := by
    rw [Int32.le_iff_toInt_le, pk_sub_toInt (by omega) (by omega), nI_toInt (by omega)]
  have en : -(nI st) = iI (-(st : Int)) := by
    rw [← iI_nat]; unfold iI; exact (Int32.ofInt_neg _).symm
  have c2 : (iI (-(st : Int)) ≤ nI need - nI z.1) ↔ -(st : Int) ≤ (need : Int) - z.1 := by
    rw [Int32.le_iff_toInt_le, pk_sub_toInt (by omega) (by omega), iI_toInt (by omega) (by omega)]
  simp only [ck_nI (show p < 7 by omega) (by decide), if_true, nI_clamp (show p < 2 ^ 31 by omega), e13, e19, e20, h5, en, c1, c2, ck_nI (show k < 3 by omega) (by decide), nI_clamp (show k < 2 ^ 31 by omega), k2, k3]
  by_cases g1 : (need : Int) - z.1 ≤ st
  · simp only [if_pos g1]
    by_cases g2 : -(st : Int) ≤ (need : Int) - z.1
    · simp only [if_pos g2]
      have e : nI z.1 + (nI need - nI z.1) = nI (stp st need z.1) := by
        have : stp st need z.1 = need := by unfold stp; omega
        rw [this, ← iI_nat z.1, ← iI_nat need, iI_sub]
        unfold iI
        rw [← Int32.ofInt_add]
        congr 1; omega
      simp only [e]
      exact tail
    · simp only [if_neg g2]
      have e : nI z.1 + iI (-(st : Int)) = nI (stp st need z.1) := by
        have : stp st need z.1 = z.1 - st := by unfold stp; omega
        rw [this, ← iI_nat z.1, ← iI_nat (z.1 - st)]
        unfold iI
        rw [← Int32.ofInt_add]
        congr 1; omega
      simp only [e]
      exact tail
  · simp only [if_neg g1]
    have e : nI z.1 + nI st = nI (stp st need z.1) := by
      have : stp st need z.1 = z.1 + st := by unfold stp; omega
      rw [this, nI_add]
    simp only [e]
    exact tail
theorem q_run75 {d : Dt} (hw : dt_wf d) {u : St} {b : Nat → Int} (hl : lmM d u b) {p k st need c : Nat} (hp : p < dP d) (hk : b p = (k : Int)) (h5 : gI u 5 = nI st) (hs : st ≤ 100) (hn : need ≤ 100) (hc : c ≤ 10000) {F : Int32 × St → Prop} : ∀ (t j : Nat) (z : Nat × Nat × Nat × Nat) (v : St), j + t = c → z.1 ≤ 100 → z.2.1 ≤ 60 * dA d 2 k → dyM (dA d 1 k) (dA d 3 k) p u v z →
    (∀ w, dyM (dA d 1 k) (dA d 3 k) p u w (MN st need (60 * dA d 2 k) t z) → EvP (fun n => fX5_run n 50 (nI c) (nI (p + 1)) 0 0 w) F) →
    EvP (fun n => fX5_run n 75 (nI c) (nI p) (nI need) (nI j) v) F := by
  have hK := hw.1.1
  have hbp := hl.2.1 p hp
  have hk' : k < dK d := by omega
  obtain ⟨r0, r1, r2, r3⟩ := hw.2.1 k hk'
  intro t
  induction t with
  | zero =>
    intro j z v hj h1 h2 hz kk
    rw [wX5_run_75]
    simp only [if_pos (nI_le (show c ≤ j by omega) (show j < 2 ^ 31 by omega)), nI_1]
    exact kk v hz
  | succ t ih =>
    intro j z v hj h1 h2 hz kk
    rw [wX5_run_75]
    simp only [if_neg (nI_ge (show j < c by omega) (show c < 2 ^ 31 by omega))]
    have h5v : gI v 5 = nI st := by show v.1 5 = _; rw [hz.2.2.2.2.2.1]; exact h5
    refine EvP_bindP (q_minute hw (hz.lm hl) hp hk h5v hs hn h1 h2 hz) (fun w hw2 => ?_)
    have ok := mn_ok (st := st) (z := z) hn (show 1 ≤ 60 * dA d 2 k by omega) h1 h2
    rw [nI_1]
    exact ih (j + 1) _ w (by omega) ok.1 ok.2 hw2 kk
def xyM (d : Dt) (u : St) (b : Nat → Int) (X Y : Nat → Nat) : Prop := ∀ p, p < dP d → X p ≤ 100 ∧ gA u 19 p = nI (X p) ∧ gA u 20 p = nI (Y p) ∧ (0 ≤ b p → Y p ≤ 60 * dA d 2 (b p).toNat)
def psM (d : Dt) (b : Nat → Int) (Z : Nat → Nat × Nat × Nat × Nat) (u v : St) (p : Nat) : Prop := (∀ i, i < p → gA v 19 i = nI (Z i).1 ∧ gA v 20 i = nI (Z i).2.1) ∧ (∀ i, p ≤ i → gA v 19 i = gA u 19 i ∧ gA v 20 i = gA u 20 i) ∧ (gJ v 2 = gJ u 2 + lN (S2 d b Z p) ∧ gJ v 3 = gJ u 3 + lN (S3 d b Z p) ∧ gJ v 4 = gJ u 4 + lN (S4 b Z p)) ∧ v.1 = u.1 ∧ (∀ j, j < 2 → gJ v j = gJ u j) ∧ (∀ a, a ≠ 19 → a ≠ 20 → gA v a = gA u a) ∧ v.2.2.2 = u.2.2.2
theorem q_run50 {d : Dt} (hw : dt_wf d) {u : St} {b : Nat → Int} (hl : lmM d u b) {st : Nat} {dy : Nat → Nat} {sn : Nat → Int} (he : enM d u st dy sn) {X Y : Nat → Nat} (hxy : xyM d u b X Y) {c : Nat} (hc : c ≤ 10000) :
    ∀ (m p : Nat) (v : St), p + m = dP d → psM d b (ZZ d b st dy sn c X Y) u v p → EvP (fun n => fX5_run n 50 (nI c) (nI p) 0 0 v) (fun w => ∃ v, w = (gI v 9 + nI c, sI v 9 (gI v 9 + nI c)) ∧ psM d b (ZZ d b st dy sn c X Y) u v (dP d)) := by
  have hP := hw.1.2.1
  have hK := hw.1.1
  intro m
  induction m with
  | zero =>
    intro p v hp hv
    obtain ⟨v1, v2, v3, vI, vJ, vA, vL⟩ := id hv
    have e1 : gI v 2 = nI (dP d) := by show v.1 2 = _; rw [vI]; exact hl.1.1.2.1
    rw [wX5_run_50, e1]
    simp only [if_pos (nI_le (show dP d ≤ p by omega) (show p < 2 ^ 31 by omega))]
    have : p = dP d := by omega
    subst this
    exact EvP_some ⟨v, rfl, hv⟩
  | succ m ih =>
    intro p v hp hv
    have hp' : p < dP d := by omega
    have hbp := hl.2.1 p hp'
    obtain ⟨v1, v2, v3, vI, vJ, vA, vL⟩ := id hv
    have hlv : lmM d v b := lmM_mv hl (fun i _ _ _ _ => by show v.1 i = u.1 i; rw [vI]) (fun a a1 _ _ _ => vA a (by omega) (by omega))
    have hev : enM d v st dy sn := ⟨⟨by show v.1 5 = _; rw [vI]; exact he.1.1, he.1.2⟩, by rw [vA 12 (by omega) (by omega)]; exact he.2.1, by rw [vA 7 (by omega) (by omega)]; exact he.2.2⟩
    rw [wX5_run_50, hlv.1.1.2.1]
    simp only [if_neg (nI_ge hp' (show dP d < 2 ^ 31 by omega))]
    rw [EvP_bind (q_hasLamp hw hlv hp')]
    obtain ⟨x1, x2, x3, x4⟩ := hxy p hp'
    by_cases g : b p < 0
    · rw [show decide (0 ≤ b p) = false from by simp; omega]
      simp only [bI_z, if_true, nI_1]
      refine ih (p + 1) v (by omega) ⟨fun i hi => ?_, fun i hi => v2 i (by omega), ?_, vI, vJ, vA, vL⟩
      · rcases Nat.lt_or_ge i p with h | h
        · exact v1 i h
        · have : i = p := by omega
          subst this
          have ez : ZZ d b st dy sn c X Y i = (X i, Y i, 0, 0) := if_pos g
          rw [ez, (v2 i h).1, (v2 i h).2]
          exact ⟨x2, x3⟩
      · rw [S2, S3, S4, if_pos g, if_pos g, if_pos g]; exact v3
    · rw [show decide (0 ≤ b p) = true from by simp; omega]
      simp only [bI_z, if_neg (show ¬ (true = false) by decide)]
      obtain ⟨k, hk⟩ : ∃ k : Nat, b p = (k : Int) := ⟨(b p).toNat, by omega⟩
      have hkn : (b p).toNat = k := by omega
      have ez : ZZ d b st dy sn c X Y p = MN st (NE d b dy sn p) (60 * dA d 2 k) c (X p, Y p, 0, 0) := by
        unfold ZZ; rw [if_neg g, hkn]
      have hy : Y p ≤ 60 * dA d 2 k := by rw [← hkn]; exact x4 (by omega)
      rw [EvP_bind (q_needOf hw hlv hev hp' (by omega))]
      refine q_run75 hw hlv hp' hk hev.1.1 hev.1.2.2 (NE_le d b dy sn p) hc c 0 (X p, Y p, 0, 0) v (by omega) x1 hy ⟨?_, ?_, ?_, ?_, ?_, rfl, fun _ _ => rfl, fun _ _ _ => rfl, rfl⟩ (fun w hw2 => ?_)
      · show gA v 19 = upd (gA v 19) p (nI (X p))
        rw [← x2, ← (v2 p (Nat.le_refl p)).1, upd_same]
      · show gA v 20 = upd (gA v 20) p (nI (Y p))
        rw [← x3, ← (v2 p (Nat.le_refl p)).2, upd_same]
      · show gJ v 2 = gJ v 2 + lN (0 * _)
        rw [Nat.zero_mul]; exact (Int64.add_zero _).symm
      · show gJ v 3 = gJ v 3 + lN (0 * _)
        rw [Nat.zero_mul]; exact (Int64.add_zero _).symm
      · show gJ v 4 = gJ v 4 + lN 0
        exact (Int64.add_zero _).symm
      · rw [← ez] at hw2
        obtain ⟨w20, w21, j2, j3, j4, wI, wJ, wA, wL⟩ := hw2
        refine ih (p + 1) w (by omega) ⟨fun i hi => ?_, fun i hi => ?_, ?_, wI.trans vI, fun j hj => (wJ j hj).trans (vJ j hj), fun a a1 a2 => (wA a a1 a2).trans (vA a a1 a2), wL.trans vL⟩
        · rw [w20, w21, up_at, up_at]
          by_cases h : i = p
          · rw [if_pos h, if_pos h, h]; exact ⟨rfl, rfl⟩
          · rw [if_neg h, if_neg h]; exact v1 i (by omega)
        · rw [w20, w21, up_at, up_at, if_neg (by omega), if_neg (by omega)]; exact v2 i (by omega)
        · rw [S2, S3, S4, if_neg g, if_neg g, if_neg g, hkn, j2, j3, j4, v3.1, v3.2.1, v3.2.2, Int64.add_assoc, Int64.add_assoc, Int64.add_assoc, lN_add, lN_add, lN_add]
          exact ⟨rfl, rfl, rfl⟩

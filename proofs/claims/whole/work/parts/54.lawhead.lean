/-! THE CLAIM OUT OF ONE WALK OF THE LAW'S BODY. Your part is whole_start (and what it stands on); all else here is the same for every law, but numbers. -/
def R_law : String := "LampChoiceLaw"
def lw_P (b : Addr) (xs : List Int32) (args : Array Value) (s : State) : Prop := args = #[.ref b] ∧ s.IntsAt b xs ∧ xs.length ≤ 2560 ∧ (Jvm.Cond.and given_1 narrow_1).before args s = true
def lw_Q (_ : Array Value) (s : State) (o : Outcome) (t : State) : Prop := o = .returned (some (.int 1)) ∧ Framed s o t [] 601024 7293034
def lw_Z (below : List Frame) (a : Array Value) (s : State) : State → Prop := fun t => ∃ o, t.status = .running ∧ Ended t below o ∧ lw_Q a s o t
/-- the law's own end, with 1 on the stack, nothing written that was there before, its room as the claim has it -/
theorem lw_ret {p : Program} {l : Launch} {e : Env} {s : State} {m : MethodId} {below : List Frame} {meth : Method} {c : Code} {b : Nat} (hx : p.tables.exec = Jvm.exec) (hb : c.code = code) (hr : meth.sig.returnType = ret) (hlocks : meth.locks = false) {pc : Nat} {H : Heap} {ls : Array Slot} (hdg : decode code pc = .ok (.ireturn, 1)) : W p l e room_1 s m #[Value.ref b] below meth c H [] 601024 7293034 (lw_Z below #[Value.ref b] s) (F0 m pc ls [.int 1]) := by
  intro T hT X
  obtain ⟨fs, hret, hrun, hended, hW, hframe⟩ := X.leave (v := some (.int 1)) (hlocks := hlocks) (fun h => by rw [hr] at h; cases h)
  have hmeth' : T.vm.method? m = some meth := X.method'
  refine ⟨T.setFrames fs, ?_, .returned (some (.int 1)), hrun, hended, rfl, ⟨_, rfl⟩, hW, hframe⟩
  jvm_step X.here [X.here.top, hx, hb, hdg, hmeth', hr, ret, narrow_b1]
  (try refine ⟨rfl, ?_⟩); (try refine ⟨rfl, ?_⟩)
  first | (intro acts; rw [hret _ acts rfl rfl rfl]) | rw [hret _ _ rfl rfl rfl]
  exact Steps.refl _
/-- what holds at the law's entry: the machine, the code, the tables' words (any of lw_tbl by 'hts w (by decide +kernel)'), the script of L ints xs at the cell b, what the Statement gives of the start (any of its parts by flat_of_before) -/
def lw_At (p : Program) (s : State) (m : MethodId) (meth : Method) (c : Code) (b L : Nat) (xs : Nat → Int32) : Prop :=
  p.tables.exec = Jvm.exec ∧ c.code = code ∧ meth.sig.returnType = ret ∧ c.maxLocals = 8 ∧ s.vm.findClass R_law = some m.cls ∧ (∀ w ∈ lw_tbl, w.before #[Value.ref b] s = true) ∧ va_X b L xs s s.heap ∧ b < s.heap.size ∧ meth.locks = false ∧ (Jvm.Cond.and given_1 narrow_1).before #[Value.ref b] s = true
/-- one step of the law, by the number of its call: class and reference come to answers that the law finds alike -/
def stepP (N j : Nat) (x1 x2 x3 x4 : Int32) (u v u' v' : St) : Prop := match j with
  | 0 => ∃ r s, FX4_kind N x1 x2 x3 x4 u = some r ∧ FX5_kind N x1 x2 x3 x4 v = some s ∧ gI s.2 0 = nI r.1 ∧ (r.1 = 0 → r.2.1.toInt64 = s.1.toInt64) ∧ r.1 ≤ 2 ∧ u' = r.2.2 ∧ v' = s.2
  | 1 => ∃ r s, FX4_place N x1 x2 u = some r ∧ FX5_place N x1 x2 v = some s ∧ gI s.2 0 = nI r.1 ∧ (r.1 = 0 → r.2.1.toInt64 = s.1.toInt64) ∧ r.1 ≤ 2 ∧ u' = r.2.2 ∧ v' = s.2
  | 2 => ∃ r s, FX4_point N x1 x2 x3 u = some r ∧ FX5_point N x1 x2 x3 v = some s ∧ gI s.2 0 = nI r.1 ∧ (r.1 = 0 → r.2.1.toInt64 = s.1.toInt64) ∧ r.1 ≤ 2 ∧ u' = r.2.2 ∧ v' = s.2
  | 3 => ∃ r s, FX4_height N x1 u = some r ∧ FX5_height N x1 v = some s ∧ gI s.2 0 = nI r.1 ∧ (r.1 = 0 → r.2.1.toInt64 = s.1.toInt64) ∧ r.1 ≤ 1 ∧ u' = r.2.2 ∧ v' = s.2
  | 4 => ∃ r s, FX4_hold N x1 x2 u = some r ∧ FX5_hold N x1 x2 v = some s ∧ gI s 0 = nI r.1 ∧ r.1 ≤ 1 ∧ u' = r.2 ∧ v' = s
  | 5 => ∃ r s, FX4_light N x1 x2 x3 u = some r ∧ FX5_light N x1 x2 x3 v = some s ∧ gI s.2 0 = nI r.1 ∧ (r.1 = 0 → r.2.1.toInt64 = s.1.toInt64) ∧ r.1 ≤ 1 ∧ u' = r.2.2 ∧ v' = s.2
  | 6 => ∃ r s, FX4_best N u = some r ∧ FX5_best N v = some s ∧ r.1 = s.1 ∧ u' = r.2 ∧ v' = s.2
  | 7 => ∃ r s, FX4_lamp N x1 u = some r ∧ FX5_lamp N x1 v = some s ∧ gI s.2 0 = nI r.1 ∧ (r.1 = 0 → r.2.1.toInt64 = s.1.toInt64) ∧ r.1 ≤ 1 ∧ u' = r.2.2 ∧ v' = s.2
  | 8 => ∃ r s, FX4_level N x1 u = some r ∧ FX5_level N x1 v = some s ∧ gI s.2 0 = nI r.1 ∧ (r.1 = 0 → r.2.1.toInt64 = s.1.toInt64) ∧ r.1 ≤ 1 ∧ u' = r.2.2 ∧ v' = s.2
  | 9 => ∃ r s, FX4_even N x1 u = some r ∧ FX5_even N x1 v = some s ∧ gI s.2 0 = nI r.1 ∧ (r.1 = 0 → r.2.1 = s.1) ∧ r.1 ≤ 1 ∧ u' = r.2.2 ∧ v' = s.2
  | 10 => ∃ r s, FX4_aim N x1 x2 u = some r ∧ FX5_aim N x1 x2 v = some s ∧ gI s.2 0 = nI r.1 ∧ (r.1 = 0 → r.2.1.toInt64 = s.1.toInt64) ∧ r.1 ≤ 1 ∧ u' = r.2.2 ∧ v' = s.2
  | 11 => ∃ r s, FX4_scene N u = some r ∧ FX5_scene N v = some s ∧ r.1 = s.1 ∧ u' = r.2 ∧ v' = s.2
  | 12 => ∃ r s, FX4_dim N x1 u = some r ∧ FX5_dim N x1 v = some s ∧ gI s.2 0 = nI r.1 ∧ (r.1 = 0 → r.2.1.toInt64 = s.1.toInt64) ∧ r.1 ≤ 1 ∧ u' = r.2.2 ∧ v' = s.2
  | 13 => ∃ r s, FX4_miss N x1 u = some r ∧ FX5_miss N x1 v = some s ∧ gI s.2 0 = nI r.1 ∧ (r.1 = 0 → r.2.1 = s.1) ∧ r.1 ≤ 1 ∧ u' = r.2.2 ∧ v' = s.2
  | 14 => ∃ r s, FX4_sensor N x1 x2 u = some r ∧ FX5_sensor N x1 x2 v = some s ∧ gI s 0 = nI r.1 ∧ r.1 ≤ 1 ∧ u' = r.2 ∧ v' = s
  | 15 => ∃ r s, FX4_daylight N x1 x2 u = some r ∧ FX5_daylight N x1 x2 v = some s ∧ gI s.2 0 = nI r.1 ∧ (r.1 = 0 → r.2.1.toInt64 = s.1.toInt64) ∧ r.1 ≤ 1 ∧ u' = r.2.2 ∧ v' = s.2
  | 16 => ∃ r s, FX4_step N x1 u = some r ∧ FX5_step N x1 v = some s ∧ gI s.2 0 = nI r.1 ∧ (r.1 = 0 → r.2.1.toInt64 = s.1.toInt64) ∧ r.1 ≤ 1 ∧ u' = r.2.2 ∧ v' = s.2
  | 17 => ∃ r s, FX4_run N x1 u = some r ∧ FX5_run N x1 v = some s ∧ gI s.2 0 = nI r.1 ∧ (r.1 = 0 → r.2.1.toInt64 = s.1.toInt64) ∧ r.1 ≤ 2 ∧ u' = r.2.2 ∧ v' = s.2
  | 18 => ∃ r s, FX4_own N x1 x2 u = some r ∧ FX5_own N x1 x2 v = some s ∧ gI s.2 0 = nI r.1 ∧ (r.1 = 0 → r.2.1.toInt64 = s.1.toInt64) ∧ r.1 ≤ 1 ∧ u' = r.2.2 ∧ v' = s.2
  | 19 => ∃ r s, FX4_used N x1 u = some r ∧ FX5_used N x1 v = some s ∧ gI s.2 0 = nI r.1 ∧ (r.1 = 0 → r.2.1 = s.1) ∧ r.1 ≤ 1 ∧ u' = r.2.2 ∧ v' = s.2
  | _ => u' = u ∧ v' = v
def opj (x : Int32) : Nat := (x &&& 31).toNatClampNeg
def lawR (N : Nat) (xs : Nat → Int32) (L : Nat) : Nat → Nat → St → St → Prop
  | 0, i, _, _ => L < i + 5
  | k + 1, i, u, v => L < i + 5 ∨ ∃ u' v', stepP N (opj (xs i)) (xs (i + 1)) (xs (i + 2)) (xs (i + 3)) (xs (i + 4)) u v u' v' ∧ lawR N xs L k (i + 5) u' v'
def low (ad am : Nat → Nat) (oa : Nat) (cI cL : ClassId) (u v : St) (o : Nat → Int64) : va_W := cow ad oa cI cL u o ++ mw am cI cL v
theorem lw_cond {L i : Nat} (hL : L ≤ 2560) (hi : i ≤ 2570) : (Int32.ofNat L - 5 < nI i) ↔ L < i + 5 := by
  have e : (Int32.ofNat L - 5).toInt = (L : Int) - 5 := pk_sub_toInt (a := L) (b := 5) (by omega) (by omega)
  rw [Int32.lt_iff_toInt_lt, e, nI_toInt (by omega)]
  omega
theorem lw_in {L i j : Nat} (hL : L ≤ 2560) (h : i + j < L) : vp_in (nI i + nI j) L ∧ (nI i + nI j).toNatClampNeg = i + j := by
  rw [nI_add]
  exact ⟨vp_in_nI h (by omega), nI_clamp (by omega)⟩

theorem wp_l {D : va_G} {cl : List vw_C} {a b : va_W} {H : Heap} (h : va_P D cl (a ++ b) H) : va_P D cl a H := fun k q hk => h k q (by
  have hlt : k < a.length := (List.getElem?_eq_some_iff.mp hk).1
  rw [List.getElem?_append_left hlt]; exact hk)
theorem wp_r {D : va_G} {cl : List vw_C} {a b : va_W} {H : Heap} (h : va_P D cl (a ++ b) H) : va_P D cl b H := fun k q hk => h (a.length + k) q (by
  rw [List.getElem?_append_right (by omega), Nat.add_sub_cancel_left]; exact hk)
theorem wd_l {A : Nat → Prop} {a b : va_W} (h : va_D A (a ++ b)) : va_D A a := by
  have e : ∀ (k : Nat) (q : Nat × va_E), a[k]? = some q → (a ++ b)[k]? = some q := fun k q hk => by
    have hlt : k < a.length := (List.getElem?_eq_some_iff.mp hk).1
    rw [List.getElem?_append_left hlt]; exact hk
  exact ⟨fun i j p q hi hj hpq => h.1 i j p q (e i p hi) (e j q hj) hpq, fun k q hk => h.2 k q (e k q hk)⟩
theorem wd_r {A : Nat → Prop} {a b : va_W} (h : va_D A (a ++ b)) : va_D A b := by
  have e : ∀ (k : Nat) (q : Nat × va_E), b[k]? = some q → (a ++ b)[a.length + k]? = some q := fun k q hk => by
    rw [List.getElem?_append_right (by omega), Nat.add_sub_cancel_left]; exact hk
  exact ⟨fun i j p q hi hj hpq => by have := h.1 _ _ p q (e i p hi) (e j q hj) hpq; omega, fun k q hk => h.2 _ q (e k q hk)⟩
/-- the cells of two parts of a world are apart -/
theorem wd_x {A : Nat → Prop} {a b : va_W} (h : va_D A (a ++ b)) {i j : Nat} {p q : Nat × va_E} (hi : a[i]? = some p) (hj : b[j]? = some q) : p.1 ≠ q.1 := by
  have hlt : i < a.length := (List.getElem?_eq_some_iff.mp hi).1
  intro e
  have := h.1 i (a.length + j) p q (by rw [List.getElem?_append_left hlt]; exact hi) (by rw [List.getElem?_append_right (by omega), Nat.add_sub_cancel_left]; exact hj) e
  omega
/-- the callee's cells are the first part -/
theorem wj_l {A0 : Nat → Prop} {D : va_G} {cl : List vw_C} {a a' b : va_W} {H H1 : Heap} (hP : va_P D cl (a ++ b) H) (hD : va_D A0 (a ++ b)) (hk : ∀ q : Nat, q < H.size → ¬ va_A a H.size q → H1[q]? = H[q]?) (hF : ∀ q, va_A a H.size q → A0 q) (hP1 : va_P D cl a' H1) (hD1 : va_D (va_A a H.size) a') : va_P D cl (a' ++ b) H1 ∧ va_D A0 (a' ++ b) := by
  have hb := wp_r hP
  refine ⟨va_P.app hP1 (fun k q hq => (hb k q hq).kept (hk q.1 (hb k q hq).lt ?_)), va_D.app (hD1.weaken (fun _ _ _ h => hF _ h)) (wd_r hD) (fun i j p q hi hj e => ?_)⟩
  · rintro (⟨i, e, hi⟩ | h)
    · exact wd_x hD hi hq rfl
    · have := (hb k q hq).lt; omega
  · rcases hD1.2 i p hi with ⟨x, e2, hx⟩ | h
    · exact wd_x hD hx hj e
    · have := (hb j q hj).lt
      rw [← e] at this; omega
/-- the callee's cells are the last part -/
theorem wj_r {A0 : Nat → Prop} {D : va_G} {cl : List vw_C} {a b b' : va_W} {H H1 : Heap} (hP : va_P D cl (a ++ b) H) (hD : va_D A0 (a ++ b)) (hk : ∀ q : Nat, q < H.size → ¬ va_A b H.size q → H1[q]? = H[q]?) (hF : ∀ q, va_A b H.size q → A0 q) (hP1 : va_P D cl b' H1) (hD1 : va_D (va_A b H.size) b') : va_P D cl (a ++ b') H1 ∧ va_D A0 (a ++ b') := by
  have ha := wp_l hP
  refine ⟨va_P.app (fun k q hq => (ha k q hq).kept (hk q.1 (ha k q hq).lt ?_)) hP1, va_D.app (wd_l hD) (hD1.weaken (fun _ _ _ h => hF _ h)) (fun i j p q hi hj e => ?_)⟩
  · rintro (⟨i, e, hi⟩ | h)
    · exact wd_x hD hq hi rfl
    · have := (ha k q hq).lt; omega
  · rcases hD1.2 j q hj with ⟨x, e2, hx⟩ | h
    · exact wd_x hD hi hx e
    · have := (ha i p hi).lt
      rw [e] at this; omega
theorem wf_of {A0 : Nat → Prop} {a : va_W} {H0 H : Heap} {locs : List Loc} (hD : va_D A0 a) (hS : va_S A0 H0 H locs) (hA : ∀ q, H0.size ≤ q → A0 q) : ∀ q, va_A a H.size q → A0 q := freeAll hD hS hA
theorem upL_at0 (o : Nat → Int64) (x : Int64) : vp_updL o (0 : Int32).toNatClampNeg x (0 : Int32).toNatClampNeg = x := if_pos rfl
theorem FX5_thrown_N (N : Nat) (v : St) (h : 1 ≤ N) : FX5_thrown N v = some (gI v 0, v) := by
  obtain ⟨k, rfl⟩ : ∃ k, N = k + 1 := ⟨N - 1, by omega⟩
  rfl

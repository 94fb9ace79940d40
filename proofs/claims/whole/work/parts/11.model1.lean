def fX5_isIn (n pc : Nat) (v0 : Int32) (v1 : Int32) (v2 : Int32) : Option (Int32) := match n with
  | 0 => none
  | n + 1 => match pc with
    | 0 => (if v0 < v1 then some (0 : Int32) else (if v2 < v0 then some (0 : Int32) else some (1 : Int32)))
    | _ => none
theorem eX5_isIn_0 (n : Nat) (v0 : Int32) (v1 : Int32) (v2 : Int32) : fX5_isIn (n + 1) 0 v0 v1 v2 = (if v0 < v1 then some (0 : Int32) else (if v2 < v0 then some (0 : Int32) else some (1 : Int32))) := rfl
theorem vX5_isIn_0 (v0 : Int32) (v1 : Int32) (v2 : Int32) (r : Int32) : Ev (fun n => fX5_isIn n 0 v0 v1 v2) r ↔ Ev (fun n => (if v0 < v1 then some (0 : Int32) else (if v2 < v0 then some (0 : Int32) else some (1 : Int32)))) r := Ev_succ (fun n => fX5_isIn n 0 v0 v1 v2) r
def FX5_isIn (n : Nat) (v0 : Int32) (v1 : Int32) (v2 : Int32) : Option (Int32) := fX5_isIn n 0 v0 v1 v2
set_option maxHeartbeats 4000000 in
set_option maxRecDepth 100000 in
theorem mX5_isIn (l : Launch) (sz : Nat) (z0 : Int32) (z1 : Int32) (z2 : Int32) (n : Nat) (r : Int32) (hf0 : FX5_isIn n z0 z1 z2 = some r) : Met l yX5_isIn wsX5_isIn ({ frames := 0, cells := 0, slots := 0, locals := 0 }) (va_Pc [.int z0, .int z1, .int z2] (nPre sz)) (va_Qi (fun a (_ : Unit) => a = r) (fun _ _ => True) (va_A [] sz)) 0 0 (va_A [] sz) := by
  refine Met.ofW (cc := cX5_isIn) (maxL := 3) (ret := (some .boolean)) (by decide) rfl ?_
  intro p e s m args below meth c s₁ B hml hv
  obtain ⟨rfl, hsz⟩ := hv
  have hsz : s.heap.size = sz := hsz
  have hx := B.exec
  have hb := B.bytes
  have hr := B.returns
  have hts := atoms_spec (ws := wsX5_isIn) B.pre
  have hown : s.vm.findClass RX5 = some m.cls := findClass_of_methodNamed B.named
  have hlocks := B.notSynchronized
  subst hsz
  generalize hAe : va_A ([]) s.heap.size = A at ⊢
  have hA : ∀ q : Nat, s.heap.size ≤ q → A q := fun q h => by rw [← hAe]; exact Or.inr h
  have hS : va_S A s.heap s.heap [] := va_S.rf
  have hl := lv_entry ([.int z0, .int z1, .int z2]) (n := 3) (Nat.le_of_ble_eq_true rfl)
  rw [lg_entry_eq]
  generalize (lg_sl ([.int z0, .int z1, .int z2]) ++ List.replicate (3 - (lg_sl ([.int z0, .int z1, .int z2])).length) Slot.unset).toArray = ls at hl ⊢
  have hl : lv_has ls 3 [(0, .int z0), (1, .int z1), (2, .int z2)] := hl
  have key : ∀ n : Nat, (∀ (v0 : Int32) (v1 : Int32) (v2 : Int32) (H : Heap) (locs : List Loc) (ls : Array Slot), fX5_isIn n 0 v0 v1 v2 = some r → va_S A s.heap H locs → lv_has ls 3 [(0, .int v0), (1, .int v1), (2, .int v2)] → W p l e (headSpec wsX5_isIn ({ frames := 0, cells := 0, slots := 0, locals := 0 })).room s m ([.int z0, .int z1, .int z2] : List Value).toArray below meth c H locs 0 0 (MQ below (va_Qi (fun a (_ : Unit) => a = r) (fun _ _ => True) A) ([.int z0, .int z1, .int z2] : List Value).toArray s 0 0 A) (F0 m 0 ls [])) := by
    intro n
    induction n with
    | zero => exact (fun _ _ _ _ _ _ hf => nomatch (show (none : Option (Int32)) = some r from hf))
    | succ n ih =>
      have ih0 := ih
      · intro v0 v1 v2 H locs ls hf hS hl
        have hf := (eX5_isIn_0 n v0 v1 v2).symm.trans hf
        refine lv_iload_n hx hb dX5_isIn_0 rfl (lv_at hl 0 rfl) ?_
        refine lv_iload_n hx hb dX5_isIn_1 rfl (lv_at hl 1 rfl) ?_
        refine lv_icmp_lt (tgt := 14) hx hb dX5_isIn_2 (by decide) (fun c_1 => ?_) (fun c_1 => ?_)
        · have hf := (if_pos c_1).symm.trans hf
          refine lv_iconst (v := 0) hx hb dX5_isIn_14 (by decide) ?_
          have hf := Option.some.inj hf
          exact W.zret (v := (0 : Int32)) hx hb hr rfl (fun t ht hW => ⟨⟨(0 : Int32), (), rfl, hf, trivial⟩, hS.F ht⟩) hS.2.2 dX5_isIn_15
        · have hf := (if_neg c_1).symm.trans hf
          refine lv_iload_n hx hb dX5_isIn_5 rfl (lv_at hl 0 rfl) ?_
          refine lv_iload_n hx hb dX5_isIn_6 rfl (lv_at hl 2 rfl) ?_
          refine lv_icmp_gt (tgt := 14) hx hb dX5_isIn_7 (by decide) (fun c_2 => ?_) (fun c_2 => ?_)
          · have hf := (if_pos c_2).symm.trans hf
            refine lv_iconst (v := 0) hx hb dX5_isIn_14 (by decide) ?_
            have hf := Option.some.inj hf
            exact W.zret (v := (0 : Int32)) hx hb hr rfl (fun t ht hW => ⟨⟨(0 : Int32), (), rfl, hf, trivial⟩, hS.F ht⟩) hS.2.2 dX5_isIn_15
          · have hf := (if_neg c_2).symm.trans hf
            refine lv_iconst (v := 1) hx hb dX5_isIn_10 (by decide) ?_
            refine lv_goto (tgt := 15) hx hb dX5_isIn_11 (by decide) ?_
            have hf := Option.some.inj hf
            exact W.zret (v := (1 : Int32)) hx hb hr rfl (fun t ht hW => ⟨⟨(1 : Int32), (), rfl, hf, trivial⟩, hS.F ht⟩) hS.2.2 dX5_isIn_15
  exact (key n) z0 z1 z2 _ _ ls hf0 hS (lv_sub hl [0, 1, 2] rfl)

def fX5_common (n pc : Nat) (w0 : Int64) (w2 : Int64) (w4 : Int64) (w6 : Int64) : Option (Int64) := match n with
  | 0 => none
  | n + 1 => match pc with
    | 0 => fX5_common n 6 0 0 w0 w2
    | 6 => (if w6 ≤ (0 : Int64) then some w4 else (if w6 = 0 then none else fX5_common n 6 0 0 w6 (w4 - w4 / w6 * w6)))
    | _ => none
theorem eX5_common_0 (n : Nat) (w0 : Int64) (w2 : Int64) (w4 : Int64) (w6 : Int64) : fX5_common (n + 1) 0 w0 w2 w4 w6 = fX5_common n 6 0 0 w0 w2 := rfl
theorem eX5_common_6 (n : Nat) (w0 : Int64) (w2 : Int64) (w4 : Int64) (w6 : Int64) : fX5_common (n + 1) 6 w0 w2 w4 w6 = (if w6 ≤ (0 : Int64) then some w4 else (if w6 = 0 then none else fX5_common n 6 0 0 w6 (w4 - w4 / w6 * w6))) := rfl
theorem vX5_common_0 (w0 : Int64) (w2 : Int64) (w4 : Int64) (w6 : Int64) (r : Int64) : Ev (fun n => fX5_common n 0 w0 w2 w4 w6) r ↔ Ev (fun n => fX5_common n 6 0 0 w0 w2) r := Ev_succ (fun n => fX5_common n 0 w0 w2 w4 w6) r
theorem vX5_common_6 (w0 : Int64) (w2 : Int64) (w4 : Int64) (w6 : Int64) (r : Int64) : Ev (fun n => fX5_common n 6 w0 w2 w4 w6) r ↔ Ev (fun n => (if w6 ≤ (0 : Int64) then some w4 else (if w6 = 0 then none else fX5_common n 6 0 0 w6 (w4 - w4 / w6 * w6)))) r := Ev_succ (fun n => fX5_common n 6 w0 w2 w4 w6) r
def FX5_common (n : Nat) (w0 : Int64) (w2 : Int64) : Option (Int64) := fX5_common n 0 w0 w2 0 0
set_option maxHeartbeats 4000000 in
set_option maxRecDepth 100000 in
theorem mX5_common (l : Launch) (sz : Nat) (z0 : Int64) (z2 : Int64) (n : Nat) (r : Int64) (hf0 : FX5_common n z0 z2 = some r) : Met l yX5_common wsX5_common ({ frames := 0, cells := 0, slots := 0, locals := 0 }) (va_Pc [.long z0, .long z2] (nPre sz)) (va_Ql (fun a (_ : Unit) => a = r) (fun _ _ => True) (va_A [] sz)) 0 0 (va_A [] sz) := by
  refine Met.ofW (cc := cX5_common) (maxL := 10) (ret := (some .long)) (by decide) rfl ?_
  intro p e s m args below meth c s₁ B hml hv
  obtain ⟨rfl, hsz⟩ := hv
  have hsz : s.heap.size = sz := hsz
  have hx := B.exec
  have hb := B.bytes
  have hr := B.returns
  have hts := atoms_spec (ws := wsX5_common) B.pre
  have hown : s.vm.findClass RX5 = some m.cls := findClass_of_methodNamed B.named
  have hlocks := B.notSynchronized
  subst hsz
  generalize hAe : va_A ([]) s.heap.size = A at ⊢
  have hA : ∀ q : Nat, s.heap.size ≤ q → A q := fun q h => by rw [← hAe]; exact Or.inr h
  have hS : va_S A s.heap s.heap [] := va_S.rf
  have hl := lv_entry ([.long z0, .long z2]) (n := 10) (Nat.le_of_ble_eq_true rfl)
  rw [lg_entry_eq]
  generalize (lg_sl ([.long z0, .long z2]) ++ List.replicate (10 - (lg_sl ([.long z0, .long z2])).length) Slot.unset).toArray = ls at hl ⊢
  have hl : lv_has ls 10 [(0, .long z0), (2, .long z2)] := hl
  have key : ∀ n : Nat, (∀ (w0 : Int64) (w2 : Int64) (w4 : Int64) (w6 : Int64) (H : Heap) (locs : List Loc) (ls : Array Slot), fX5_common n 0 w0 w2 w4 w6 = some r → va_S A s.heap H locs → lv_has ls 10 [(0, .long w0), (2, .long w2)] → W p l e (headSpec wsX5_common ({ frames := 0, cells := 0, slots := 0, locals := 0 })).room s m ([.long z0, .long z2] : List Value).toArray below meth c H locs 0 0 (MQ below (va_Ql (fun a (_ : Unit) => a = r) (fun _ _ => True) A) ([.long z0, .long z2] : List Value).toArray s 0 0 A) (F0 m 0 ls [])) ∧ (∀ (w0 : Int64) (w2 : Int64) (w4 : Int64) (w6 : Int64) (H : Heap) (locs : List Loc) (ls : Array Slot), fX5_common n 6 w0 w2 w4 w6 = some r → va_S A s.heap H locs → lv_has ls 10 [(4, .long w4), (6, .long w6)] → W p l e (headSpec wsX5_common ({ frames := 0, cells := 0, slots := 0, locals := 0 })).room s m ([.long z0, .long z2] : List Value).toArray below meth c H locs 0 0 (MQ below (va_Ql (fun a (_ : Unit) => a = r) (fun _ _ => True) A) ([.long z0, .long z2] : List Value).toArray s 0 0 A) (F0 m 6 ls [])) := by
    intro n
    induction n with
    | zero => exact ⟨(fun _ _ _ _ _ _ _ hf => nomatch (show (none : Option (Int64)) = some r from hf)), (fun _ _ _ _ _ _ _ hf => nomatch (show (none : Option (Int64)) = some r from hf))⟩
    | succ n ih =>
      obtain ⟨ih0, ih1⟩ := ih
      refine ⟨?_, ?_⟩
      · intro w0 w2 w4 w6 H locs ls hf hS hl
        have hf := (eX5_common_0 n w0 w2 w4 w6).symm.trans hf
        refine lv_lload_n hx hb dX5_common_0 rfl (lv_at hl 0 rfl) ?_
        refine lv_lstore (lv' := [(4, .long w0), (0, .long w0), (2, .long w2)]) hx hb dX5_common_1 hl (by decide) rfl (fun ls hl => ?_)
        refine lv_lload_n hx hb dX5_common_3 rfl (lv_at hl 2 rfl) ?_
        refine lv_lstore (lv' := [(6, .long w2), (4, .long w0), (0, .long w0), (2, .long w2)]) hx hb dX5_common_4 hl (by decide) rfl (fun ls hl => ?_)
        exact ih1 0 0 w0 w2 H locs ls hf hS (lv_sub hl [1, 0] rfl)
      · intro w0 w2 w4 w6 H locs ls hf hS hl
        have hf := (eX5_common_6 n w0 w2 w4 w6).symm.trans hf
        refine lv_lload hx hb dX5_common_6 (lv_at hl 1 rfl) ?_
        refine lv_lconst (v := 0) hx hb dX5_common_8 (by decide) ?_
        refine W.lcmp hx hb dX5_common_9 ?_
        refine lv_if_le (tgt := 31) hx hb dX5_common_10 (by decide) (fun c_1 => ?_) (fun c_1 => ?_)
        · have c_1 := (lg_cmp_le w6 (0 : Int64)).mp c_1
          have hf := (if_pos c_1).symm.trans hf
          refine lv_lload hx hb dX5_common_31 (lv_at hl 0 rfl) ?_
          have hf := Option.some.inj hf
          exact W.lret (v := w4) hx hb hr (fun t ht hW => ⟨⟨w4, (), rfl, hf, trivial⟩, hS.F ht⟩) hS.2.2 dX5_common_33
        · have c_1 := fun q => c_1 ((lg_cmp_le w6 (0 : Int64)).mpr q)
          have hf := (if_neg c_1).symm.trans hf
          refine lv_lload hx hb dX5_common_13 (lv_at hl 0 rfl) ?_
          refine lv_lload hx hb dX5_common_15 (lv_at hl 1 rfl) ?_
          obtain ⟨h_2, hf⟩ := nz_of hf
          refine lv_lrem hx hb dX5_common_17 h_2 ?_
          refine lv_lstore (lv' := [(8, .long (w4 - w4 / w6 * w6)), (4, .long w4), (6, .long w6)]) hx hb dX5_common_18 hl (by decide) rfl (fun ls hl => ?_)
          refine lv_lload hx hb dX5_common_20 (lv_at hl 2 rfl) ?_
          refine lv_lstore (lv' := [(4, .long w6), (8, .long (w4 - w4 / w6 * w6)), (6, .long w6)]) hx hb dX5_common_22 hl (by decide) rfl (fun ls hl => ?_)
          refine lv_lload hx hb dX5_common_24 (lv_at hl 1 rfl) ?_
          refine lv_lstore (lv' := [(6, .long (w4 - w4 / w6 * w6)), (4, .long w6), (8, .long (w4 - w4 / w6 * w6))]) hx hb dX5_common_26 hl (by decide) rfl (fun ls hl => ?_)
          refine lv_goto (tgt := 6) hx hb dX5_common_28 (by decide) ?_
          exact ih1 0 0 w6 (w4 - w4 / w6 * w6) H locs ls hf hS (lv_sub hl [1, 0] rfl)
  exact (key n).1 z0 z2 0 0 _ _ ls hf0 hS (lv_sub hl [0, 1] rfl)

def fX5_isKind (n pc : Nat) (v1 : Int32) (u : St) : Option (Int32 × St) := match n with
  | 0 => none
  | n + 1 => match pc with
    | 0 => ((FX5_isIn n v1 (0 : Int32) ((gI u 1) - (1 : Int32))).bind fun w_1 => (if w_1 = 0 ∨ w_1 = 1 then some (w_1, u) else none))
    | _ => none
theorem eX5_isKind_0 (n : Nat) (v1 : Int32) (u : St) : fX5_isKind (n + 1) 0 v1 u = ((FX5_isIn n v1 (0 : Int32) ((gI u 1) - (1 : Int32))).bind fun w_1 => (if w_1 = 0 ∨ w_1 = 1 then some (w_1, u) else none)) := rfl
theorem vX5_isKind_0 (v1 : Int32) (u : St) (r : Int32 × St) : Ev (fun n => fX5_isKind n 0 v1 u) r ↔ Ev (fun n => ((FX5_isIn n v1 (0 : Int32) ((gI u 1) - (1 : Int32))).bind fun w_1 => (if w_1 = 0 ∨ w_1 = 1 then some (w_1, u) else none))) r := Ev_succ (fun n => fX5_isKind n 0 v1 u) r
def FX5_isKind (n : Nat) (v1 : Int32) (u : St) : Option (Int32 × St) := fX5_isKind n 0 v1 u
set_option maxHeartbeats 4000000 in
set_option maxRecDepth 100000 in
theorem mX5_isKind (l : Launch) (dC : Nat → ClassId) (dI : Nat → Nat → Nat) (cI cL : ClassId) (ad : Nat → Nat) (sz : Nat) (u : St) (z1 : Int32) (n : Nat) (r : Int32 × St) (hf0 : FX5_isKind n z1 u = some r) : Met l yX5_isKind wsX5_isKind ({ frames := 1, cells := 0, slots := 0, locals := 22 }) (va_Pc [.ref (ad 0), .int z1] (wPre dC dI cI cL (mw ad cI cL u) sz)) (va_Qi (fun a t => (a, t) = r) (fun t => wPost dC dI cI cL (va_A (mw ad cI cL u) sz) (mw ad cI cL t)) (va_A (mw ad cI cL u) sz)) 0 0 (va_A (mw ad cI cL u) sz) := by
  refine Met.ofW (cc := cX5_isKind) (maxL := 2) (ret := (some .boolean)) (by decide) rfl ?_
  intro p e s m args below meth c s₁ B hml hv
  obtain ⟨rfl, hsz, hP, hK, hD0, hZ⟩ := hv
  have hx := B.exec
  have hb := B.bytes
  have hr := B.returns
  have hts := atoms_spec (ws := wsX5_isKind) B.pre
  have hown : s.vm.findClass RX5 = some m.cls := findClass_of_methodNamed B.named
  have hlocks := B.notSynchronized
  subst hsz
  have hD := hD0.self (sz := s.heap.size)
  generalize hAe : va_A (mw ad cI cL u) s.heap.size = A at hD ⊢
  have hA : ∀ q : Nat, s.heap.size ≤ q → A q := fun q h => by rw [← hAe]; exact Or.inr h
  have hS : va_S A s.heap s.heap [] := va_S.rf
  have iX5 : ∀ w ∈ u_ws RX5 TX5 36, w ∈ wsX5_isKind := fun _ h => List.mem_cons_of_mem _ (List.mem_append_right _ h)
  have k_0 := hts (.fieldLink RX5 83 "LampChoiceModel" "kinds" "I") (by decide +kernel)
  have hl := lv_entry ([.ref (ad 0), .int z1]) (n := 2) (Nat.le_of_ble_eq_true rfl)
  rw [lg_entry_eq]
  generalize (lg_sl ([.ref (ad 0), .int z1]) ++ List.replicate (2 - (lg_sl ([.ref (ad 0), .int z1])).length) Slot.unset).toArray = ls at hl ⊢
  have hl : lv_has ls 2 [(0, .ref (ad 0)), (1, .int z1)] := hl
  have key : ∀ n : Nat, (∀ (v1 : Int32) (u : St) (H : Heap) (locs : List Loc) (ls : Array Slot), fX5_isKind n 0 v1 u = some r → va_P (dC, dI) vwCl (mw ad cI cL u) H → va_D A (mw ad cI cL u) → va_S A s.heap H locs → lv_has ls 2 [(0, .ref (ad 0)), (1, .int v1)] → W p l e (headSpec wsX5_isKind ({ frames := 1, cells := 0, slots := 0, locals := 22 })).room s m ([.ref (ad 0), .int z1] : List Value).toArray below meth c H locs 0 0 (MQ below (va_Qi (fun a t => (a, t) = r) (fun t => wPost dC dI cI cL A (mw ad cI cL t)) A) ([.ref (ad 0), .int z1] : List Value).toArray s 0 0 A) (F0 m 0 ls [])) := by
    intro n
    induction n with
    | zero => exact (fun _ _ _ _ _ hf => nomatch (show (none : Option (Int32 × St)) = some r from hf))
    | succ n ih =>
      have ih0 := ih
      · intro v1 u H locs ls hf hP hD hS hl
        have hf := (eX5_isKind_0 n v1 u).symm.trans hf
        refine lv_iload_n hx hb dX5_isKind_0 rfl (lv_at hl 1 rfl) ?_
        refine lv_iconst (v := 0) hx hb dX5_isKind_1 (by decide) ?_
        refine lv_aload_n hx hb dX5_isKind_2 rfl (lv_at hl 0 rfl) ?_
        refine va_get (D := (dC, dI)) (ci := 5) (v := .int (gI u 1)) (C := RX5) (T := TX5) (N := 36) hx hb hts iX5 hown hK hP 0 rfl rfl 1 (by decide) k_0 (fun _ h9 => h9) rfl dX5_isKind_3 ?_
        refine lv_iconst (v := 1) hx hb dX5_isKind_6 (by decide) ?_
        refine lv_isub hx hb dX5_isKind_7 ?_
        obtain ⟨w_1, hw_1, hf⟩ := ob hf
        have hFc := freeNil hS hA
        refine va_calli (va_runS (As := [.int v1, .int (0 : Int32), .int ((gI u 1) - (1 : Int32))]) (rest := []) ⟨hx, hb, hml, hown, hts⟩ (mX5_isIn l H.size v1 (0 : Int32) ((gI u 1) - (1 : Int32)) n w_1 hw_1) (va_cwS 3 hts gX5_isKind_X5_isIn rfl rfl rfl (by decide +kernel) ⟨Nat.le_of_ble_eq_true rfl, Nat.le_of_ble_eq_true rfl⟩) ⟨nPre_blind, nPre_of⟩ rfl rfl hl.1 rfl (lv_room (Nat.le_of_ble_eq_true rfl)) dX5_isKind_8 ⟨Nat.zero_le _, Nat.zero_le _⟩) hS (fun q _ h => hFc q h) hFc (fun r2 u2 t H1 locs ht hvm hw hB hz1 hk1 hS => ?_)
        subst r2
        have hP := keepP hP hk1
        clear hFc hk1 hB
        generalize H1 = H at hP hS ⊢
        obtain ⟨h_2, hf⟩ := ps_of hf
        have hf := Option.some.inj hf
        exact W.zret (v := w_1) hx hb hr (nar_bool h_2) (fun t ht hW => ⟨⟨w_1, u, rfl, hf, ⟨by rw [ht]; exact hP, va_K.moved hW.alike hK, hD⟩⟩, hS.F ht⟩) hS.2.2 dX5_isKind_11
  exact (key n) z1 u _ _ ls hf0 hP hD hS (lv_sub hl [0, 1] rfl)

def fX5_isPlace (n pc : Nat) (v1 : Int32) (u : St) : Option (Int32 × St) := match n with
  | 0 => none
  | n + 1 => match pc with
    | 0 => ((FX5_isIn n v1 (0 : Int32) ((gI u 2) - (1 : Int32))).bind fun w_1 => (if w_1 = 0 ∨ w_1 = 1 then some (w_1, u) else none))
    | _ => none
theorem eX5_isPlace_0 (n : Nat) (v1 : Int32) (u : St) : fX5_isPlace (n + 1) 0 v1 u = ((FX5_isIn n v1 (0 : Int32) ((gI u 2) - (1 : Int32))).bind fun w_1 => (if w_1 = 0 ∨ w_1 = 1 then some (w_1, u) else none)) := rfl
theorem vX5_isPlace_0 (v1 : Int32) (u : St) (r : Int32 × St) : Ev (fun n => fX5_isPlace n 0 v1 u) r ↔ Ev (fun n => ((FX5_isIn n v1 (0 : Int32) ((gI u 2) - (1 : Int32))).bind fun w_1 => (if w_1 = 0 ∨ w_1 = 1 then some (w_1, u) else none))) r := Ev_succ (fun n => fX5_isPlace n 0 v1 u) r
def FX5_isPlace (n : Nat) (v1 : Int32) (u : St) : Option (Int32 × St) := fX5_isPlace n 0 v1 u
set_option maxHeartbeats 4000000 in
set_option maxRecDepth 100000 in
theorem mX5_isPlace (l : Launch) (dC : Nat → ClassId) (dI : Nat → Nat → Nat) (cI cL : ClassId) (ad : Nat → Nat) (sz : Nat) (u : St) (z1 : Int32) (n : Nat) (r : Int32 × St) (hf0 : FX5_isPlace n z1 u = some r) : Met l yX5_isPlace wsX5_isPlace ({ frames := 1, cells := 0, slots := 0, locals := 22 }) (va_Pc [.ref (ad 0), .int z1] (wPre dC dI cI cL (mw ad cI cL u) sz)) (va_Qi (fun a t => (a, t) = r) (fun t => wPost dC dI cI cL (va_A (mw ad cI cL u) sz) (mw ad cI cL t)) (va_A (mw ad cI cL u) sz)) 0 0 (va_A (mw ad cI cL u) sz) := by
  refine Met.ofW (cc := cX5_isPlace) (maxL := 2) (ret := (some .boolean)) (by decide) rfl ?_
  intro p e s m args below meth c s₁ B hml hv
  obtain ⟨rfl, hsz, hP, hK, hD0, hZ⟩ := hv
  have hx := B.exec
  have hb := B.bytes
  have hr := B.returns
  have hts := atoms_spec (ws := wsX5_isPlace) B.pre
  have hown : s.vm.findClass RX5 = some m.cls := findClass_of_methodNamed B.named
  have hlocks := B.notSynchronized
  subst hsz
  have hD := hD0.self (sz := s.heap.size)
  generalize hAe : va_A (mw ad cI cL u) s.heap.size = A at hD ⊢
  have hA : ∀ q : Nat, s.heap.size ≤ q → A q := fun q h => by rw [← hAe]; exact Or.inr h
  have hS : va_S A s.heap s.heap [] := va_S.rf
  have iX5 : ∀ w ∈ u_ws RX5 TX5 36, w ∈ wsX5_isPlace := fun _ h => List.mem_cons_of_mem _ (List.mem_append_right _ h)
  have k_0 := hts (.fieldLink RX5 90 "LampChoiceModel" "places" "I") (by decide +kernel)
  have hl := lv_entry ([.ref (ad 0), .int z1]) (n := 2) (Nat.le_of_ble_eq_true rfl)
  rw [lg_entry_eq]
  generalize (lg_sl ([.ref (ad 0), .int z1]) ++ List.replicate (2 - (lg_sl ([.ref (ad 0), .int z1])).length) Slot.unset).toArray = ls at hl ⊢
  have hl : lv_has ls 2 [(0, .ref (ad 0)), (1, .int z1)] := hl
  have key : ∀ n : Nat, (∀ (v1 : Int32) (u : St) (H : Heap) (locs : List Loc) (ls : Array Slot), fX5_isPlace n 0 v1 u = some r → va_P (dC, dI) vwCl (mw ad cI cL u) H → va_D A (mw ad cI cL u) → va_S A s.heap H locs → lv_has ls 2 [(0, .ref (ad 0)), (1, .int v1)] → W p l e (headSpec wsX5_isPlace ({ frames := 1, cells := 0, slots := 0, locals := 22 })).room s m ([.ref (ad 0), .int z1] : List Value).toArray below meth c H locs 0 0 (MQ below (va_Qi (fun a t => (a, t) = r) (fun t => wPost dC dI cI cL A (mw ad cI cL t)) A) ([.ref (ad 0), .int z1] : List Value).toArray s 0 0 A) (F0 m 0 ls [])) := by
    intro n
    induction n with
    | zero => exact (fun _ _ _ _ _ hf => nomatch (show (none : Option (Int32 × St)) = some r from hf))
    | succ n ih =>
      have ih0 := ih
      · intro v1 u H locs ls hf hP hD hS hl
        have hf := (eX5_isPlace_0 n v1 u).symm.trans hf
        refine lv_iload_n hx hb dX5_isPlace_0 rfl (lv_at hl 1 rfl) ?_
        refine lv_iconst (v := 0) hx hb dX5_isPlace_1 (by decide) ?_
        refine lv_aload_n hx hb dX5_isPlace_2 rfl (lv_at hl 0 rfl) ?_
        refine va_get (D := (dC, dI)) (ci := 5) (v := .int (gI u 2)) (C := RX5) (T := TX5) (N := 36) hx hb hts iX5 hown hK hP 0 rfl rfl 6 (by decide) k_0 (fun _ h9 => h9) rfl dX5_isPlace_3 ?_
        refine lv_iconst (v := 1) hx hb dX5_isPlace_6 (by decide) ?_
        refine lv_isub hx hb dX5_isPlace_7 ?_
        obtain ⟨w_1, hw_1, hf⟩ := ob hf
        have hFc := freeNil hS hA
        refine va_calli (va_runS (As := [.int v1, .int (0 : Int32), .int ((gI u 2) - (1 : Int32))]) (rest := []) ⟨hx, hb, hml, hown, hts⟩ (mX5_isIn l H.size v1 (0 : Int32) ((gI u 2) - (1 : Int32)) n w_1 hw_1) (va_cwS 3 hts gX5_isPlace_X5_isIn rfl rfl rfl (by decide +kernel) ⟨Nat.le_of_ble_eq_true rfl, Nat.le_of_ble_eq_true rfl⟩) ⟨nPre_blind, nPre_of⟩ rfl rfl hl.1 rfl (lv_room (Nat.le_of_ble_eq_true rfl)) dX5_isPlace_8 ⟨Nat.zero_le _, Nat.zero_le _⟩) hS (fun q _ h => hFc q h) hFc (fun r2 u2 t H1 locs ht hvm hw hB hz1 hk1 hS => ?_)
        subst r2
        have hP := keepP hP hk1
        clear hFc hk1 hB
        generalize H1 = H at hP hS ⊢
        obtain ⟨h_2, hf⟩ := ps_of hf
        have hf := Option.some.inj hf
        exact W.zret (v := w_1) hx hb hr (nar_bool h_2) (fun t ht hW => ⟨⟨w_1, u, rfl, hf, ⟨by rw [ht]; exact hP, va_K.moved hW.alike hK, hD⟩⟩, hS.F ht⟩) hS.2.2 dX5_isPlace_11
  exact (key n) z1 u _ _ ls hf0 hP hD hS (lv_sub hl [0, 1] rfl)

def fX5_isPoint (n pc : Nat) (v1 : Int32) (u : St) : Option (Int32 × St) := match n with
  | 0 => none
  | n + 1 => match pc with
    | 0 => ((FX5_isIn n v1 (0 : Int32) ((gI u 3) - (1 : Int32))).bind fun w_1 => (if w_1 = 0 ∨ w_1 = 1 then some (w_1, u) else none))
    | _ => none
theorem eX5_isPoint_0 (n : Nat) (v1 : Int32) (u : St) : fX5_isPoint (n + 1) 0 v1 u = ((FX5_isIn n v1 (0 : Int32) ((gI u 3) - (1 : Int32))).bind fun w_1 => (if w_1 = 0 ∨ w_1 = 1 then some (w_1, u) else none)) := rfl
theorem vX5_isPoint_0 (v1 : Int32) (u : St) (r : Int32 × St) : Ev (fun n => fX5_isPoint n 0 v1 u) r ↔ Ev (fun n => ((FX5_isIn n v1 (0 : Int32) ((gI u 3) - (1 : Int32))).bind fun w_1 => (if w_1 = 0 ∨ w_1 = 1 then some (w_1, u) else none))) r := Ev_succ (fun n => fX5_isPoint n 0 v1 u) r
def FX5_isPoint (n : Nat) (v1 : Int32) (u : St) : Option (Int32 × St) := fX5_isPoint n 0 v1 u
set_option maxHeartbeats 4000000 in
set_option maxRecDepth 100000 in
theorem mX5_isPoint (l : Launch) (dC : Nat → ClassId) (dI : Nat → Nat → Nat) (cI cL : ClassId) (ad : Nat → Nat) (sz : Nat) (u : St) (z1 : Int32) (n : Nat) (r : Int32 × St) (hf0 : FX5_isPoint n z1 u = some r) : Met l yX5_isPoint wsX5_isPoint ({ frames := 1, cells := 0, slots := 0, locals := 22 }) (va_Pc [.ref (ad 0), .int z1] (wPre dC dI cI cL (mw ad cI cL u) sz)) (va_Qi (fun a t => (a, t) = r) (fun t => wPost dC dI cI cL (va_A (mw ad cI cL u) sz) (mw ad cI cL t)) (va_A (mw ad cI cL u) sz)) 0 0 (va_A (mw ad cI cL u) sz) := by
  refine Met.ofW (cc := cX5_isPoint) (maxL := 2) (ret := (some .boolean)) (by decide) rfl ?_
  intro p e s m args below meth c s₁ B hml hv
  obtain ⟨rfl, hsz, hP, hK, hD0, hZ⟩ := hv
  have hx := B.exec
  have hb := B.bytes
  have hr := B.returns
  have hts := atoms_spec (ws := wsX5_isPoint) B.pre
  have hown : s.vm.findClass RX5 = some m.cls := findClass_of_methodNamed B.named
  have hlocks := B.notSynchronized
  subst hsz
  have hD := hD0.self (sz := s.heap.size)
  generalize hAe : va_A (mw ad cI cL u) s.heap.size = A at hD ⊢
  have hA : ∀ q : Nat, s.heap.size ≤ q → A q := fun q h => by rw [← hAe]; exact Or.inr h
  have hS : va_S A s.heap s.heap [] := va_S.rf
  have iX5 : ∀ w ∈ u_ws RX5 TX5 36, w ∈ wsX5_isPoint := fun _ h => List.mem_cons_of_mem _ (List.mem_append_right _ h)
  have k_0 := hts (.fieldLink RX5 93 "LampChoiceModel" "points" "I") (by decide +kernel)
  have hl := lv_entry ([.ref (ad 0), .int z1]) (n := 2) (Nat.le_of_ble_eq_true rfl)
  rw [lg_entry_eq]
  generalize (lg_sl ([.ref (ad 0), .int z1]) ++ List.replicate (2 - (lg_sl ([.ref (ad 0), .int z1])).length) Slot.unset).toArray = ls at hl ⊢
  have hl : lv_has ls 2 [(0, .ref (ad 0)), (1, .int z1)] := hl
  have key : ∀ n : Nat, (∀ (v1 : Int32) (u : St) (H : Heap) (locs : List Loc) (ls : Array Slot), fX5_isPoint n 0 v1 u = some r → va_P (dC, dI) vwCl (mw ad cI cL u) H → va_D A (mw ad cI cL u) → va_S A s.heap H locs → lv_has ls 2 [(0, .ref (ad 0)), (1, .int v1)] → W p l e (headSpec wsX5_isPoint ({ frames := 1, cells := 0, slots := 0, locals := 22 })).room s m ([.ref (ad 0), .int z1] : List Value).toArray below meth c H locs 0 0 (MQ below (va_Qi (fun a t => (a, t) = r) (fun t => wPost dC dI cI cL A (mw ad cI cL t)) A) ([.ref (ad 0), .int z1] : List Value).toArray s 0 0 A) (F0 m 0 ls [])) := by
    intro n
    induction n with
    | zero => exact (fun _ _ _ _ _ hf => nomatch (show (none : Option (Int32 × St)) = some r from hf))
    | succ n ih =>
      have ih0 := ih
      · intro v1 u H locs ls hf hP hD hS hl
        have hf := (eX5_isPoint_0 n v1 u).symm.trans hf
        refine lv_iload_n hx hb dX5_isPoint_0 rfl (lv_at hl 1 rfl) ?_
        refine lv_iconst (v := 0) hx hb dX5_isPoint_1 (by decide) ?_
        refine lv_aload_n hx hb dX5_isPoint_2 rfl (lv_at hl 0 rfl) ?_
        refine va_get (D := (dC, dI)) (ci := 5) (v := .int (gI u 3)) (C := RX5) (T := TX5) (N := 36) hx hb hts iX5 hown hK hP 0 rfl rfl 11 (by decide) k_0 (fun _ h9 => h9) rfl dX5_isPoint_3 ?_
        refine lv_iconst (v := 1) hx hb dX5_isPoint_6 (by decide) ?_
        refine lv_isub hx hb dX5_isPoint_7 ?_
        obtain ⟨w_1, hw_1, hf⟩ := ob hf
        have hFc := freeNil hS hA
        refine va_calli (va_runS (As := [.int v1, .int (0 : Int32), .int ((gI u 3) - (1 : Int32))]) (rest := []) ⟨hx, hb, hml, hown, hts⟩ (mX5_isIn l H.size v1 (0 : Int32) ((gI u 3) - (1 : Int32)) n w_1 hw_1) (va_cwS 3 hts gX5_isPoint_X5_isIn rfl rfl rfl (by decide +kernel) ⟨Nat.le_of_ble_eq_true rfl, Nat.le_of_ble_eq_true rfl⟩) ⟨nPre_blind, nPre_of⟩ rfl rfl hl.1 rfl (lv_room (Nat.le_of_ble_eq_true rfl)) dX5_isPoint_8 ⟨Nat.zero_le _, Nat.zero_le _⟩) hS (fun q _ h => hFc q h) hFc (fun r2 u2 t H1 locs ht hvm hw hB hz1 hk1 hS => ?_)
        subst r2
        have hP := keepP hP hk1
        clear hFc hk1 hB
        generalize H1 = H at hP hS ⊢
        obtain ⟨h_2, hf⟩ := ps_of hf
        have hf := Option.some.inj hf
        exact W.zret (v := w_1) hx hb hr (nar_bool h_2) (fun t ht hW => ⟨⟨w_1, u, rfl, hf, ⟨by rw [ht]; exact hP, va_K.moved hW.alike hK, hD⟩⟩, hS.F ht⟩) hS.2.2 dX5_isPoint_11
  exact (key n) z1 u _ _ ls hf0 hP hD hS (lv_sub hl [0, 1] rfl)

def fX5_renew (n pc : Nat) (v1 : Int32) (u : St) : Option (St) := match n with
  | 0 => none
  | n + 1 => match pc with
    | 0 => fX5_renew n 7 (0 : Int32) (sI u 6 (0 : Int32))
    | 7 => (if (7 : Int32) ≤ v1 then some u else (if ck v1 7 = true then fX5_renew n 7 (v1 + 1) (sA (sA u 19 (upd (gA u 19) v1.toNatClampNeg (0 : Int32))) 20 (upd (gA u 20) v1.toNatClampNeg (0 : Int32))) else none))
    | _ => none
theorem eX5_renew_0 (n : Nat) (v1 : Int32) (u : St) : fX5_renew (n + 1) 0 v1 u = fX5_renew n 7 (0 : Int32) (sI u 6 (0 : Int32)) := rfl
theorem eX5_renew_7 (n : Nat) (v1 : Int32) (u : St) : fX5_renew (n + 1) 7 v1 u = (if (7 : Int32) ≤ v1 then some u else (if ck v1 7 = true then fX5_renew n 7 (v1 + 1) (sA (sA u 19 (upd (gA u 19) v1.toNatClampNeg (0 : Int32))) 20 (upd (gA u 20) v1.toNatClampNeg (0 : Int32))) else none)) := rfl
theorem vX5_renew_0 (v1 : Int32) (u : St) (r : St) : Ev (fun n => fX5_renew n 0 v1 u) r ↔ Ev (fun n => fX5_renew n 7 (0 : Int32) (sI u 6 (0 : Int32))) r := Ev_succ (fun n => fX5_renew n 0 v1 u) r
theorem vX5_renew_7 (v1 : Int32) (u : St) (r : St) : Ev (fun n => fX5_renew n 7 v1 u) r ↔ Ev (fun n => (if (7 : Int32) ≤ v1 then some u else (if ck v1 7 = true then fX5_renew n 7 (v1 + 1) (sA (sA u 19 (upd (gA u 19) v1.toNatClampNeg (0 : Int32))) 20 (upd (gA u 20) v1.toNatClampNeg (0 : Int32))) else none))) r := Ev_succ (fun n => fX5_renew n 7 v1 u) r
def FX5_renew (n : Nat) (u : St) : Option (St) := fX5_renew n 0 0 u
set_option maxHeartbeats 4000000 in
set_option maxRecDepth 100000 in
theorem mX5_renew (l : Launch) (dC : Nat → ClassId) (dI : Nat → Nat → Nat) (cI cL : ClassId) (ad : Nat → Nat) (sz : Nat) (u : St) (n : Nat) (r : St) (hf0 : FX5_renew n  u = some r) : Met l yX5_renew wsX5_renew ({ frames := 0, cells := 0, slots := 0, locals := 0 }) (va_Pc [.ref (ad 0)] (wPre dC dI cI cL (mw ad cI cL u) sz)) (va_Qv (fun t => t = r) (fun t => wPost dC dI cI cL (va_A (mw ad cI cL u) sz) (mw ad cI cL t)) (va_A (mw ad cI cL u) sz)) 0 0 (va_A (mw ad cI cL u) sz) := by
  refine Met.ofW (cc := cX5_renew) (maxL := 2) (ret := none) (by decide) rfl ?_
  intro p e s m args below meth c s₁ B hml hv
  obtain ⟨rfl, hsz, hP, hK, hD0, hZ⟩ := hv
  have hx := B.exec
  have hb := B.bytes
  have hr := B.returns
  have hts := atoms_spec (ws := wsX5_renew) B.pre
  have hown : s.vm.findClass RX5 = some m.cls := findClass_of_methodNamed B.named
  have hlocks := B.notSynchronized
  subst hsz
  have hD := hD0.self (sz := s.heap.size)
  generalize hAe : va_A (mw ad cI cL u) s.heap.size = A at hD ⊢
  have hA : ∀ q : Nat, s.heap.size ≤ q → A q := fun q h => by rw [← hAe]; exact Or.inr h
  have hS : va_S A s.heap s.heap [] := va_S.rf
  have iX5 : ∀ w ∈ u_ws RX5 TX5 36, w ∈ wsX5_renew := fun _ h => List.mem_cons_of_mem _ (List.mem_append_right _ h)
  have k_0 := hts (.fieldLink RX5 96 "LampChoiceModel" "isKnown" "Z") (by decide +kernel)
  have k_1 := hts (.fieldLink RX5 74 "LampChoiceModel" "levels" "[I") (by decide +kernel)
  have k_2 := hts (.fieldLink RX5 77 "LampChoiceModel" "lasted" "[I") (by decide +kernel)
  have hl := lv_entry ([.ref (ad 0)]) (n := 2) (Nat.le_of_ble_eq_true rfl)
  rw [lg_entry_eq]
  generalize (lg_sl ([.ref (ad 0)]) ++ List.replicate (2 - (lg_sl ([.ref (ad 0)])).length) Slot.unset).toArray = ls at hl ⊢
  have hl : lv_has ls 2 [(0, .ref (ad 0))] := hl
  have key : ∀ n : Nat, (∀ (v1 : Int32) (u : St) (H : Heap) (locs : List Loc) (ls : Array Slot), fX5_renew n 0 v1 u = some r → va_P (dC, dI) vwCl (mw ad cI cL u) H → va_D A (mw ad cI cL u) → va_S A s.heap H locs → lv_has ls 2 [(0, .ref (ad 0))] → W p l e (headSpec wsX5_renew ({ frames := 0, cells := 0, slots := 0, locals := 0 })).room s m ([.ref (ad 0)] : List Value).toArray below meth c H locs 0 0 (MQ below (va_Qv (fun t => t = r) (fun t => wPost dC dI cI cL A (mw ad cI cL t)) A) ([.ref (ad 0)] : List Value).toArray s 0 0 A) (F0 m 0 ls [])) ∧ (∀ (v1 : Int32) (u : St) (H : Heap) (locs : List Loc) (ls : Array Slot), fX5_renew n 7 v1 u = some r → va_P (dC, dI) vwCl (mw ad cI cL u) H → va_D A (mw ad cI cL u) → va_S A s.heap H locs → lv_has ls 2 [(0, .ref (ad 0)), (1, .int v1)] → W p l e (headSpec wsX5_renew ({ frames := 0, cells := 0, slots := 0, locals := 0 })).room s m ([.ref (ad 0)] : List Value).toArray below meth c H locs 0 0 (MQ below (va_Qv (fun t => t = r) (fun t => wPost dC dI cI cL A (mw ad cI cL t)) A) ([.ref (ad 0)] : List Value).toArray s 0 0 A) (F0 m 7 ls [])) := by
    intro n
    induction n with
    | zero => exact ⟨(fun _ _ _ _ _ hf => nomatch (show (none : Option (St)) = some r from hf)), (fun _ _ _ _ _ hf => nomatch (show (none : Option (St)) = some r from hf))⟩
    | succ n ih =>
      obtain ⟨ih0, ih1⟩ := ih
      refine ⟨?_, ?_⟩
      · intro v1 u H locs ls hf hP hD hS hl
        have hf := (eX5_renew_0 n v1 u).symm.trans hf
        refine lv_aload_n hx hb dX5_renew_0 rfl (lv_at hl 0 rfl) ?_
        refine lv_iconst (v := 0) hx hb dX5_renew_1 (by decide) ?_
        refine va_put (D := (dC, dI)) (ci := 5) (v := .int (0 : Int32)) (ty := .boolean) (C := RX5) (T := TX5) (N := 36) hx hb hts iX5 tyX5 tyX5_ok nmX5 hown hK hP hD hS 0 rfl rfl 19 (by decide) k_0 (fun _ h9 => h9) rfl (by decide +kernel) rfl rfl (Nat.le_of_ble_eq_true rfl) dX5_renew_2 (fun H locs hP hD hS => ?_)
        have hP : va_P (dC, dI) vwCl (mw ad cI cL (sI u 6 (0 : Int32))) H := hP
        have hD : va_D A (mw ad cI cL (sI u 6 (0 : Int32))) := hD
        refine lv_iconst (v := 0) hx hb dX5_renew_5 (by decide) ?_
        refine lv_istore_n (lv' := [(1, .int (0 : Int32)), (0, .ref (ad 0))]) hx hb dX5_renew_6 rfl hl (by decide) rfl (fun ls hl => ?_)
        exact ih1 (0 : Int32) (sI u 6 (0 : Int32)) H locs ls hf hP hD hS (lv_sub hl [1, 0] rfl)
      · intro v1 u H locs ls hf hP hD hS hl
        have hf := (eX5_renew_7 n v1 u).symm.trans hf
        refine lv_iload_n hx hb dX5_renew_7 rfl (lv_at hl 1 rfl) ?_
        refine lv_bipush (v := 7) hx hb dX5_renew_8 (by decide) ?_
        refine lv_icmp_ge (tgt := 33) hx hb dX5_renew_10 (by decide) (fun c_1 => ?_) (fun c_1 => ?_)
        · have hf := (if_pos c_1).symm.trans hf
          have hf := Option.some.inj hf
          exact W.vret hx hb hr (fun t ht hW => ⟨⟨u, rfl, hf, ⟨by rw [ht]; exact hP, va_K.moved hW.alike hK, hD⟩⟩, hS.F ht⟩) hS.2.2 dX5_renew_33
        · have hf := (if_neg c_1).symm.trans hf
          refine lv_aload_n hx hb dX5_renew_13 rfl (lv_at hl 0 rfl) ?_
          refine va_get (D := (dC, dI)) (ci := 5) (v := .ref (ad 20)) (C := RX5) (T := TX5) (N := 36) hx hb hts iX5 hown hK hP 0 rfl rfl 30 (by decide) k_1 (fun _ h9 => h9) rfl dX5_renew_14 ?_
          refine lv_iload_n hx hb dX5_renew_17 rfl (lv_at hl 1 rfl) ?_
          refine lv_iconst (v := 0) hx hb dX5_renew_18 (by decide) ?_
          obtain ⟨h_2, hf⟩ := ck_of hf
          refine va_iast (f := (gA u 19)) hx hb hK hP hD hS 20 0 rfl rfl h_2 dX5_renew_19 (fun H locs hP hD hS => ?_)
          have hP : va_P (dC, dI) vwCl (mw ad cI cL (sA u 19 (upd (gA u 19) v1.toNatClampNeg (0 : Int32)))) H := hP
          have hD : va_D A (mw ad cI cL (sA u 19 (upd (gA u 19) v1.toNatClampNeg (0 : Int32)))) := hD
          refine lv_aload_n hx hb dX5_renew_20 rfl (lv_at hl 0 rfl) ?_
          refine va_get (D := (dC, dI)) (ci := 5) (v := .ref (ad 21)) (C := RX5) (T := TX5) (N := 36) hx hb hts iX5 hown hK hP 0 rfl rfl 31 (by decide) k_2 (fun _ h9 => h9) rfl dX5_renew_21 ?_
          refine lv_iload_n hx hb dX5_renew_24 rfl (lv_at hl 1 rfl) ?_
          refine lv_iconst (v := 0) hx hb dX5_renew_25 (by decide) ?_
          refine va_iast (f := (gA u 20)) hx hb hK hP hD hS 21 0 rfl rfl h_2 dX5_renew_26 (fun H locs hP hD hS => ?_)
          have hP : va_P (dC, dI) vwCl (mw ad cI cL (sA (sA u 19 (upd (gA u 19) v1.toNatClampNeg (0 : Int32))) 20 (upd (gA u 20) v1.toNatClampNeg (0 : Int32)))) H := hP
          have hD : va_D A (mw ad cI cL (sA (sA u 19 (upd (gA u 19) v1.toNatClampNeg (0 : Int32))) 20 (upd (gA u 20) v1.toNatClampNeg (0 : Int32)))) := hD
          refine lv_iinc (v := (v1 + 1)) (lv' := [(1, .int (v1 + 1)), (0, .ref (ad 0))]) hx hb dX5_renew_27 hl (k := 1) rfl rfl (by decide) rfl (fun ls hl => ?_)
          refine lv_goto (tgt := 7) hx hb dX5_renew_30 (by decide) ?_
          exact ih1 (v1 + 1) (sA (sA u 19 (upd (gA u 19) v1.toNatClampNeg (0 : Int32))) 20 (upd (gA u 20) v1.toNatClampNeg (0 : Int32))) H locs ls hf hP hD hS (lv_sub hl [1, 0] rfl)
  exact (key n).1 0 u _ _ ls hf0 hP hD hS (lv_sub hl [0] rfl)

def fX5_kind (n pc : Nat) (v1 : Int32) (v2 : Int32) (v3 : Int32) (v4 : Int32) (u : St) : Option (Int32 × St) := match n with
  | 0 => none
  | n + 1 => match pc with
    | 0 => ((FX5_isIn n v1 (1 : Int32) (10000 : Int32)).bind fun w_1 => (if w_1 = 0 then fX5_kind n 47 v1 v2 v3 v4 u else ((FX5_isIn n v2 (1 : Int32) (500 : Int32)).bind fun w_3 => (if w_3 = 0 then fX5_kind n 47 v1 v2 v3 v4 u else ((FX5_isIn n v3 (1 : Int32) (100000 : Int32)).bind fun w_5 => (if w_5 = 0 then fX5_kind n 47 v1 v2 v3 v4 u else ((FX5_isIn n v4 (0 : Int32) (100000 : Int32)).bind fun w_7 => (if w_7 = 0 then fX5_kind n 47 v1 v2 v3 v4 u else (if (gI u 1) = (3 : Int32) then some ((0 : Int32), sI u 0 (2 : Int32)) else (if ck (gI u 1) 3 = true then ((FX5_renew n  (sI (sA (sA (sA (sA (sI u 0 (0 : Int32)) 0 (upd (gA u 0) (gI u 1).toNatClampNeg v1)) 1 (upd (gA u 1) (gI u 1).toNatClampNeg v2)) 2 (upd (gA u 2) (gI u 1).toNatClampNeg v3)) 3 (upd (gA u 3) (gI u 1).toNatClampNeg v4)) 1 ((gI u 1) + (1 : Int32)))).bind fun w_13 => some (((gI w_13 1) - (1 : Int32)), w_13)) else none))))))))))
    | 47 => some ((0 : Int32), sI u 0 (1 : Int32))
    | _ => none
theorem eX5_kind_0 (n : Nat) (v1 : Int32) (v2 : Int32) (v3 : Int32) (v4 : Int32) (u : St) : fX5_kind (n + 1) 0 v1 v2 v3 v4 u = ((FX5_isIn n v1 (1 : Int32) (10000 : Int32)).bind fun w_1 => (if w_1 = 0 then fX5_kind n 47 v1 v2 v3 v4 u else ((FX5_isIn n v2 (1 : Int32) (500 : Int32)).bind fun w_3 => (if w_3 = 0 then fX5_kind n 47 v1 v2 v3 v4 u else ((FX5_isIn n v3 (1 : Int32) (100000 : Int32)).bind fun w_5 => (if w_5 = 0 then fX5_kind n 47 v1 v2 v3 v4 u else ((FX5_isIn n v4 (0 : Int32) (100000 : Int32)).bind fun w_7 => (if w_7 = 0 then fX5_kind n 47 v1 v2 v3 v4 u else (if (gI u 1) = (3 : Int32) then some ((0 : Int32), sI u 0 (2 : Int32)) else (if ck (gI u 1) 3 = true then ((FX5_renew n  (sI (sA (sA (sA (sA (sI u 0 (0 : Int32)) 0 (upd (gA u 0) (gI u 1).toNatClampNeg v1)) 1 (upd (gA u 1) (gI u 1).toNatClampNeg v2)) 2 (upd (gA u 2) (gI u 1).toNatClampNeg v3)) 3 (upd (gA u 3) (gI u 1).toNatClampNeg v4)) 1 ((gI u 1) + (1 : Int32)))).bind fun w_13 => some (((gI w_13 1) - (1 : Int32)), w_13)) else none)))))))))) := rfl
theorem eX5_kind_47 (n : Nat) (v1 : Int32) (v2 : Int32) (v3 : Int32) (v4 : Int32) (u : St) : fX5_kind (n + 1) 47 v1 v2 v3 v4 u = some ((0 : Int32), sI u 0 (1 : Int32)) := rfl
theorem vX5_kind_0 (v1 : Int32) (v2 : Int32) (v3 : Int32) (v4 : Int32) (u : St) (r : Int32 × St) : Ev (fun n => fX5_kind n 0 v1 v2 v3 v4 u) r ↔ Ev (fun n => ((FX5_isIn n v1 (1 : Int32) (10000 : Int32)).bind fun w_1 => (if w_1 = 0 then fX5_kind n 47 v1 v2 v3 v4 u else ((FX5_isIn n v2 (1 : Int32) (500 : Int32)).bind fun w_3 => (if w_3 = 0 then fX5_kind n 47 v1 v2 v3 v4 u else ((FX5_isIn n v3 (1 : Int32) (100000 : Int32)).bind fun w_5 => (if w_5 = 0 then fX5_kind n 47 v1 v2 v3 v4 u else ((FX5_isIn n v4 (0 : Int32) (100000 : Int32)).bind fun w_7 => (if w_7 = 0 then fX5_kind n 47 v1 v2 v3 v4 u else (if (gI u 1) = (3 : Int32) then some ((0 : Int32), sI u 0 (2 : Int32)) else (if ck (gI u 1) 3 = true then ((FX5_renew n  (sI (sA (sA (sA (sA (sI u 0 (0 : Int32)) 0 (upd (gA u 0) (gI u 1).toNatClampNeg v1)) 1 (upd (gA u 1) (gI u 1).toNatClampNeg v2)) 2 (upd (gA u 2) (gI u 1).toNatClampNeg v3)) 3 (upd (gA u 3) (gI u 1).toNatClampNeg v4)) 1 ((gI u 1) + (1 : Int32)))).bind fun w_13 => some (((gI w_13 1) - (1 : Int32)), w_13)) else none))))))))))) r := Ev_succ (fun n => fX5_kind n 0 v1 v2 v3 v4 u) r
theorem vX5_kind_47 (v1 : Int32) (v2 : Int32) (v3 : Int32) (v4 : Int32) (u : St) (r : Int32 × St) : Ev (fun n => fX5_kind n 47 v1 v2 v3 v4 u) r ↔ Ev (fun n => some ((0 : Int32), sI u 0 (1 : Int32))) r := Ev_succ (fun n => fX5_kind n 47 v1 v2 v3 v4 u) r
def FX5_kind (n : Nat) (v1 : Int32) (v2 : Int32) (v3 : Int32) (v4 : Int32) (u : St) : Option (Int32 × St) := fX5_kind n 0 v1 v2 v3 v4 u
set_option maxHeartbeats 4000000 in
set_option maxRecDepth 100000 in
theorem mX5_kind (l : Launch) (dC : Nat → ClassId) (dI : Nat → Nat → Nat) (cI cL : ClassId) (ad : Nat → Nat) (sz : Nat) (u : St) (z1 : Int32) (z2 : Int32) (z3 : Int32) (z4 : Int32) (n : Nat) (r : Int32 × St) (hf0 : FX5_kind n z1 z2 z3 z4 u = some r) : Met l yX5_kind wsX5_kind ({ frames := 1, cells := 0, slots := 0, locals := 22 }) (va_Pc [.ref (ad 0), .int z1, .int z2, .int z3, .int z4] (wPre dC dI cI cL (mw ad cI cL u) sz)) (va_Qi (fun a t => (a, t) = r) (fun t => wPost dC dI cI cL (va_A (mw ad cI cL u) sz) (mw ad cI cL t)) (va_A (mw ad cI cL u) sz)) 0 0 (va_A (mw ad cI cL u) sz) := by
  refine Met.ofW (cc := cX5_kind) (maxL := 6) (ret := (some .int)) (by decide) rfl ?_
  intro p e s m args below meth c s₁ B hml hv
  obtain ⟨rfl, hsz, hP, hK, hD0, hZ⟩ := hv
  have hx := B.exec
  have hb := B.bytes
  have hr := B.returns
  have hts := atoms_spec (ws := wsX5_kind) B.pre
  have hown : s.vm.findClass RX5 = some m.cls := findClass_of_methodNamed B.named
  have hlocks := B.notSynchronized
  subst hsz
  have hD := hD0.self (sz := s.heap.size)
  generalize hAe : va_A (mw ad cI cL u) s.heap.size = A at hD ⊢
  have hA : ∀ q : Nat, s.heap.size ≤ q → A q := fun q h => by rw [← hAe]; exact Or.inr h
  have hS : va_S A s.heap s.heap [] := va_S.rf
  have iX5 : ∀ w ∈ u_ws RX5 TX5 36, w ∈ wsX5_kind := fun _ h => List.mem_cons_of_mem _ (List.mem_append_right _ h)
  have k_0 := hts (.constant RX5 100 (100000)) (by decide +kernel)
  have k_1 := hts (.fieldLink RX5 83 "LampChoiceModel" "kinds" "I") (by decide +kernel)
  have k_2 := hts (.fieldLink RX5 80 "LampChoiceModel" "code" "I") (by decide +kernel)
  have k_3 := hts (.fieldLink RX5 7 "LampChoiceModel" "strengths" "[I") (by decide +kernel)
  have k_4 := hts (.fieldLink RX5 13 "LampChoiceModel" "watts" "[I") (by decide +kernel)
  have k_5 := hts (.fieldLink RX5 16 "LampChoiceModel" "lives" "[I") (by decide +kernel)
  have k_6 := hts (.fieldLink RX5 19 "LampChoiceModel" "cents" "[I") (by decide +kernel)
  have hl := lv_entry ([.ref (ad 0), .int z1, .int z2, .int z3, .int z4]) (n := 6) (Nat.le_of_ble_eq_true rfl)
  rw [lg_entry_eq]
  generalize (lg_sl ([.ref (ad 0), .int z1, .int z2, .int z3, .int z4]) ++ List.replicate (6 - (lg_sl ([.ref (ad 0), .int z1, .int z2, .int z3, .int z4])).length) Slot.unset).toArray = ls at hl ⊢
  have hl : lv_has ls 6 [(0, .ref (ad 0)), (1, .int z1), (2, .int z2), (3, .int z3), (4, .int z4)] := hl
  have key : ∀ n : Nat, (∀ (v1 : Int32) (v2 : Int32) (v3 : Int32) (v4 : Int32) (u : St) (H : Heap) (locs : List Loc) (ls : Array Slot), fX5_kind n 0 v1 v2 v3 v4 u = some r → va_P (dC, dI) vwCl (mw ad cI cL u) H → va_D A (mw ad cI cL u) → va_S A s.heap H locs → lv_has ls 6 [(0, .ref (ad 0)), (1, .int v1), (2, .int v2), (3, .int v3), (4, .int v4)] → W p l e (headSpec wsX5_kind ({ frames := 1, cells := 0, slots := 0, locals := 22 })).room s m ([.ref (ad 0), .int z1, .int z2, .int z3, .int z4] : List Value).toArray below meth c H locs 0 0 (MQ below (va_Qi (fun a t => (a, t) = r) (fun t => wPost dC dI cI cL A (mw ad cI cL t)) A) ([.ref (ad 0), .int z1, .int z2, .int z3, .int z4] : List Value).toArray s 0 0 A) (F0 m 0 ls [])) ∧ (∀ (v1 : Int32) (v2 : Int32) (v3 : Int32) (v4 : Int32) (u : St) (H : Heap) (locs : List Loc) (ls : Array Slot), fX5_kind n 47 v1 v2 v3 v4 u = some r → va_P (dC, dI) vwCl (mw ad cI cL u) H → va_D A (mw ad cI cL u) → va_S A s.heap H locs → lv_has ls 6 [(0, .ref (ad 0)), (1, .int v1), (2, .int v2), (3, .int v3), (4, .int v4)] → W p l e (headSpec wsX5_kind ({ frames := 1, cells := 0, slots := 0, locals := 22 })).room s m ([.ref (ad 0), .int z1, .int z2, .int z3, .int z4] : List Value).toArray below meth c H locs 0 0 (MQ below (va_Qi (fun a t => (a, t) = r) (fun t => wPost dC dI cI cL A (mw ad cI cL t)) A) ([.ref (ad 0), .int z1, .int z2, .int z3, .int z4] : List Value).toArray s 0 0 A) (F0 m 47 ls [])) := by
    intro n
    induction n with
    | zero => exact ⟨(fun _ _ _ _ _ _ _ _ hf => nomatch (show (none : Option (Int32 × St)) = some r from hf)), (fun _ _ _ _ _ _ _ _ hf => nomatch (show (none : Option (Int32 × St)) = some r from hf))⟩
    | succ n ih =>
      obtain ⟨ih0, ih1⟩ := ih
      refine ⟨?_, ?_⟩
      · intro v1 v2 v3 v4 u H locs ls hf hP hD hS hl
        have hf := (eX5_kind_0 n v1 v2 v3 v4 u).symm.trans hf
        refine lv_iload_n hx hb dX5_kind_0 rfl (lv_at hl 1 rfl) ?_
        refine lv_iconst (v := 1) hx hb dX5_kind_1 (by decide) ?_
        refine lv_sipush (v := 10000) hx hb dX5_kind_2 (by decide) ?_
        obtain ⟨w_1, hw_1, hf⟩ := ob hf
        have hFc := freeNil hS hA
        refine va_calli (va_runS (As := [.int v1, .int (1 : Int32), .int (10000 : Int32)]) (rest := []) ⟨hx, hb, hml, hown, hts⟩ (mX5_isIn l H.size v1 (1 : Int32) (10000 : Int32) n w_1 hw_1) (va_cwS 3 hts gX5_kind_X5_isIn rfl rfl rfl (by decide +kernel) ⟨Nat.le_of_ble_eq_true rfl, Nat.le_of_ble_eq_true rfl⟩) ⟨nPre_blind, nPre_of⟩ rfl rfl hl.1 rfl (lv_room (Nat.le_of_ble_eq_true rfl)) dX5_kind_5 ⟨Nat.zero_le _, Nat.zero_le _⟩) hS (fun q _ h => hFc q h) hFc (fun r2 u2 t H1 locs ht hvm hw hB hz1 hk1 hS => ?_)
        subst r2
        have hP := keepP hP hk1
        clear hFc hk1 hB
        generalize H1 = H at hP hS ⊢
        refine lv_if_eq (tgt := 47) hx hb dX5_kind_8 (by decide) (fun c_2 => ?_) (fun c_2 => ?_)
        · have hf := (if_pos c_2).symm.trans hf
          exact ih1 v1 v2 v3 v4 u H locs ls hf hP hD hS (lv_sub hl [0, 1, 2, 3, 4] rfl)
        · have hf := (if_neg c_2).symm.trans hf
          refine lv_iload_n hx hb dX5_kind_11 rfl (lv_at hl 2 rfl) ?_
          refine lv_iconst (v := 1) hx hb dX5_kind_12 (by decide) ?_
          refine lv_sipush (v := 500) hx hb dX5_kind_13 (by decide) ?_
          obtain ⟨w_3, hw_3, hf⟩ := ob hf
          have hFc := freeNil hS hA
          refine va_calli (va_runS (As := [.int v2, .int (1 : Int32), .int (500 : Int32)]) (rest := []) ⟨hx, hb, hml, hown, hts⟩ (mX5_isIn l H.size v2 (1 : Int32) (500 : Int32) n w_3 hw_3) (va_cwS 3 hts gX5_kind_X5_isIn rfl rfl rfl (by decide +kernel) ⟨Nat.le_of_ble_eq_true rfl, Nat.le_of_ble_eq_true rfl⟩) ⟨nPre_blind, nPre_of⟩ rfl rfl hl.1 rfl (lv_room (Nat.le_of_ble_eq_true rfl)) dX5_kind_16 ⟨Nat.zero_le _, Nat.zero_le _⟩) hS (fun q _ h => hFc q h) hFc (fun r2 u2 t H1 locs ht hvm hw hB hz1 hk1 hS => ?_)
          subst r2
          have hP := keepP hP hk1
          clear hFc hk1 hB
          generalize H1 = H at hP hS ⊢
          refine lv_if_eq (tgt := 47) hx hb dX5_kind_19 (by decide) (fun c_4 => ?_) (fun c_4 => ?_)
          · have hf := (if_pos c_4).symm.trans hf
            exact ih1 v1 v2 v3 v4 u H locs ls hf hP hD hS (lv_sub hl [0, 1, 2, 3, 4] rfl)
          · have hf := (if_neg c_4).symm.trans hf
            refine lv_iload_n hx hb dX5_kind_22 rfl (lv_at hl 3 rfl) ?_
            refine lv_iconst (v := 1) hx hb dX5_kind_23 (by decide) ?_
            refine lv_ldc (v := 100000) hx hb hown k_0 dX5_kind_24 ?_
            obtain ⟨w_5, hw_5, hf⟩ := ob hf
            have hFc := freeNil hS hA
            refine va_calli (va_runS (As := [.int v3, .int (1 : Int32), .int (100000 : Int32)]) (rest := []) ⟨hx, hb, hml, hown, hts⟩ (mX5_isIn l H.size v3 (1 : Int32) (100000 : Int32) n w_5 hw_5) (va_cwS 3 hts gX5_kind_X5_isIn rfl rfl rfl (by decide +kernel) ⟨Nat.le_of_ble_eq_true rfl, Nat.le_of_ble_eq_true rfl⟩) ⟨nPre_blind, nPre_of⟩ rfl rfl hl.1 rfl (lv_room (Nat.le_of_ble_eq_true rfl)) dX5_kind_26 ⟨Nat.zero_le _, Nat.zero_le _⟩) hS (fun q _ h => hFc q h) hFc (fun r2 u2 t H1 locs ht hvm hw hB hz1 hk1 hS => ?_)
            subst r2
            have hP := keepP hP hk1
            clear hFc hk1 hB
            generalize H1 = H at hP hS ⊢
            refine lv_if_eq (tgt := 47) hx hb dX5_kind_29 (by decide) (fun c_6 => ?_) (fun c_6 => ?_)
            · have hf := (if_pos c_6).symm.trans hf
              exact ih1 v1 v2 v3 v4 u H locs ls hf hP hD hS (lv_sub hl [0, 1, 2, 3, 4] rfl)
            · have hf := (if_neg c_6).symm.trans hf
              refine lv_iload hx hb dX5_kind_32 (lv_at hl 4 rfl) ?_
              refine lv_iconst (v := 0) hx hb dX5_kind_34 (by decide) ?_
              refine lv_ldc (v := 100000) hx hb hown k_0 dX5_kind_35 ?_
              obtain ⟨w_7, hw_7, hf⟩ := ob hf
              have hFc := freeNil hS hA
              refine va_calli (va_runS (As := [.int v4, .int (0 : Int32), .int (100000 : Int32)]) (rest := []) ⟨hx, hb, hml, hown, hts⟩ (mX5_isIn l H.size v4 (0 : Int32) (100000 : Int32) n w_7 hw_7) (va_cwS 3 hts gX5_kind_X5_isIn rfl rfl rfl (by decide +kernel) ⟨Nat.le_of_ble_eq_true rfl, Nat.le_of_ble_eq_true rfl⟩) ⟨nPre_blind, nPre_of⟩ rfl rfl hl.1 rfl (lv_room (Nat.le_of_ble_eq_true rfl)) dX5_kind_37 ⟨Nat.zero_le _, Nat.zero_le _⟩) hS (fun q _ h => hFc q h) hFc (fun r2 u2 t H1 locs ht hvm hw hB hz1 hk1 hS => ?_)
              subst r2
              have hP := keepP hP hk1
              clear hFc hk1 hB
              generalize H1 = H at hP hS ⊢
              refine lv_if_eq (tgt := 47) hx hb dX5_kind_40 (by decide) (fun c_8 => ?_) (fun c_8 => ?_)
              · have hf := (if_pos c_8).symm.trans hf
                exact ih1 v1 v2 v3 v4 u H locs ls hf hP hD hS (lv_sub hl [0, 1, 2, 3, 4] rfl)
              · have hf := (if_neg c_8).symm.trans hf
                refine lv_iconst (v := 1) hx hb dX5_kind_43 (by decide) ?_
                refine lv_goto (tgt := 48) hx hb dX5_kind_44 (by decide) ?_
                refine lv_istore (lv' := [(5, .int (1 : Int32)), (0, .ref (ad 0)), (1, .int v1), (2, .int v2), (3, .int v3), (4, .int v4)]) hx hb dX5_kind_48 hl (by decide) rfl (fun ls hl => ?_)
                refine lv_aload_n hx hb dX5_kind_50 rfl (lv_at hl 1 rfl) ?_
                refine lv_iload hx hb dX5_kind_51 (lv_at hl 0 rfl) ?_
                refine lv_if_ne (tgt := 60) hx hb dX5_kind_53 (by decide) (fun c_9 => ?_) (fun c_9 => ?_)
                · refine lv_aload_n hx hb dX5_kind_60 rfl (lv_at hl 1 rfl) ?_
                  refine va_get (D := (dC, dI)) (ci := 5) (v := .int (gI u 1)) (C := RX5) (T := TX5) (N := 36) hx hb hts iX5 hown hK hP 0 rfl rfl 1 (by decide) k_1 (fun _ h9 => h9) rfl dX5_kind_61 ?_
                  refine lv_iconst (v := 3) hx hb dX5_kind_64 (by decide) ?_
                  refine lv_icmp_ne (tgt := 72) hx hb dX5_kind_65 (by decide) (fun c_10 => ?_) (fun c_10 => ?_)
                  · have hf := (if_neg c_10).symm.trans hf
                    refine lv_iconst (v := 0) hx hb dX5_kind_72 (by decide) ?_
                    refine va_put (D := (dC, dI)) (ci := 5) (v := .int (0 : Int32)) (ty := .int) (C := RX5) (T := TX5) (N := 36) hx hb hts iX5 tyX5 tyX5_ok nmX5 hown hK hP hD hS 0 rfl rfl 0 (by decide) k_2 (fun _ h9 => h9) rfl (by decide +kernel) rfl rfl (Nat.le_of_ble_eq_true rfl) dX5_kind_73 (fun H locs hP hD hS => ?_)
                    have hP : va_P (dC, dI) vwCl (mw ad cI cL (sI u 0 (0 : Int32))) H := hP
                    have hD : va_D A (mw ad cI cL (sI u 0 (0 : Int32))) := hD
                    refine lv_aload_n hx hb dX5_kind_76 rfl (lv_at hl 1 rfl) ?_
                    refine va_get (D := (dC, dI)) (ci := 5) (v := .int ((0 : Int32))) (C := RX5) (T := TX5) (N := 36) hx hb hts iX5 hown hK hP 0 rfl rfl 0 (by decide) k_2 (fun _ h9 => h9) rfl dX5_kind_77 ?_
                    refine lv_if_le (tgt := 85) hx hb dX5_kind_80 (by decide) (fun c_11 => ?_) (fun c_11 => ?_)
                    · refine lv_aload_n hx hb dX5_kind_85 rfl (lv_at hl 1 rfl) ?_
                      refine va_get (D := (dC, dI)) (ci := 5) (v := .ref (ad 1)) (C := RX5) (T := TX5) (N := 36) hx hb hts iX5 hown hK hP 0 rfl rfl 2 (by decide) k_3 (fun _ h9 => h9) rfl dX5_kind_86 ?_
                      refine lv_aload_n hx hb dX5_kind_89 rfl (lv_at hl 1 rfl) ?_
                      refine va_get (D := (dC, dI)) (ci := 5) (v := .int (gI u 1)) (C := RX5) (T := TX5) (N := 36) hx hb hts iX5 hown hK hP 0 rfl rfl 1 (by decide) k_1 (fun _ h9 => h9) rfl dX5_kind_90 ?_
                      refine lv_iload_n hx hb dX5_kind_93 rfl (lv_at hl 2 rfl) ?_
                      obtain ⟨h_12, hf⟩ := ck_of hf
                      refine va_iast (f := (gA u 0)) hx hb hK hP hD hS 1 0 rfl rfl h_12 dX5_kind_94 (fun H locs hP hD hS => ?_)
                      have hP : va_P (dC, dI) vwCl (mw ad cI cL (sA (sI u 0 (0 : Int32)) 0 (upd (gA u 0) (gI u 1).toNatClampNeg v1))) H := hP
                      have hD : va_D A (mw ad cI cL (sA (sI u 0 (0 : Int32)) 0 (upd (gA u 0) (gI u 1).toNatClampNeg v1))) := hD
                      refine lv_aload_n hx hb dX5_kind_95 rfl (lv_at hl 1 rfl) ?_
                      refine va_get (D := (dC, dI)) (ci := 5) (v := .ref (ad 2)) (C := RX5) (T := TX5) (N := 36) hx hb hts iX5 hown hK hP 0 rfl rfl 3 (by decide) k_4 (fun _ h9 => h9) rfl dX5_kind_96 ?_
                      refine lv_aload_n hx hb dX5_kind_99 rfl (lv_at hl 1 rfl) ?_
                      refine va_get (D := (dC, dI)) (ci := 5) (v := .int (gI u 1)) (C := RX5) (T := TX5) (N := 36) hx hb hts iX5 hown hK hP 0 rfl rfl 1 (by decide) k_1 (fun _ h9 => h9) rfl dX5_kind_100 ?_
                      refine lv_iload_n hx hb dX5_kind_103 rfl (lv_at hl 3 rfl) ?_
                      refine va_iast (f := (gA u 1)) hx hb hK hP hD hS 2 0 rfl rfl h_12 dX5_kind_104 (fun H locs hP hD hS => ?_)
                      have hP : va_P (dC, dI) vwCl (mw ad cI cL (sA (sA (sI u 0 (0 : Int32)) 0 (upd (gA u 0) (gI u 1).toNatClampNeg v1)) 1 (upd (gA u 1) (gI u 1).toNatClampNeg v2))) H := hP
                      have hD : va_D A (mw ad cI cL (sA (sA (sI u 0 (0 : Int32)) 0 (upd (gA u 0) (gI u 1).toNatClampNeg v1)) 1 (upd (gA u 1) (gI u 1).toNatClampNeg v2))) := hD
                      refine lv_aload_n hx hb dX5_kind_105 rfl (lv_at hl 1 rfl) ?_
                      refine va_get (D := (dC, dI)) (ci := 5) (v := .ref (ad 3)) (C := RX5) (T := TX5) (N := 36) hx hb hts iX5 hown hK hP 0 rfl rfl 4 (by decide) k_5 (fun _ h9 => h9) rfl dX5_kind_106 ?_
                      refine lv_aload_n hx hb dX5_kind_109 rfl (lv_at hl 1 rfl) ?_
                      refine va_get (D := (dC, dI)) (ci := 5) (v := .int (gI u 1)) (C := RX5) (T := TX5) (N := 36) hx hb hts iX5 hown hK hP 0 rfl rfl 1 (by decide) k_1 (fun _ h9 => h9) rfl dX5_kind_110 ?_
                      refine lv_iload_n hx hb dX5_kind_113 rfl (lv_at hl 4 rfl) ?_
                      refine va_iast (f := (gA u 2)) hx hb hK hP hD hS 3 0 rfl rfl h_12 dX5_kind_114 (fun H locs hP hD hS => ?_)
                      have hP : va_P (dC, dI) vwCl (mw ad cI cL (sA (sA (sA (sI u 0 (0 : Int32)) 0 (upd (gA u 0) (gI u 1).toNatClampNeg v1)) 1 (upd (gA u 1) (gI u 1).toNatClampNeg v2)) 2 (upd (gA u 2) (gI u 1).toNatClampNeg v3))) H := hP
                      have hD : va_D A (mw ad cI cL (sA (sA (sA (sI u 0 (0 : Int32)) 0 (upd (gA u 0) (gI u 1).toNatClampNeg v1)) 1 (upd (gA u 1) (gI u 1).toNatClampNeg v2)) 2 (upd (gA u 2) (gI u 1).toNatClampNeg v3))) := hD
                      refine lv_aload_n hx hb dX5_kind_115 rfl (lv_at hl 1 rfl) ?_
                      refine va_get (D := (dC, dI)) (ci := 5) (v := .ref (ad 4)) (C := RX5) (T := TX5) (N := 36) hx hb hts iX5 hown hK hP 0 rfl rfl 5 (by decide) k_6 (fun _ h9 => h9) rfl dX5_kind_116 ?_
                      refine lv_aload_n hx hb dX5_kind_119 rfl (lv_at hl 1 rfl) ?_
                      refine va_get (D := (dC, dI)) (ci := 5) (v := .int (gI u 1)) (C := RX5) (T := TX5) (N := 36) hx hb hts iX5 hown hK hP 0 rfl rfl 1 (by decide) k_1 (fun _ h9 => h9) rfl dX5_kind_120 ?_
                      refine lv_iload hx hb dX5_kind_123 (lv_at hl 5 rfl) ?_
                      refine va_iast (f := (gA u 3)) hx hb hK hP hD hS 4 0 rfl rfl h_12 dX5_kind_125 (fun H locs hP hD hS => ?_)
                      have hP : va_P (dC, dI) vwCl (mw ad cI cL (sA (sA (sA (sA (sI u 0 (0 : Int32)) 0 (upd (gA u 0) (gI u 1).toNatClampNeg v1)) 1 (upd (gA u 1) (gI u 1).toNatClampNeg v2)) 2 (upd (gA u 2) (gI u 1).toNatClampNeg v3)) 3 (upd (gA u 3) (gI u 1).toNatClampNeg v4))) H := hP
                      have hD : va_D A (mw ad cI cL (sA (sA (sA (sA (sI u 0 (0 : Int32)) 0 (upd (gA u 0) (gI u 1).toNatClampNeg v1)) 1 (upd (gA u 1) (gI u 1).toNatClampNeg v2)) 2 (upd (gA u 2) (gI u 1).toNatClampNeg v3)) 3 (upd (gA u 3) (gI u 1).toNatClampNeg v4))) := hD
                      refine lv_aload_n hx hb dX5_kind_126 rfl (lv_at hl 1 rfl) ?_
                      refine lv_dup hx hb dX5_kind_127 rfl ?_
                      refine va_get (D := (dC, dI)) (ci := 5) (v := .int (gI u 1)) (C := RX5) (T := TX5) (N := 36) hx hb hts iX5 hown hK hP 0 rfl rfl 1 (by decide) k_1 (fun _ h9 => h9) rfl dX5_kind_128 ?_
                      refine lv_iconst (v := 1) hx hb dX5_kind_131 (by decide) ?_
                      refine lv_iadd hx hb dX5_kind_132 ?_
                      refine va_put (D := (dC, dI)) (ci := 5) (v := .int ((gI u 1) + (1 : Int32))) (ty := .int) (C := RX5) (T := TX5) (N := 36) hx hb hts iX5 tyX5 tyX5_ok nmX5 hown hK hP hD hS 0 rfl rfl 1 (by decide) k_1 (fun _ h9 => h9) rfl (by decide +kernel) rfl rfl (Nat.le_of_ble_eq_true rfl) dX5_kind_133 (fun H locs hP hD hS => ?_)
                      have hP : va_P (dC, dI) vwCl (mw ad cI cL (sI (sA (sA (sA (sA (sI u 0 (0 : Int32)) 0 (upd (gA u 0) (gI u 1).toNatClampNeg v1)) 1 (upd (gA u 1) (gI u 1).toNatClampNeg v2)) 2 (upd (gA u 2) (gI u 1).toNatClampNeg v3)) 3 (upd (gA u 3) (gI u 1).toNatClampNeg v4)) 1 ((gI u 1) + (1 : Int32)))) H := hP
                      have hD : va_D A (mw ad cI cL (sI (sA (sA (sA (sA (sI u 0 (0 : Int32)) 0 (upd (gA u 0) (gI u 1).toNatClampNeg v1)) 1 (upd (gA u 1) (gI u 1).toNatClampNeg v2)) 2 (upd (gA u 2) (gI u 1).toNatClampNeg v3)) 3 (upd (gA u 3) (gI u 1).toNatClampNeg v4)) 1 ((gI u 1) + (1 : Int32)))) := hD
                      refine lv_aload_n hx hb dX5_kind_136 rfl (lv_at hl 1 rfl) ?_
                      obtain ⟨w_13, hw_13, hf⟩ := ob hf
                      have hFc := freeAll hD hS hA
                      refine va_callv (va_runV (As := []) (rest := []) ⟨hx, hb, hml, hown, hts⟩ (mX5_renew l dC dI cI cL ad H.size (sI (sA (sA (sA (sA (sI u 0 (0 : Int32)) 0 (upd (gA u 0) (gI u 1).toNatClampNeg v1)) 1 (upd (gA u 1) (gI u 1).toNatClampNeg v2)) 2 (upd (gA u 2) (gI u 1).toNatClampNeg v3)) 3 (upd (gA u 3) (gI u 1).toNatClampNeg v4)) 1 ((gI u 1) + (1 : Int32)))  n w_13 hw_13) (cwV 0 hts gX5_kind_X5_renew rfl rfl rfl (by decide +kernel) ⟨Nat.le_of_ble_eq_true rfl, Nat.le_of_ble_eq_true rfl⟩) ⟨wPre_blind, va_recv hK hP (ci := 5) (q0 := 0) rfl rfl, wPre_of hP hK hD hZ⟩ rfl rfl hl.1 rfl (lv_room (Nat.le_of_ble_eq_true rfl)) dX5_kind_137 ⟨Nat.zero_le _, Nat.zero_le _⟩) hS (fun q _ h => hFc q h) hFc (fun u2 t H1 locs ht hvm hw hB hz1 hk1 hS => ?_)
                      obtain ⟨hP1, hK1, hD1⟩ := hB
                      rw [ht] at hP1
                      subst u2
                      have hP : va_P (dC, dI) vwCl (mw ad cI cL w_13) H1 := hP1
                      have hD : va_D A (mw ad cI cL w_13) := hD1.weaken (fun _ _ _ h => hFc _ h)
                      clear hP1 hD1 hK1 hFc hk1
                      generalize H1 = H at hP hS ⊢
                      refine lv_aload_n hx hb dX5_kind_140 rfl (lv_at hl 1 rfl) ?_
                      refine va_get (D := (dC, dI)) (ci := 5) (v := .int (gI w_13 1)) (C := RX5) (T := TX5) (N := 36) hx hb hts iX5 hown hK hP 0 rfl rfl 1 (by decide) k_1 (fun _ h9 => h9) rfl dX5_kind_141 ?_
                      refine lv_iconst (v := 1) hx hb dX5_kind_144 (by decide) ?_
                      refine lv_isub hx hb dX5_kind_145 ?_
                      have hf := Option.some.inj hf
                      exact W.iret (v := ((gI w_13 1) - (1 : Int32))) hx hb hr (fun t ht hW => ⟨⟨((gI w_13 1) - (1 : Int32)), w_13, rfl, hf, ⟨by rw [ht]; exact hP, va_K.moved hW.alike hK, hD⟩⟩, hS.F ht⟩) hS.2.2 dX5_kind_146
                    · exact absurd c_11 (by decide)
                  · have hf := (if_pos c_10).symm.trans hf
                    refine lv_iconst (v := 2) hx hb dX5_kind_68 (by decide) ?_
                    refine lv_goto (tgt := 73) hx hb dX5_kind_69 (by decide) ?_
                    refine va_put (D := (dC, dI)) (ci := 5) (v := .int (2 : Int32)) (ty := .int) (C := RX5) (T := TX5) (N := 36) hx hb hts iX5 tyX5 tyX5_ok nmX5 hown hK hP hD hS 0 rfl rfl 0 (by decide) k_2 (fun _ h9 => h9) rfl (by decide +kernel) rfl rfl (Nat.le_of_ble_eq_true rfl) dX5_kind_73 (fun H locs hP hD hS => ?_)
                    have hP : va_P (dC, dI) vwCl (mw ad cI cL (sI u 0 (2 : Int32))) H := hP
                    have hD : va_D A (mw ad cI cL (sI u 0 (2 : Int32))) := hD
                    refine lv_aload_n hx hb dX5_kind_76 rfl (lv_at hl 1 rfl) ?_
                    refine va_get (D := (dC, dI)) (ci := 5) (v := .int ((2 : Int32))) (C := RX5) (T := TX5) (N := 36) hx hb hts iX5 hown hK hP 0 rfl rfl 0 (by decide) k_2 (fun _ h9 => h9) rfl dX5_kind_77 ?_
                    refine lv_if_le (tgt := 85) hx hb dX5_kind_80 (by decide) (fun c_14 => ?_) (fun c_14 => ?_)
                    · exact absurd c_14 (by decide)
                    · refine lv_iconst (v := 0) hx hb dX5_kind_83 (by decide) ?_
                      have hf := Option.some.inj hf
                      exact W.iret (v := (0 : Int32)) hx hb hr (fun t ht hW => ⟨⟨(0 : Int32), (sI u 0 (2 : Int32)), rfl, hf, ⟨by rw [ht]; exact hP, va_K.moved hW.alike hK, hD⟩⟩, hS.F ht⟩) hS.2.2 dX5_kind_84
                · exact absurd c_9 (by decide)
      · intro v1 v2 v3 v4 u H locs ls hf hP hD hS hl
        have hf := (eX5_kind_47 n v1 v2 v3 v4 u).symm.trans hf
        refine lv_iconst (v := 0) hx hb dX5_kind_47 (by decide) ?_
        refine lv_istore (lv' := [(5, .int (0 : Int32)), (0, .ref (ad 0)), (1, .int v1), (2, .int v2), (3, .int v3), (4, .int v4)]) hx hb dX5_kind_48 hl (by decide) rfl (fun ls hl => ?_)
        refine lv_aload_n hx hb dX5_kind_50 rfl (lv_at hl 1 rfl) ?_
        refine lv_iload hx hb dX5_kind_51 (lv_at hl 0 rfl) ?_
        refine lv_if_ne (tgt := 60) hx hb dX5_kind_53 (by decide) (fun c_15 => ?_) (fun c_15 => ?_)
        · exact absurd c_15 (by decide)
        · refine lv_iconst (v := 1) hx hb dX5_kind_56 (by decide) ?_
          refine lv_goto (tgt := 73) hx hb dX5_kind_57 (by decide) ?_
          refine va_put (D := (dC, dI)) (ci := 5) (v := .int (1 : Int32)) (ty := .int) (C := RX5) (T := TX5) (N := 36) hx hb hts iX5 tyX5 tyX5_ok nmX5 hown hK hP hD hS 0 rfl rfl 0 (by decide) k_2 (fun _ h9 => h9) rfl (by decide +kernel) rfl rfl (Nat.le_of_ble_eq_true rfl) dX5_kind_73 (fun H locs hP hD hS => ?_)
          have hP : va_P (dC, dI) vwCl (mw ad cI cL (sI u 0 (1 : Int32))) H := hP
          have hD : va_D A (mw ad cI cL (sI u 0 (1 : Int32))) := hD
          refine lv_aload_n hx hb dX5_kind_76 rfl (lv_at hl 1 rfl) ?_
          refine va_get (D := (dC, dI)) (ci := 5) (v := .int ((1 : Int32))) (C := RX5) (T := TX5) (N := 36) hx hb hts iX5 hown hK hP 0 rfl rfl 0 (by decide) k_2 (fun _ h9 => h9) rfl dX5_kind_77 ?_
          refine lv_if_le (tgt := 85) hx hb dX5_kind_80 (by decide) (fun c_16 => ?_) (fun c_16 => ?_)
          · exact absurd c_16 (by decide)
          · refine lv_iconst (v := 0) hx hb dX5_kind_83 (by decide) ?_
            have hf := Option.some.inj hf
            exact W.iret (v := (0 : Int32)) hx hb hr (fun t ht hW => ⟨⟨(0 : Int32), (sI u 0 (1 : Int32)), rfl, hf, ⟨by rw [ht]; exact hP, va_K.moved hW.alike hK, hD⟩⟩, hS.F ht⟩) hS.2.2 dX5_kind_84
  exact (key n).1 z1 z2 z3 z4 u _ _ ls hf0 hP hD hS (lv_sub hl [0, 1, 2, 3, 4] rfl)

def fX5_place (n pc : Nat) (v1 : Int32) (v2 : Int32) (u : St) : Option (Int32 × St) := match n with
  | 0 => none
  | n + 1 => match pc with
    | 0 => ((FX5_isIn n v1 (0 : Int32) (50 : Int32)).bind fun w_1 => (if w_1 = 0 then some ((0 : Int32), sI u 0 (1 : Int32)) else ((FX5_isIn n v2 (0 : Int32) (50 : Int32)).bind fun w_4 => (if w_4 = 0 then some ((0 : Int32), sI u 0 (1 : Int32)) else (if (gI u 2) = (7 : Int32) then some ((0 : Int32), sI u 0 (2 : Int32)) else (if ck (gI u 2) 7 = true then ((FX5_renew n  (sI (sA (sA (sA (sA (sI u 0 (0 : Int32)) 4 (upd (gA u 4) (gI u 2).toNatClampNeg v1)) 5 (upd (gA u 5) (gI u 2).toNatClampNeg v2)) 6 (upd (gA u 6) (gI u 2).toNatClampNeg (-2 : Int32))) 7 (upd (gA u 7) (gI u 2).toNatClampNeg (-1 : Int32))) 2 ((gI u 2) + (1 : Int32)))).bind fun w_9 => some (((gI w_9 2) - (1 : Int32)), w_9)) else none))))))
    | _ => none
theorem eX5_place_0 (n : Nat) (v1 : Int32) (v2 : Int32) (u : St) : fX5_place (n + 1) 0 v1 v2 u = ((FX5_isIn n v1 (0 : Int32) (50 : Int32)).bind fun w_1 => (if w_1 = 0 then some ((0 : Int32), sI u 0 (1 : Int32)) else ((FX5_isIn n v2 (0 : Int32) (50 : Int32)).bind fun w_4 => (if w_4 = 0 then some ((0 : Int32), sI u 0 (1 : Int32)) else (if (gI u 2) = (7 : Int32) then some ((0 : Int32), sI u 0 (2 : Int32)) else (if ck (gI u 2) 7 = true then ((FX5_renew n  (sI (sA (sA (sA (sA (sI u 0 (0 : Int32)) 4 (upd (gA u 4) (gI u 2).toNatClampNeg v1)) 5 (upd (gA u 5) (gI u 2).toNatClampNeg v2)) 6 (upd (gA u 6) (gI u 2).toNatClampNeg (-2 : Int32))) 7 (upd (gA u 7) (gI u 2).toNatClampNeg (-1 : Int32))) 2 ((gI u 2) + (1 : Int32)))).bind fun w_9 => some (((gI w_9 2) - (1 : Int32)), w_9)) else none)))))) := rfl
theorem vX5_place_0 (v1 : Int32) (v2 : Int32) (u : St) (r : Int32 × St) : Ev (fun n => fX5_place n 0 v1 v2 u) r ↔ Ev (fun n => ((FX5_isIn n v1 (0 : Int32) (50 : Int32)).bind fun w_1 => (if w_1 = 0 then some ((0 : Int32), sI u 0 (1 : Int32)) else ((FX5_isIn n v2 (0 : Int32) (50 : Int32)).bind fun w_4 => (if w_4 = 0 then some ((0 : Int32), sI u 0 (1 : Int32)) else (if (gI u 2) = (7 : Int32) then some ((0 : Int32), sI u 0 (2 : Int32)) else (if ck (gI u 2) 7 = true then ((FX5_renew n  (sI (sA (sA (sA (sA (sI u 0 (0 : Int32)) 4 (upd (gA u 4) (gI u 2).toNatClampNeg v1)) 5 (upd (gA u 5) (gI u 2).toNatClampNeg v2)) 6 (upd (gA u 6) (gI u 2).toNatClampNeg (-2 : Int32))) 7 (upd (gA u 7) (gI u 2).toNatClampNeg (-1 : Int32))) 2 ((gI u 2) + (1 : Int32)))).bind fun w_9 => some (((gI w_9 2) - (1 : Int32)), w_9)) else none))))))) r := Ev_succ (fun n => fX5_place n 0 v1 v2 u) r
def FX5_place (n : Nat) (v1 : Int32) (v2 : Int32) (u : St) : Option (Int32 × St) := fX5_place n 0 v1 v2 u
set_option maxHeartbeats 4000000 in
set_option maxRecDepth 100000 in
theorem mX5_place (l : Launch) (dC : Nat → ClassId) (dI : Nat → Nat → Nat) (cI cL : ClassId) (ad : Nat → Nat) (sz : Nat) (u : St) (z1 : Int32) (z2 : Int32) (n : Nat) (r : Int32 × St) (hf0 : FX5_place n z1 z2 u = some r) : Met l yX5_place wsX5_place ({ frames := 1, cells := 0, slots := 0, locals := 22 }) (va_Pc [.ref (ad 0), .int z1, .int z2] (wPre dC dI cI cL (mw ad cI cL u) sz)) (va_Qi (fun a t => (a, t) = r) (fun t => wPost dC dI cI cL (va_A (mw ad cI cL u) sz) (mw ad cI cL t)) (va_A (mw ad cI cL u) sz)) 0 0 (va_A (mw ad cI cL u) sz) := by
  refine Met.ofW (cc := cX5_place) (maxL := 3) (ret := (some .int)) (by decide) rfl ?_
  intro p e s m args below meth c s₁ B hml hv
  obtain ⟨rfl, hsz, hP, hK, hD0, hZ⟩ := hv
  have hx := B.exec
  have hb := B.bytes
  have hr := B.returns
  have hts := atoms_spec (ws := wsX5_place) B.pre
  have hown : s.vm.findClass RX5 = some m.cls := findClass_of_methodNamed B.named
  have hlocks := B.notSynchronized
  subst hsz
  have hD := hD0.self (sz := s.heap.size)
  generalize hAe : va_A (mw ad cI cL u) s.heap.size = A at hD ⊢
  have hA : ∀ q : Nat, s.heap.size ≤ q → A q := fun q h => by rw [← hAe]; exact Or.inr h
  have hS : va_S A s.heap s.heap [] := va_S.rf
  have iX5 : ∀ w ∈ u_ws RX5 TX5 36, w ∈ wsX5_place := fun _ h => List.mem_cons_of_mem _ (List.mem_append_right _ h)
  have k_0 := hts (.fieldLink RX5 80 "LampChoiceModel" "code" "I") (by decide +kernel)
  have k_1 := hts (.fieldLink RX5 90 "LampChoiceModel" "places" "I") (by decide +kernel)
  have k_2 := hts (.fieldLink RX5 22 "LampChoiceModel" "xs" "[I") (by decide +kernel)
  have k_3 := hts (.fieldLink RX5 25 "LampChoiceModel" "ys" "[I") (by decide +kernel)
  have k_4 := hts (.fieldLink RX5 28 "LampChoiceModel" "held" "[I") (by decide +kernel)
  have k_5 := hts (.fieldLink RX5 31 "LampChoiceModel" "sensors" "[I") (by decide +kernel)
  have hl := lv_entry ([.ref (ad 0), .int z1, .int z2]) (n := 3) (Nat.le_of_ble_eq_true rfl)
  rw [lg_entry_eq]
  generalize (lg_sl ([.ref (ad 0), .int z1, .int z2]) ++ List.replicate (3 - (lg_sl ([.ref (ad 0), .int z1, .int z2])).length) Slot.unset).toArray = ls at hl ⊢
  have hl : lv_has ls 3 [(0, .ref (ad 0)), (1, .int z1), (2, .int z2)] := hl
  have key : ∀ n : Nat, (∀ (v1 : Int32) (v2 : Int32) (u : St) (H : Heap) (locs : List Loc) (ls : Array Slot), fX5_place n 0 v1 v2 u = some r → va_P (dC, dI) vwCl (mw ad cI cL u) H → va_D A (mw ad cI cL u) → va_S A s.heap H locs → lv_has ls 3 [(0, .ref (ad 0)), (1, .int v1), (2, .int v2)] → W p l e (headSpec wsX5_place ({ frames := 1, cells := 0, slots := 0, locals := 22 })).room s m ([.ref (ad 0), .int z1, .int z2] : List Value).toArray below meth c H locs 0 0 (MQ below (va_Qi (fun a t => (a, t) = r) (fun t => wPost dC dI cI cL A (mw ad cI cL t)) A) ([.ref (ad 0), .int z1, .int z2] : List Value).toArray s 0 0 A) (F0 m 0 ls [])) := by
    intro n
    induction n with
    | zero => exact (fun _ _ _ _ _ _ hf => nomatch (show (none : Option (Int32 × St)) = some r from hf))
    | succ n ih =>
      have ih0 := ih
      · intro v1 v2 u H locs ls hf hP hD hS hl
        have hf := (eX5_place_0 n v1 v2 u).symm.trans hf
        refine lv_aload_n hx hb dX5_place_0 rfl (lv_at hl 0 rfl) ?_
        refine lv_iload_n hx hb dX5_place_1 rfl (lv_at hl 1 rfl) ?_
        refine lv_iconst (v := 0) hx hb dX5_place_2 (by decide) ?_
        refine lv_bipush (v := 50) hx hb dX5_place_3 (by decide) ?_
        obtain ⟨w_1, hw_1, hf⟩ := ob hf
        have hFc := freeNil hS hA
        refine va_calli (va_runS (As := [.int v1, .int (0 : Int32), .int (50 : Int32)]) (rest := [.ref (ad 0)]) ⟨hx, hb, hml, hown, hts⟩ (mX5_isIn l H.size v1 (0 : Int32) (50 : Int32) n w_1 hw_1) (va_cwS 3 hts gX5_place_X5_isIn rfl rfl rfl (by decide +kernel) ⟨Nat.le_of_ble_eq_true rfl, Nat.le_of_ble_eq_true rfl⟩) ⟨nPre_blind, nPre_of⟩ rfl rfl hl.1 rfl (lv_room (Nat.le_of_ble_eq_true rfl)) dX5_place_5 ⟨Nat.zero_le _, Nat.zero_le _⟩) hS (fun q _ h => hFc q h) hFc (fun r2 u2 t H1 locs ht hvm hw hB hz1 hk1 hS => ?_)
        subst r2
        have hP := keepP hP hk1
        clear hFc hk1 hB
        generalize H1 = H at hP hS ⊢
        refine lv_if_eq (tgt := 21) hx hb dX5_place_8 (by decide) (fun c_2 => ?_) (fun c_2 => ?_)
        · have hf := (if_pos c_2).symm.trans hf
          refine lv_iconst (v := 1) hx hb dX5_place_21 (by decide) ?_
          refine lv_goto (tgt := 39) hx hb dX5_place_22 (by decide) ?_
          refine va_put (D := (dC, dI)) (ci := 5) (v := .int (1 : Int32)) (ty := .int) (C := RX5) (T := TX5) (N := 36) hx hb hts iX5 tyX5 tyX5_ok nmX5 hown hK hP hD hS 0 rfl rfl 0 (by decide) k_0 (fun _ h9 => h9) rfl (by decide +kernel) rfl rfl (Nat.le_of_ble_eq_true rfl) dX5_place_39 (fun H locs hP hD hS => ?_)
          have hP : va_P (dC, dI) vwCl (mw ad cI cL (sI u 0 (1 : Int32))) H := hP
          have hD : va_D A (mw ad cI cL (sI u 0 (1 : Int32))) := hD
          refine lv_aload_n hx hb dX5_place_42 rfl (lv_at hl 0 rfl) ?_
          refine va_get (D := (dC, dI)) (ci := 5) (v := .int ((1 : Int32))) (C := RX5) (T := TX5) (N := 36) hx hb hts iX5 hown hK hP 0 rfl rfl 0 (by decide) k_0 (fun _ h9 => h9) rfl dX5_place_43 ?_
          refine lv_if_le (tgt := 51) hx hb dX5_place_46 (by decide) (fun c_3 => ?_) (fun c_3 => ?_)
          · exact absurd c_3 (by decide)
          · refine lv_iconst (v := 0) hx hb dX5_place_49 (by decide) ?_
            have hf := Option.some.inj hf
            exact W.iret (v := (0 : Int32)) hx hb hr (fun t ht hW => ⟨⟨(0 : Int32), (sI u 0 (1 : Int32)), rfl, hf, ⟨by rw [ht]; exact hP, va_K.moved hW.alike hK, hD⟩⟩, hS.F ht⟩) hS.2.2 dX5_place_50
        · have hf := (if_neg c_2).symm.trans hf
          refine lv_iload_n hx hb dX5_place_11 rfl (lv_at hl 2 rfl) ?_
          refine lv_iconst (v := 0) hx hb dX5_place_12 (by decide) ?_
          refine lv_bipush (v := 50) hx hb dX5_place_13 (by decide) ?_
          obtain ⟨w_4, hw_4, hf⟩ := ob hf
          have hFc := freeNil hS hA
          refine va_calli (va_runS (As := [.int v2, .int (0 : Int32), .int (50 : Int32)]) (rest := [.ref (ad 0)]) ⟨hx, hb, hml, hown, hts⟩ (mX5_isIn l H.size v2 (0 : Int32) (50 : Int32) n w_4 hw_4) (va_cwS 3 hts gX5_place_X5_isIn rfl rfl rfl (by decide +kernel) ⟨Nat.le_of_ble_eq_true rfl, Nat.le_of_ble_eq_true rfl⟩) ⟨nPre_blind, nPre_of⟩ rfl rfl hl.1 rfl (lv_room (Nat.le_of_ble_eq_true rfl)) dX5_place_15 ⟨Nat.zero_le _, Nat.zero_le _⟩) hS (fun q _ h => hFc q h) hFc (fun r2 u2 t H1 locs ht hvm hw hB hz1 hk1 hS => ?_)
          subst r2
          have hP := keepP hP hk1
          clear hFc hk1 hB
          generalize H1 = H at hP hS ⊢
          refine lv_if_ne (tgt := 25) hx hb dX5_place_18 (by decide) (fun c_5 => ?_) (fun c_5 => ?_)
          · have hf := (if_neg c_5).symm.trans hf
            refine lv_aload_n hx hb dX5_place_25 rfl (lv_at hl 0 rfl) ?_
            refine va_get (D := (dC, dI)) (ci := 5) (v := .int (gI u 2)) (C := RX5) (T := TX5) (N := 36) hx hb hts iX5 hown hK hP 0 rfl rfl 6 (by decide) k_1 (fun _ h9 => h9) rfl dX5_place_26 ?_
            refine lv_bipush (v := 7) hx hb dX5_place_29 (by decide) ?_
            refine lv_icmp_ne (tgt := 38) hx hb dX5_place_31 (by decide) (fun c_6 => ?_) (fun c_6 => ?_)
            · have hf := (if_neg c_6).symm.trans hf
              refine lv_iconst (v := 0) hx hb dX5_place_38 (by decide) ?_
              refine va_put (D := (dC, dI)) (ci := 5) (v := .int (0 : Int32)) (ty := .int) (C := RX5) (T := TX5) (N := 36) hx hb hts iX5 tyX5 tyX5_ok nmX5 hown hK hP hD hS 0 rfl rfl 0 (by decide) k_0 (fun _ h9 => h9) rfl (by decide +kernel) rfl rfl (Nat.le_of_ble_eq_true rfl) dX5_place_39 (fun H locs hP hD hS => ?_)
              have hP : va_P (dC, dI) vwCl (mw ad cI cL (sI u 0 (0 : Int32))) H := hP
              have hD : va_D A (mw ad cI cL (sI u 0 (0 : Int32))) := hD
              refine lv_aload_n hx hb dX5_place_42 rfl (lv_at hl 0 rfl) ?_
              refine va_get (D := (dC, dI)) (ci := 5) (v := .int ((0 : Int32))) (C := RX5) (T := TX5) (N := 36) hx hb hts iX5 hown hK hP 0 rfl rfl 0 (by decide) k_0 (fun _ h9 => h9) rfl dX5_place_43 ?_
              refine lv_if_le (tgt := 51) hx hb dX5_place_46 (by decide) (fun c_7 => ?_) (fun c_7 => ?_)
              · refine lv_aload_n hx hb dX5_place_51 rfl (lv_at hl 0 rfl) ?_
                refine va_get (D := (dC, dI)) (ci := 5) (v := .ref (ad 5)) (C := RX5) (T := TX5) (N := 36) hx hb hts iX5 hown hK hP 0 rfl rfl 7 (by decide) k_2 (fun _ h9 => h9) rfl dX5_place_52 ?_
                refine lv_aload_n hx hb dX5_place_55 rfl (lv_at hl 0 rfl) ?_
                refine va_get (D := (dC, dI)) (ci := 5) (v := .int (gI u 2)) (C := RX5) (T := TX5) (N := 36) hx hb hts iX5 hown hK hP 0 rfl rfl 6 (by decide) k_1 (fun _ h9 => h9) rfl dX5_place_56 ?_
                refine lv_iload_n hx hb dX5_place_59 rfl (lv_at hl 1 rfl) ?_
                obtain ⟨h_8, hf⟩ := ck_of hf
                refine va_iast (f := (gA u 4)) hx hb hK hP hD hS 5 0 rfl rfl h_8 dX5_place_60 (fun H locs hP hD hS => ?_)
                have hP : va_P (dC, dI) vwCl (mw ad cI cL (sA (sI u 0 (0 : Int32)) 4 (upd (gA u 4) (gI u 2).toNatClampNeg v1))) H := hP
                have hD : va_D A (mw ad cI cL (sA (sI u 0 (0 : Int32)) 4 (upd (gA u 4) (gI u 2).toNatClampNeg v1))) := hD
                refine lv_aload_n hx hb dX5_place_61 rfl (lv_at hl 0 rfl) ?_
                refine va_get (D := (dC, dI)) (ci := 5) (v := .ref (ad 6)) (C := RX5) (T := TX5) (N := 36) hx hb hts iX5 hown hK hP 0 rfl rfl 8 (by decide) k_3 (fun _ h9 => h9) rfl dX5_place_62 ?_
                refine lv_aload_n hx hb dX5_place_65 rfl (lv_at hl 0 rfl) ?_
                refine va_get (D := (dC, dI)) (ci := 5) (v := .int (gI u 2)) (C := RX5) (T := TX5) (N := 36) hx hb hts iX5 hown hK hP 0 rfl rfl 6 (by decide) k_1 (fun _ h9 => h9) rfl dX5_place_66 ?_
                refine lv_iload_n hx hb dX5_place_69 rfl (lv_at hl 2 rfl) ?_
                refine va_iast (f := (gA u 5)) hx hb hK hP hD hS 6 0 rfl rfl h_8 dX5_place_70 (fun H locs hP hD hS => ?_)
                have hP : va_P (dC, dI) vwCl (mw ad cI cL (sA (sA (sI u 0 (0 : Int32)) 4 (upd (gA u 4) (gI u 2).toNatClampNeg v1)) 5 (upd (gA u 5) (gI u 2).toNatClampNeg v2))) H := hP
                have hD : va_D A (mw ad cI cL (sA (sA (sI u 0 (0 : Int32)) 4 (upd (gA u 4) (gI u 2).toNatClampNeg v1)) 5 (upd (gA u 5) (gI u 2).toNatClampNeg v2))) := hD
                refine lv_aload_n hx hb dX5_place_71 rfl (lv_at hl 0 rfl) ?_
                refine va_get (D := (dC, dI)) (ci := 5) (v := .ref (ad 7)) (C := RX5) (T := TX5) (N := 36) hx hb hts iX5 hown hK hP 0 rfl rfl 9 (by decide) k_4 (fun _ h9 => h9) rfl dX5_place_72 ?_
                refine lv_aload_n hx hb dX5_place_75 rfl (lv_at hl 0 rfl) ?_
                refine va_get (D := (dC, dI)) (ci := 5) (v := .int (gI u 2)) (C := RX5) (T := TX5) (N := 36) hx hb hts iX5 hown hK hP 0 rfl rfl 6 (by decide) k_1 (fun _ h9 => h9) rfl dX5_place_76 ?_
                refine lv_bipush (v := -2) hx hb dX5_place_79 (by decide) ?_
                refine va_iast (f := (gA u 6)) hx hb hK hP hD hS 7 0 rfl rfl h_8 dX5_place_81 (fun H locs hP hD hS => ?_)
                have hP : va_P (dC, dI) vwCl (mw ad cI cL (sA (sA (sA (sI u 0 (0 : Int32)) 4 (upd (gA u 4) (gI u 2).toNatClampNeg v1)) 5 (upd (gA u 5) (gI u 2).toNatClampNeg v2)) 6 (upd (gA u 6) (gI u 2).toNatClampNeg (-2 : Int32)))) H := hP
                have hD : va_D A (mw ad cI cL (sA (sA (sA (sI u 0 (0 : Int32)) 4 (upd (gA u 4) (gI u 2).toNatClampNeg v1)) 5 (upd (gA u 5) (gI u 2).toNatClampNeg v2)) 6 (upd (gA u 6) (gI u 2).toNatClampNeg (-2 : Int32)))) := hD
                refine lv_aload_n hx hb dX5_place_82 rfl (lv_at hl 0 rfl) ?_
                refine va_get (D := (dC, dI)) (ci := 5) (v := .ref (ad 8)) (C := RX5) (T := TX5) (N := 36) hx hb hts iX5 hown hK hP 0 rfl rfl 10 (by decide) k_5 (fun _ h9 => h9) rfl dX5_place_83 ?_
                refine lv_aload_n hx hb dX5_place_86 rfl (lv_at hl 0 rfl) ?_
                refine va_get (D := (dC, dI)) (ci := 5) (v := .int (gI u 2)) (C := RX5) (T := TX5) (N := 36) hx hb hts iX5 hown hK hP 0 rfl rfl 6 (by decide) k_1 (fun _ h9 => h9) rfl dX5_place_87 ?_
                refine lv_iconst (v := -1) hx hb dX5_place_90 (by decide) ?_
                refine va_iast (f := (gA u 7)) hx hb hK hP hD hS 8 0 rfl rfl h_8 dX5_place_91 (fun H locs hP hD hS => ?_)
                have hP : va_P (dC, dI) vwCl (mw ad cI cL (sA (sA (sA (sA (sI u 0 (0 : Int32)) 4 (upd (gA u 4) (gI u 2).toNatClampNeg v1)) 5 (upd (gA u 5) (gI u 2).toNatClampNeg v2)) 6 (upd (gA u 6) (gI u 2).toNatClampNeg (-2 : Int32))) 7 (upd (gA u 7) (gI u 2).toNatClampNeg (-1 : Int32)))) H := hP
                have hD : va_D A (mw ad cI cL (sA (sA (sA (sA (sI u 0 (0 : Int32)) 4 (upd (gA u 4) (gI u 2).toNatClampNeg v1)) 5 (upd (gA u 5) (gI u 2).toNatClampNeg v2)) 6 (upd (gA u 6) (gI u 2).toNatClampNeg (-2 : Int32))) 7 (upd (gA u 7) (gI u 2).toNatClampNeg (-1 : Int32)))) := hD
                refine lv_aload_n hx hb dX5_place_92 rfl (lv_at hl 0 rfl) ?_
                refine lv_dup hx hb dX5_place_93 rfl ?_
                refine va_get (D := (dC, dI)) (ci := 5) (v := .int (gI u 2)) (C := RX5) (T := TX5) (N := 36) hx hb hts iX5 hown hK hP 0 rfl rfl 6 (by decide) k_1 (fun _ h9 => h9) rfl dX5_place_94 ?_
                refine lv_iconst (v := 1) hx hb dX5_place_97 (by decide) ?_
                refine lv_iadd hx hb dX5_place_98 ?_
                refine va_put (D := (dC, dI)) (ci := 5) (v := .int ((gI u 2) + (1 : Int32))) (ty := .int) (C := RX5) (T := TX5) (N := 36) hx hb hts iX5 tyX5 tyX5_ok nmX5 hown hK hP hD hS 0 rfl rfl 6 (by decide) k_1 (fun _ h9 => h9) rfl (by decide +kernel) rfl rfl (Nat.le_of_ble_eq_true rfl) dX5_place_99 (fun H locs hP hD hS => ?_)
                have hP : va_P (dC, dI) vwCl (mw ad cI cL (sI (sA (sA (sA (sA (sI u 0 (0 : Int32)) 4 (upd (gA u 4) (gI u 2).toNatClampNeg v1)) 5 (upd (gA u 5) (gI u 2).toNatClampNeg v2)) 6 (upd (gA u 6) (gI u 2).toNatClampNeg (-2 : Int32))) 7 (upd (gA u 7) (gI u 2).toNatClampNeg (-1 : Int32))) 2 ((gI u 2) + (1 : Int32)))) H := hP
                have hD : va_D A (mw ad cI cL (sI (sA (sA (sA (sA (sI u 0 (0 : Int32)) 4 (upd (gA u 4) (gI u 2).toNatClampNeg v1)) 5 (upd (gA u 5) (gI u 2).toNatClampNeg v2)) 6 (upd (gA u 6) (gI u 2).toNatClampNeg (-2 : Int32))) 7 (upd (gA u 7) (gI u 2).toNatClampNeg (-1 : Int32))) 2 ((gI u 2) + (1 : Int32)))) := hD
                refine lv_aload_n hx hb dX5_place_102 rfl (lv_at hl 0 rfl) ?_
                obtain ⟨w_9, hw_9, hf⟩ := ob hf
                have hFc := freeAll hD hS hA
                refine va_callv (va_runV (As := []) (rest := []) ⟨hx, hb, hml, hown, hts⟩ (mX5_renew l dC dI cI cL ad H.size (sI (sA (sA (sA (sA (sI u 0 (0 : Int32)) 4 (upd (gA u 4) (gI u 2).toNatClampNeg v1)) 5 (upd (gA u 5) (gI u 2).toNatClampNeg v2)) 6 (upd (gA u 6) (gI u 2).toNatClampNeg (-2 : Int32))) 7 (upd (gA u 7) (gI u 2).toNatClampNeg (-1 : Int32))) 2 ((gI u 2) + (1 : Int32)))  n w_9 hw_9) (cwV 0 hts gX5_place_X5_renew rfl rfl rfl (by decide +kernel) ⟨Nat.le_of_ble_eq_true rfl, Nat.le_of_ble_eq_true rfl⟩) ⟨wPre_blind, va_recv hK hP (ci := 5) (q0 := 0) rfl rfl, wPre_of hP hK hD hZ⟩ rfl rfl hl.1 rfl (lv_room (Nat.le_of_ble_eq_true rfl)) dX5_place_103 ⟨Nat.zero_le _, Nat.zero_le _⟩) hS (fun q _ h => hFc q h) hFc (fun u2 t H1 locs ht hvm hw hB hz1 hk1 hS => ?_)
                obtain ⟨hP1, hK1, hD1⟩ := hB
                rw [ht] at hP1
                subst u2
                have hP : va_P (dC, dI) vwCl (mw ad cI cL w_9) H1 := hP1
                have hD : va_D A (mw ad cI cL w_9) := hD1.weaken (fun _ _ _ h => hFc _ h)
                clear hP1 hD1 hK1 hFc hk1
                generalize H1 = H at hP hS ⊢
                refine lv_aload_n hx hb dX5_place_106 rfl (lv_at hl 0 rfl) ?_
                refine va_get (D := (dC, dI)) (ci := 5) (v := .int (gI w_9 2)) (C := RX5) (T := TX5) (N := 36) hx hb hts iX5 hown hK hP 0 rfl rfl 6 (by decide) k_1 (fun _ h9 => h9) rfl dX5_place_107 ?_
                refine lv_iconst (v := 1) hx hb dX5_place_110 (by decide) ?_
                refine lv_isub hx hb dX5_place_111 ?_
                have hf := Option.some.inj hf
                exact W.iret (v := ((gI w_9 2) - (1 : Int32))) hx hb hr (fun t ht hW => ⟨⟨((gI w_9 2) - (1 : Int32)), w_9, rfl, hf, ⟨by rw [ht]; exact hP, va_K.moved hW.alike hK, hD⟩⟩, hS.F ht⟩) hS.2.2 dX5_place_112
              · exact absurd c_7 (by decide)
            · have hf := (if_pos c_6).symm.trans hf
              refine lv_iconst (v := 2) hx hb dX5_place_34 (by decide) ?_
              refine lv_goto (tgt := 39) hx hb dX5_place_35 (by decide) ?_
              refine va_put (D := (dC, dI)) (ci := 5) (v := .int (2 : Int32)) (ty := .int) (C := RX5) (T := TX5) (N := 36) hx hb hts iX5 tyX5 tyX5_ok nmX5 hown hK hP hD hS 0 rfl rfl 0 (by decide) k_0 (fun _ h9 => h9) rfl (by decide +kernel) rfl rfl (Nat.le_of_ble_eq_true rfl) dX5_place_39 (fun H locs hP hD hS => ?_)
              have hP : va_P (dC, dI) vwCl (mw ad cI cL (sI u 0 (2 : Int32))) H := hP
              have hD : va_D A (mw ad cI cL (sI u 0 (2 : Int32))) := hD
              refine lv_aload_n hx hb dX5_place_42 rfl (lv_at hl 0 rfl) ?_
              refine va_get (D := (dC, dI)) (ci := 5) (v := .int ((2 : Int32))) (C := RX5) (T := TX5) (N := 36) hx hb hts iX5 hown hK hP 0 rfl rfl 0 (by decide) k_0 (fun _ h9 => h9) rfl dX5_place_43 ?_
              refine lv_if_le (tgt := 51) hx hb dX5_place_46 (by decide) (fun c_10 => ?_) (fun c_10 => ?_)
              · exact absurd c_10 (by decide)
              · refine lv_iconst (v := 0) hx hb dX5_place_49 (by decide) ?_
                have hf := Option.some.inj hf
                exact W.iret (v := (0 : Int32)) hx hb hr (fun t ht hW => ⟨⟨(0 : Int32), (sI u 0 (2 : Int32)), rfl, hf, ⟨by rw [ht]; exact hP, va_K.moved hW.alike hK, hD⟩⟩, hS.F ht⟩) hS.2.2 dX5_place_50
          · have hf := (if_pos c_5).symm.trans hf
            refine lv_iconst (v := 1) hx hb dX5_place_21 (by decide) ?_
            refine lv_goto (tgt := 39) hx hb dX5_place_22 (by decide) ?_
            refine va_put (D := (dC, dI)) (ci := 5) (v := .int (1 : Int32)) (ty := .int) (C := RX5) (T := TX5) (N := 36) hx hb hts iX5 tyX5 tyX5_ok nmX5 hown hK hP hD hS 0 rfl rfl 0 (by decide) k_0 (fun _ h9 => h9) rfl (by decide +kernel) rfl rfl (Nat.le_of_ble_eq_true rfl) dX5_place_39 (fun H locs hP hD hS => ?_)
            have hP : va_P (dC, dI) vwCl (mw ad cI cL (sI u 0 (1 : Int32))) H := hP
            have hD : va_D A (mw ad cI cL (sI u 0 (1 : Int32))) := hD
            refine lv_aload_n hx hb dX5_place_42 rfl (lv_at hl 0 rfl) ?_
            refine va_get (D := (dC, dI)) (ci := 5) (v := .int ((1 : Int32))) (C := RX5) (T := TX5) (N := 36) hx hb hts iX5 hown hK hP 0 rfl rfl 0 (by decide) k_0 (fun _ h9 => h9) rfl dX5_place_43 ?_
            refine lv_if_le (tgt := 51) hx hb dX5_place_46 (by decide) (fun c_11 => ?_) (fun c_11 => ?_)
            · exact absurd c_11 (by decide)
            · refine lv_iconst (v := 0) hx hb dX5_place_49 (by decide) ?_
              have hf := Option.some.inj hf
              exact W.iret (v := (0 : Int32)) hx hb hr (fun t ht hW => ⟨⟨(0 : Int32), (sI u 0 (1 : Int32)), rfl, hf, ⟨by rw [ht]; exact hP, va_K.moved hW.alike hK, hD⟩⟩, hS.F ht⟩) hS.2.2 dX5_place_50
  exact (key n) z1 z2 u _ _ ls hf0 hP hD hS (lv_sub hl [0, 1, 2] rfl)

def fX5_point (n pc : Nat) (v1 : Int32) (v2 : Int32) (v3 : Int32) (u : St) : Option (Int32 × St) := match n with
  | 0 => none
  | n + 1 => match pc with
    | 0 => ((FX5_isIn n v1 (0 : Int32) (50 : Int32)).bind fun w_1 => (if w_1 = 0 then some ((0 : Int32), sI u 0 (1 : Int32)) else ((FX5_isIn n v2 (0 : Int32) (50 : Int32)).bind fun w_4 => (if w_4 = 0 then some ((0 : Int32), sI u 0 (1 : Int32)) else ((FX5_isIn n v3 (0 : Int32) (100000 : Int32)).bind fun w_7 => (if w_7 = 0 then some ((0 : Int32), sI u 0 (1 : Int32)) else (if (gI u 3) = (16 : Int32) then some ((0 : Int32), sI u 0 (2 : Int32)) else (if ck (gI u 3) 16 = true then ((FX5_renew n  (sI (sA (sA (sA (sI u 0 (0 : Int32)) 8 (upd (gA u 8) (gI u 3).toNatClampNeg v1)) 9 (upd (gA u 9) (gI u 3).toNatClampNeg v2)) 10 (upd (gA u 10) (gI u 3).toNatClampNeg v3)) 3 ((gI u 3) + (1 : Int32)))).bind fun w_12 => some (((gI w_12 3) - (1 : Int32)), w_12)) else none))))))))
    | _ => none
theorem eX5_point_0 (n : Nat) (v1 : Int32) (v2 : Int32) (v3 : Int32) (u : St) : fX5_point (n + 1) 0 v1 v2 v3 u = ((FX5_isIn n v1 (0 : Int32) (50 : Int32)).bind fun w_1 => (if w_1 = 0 then some ((0 : Int32), sI u 0 (1 : Int32)) else ((FX5_isIn n v2 (0 : Int32) (50 : Int32)).bind fun w_4 => (if w_4 = 0 then some ((0 : Int32), sI u 0 (1 : Int32)) else ((FX5_isIn n v3 (0 : Int32) (100000 : Int32)).bind fun w_7 => (if w_7 = 0 then some ((0 : Int32), sI u 0 (1 : Int32)) else (if (gI u 3) = (16 : Int32) then some ((0 : Int32), sI u 0 (2 : Int32)) else (if ck (gI u 3) 16 = true then ((FX5_renew n  (sI (sA (sA (sA (sI u 0 (0 : Int32)) 8 (upd (gA u 8) (gI u 3).toNatClampNeg v1)) 9 (upd (gA u 9) (gI u 3).toNatClampNeg v2)) 10 (upd (gA u 10) (gI u 3).toNatClampNeg v3)) 3 ((gI u 3) + (1 : Int32)))).bind fun w_12 => some (((gI w_12 3) - (1 : Int32)), w_12)) else none)))))))) := rfl
theorem vX5_point_0 (v1 : Int32) (v2 : Int32) (v3 : Int32) (u : St) (r : Int32 × St) : Ev (fun n => fX5_point n 0 v1 v2 v3 u) r ↔ Ev (fun n => ((FX5_isIn n v1 (0 : Int32) (50 : Int32)).bind fun w_1 => (if w_1 = 0 then some ((0 : Int32), sI u 0 (1 : Int32)) else ((FX5_isIn n v2 (0 : Int32) (50 : Int32)).bind fun w_4 => (if w_4 = 0 then some ((0 : Int32), sI u 0 (1 : Int32)) else ((FX5_isIn n v3 (0 : Int32) (100000 : Int32)).bind fun w_7 => (if w_7 = 0 then some ((0 : Int32), sI u 0 (1 : Int32)) else (if (gI u 3) = (16 : Int32) then some ((0 : Int32), sI u 0 (2 : Int32)) else (if ck (gI u 3) 16 = true then ((FX5_renew n  (sI (sA (sA (sA (sI u 0 (0 : Int32)) 8 (upd (gA u 8) (gI u 3).toNatClampNeg v1)) 9 (upd (gA u 9) (gI u 3).toNatClampNeg v2)) 10 (upd (gA u 10) (gI u 3).toNatClampNeg v3)) 3 ((gI u 3) + (1 : Int32)))).bind fun w_12 => some (((gI w_12 3) - (1 : Int32)), w_12)) else none))))))))) r := Ev_succ (fun n => fX5_point n 0 v1 v2 v3 u) r
def FX5_point (n : Nat) (v1 : Int32) (v2 : Int32) (v3 : Int32) (u : St) : Option (Int32 × St) := fX5_point n 0 v1 v2 v3 u
set_option maxHeartbeats 4000000 in
set_option maxRecDepth 100000 in
theorem mX5_point (l : Launch) (dC : Nat → ClassId) (dI : Nat → Nat → Nat) (cI cL : ClassId) (ad : Nat → Nat) (sz : Nat) (u : St) (z1 : Int32) (z2 : Int32) (z3 : Int32) (n : Nat) (r : Int32 × St) (hf0 : FX5_point n z1 z2 z3 u = some r) : Met l yX5_point wsX5_point ({ frames := 1, cells := 0, slots := 0, locals := 22 }) (va_Pc [.ref (ad 0), .int z1, .int z2, .int z3] (wPre dC dI cI cL (mw ad cI cL u) sz)) (va_Qi (fun a t => (a, t) = r) (fun t => wPost dC dI cI cL (va_A (mw ad cI cL u) sz) (mw ad cI cL t)) (va_A (mw ad cI cL u) sz)) 0 0 (va_A (mw ad cI cL u) sz) := by
  refine Met.ofW (cc := cX5_point) (maxL := 4) (ret := (some .int)) (by decide) rfl ?_
  intro p e s m args below meth c s₁ B hml hv
  obtain ⟨rfl, hsz, hP, hK, hD0, hZ⟩ := hv
  have hx := B.exec
  have hb := B.bytes
  have hr := B.returns
  have hts := atoms_spec (ws := wsX5_point) B.pre
  have hown : s.vm.findClass RX5 = some m.cls := findClass_of_methodNamed B.named
  have hlocks := B.notSynchronized
  subst hsz
  have hD := hD0.self (sz := s.heap.size)
  generalize hAe : va_A (mw ad cI cL u) s.heap.size = A at hD ⊢
  have hA : ∀ q : Nat, s.heap.size ≤ q → A q := fun q h => by rw [← hAe]; exact Or.inr h
  have hS : va_S A s.heap s.heap [] := va_S.rf
  have iX5 : ∀ w ∈ u_ws RX5 TX5 36, w ∈ wsX5_point := fun _ h => List.mem_cons_of_mem _ (List.mem_append_right _ h)
  have k_0 := hts (.fieldLink RX5 80 "LampChoiceModel" "code" "I") (by decide +kernel)
  have k_1 := hts (.constant RX5 100 (100000)) (by decide +kernel)
  have k_2 := hts (.fieldLink RX5 93 "LampChoiceModel" "points" "I") (by decide +kernel)
  have k_3 := hts (.fieldLink RX5 34 "LampChoiceModel" "pointXs" "[I") (by decide +kernel)
  have k_4 := hts (.fieldLink RX5 37 "LampChoiceModel" "pointYs" "[I") (by decide +kernel)
  have k_5 := hts (.fieldLink RX5 40 "LampChoiceModel" "wanted" "[I") (by decide +kernel)
  have hl := lv_entry ([.ref (ad 0), .int z1, .int z2, .int z3]) (n := 4) (Nat.le_of_ble_eq_true rfl)
  rw [lg_entry_eq]
  generalize (lg_sl ([.ref (ad 0), .int z1, .int z2, .int z3]) ++ List.replicate (4 - (lg_sl ([.ref (ad 0), .int z1, .int z2, .int z3])).length) Slot.unset).toArray = ls at hl ⊢
  have hl : lv_has ls 4 [(0, .ref (ad 0)), (1, .int z1), (2, .int z2), (3, .int z3)] := hl
  have key : ∀ n : Nat, (∀ (v1 : Int32) (v2 : Int32) (v3 : Int32) (u : St) (H : Heap) (locs : List Loc) (ls : Array Slot), fX5_point n 0 v1 v2 v3 u = some r → va_P (dC, dI) vwCl (mw ad cI cL u) H → va_D A (mw ad cI cL u) → va_S A s.heap H locs → lv_has ls 4 [(0, .ref (ad 0)), (1, .int v1), (2, .int v2), (3, .int v3)] → W p l e (headSpec wsX5_point ({ frames := 1, cells := 0, slots := 0, locals := 22 })).room s m ([.ref (ad 0), .int z1, .int z2, .int z3] : List Value).toArray below meth c H locs 0 0 (MQ below (va_Qi (fun a t => (a, t) = r) (fun t => wPost dC dI cI cL A (mw ad cI cL t)) A) ([.ref (ad 0), .int z1, .int z2, .int z3] : List Value).toArray s 0 0 A) (F0 m 0 ls [])) := by
    intro n
    induction n with
    | zero => exact (fun _ _ _ _ _ _ _ hf => nomatch (show (none : Option (Int32 × St)) = some r from hf))
    | succ n ih =>
      have ih0 := ih
      · intro v1 v2 v3 u H locs ls hf hP hD hS hl
        have hf := (eX5_point_0 n v1 v2 v3 u).symm.trans hf
        refine lv_aload_n hx hb dX5_point_0 rfl (lv_at hl 0 rfl) ?_
        refine lv_iload_n hx hb dX5_point_1 rfl (lv_at hl 1 rfl) ?_
        refine lv_iconst (v := 0) hx hb dX5_point_2 (by decide) ?_
        refine lv_bipush (v := 50) hx hb dX5_point_3 (by decide) ?_
        obtain ⟨w_1, hw_1, hf⟩ := ob hf
        have hFc := freeNil hS hA
        refine va_calli (va_runS (As := [.int v1, .int (0 : Int32), .int (50 : Int32)]) (rest := [.ref (ad 0)]) ⟨hx, hb, hml, hown, hts⟩ (mX5_isIn l H.size v1 (0 : Int32) (50 : Int32) n w_1 hw_1) (va_cwS 3 hts gX5_point_X5_isIn rfl rfl rfl (by decide +kernel) ⟨Nat.le_of_ble_eq_true rfl, Nat.le_of_ble_eq_true rfl⟩) ⟨nPre_blind, nPre_of⟩ rfl rfl hl.1 rfl (lv_room (Nat.le_of_ble_eq_true rfl)) dX5_point_5 ⟨Nat.zero_le _, Nat.zero_le _⟩) hS (fun q _ h => hFc q h) hFc (fun r2 u2 t H1 locs ht hvm hw hB hz1 hk1 hS => ?_)
        subst r2
        have hP := keepP hP hk1
        clear hFc hk1 hB
        generalize H1 = H at hP hS ⊢
        refine lv_if_eq (tgt := 31) hx hb dX5_point_8 (by decide) (fun c_2 => ?_) (fun c_2 => ?_)
        · have hf := (if_pos c_2).symm.trans hf
          refine lv_iconst (v := 1) hx hb dX5_point_31 (by decide) ?_
          refine lv_goto (tgt := 49) hx hb dX5_point_32 (by decide) ?_
          refine va_put (D := (dC, dI)) (ci := 5) (v := .int (1 : Int32)) (ty := .int) (C := RX5) (T := TX5) (N := 36) hx hb hts iX5 tyX5 tyX5_ok nmX5 hown hK hP hD hS 0 rfl rfl 0 (by decide) k_0 (fun _ h9 => h9) rfl (by decide +kernel) rfl rfl (Nat.le_of_ble_eq_true rfl) dX5_point_49 (fun H locs hP hD hS => ?_)
          have hP : va_P (dC, dI) vwCl (mw ad cI cL (sI u 0 (1 : Int32))) H := hP
          have hD : va_D A (mw ad cI cL (sI u 0 (1 : Int32))) := hD
          refine lv_aload_n hx hb dX5_point_52 rfl (lv_at hl 0 rfl) ?_
          refine va_get (D := (dC, dI)) (ci := 5) (v := .int ((1 : Int32))) (C := RX5) (T := TX5) (N := 36) hx hb hts iX5 hown hK hP 0 rfl rfl 0 (by decide) k_0 (fun _ h9 => h9) rfl dX5_point_53 ?_
          refine lv_if_le (tgt := 61) hx hb dX5_point_56 (by decide) (fun c_3 => ?_) (fun c_3 => ?_)
          · exact absurd c_3 (by decide)
          · refine lv_iconst (v := 0) hx hb dX5_point_59 (by decide) ?_
            have hf := Option.some.inj hf
            exact W.iret (v := (0 : Int32)) hx hb hr (fun t ht hW => ⟨⟨(0 : Int32), (sI u 0 (1 : Int32)), rfl, hf, ⟨by rw [ht]; exact hP, va_K.moved hW.alike hK, hD⟩⟩, hS.F ht⟩) hS.2.2 dX5_point_60
        · have hf := (if_neg c_2).symm.trans hf
          refine lv_iload_n hx hb dX5_point_11 rfl (lv_at hl 2 rfl) ?_
          refine lv_iconst (v := 0) hx hb dX5_point_12 (by decide) ?_
          refine lv_bipush (v := 50) hx hb dX5_point_13 (by decide) ?_
          obtain ⟨w_4, hw_4, hf⟩ := ob hf
          have hFc := freeNil hS hA
          refine va_calli (va_runS (As := [.int v2, .int (0 : Int32), .int (50 : Int32)]) (rest := [.ref (ad 0)]) ⟨hx, hb, hml, hown, hts⟩ (mX5_isIn l H.size v2 (0 : Int32) (50 : Int32) n w_4 hw_4) (va_cwS 3 hts gX5_point_X5_isIn rfl rfl rfl (by decide +kernel) ⟨Nat.le_of_ble_eq_true rfl, Nat.le_of_ble_eq_true rfl⟩) ⟨nPre_blind, nPre_of⟩ rfl rfl hl.1 rfl (lv_room (Nat.le_of_ble_eq_true rfl)) dX5_point_15 ⟨Nat.zero_le _, Nat.zero_le _⟩) hS (fun q _ h => hFc q h) hFc (fun r2 u2 t H1 locs ht hvm hw hB hz1 hk1 hS => ?_)
          subst r2
          have hP := keepP hP hk1
          clear hFc hk1 hB
          generalize H1 = H at hP hS ⊢
          refine lv_if_eq (tgt := 31) hx hb dX5_point_18 (by decide) (fun c_5 => ?_) (fun c_5 => ?_)
          · have hf := (if_pos c_5).symm.trans hf
            refine lv_iconst (v := 1) hx hb dX5_point_31 (by decide) ?_
            refine lv_goto (tgt := 49) hx hb dX5_point_32 (by decide) ?_
            refine va_put (D := (dC, dI)) (ci := 5) (v := .int (1 : Int32)) (ty := .int) (C := RX5) (T := TX5) (N := 36) hx hb hts iX5 tyX5 tyX5_ok nmX5 hown hK hP hD hS 0 rfl rfl 0 (by decide) k_0 (fun _ h9 => h9) rfl (by decide +kernel) rfl rfl (Nat.le_of_ble_eq_true rfl) dX5_point_49 (fun H locs hP hD hS => ?_)
            have hP : va_P (dC, dI) vwCl (mw ad cI cL (sI u 0 (1 : Int32))) H := hP
            have hD : va_D A (mw ad cI cL (sI u 0 (1 : Int32))) := hD
            refine lv_aload_n hx hb dX5_point_52 rfl (lv_at hl 0 rfl) ?_
            refine va_get (D := (dC, dI)) (ci := 5) (v := .int ((1 : Int32))) (C := RX5) (T := TX5) (N := 36) hx hb hts iX5 hown hK hP 0 rfl rfl 0 (by decide) k_0 (fun _ h9 => h9) rfl dX5_point_53 ?_
            refine lv_if_le (tgt := 61) hx hb dX5_point_56 (by decide) (fun c_6 => ?_) (fun c_6 => ?_)
            · exact absurd c_6 (by decide)
            · refine lv_iconst (v := 0) hx hb dX5_point_59 (by decide) ?_
              have hf := Option.some.inj hf
              exact W.iret (v := (0 : Int32)) hx hb hr (fun t ht hW => ⟨⟨(0 : Int32), (sI u 0 (1 : Int32)), rfl, hf, ⟨by rw [ht]; exact hP, va_K.moved hW.alike hK, hD⟩⟩, hS.F ht⟩) hS.2.2 dX5_point_60
          · have hf := (if_neg c_5).symm.trans hf
            refine lv_iload_n hx hb dX5_point_21 rfl (lv_at hl 3 rfl) ?_
            refine lv_iconst (v := 0) hx hb dX5_point_22 (by decide) ?_
            refine lv_ldc (v := 100000) hx hb hown k_1 dX5_point_23 ?_
            obtain ⟨w_7, hw_7, hf⟩ := ob hf
            have hFc := freeNil hS hA
            refine va_calli (va_runS (As := [.int v3, .int (0 : Int32), .int (100000 : Int32)]) (rest := [.ref (ad 0)]) ⟨hx, hb, hml, hown, hts⟩ (mX5_isIn l H.size v3 (0 : Int32) (100000 : Int32) n w_7 hw_7) (va_cwS 3 hts gX5_point_X5_isIn rfl rfl rfl (by decide +kernel) ⟨Nat.le_of_ble_eq_true rfl, Nat.le_of_ble_eq_true rfl⟩) ⟨nPre_blind, nPre_of⟩ rfl rfl hl.1 rfl (lv_room (Nat.le_of_ble_eq_true rfl)) dX5_point_25 ⟨Nat.zero_le _, Nat.zero_le _⟩) hS (fun q _ h => hFc q h) hFc (fun r2 u2 t H1 locs ht hvm hw hB hz1 hk1 hS => ?_)
            subst r2
            have hP := keepP hP hk1
            clear hFc hk1 hB
            generalize H1 = H at hP hS ⊢
            refine lv_if_ne (tgt := 35) hx hb dX5_point_28 (by decide) (fun c_8 => ?_) (fun c_8 => ?_)
            · have hf := (if_neg c_8).symm.trans hf
              refine lv_aload_n hx hb dX5_point_35 rfl (lv_at hl 0 rfl) ?_
              refine va_get (D := (dC, dI)) (ci := 5) (v := .int (gI u 3)) (C := RX5) (T := TX5) (N := 36) hx hb hts iX5 hown hK hP 0 rfl rfl 11 (by decide) k_2 (fun _ h9 => h9) rfl dX5_point_36 ?_
              refine lv_bipush (v := 16) hx hb dX5_point_39 (by decide) ?_
              refine lv_icmp_ne (tgt := 48) hx hb dX5_point_41 (by decide) (fun c_9 => ?_) (fun c_9 => ?_)
              · have hf := (if_neg c_9).symm.trans hf
                refine lv_iconst (v := 0) hx hb dX5_point_48 (by decide) ?_
                refine va_put (D := (dC, dI)) (ci := 5) (v := .int (0 : Int32)) (ty := .int) (C := RX5) (T := TX5) (N := 36) hx hb hts iX5 tyX5 tyX5_ok nmX5 hown hK hP hD hS 0 rfl rfl 0 (by decide) k_0 (fun _ h9 => h9) rfl (by decide +kernel) rfl rfl (Nat.le_of_ble_eq_true rfl) dX5_point_49 (fun H locs hP hD hS => ?_)
                have hP : va_P (dC, dI) vwCl (mw ad cI cL (sI u 0 (0 : Int32))) H := hP
                have hD : va_D A (mw ad cI cL (sI u 0 (0 : Int32))) := hD
                refine lv_aload_n hx hb dX5_point_52 rfl (lv_at hl 0 rfl) ?_
                refine va_get (D := (dC, dI)) (ci := 5) (v := .int ((0 : Int32))) (C := RX5) (T := TX5) (N := 36) hx hb hts iX5 hown hK hP 0 rfl rfl 0 (by decide) k_0 (fun _ h9 => h9) rfl dX5_point_53 ?_
                refine lv_if_le (tgt := 61) hx hb dX5_point_56 (by decide) (fun c_10 => ?_) (fun c_10 => ?_)
                · refine lv_aload_n hx hb dX5_point_61 rfl (lv_at hl 0 rfl) ?_
                  refine va_get (D := (dC, dI)) (ci := 5) (v := .ref (ad 9)) (C := RX5) (T := TX5) (N := 36) hx hb hts iX5 hown hK hP 0 rfl rfl 12 (by decide) k_3 (fun _ h9 => h9) rfl dX5_point_62 ?_
                  refine lv_aload_n hx hb dX5_point_65 rfl (lv_at hl 0 rfl) ?_
                  refine va_get (D := (dC, dI)) (ci := 5) (v := .int (gI u 3)) (C := RX5) (T := TX5) (N := 36) hx hb hts iX5 hown hK hP 0 rfl rfl 11 (by decide) k_2 (fun _ h9 => h9) rfl dX5_point_66 ?_
                  refine lv_iload_n hx hb dX5_point_69 rfl (lv_at hl 1 rfl) ?_
                  obtain ⟨h_11, hf⟩ := ck_of hf
                  refine va_iast (f := (gA u 8)) hx hb hK hP hD hS 9 0 rfl rfl h_11 dX5_point_70 (fun H locs hP hD hS => ?_)
                  have hP : va_P (dC, dI) vwCl (mw ad cI cL (sA (sI u 0 (0 : Int32)) 8 (upd (gA u 8) (gI u 3).toNatClampNeg v1))) H := hP
                  have hD : va_D A (mw ad cI cL (sA (sI u 0 (0 : Int32)) 8 (upd (gA u 8) (gI u 3).toNatClampNeg v1))) := hD
                  refine lv_aload_n hx hb dX5_point_71 rfl (lv_at hl 0 rfl) ?_
                  refine va_get (D := (dC, dI)) (ci := 5) (v := .ref (ad 10)) (C := RX5) (T := TX5) (N := 36) hx hb hts iX5 hown hK hP 0 rfl rfl 13 (by decide) k_4 (fun _ h9 => h9) rfl dX5_point_72 ?_
                  refine lv_aload_n hx hb dX5_point_75 rfl (lv_at hl 0 rfl) ?_
                  refine va_get (D := (dC, dI)) (ci := 5) (v := .int (gI u 3)) (C := RX5) (T := TX5) (N := 36) hx hb hts iX5 hown hK hP 0 rfl rfl 11 (by decide) k_2 (fun _ h9 => h9) rfl dX5_point_76 ?_
                  refine lv_iload_n hx hb dX5_point_79 rfl (lv_at hl 2 rfl) ?_
                  refine va_iast (f := (gA u 9)) hx hb hK hP hD hS 10 0 rfl rfl h_11 dX5_point_80 (fun H locs hP hD hS => ?_)
                  have hP : va_P (dC, dI) vwCl (mw ad cI cL (sA (sA (sI u 0 (0 : Int32)) 8 (upd (gA u 8) (gI u 3).toNatClampNeg v1)) 9 (upd (gA u 9) (gI u 3).toNatClampNeg v2))) H := hP
                  have hD : va_D A (mw ad cI cL (sA (sA (sI u 0 (0 : Int32)) 8 (upd (gA u 8) (gI u 3).toNatClampNeg v1)) 9 (upd (gA u 9) (gI u 3).toNatClampNeg v2))) := hD
                  refine lv_aload_n hx hb dX5_point_81 rfl (lv_at hl 0 rfl) ?_
                  refine va_get (D := (dC, dI)) (ci := 5) (v := .ref (ad 11)) (C := RX5) (T := TX5) (N := 36) hx hb hts iX5 hown hK hP 0 rfl rfl 14 (by decide) k_5 (fun _ h9 => h9) rfl dX5_point_82 ?_
                  refine lv_aload_n hx hb dX5_point_85 rfl (lv_at hl 0 rfl) ?_
                  refine va_get (D := (dC, dI)) (ci := 5) (v := .int (gI u 3)) (C := RX5) (T := TX5) (N := 36) hx hb hts iX5 hown hK hP 0 rfl rfl 11 (by decide) k_2 (fun _ h9 => h9) rfl dX5_point_86 ?_
                  refine lv_iload_n hx hb dX5_point_89 rfl (lv_at hl 3 rfl) ?_
                  refine va_iast (f := (gA u 10)) hx hb hK hP hD hS 11 0 rfl rfl h_11 dX5_point_90 (fun H locs hP hD hS => ?_)
                  have hP : va_P (dC, dI) vwCl (mw ad cI cL (sA (sA (sA (sI u 0 (0 : Int32)) 8 (upd (gA u 8) (gI u 3).toNatClampNeg v1)) 9 (upd (gA u 9) (gI u 3).toNatClampNeg v2)) 10 (upd (gA u 10) (gI u 3).toNatClampNeg v3))) H := hP
                  have hD : va_D A (mw ad cI cL (sA (sA (sA (sI u 0 (0 : Int32)) 8 (upd (gA u 8) (gI u 3).toNatClampNeg v1)) 9 (upd (gA u 9) (gI u 3).toNatClampNeg v2)) 10 (upd (gA u 10) (gI u 3).toNatClampNeg v3))) := hD
                  refine lv_aload_n hx hb dX5_point_91 rfl (lv_at hl 0 rfl) ?_
                  refine lv_dup hx hb dX5_point_92 rfl ?_
                  refine va_get (D := (dC, dI)) (ci := 5) (v := .int (gI u 3)) (C := RX5) (T := TX5) (N := 36) hx hb hts iX5 hown hK hP 0 rfl rfl 11 (by decide) k_2 (fun _ h9 => h9) rfl dX5_point_93 ?_
                  refine lv_iconst (v := 1) hx hb dX5_point_96 (by decide) ?_
                  refine lv_iadd hx hb dX5_point_97 ?_
                  refine va_put (D := (dC, dI)) (ci := 5) (v := .int ((gI u 3) + (1 : Int32))) (ty := .int) (C := RX5) (T := TX5) (N := 36) hx hb hts iX5 tyX5 tyX5_ok nmX5 hown hK hP hD hS 0 rfl rfl 11 (by decide) k_2 (fun _ h9 => h9) rfl (by decide +kernel) rfl rfl (Nat.le_of_ble_eq_true rfl) dX5_point_98 (fun H locs hP hD hS => ?_)
                  have hP : va_P (dC, dI) vwCl (mw ad cI cL (sI (sA (sA (sA (sI u 0 (0 : Int32)) 8 (upd (gA u 8) (gI u 3).toNatClampNeg v1)) 9 (upd (gA u 9) (gI u 3).toNatClampNeg v2)) 10 (upd (gA u 10) (gI u 3).toNatClampNeg v3)) 3 ((gI u 3) + (1 : Int32)))) H := hP
                  have hD : va_D A (mw ad cI cL (sI (sA (sA (sA (sI u 0 (0 : Int32)) 8 (upd (gA u 8) (gI u 3).toNatClampNeg v1)) 9 (upd (gA u 9) (gI u 3).toNatClampNeg v2)) 10 (upd (gA u 10) (gI u 3).toNatClampNeg v3)) 3 ((gI u 3) + (1 : Int32)))) := hD
                  refine lv_aload_n hx hb dX5_point_101 rfl (lv_at hl 0 rfl) ?_
                  obtain ⟨w_12, hw_12, hf⟩ := ob hf
                  have hFc := freeAll hD hS hA
                  refine va_callv (va_runV (As := []) (rest := []) ⟨hx, hb, hml, hown, hts⟩ (mX5_renew l dC dI cI cL ad H.size (sI (sA (sA (sA (sI u 0 (0 : Int32)) 8 (upd (gA u 8) (gI u 3).toNatClampNeg v1)) 9 (upd (gA u 9) (gI u 3).toNatClampNeg v2)) 10 (upd (gA u 10) (gI u 3).toNatClampNeg v3)) 3 ((gI u 3) + (1 : Int32)))  n w_12 hw_12) (cwV 0 hts gX5_point_X5_renew rfl rfl rfl (by decide +kernel) ⟨Nat.le_of_ble_eq_true rfl, Nat.le_of_ble_eq_true rfl⟩) ⟨wPre_blind, va_recv hK hP (ci := 5) (q0 := 0) rfl rfl, wPre_of hP hK hD hZ⟩ rfl rfl hl.1 rfl (lv_room (Nat.le_of_ble_eq_true rfl)) dX5_point_102 ⟨Nat.zero_le _, Nat.zero_le _⟩) hS (fun q _ h => hFc q h) hFc (fun u2 t H1 locs ht hvm hw hB hz1 hk1 hS => ?_)
                  obtain ⟨hP1, hK1, hD1⟩ := hB
                  rw [ht] at hP1
                  subst u2
                  have hP : va_P (dC, dI) vwCl (mw ad cI cL w_12) H1 := hP1
                  have hD : va_D A (mw ad cI cL w_12) := hD1.weaken (fun _ _ _ h => hFc _ h)
                  clear hP1 hD1 hK1 hFc hk1
                  generalize H1 = H at hP hS ⊢
                  refine lv_aload_n hx hb dX5_point_105 rfl (lv_at hl 0 rfl) ?_
                  refine va_get (D := (dC, dI)) (ci := 5) (v := .int (gI w_12 3)) (C := RX5) (T := TX5) (N := 36) hx hb hts iX5 hown hK hP 0 rfl rfl 11 (by decide) k_2 (fun _ h9 => h9) rfl dX5_point_106 ?_
                  refine lv_iconst (v := 1) hx hb dX5_point_109 (by decide) ?_
                  refine lv_isub hx hb dX5_point_110 ?_
                  have hf := Option.some.inj hf
                  exact W.iret (v := ((gI w_12 3) - (1 : Int32))) hx hb hr (fun t ht hW => ⟨⟨((gI w_12 3) - (1 : Int32)), w_12, rfl, hf, ⟨by rw [ht]; exact hP, va_K.moved hW.alike hK, hD⟩⟩, hS.F ht⟩) hS.2.2 dX5_point_111
                · exact absurd c_10 (by decide)
              · have hf := (if_pos c_9).symm.trans hf
                refine lv_iconst (v := 2) hx hb dX5_point_44 (by decide) ?_
                refine lv_goto (tgt := 49) hx hb dX5_point_45 (by decide) ?_
                refine va_put (D := (dC, dI)) (ci := 5) (v := .int (2 : Int32)) (ty := .int) (C := RX5) (T := TX5) (N := 36) hx hb hts iX5 tyX5 tyX5_ok nmX5 hown hK hP hD hS 0 rfl rfl 0 (by decide) k_0 (fun _ h9 => h9) rfl (by decide +kernel) rfl rfl (Nat.le_of_ble_eq_true rfl) dX5_point_49 (fun H locs hP hD hS => ?_)
                have hP : va_P (dC, dI) vwCl (mw ad cI cL (sI u 0 (2 : Int32))) H := hP
                have hD : va_D A (mw ad cI cL (sI u 0 (2 : Int32))) := hD
                refine lv_aload_n hx hb dX5_point_52 rfl (lv_at hl 0 rfl) ?_
                refine va_get (D := (dC, dI)) (ci := 5) (v := .int ((2 : Int32))) (C := RX5) (T := TX5) (N := 36) hx hb hts iX5 hown hK hP 0 rfl rfl 0 (by decide) k_0 (fun _ h9 => h9) rfl dX5_point_53 ?_
                refine lv_if_le (tgt := 61) hx hb dX5_point_56 (by decide) (fun c_13 => ?_) (fun c_13 => ?_)
                · exact absurd c_13 (by decide)
                · refine lv_iconst (v := 0) hx hb dX5_point_59 (by decide) ?_
                  have hf := Option.some.inj hf
                  exact W.iret (v := (0 : Int32)) hx hb hr (fun t ht hW => ⟨⟨(0 : Int32), (sI u 0 (2 : Int32)), rfl, hf, ⟨by rw [ht]; exact hP, va_K.moved hW.alike hK, hD⟩⟩, hS.F ht⟩) hS.2.2 dX5_point_60
            · have hf := (if_pos c_8).symm.trans hf
              refine lv_iconst (v := 1) hx hb dX5_point_31 (by decide) ?_
              refine lv_goto (tgt := 49) hx hb dX5_point_32 (by decide) ?_
              refine va_put (D := (dC, dI)) (ci := 5) (v := .int (1 : Int32)) (ty := .int) (C := RX5) (T := TX5) (N := 36) hx hb hts iX5 tyX5 tyX5_ok nmX5 hown hK hP hD hS 0 rfl rfl 0 (by decide) k_0 (fun _ h9 => h9) rfl (by decide +kernel) rfl rfl (Nat.le_of_ble_eq_true rfl) dX5_point_49 (fun H locs hP hD hS => ?_)
              have hP : va_P (dC, dI) vwCl (mw ad cI cL (sI u 0 (1 : Int32))) H := hP
              have hD : va_D A (mw ad cI cL (sI u 0 (1 : Int32))) := hD
              refine lv_aload_n hx hb dX5_point_52 rfl (lv_at hl 0 rfl) ?_
              refine va_get (D := (dC, dI)) (ci := 5) (v := .int ((1 : Int32))) (C := RX5) (T := TX5) (N := 36) hx hb hts iX5 hown hK hP 0 rfl rfl 0 (by decide) k_0 (fun _ h9 => h9) rfl dX5_point_53 ?_
              refine lv_if_le (tgt := 61) hx hb dX5_point_56 (by decide) (fun c_14 => ?_) (fun c_14 => ?_)
              · exact absurd c_14 (by decide)
              · refine lv_iconst (v := 0) hx hb dX5_point_59 (by decide) ?_
                have hf := Option.some.inj hf
                exact W.iret (v := (0 : Int32)) hx hb hr (fun t ht hW => ⟨⟨(0 : Int32), (sI u 0 (1 : Int32)), rfl, hf, ⟨by rw [ht]; exact hP, va_K.moved hW.alike hK, hD⟩⟩, hS.F ht⟩) hS.2.2 dX5_point_60
  exact (key n) z1 z2 z3 u _ _ ls hf0 hP hD hS (lv_sub hl [0, 1, 2, 3] rfl)

def fX5_height (n pc : Nat) (v1 : Int32) (u : St) : Option (Int32 × St) := match n with
  | 0 => none
  | n + 1 => match pc with
    | 0 => ((FX5_isIn n v1 (1 : Int32) (50 : Int32)).bind fun w_1 => (if w_1 = 0 then some ((0 : Int32), sI u 0 (1 : Int32)) else ((FX5_renew n  (sI (sI u 0 (0 : Int32)) 4 v1)).bind fun w_5 => some ((gI u 4), w_5))))
    | _ => none
theorem eX5_height_0 (n : Nat) (v1 : Int32) (u : St) : fX5_height (n + 1) 0 v1 u = ((FX5_isIn n v1 (1 : Int32) (50 : Int32)).bind fun w_1 => (if w_1 = 0 then some ((0 : Int32), sI u 0 (1 : Int32)) else ((FX5_renew n  (sI (sI u 0 (0 : Int32)) 4 v1)).bind fun w_5 => some ((gI u 4), w_5)))) := rfl
theorem vX5_height_0 (v1 : Int32) (u : St) (r : Int32 × St) : Ev (fun n => fX5_height n 0 v1 u) r ↔ Ev (fun n => ((FX5_isIn n v1 (1 : Int32) (50 : Int32)).bind fun w_1 => (if w_1 = 0 then some ((0 : Int32), sI u 0 (1 : Int32)) else ((FX5_renew n  (sI (sI u 0 (0 : Int32)) 4 v1)).bind fun w_5 => some ((gI u 4), w_5))))) r := Ev_succ (fun n => fX5_height n 0 v1 u) r
def FX5_height (n : Nat) (v1 : Int32) (u : St) : Option (Int32 × St) := fX5_height n 0 v1 u
set_option maxHeartbeats 4000000 in
set_option maxRecDepth 100000 in
theorem mX5_height (l : Launch) (dC : Nat → ClassId) (dI : Nat → Nat → Nat) (cI cL : ClassId) (ad : Nat → Nat) (sz : Nat) (u : St) (z1 : Int32) (n : Nat) (r : Int32 × St) (hf0 : FX5_height n z1 u = some r) : Met l yX5_height wsX5_height ({ frames := 1, cells := 0, slots := 0, locals := 22 }) (va_Pc [.ref (ad 0), .int z1] (wPre dC dI cI cL (mw ad cI cL u) sz)) (va_Qi (fun a t => (a, t) = r) (fun t => wPost dC dI cI cL (va_A (mw ad cI cL u) sz) (mw ad cI cL t)) (va_A (mw ad cI cL u) sz)) 0 0 (va_A (mw ad cI cL u) sz) := by
  refine Met.ofW (cc := cX5_height) (maxL := 3) (ret := (some .int)) (by decide) rfl ?_
  intro p e s m args below meth c s₁ B hml hv
  obtain ⟨rfl, hsz, hP, hK, hD0, hZ⟩ := hv
  have hx := B.exec
  have hb := B.bytes
  have hr := B.returns
  have hts := atoms_spec (ws := wsX5_height) B.pre
  have hown : s.vm.findClass RX5 = some m.cls := findClass_of_methodNamed B.named
  have hlocks := B.notSynchronized
  subst hsz
  have hD := hD0.self (sz := s.heap.size)
  generalize hAe : va_A (mw ad cI cL u) s.heap.size = A at hD ⊢
  have hA : ∀ q : Nat, s.heap.size ≤ q → A q := fun q h => by rw [← hAe]; exact Or.inr h
  have hS : va_S A s.heap s.heap [] := va_S.rf
  have iX5 : ∀ w ∈ u_ws RX5 TX5 36, w ∈ wsX5_height := fun _ h => List.mem_cons_of_mem _ (List.mem_append_right _ h)
  have k_0 := hts (.fieldLink RX5 80 "LampChoiceModel" "code" "I") (by decide +kernel)
  have k_1 := hts (.fieldLink RX5 49 "LampChoiceModel" "height" "I") (by decide +kernel)
  have hl := lv_entry ([.ref (ad 0), .int z1]) (n := 3) (Nat.le_of_ble_eq_true rfl)
  rw [lg_entry_eq]
  generalize (lg_sl ([.ref (ad 0), .int z1]) ++ List.replicate (3 - (lg_sl ([.ref (ad 0), .int z1])).length) Slot.unset).toArray = ls at hl ⊢
  have hl : lv_has ls 3 [(0, .ref (ad 0)), (1, .int z1)] := hl
  have key : ∀ n : Nat, (∀ (v1 : Int32) (u : St) (H : Heap) (locs : List Loc) (ls : Array Slot), fX5_height n 0 v1 u = some r → va_P (dC, dI) vwCl (mw ad cI cL u) H → va_D A (mw ad cI cL u) → va_S A s.heap H locs → lv_has ls 3 [(0, .ref (ad 0)), (1, .int v1)] → W p l e (headSpec wsX5_height ({ frames := 1, cells := 0, slots := 0, locals := 22 })).room s m ([.ref (ad 0), .int z1] : List Value).toArray below meth c H locs 0 0 (MQ below (va_Qi (fun a t => (a, t) = r) (fun t => wPost dC dI cI cL A (mw ad cI cL t)) A) ([.ref (ad 0), .int z1] : List Value).toArray s 0 0 A) (F0 m 0 ls [])) := by
    intro n
    induction n with
    | zero => exact (fun _ _ _ _ _ hf => nomatch (show (none : Option (Int32 × St)) = some r from hf))
    | succ n ih =>
      have ih0 := ih
      · intro v1 u H locs ls hf hP hD hS hl
        have hf := (eX5_height_0 n v1 u).symm.trans hf
        refine lv_aload_n hx hb dX5_height_0 rfl (lv_at hl 0 rfl) ?_
        refine lv_iload_n hx hb dX5_height_1 rfl (lv_at hl 1 rfl) ?_
        refine lv_iconst (v := 1) hx hb dX5_height_2 (by decide) ?_
        refine lv_bipush (v := 50) hx hb dX5_height_3 (by decide) ?_
        obtain ⟨w_1, hw_1, hf⟩ := ob hf
        have hFc := freeNil hS hA
        refine va_calli (va_runS (As := [.int v1, .int (1 : Int32), .int (50 : Int32)]) (rest := [.ref (ad 0)]) ⟨hx, hb, hml, hown, hts⟩ (mX5_isIn l H.size v1 (1 : Int32) (50 : Int32) n w_1 hw_1) (va_cwS 3 hts gX5_height_X5_isIn rfl rfl rfl (by decide +kernel) ⟨Nat.le_of_ble_eq_true rfl, Nat.le_of_ble_eq_true rfl⟩) ⟨nPre_blind, nPre_of⟩ rfl rfl hl.1 rfl (lv_room (Nat.le_of_ble_eq_true rfl)) dX5_height_5 ⟨Nat.zero_le _, Nat.zero_le _⟩) hS (fun q _ h => hFc q h) hFc (fun r2 u2 t H1 locs ht hvm hw hB hz1 hk1 hS => ?_)
        subst r2
        have hP := keepP hP hk1
        clear hFc hk1 hB
        generalize H1 = H at hP hS ⊢
        refine lv_if_eq (tgt := 15) hx hb dX5_height_8 (by decide) (fun c_2 => ?_) (fun c_2 => ?_)
        · have hf := (if_pos c_2).symm.trans hf
          refine lv_iconst (v := 1) hx hb dX5_height_15 (by decide) ?_
          refine va_put (D := (dC, dI)) (ci := 5) (v := .int (1 : Int32)) (ty := .int) (C := RX5) (T := TX5) (N := 36) hx hb hts iX5 tyX5 tyX5_ok nmX5 hown hK hP hD hS 0 rfl rfl 0 (by decide) k_0 (fun _ h9 => h9) rfl (by decide +kernel) rfl rfl (Nat.le_of_ble_eq_true rfl) dX5_height_16 (fun H locs hP hD hS => ?_)
          have hP : va_P (dC, dI) vwCl (mw ad cI cL (sI u 0 (1 : Int32))) H := hP
          have hD : va_D A (mw ad cI cL (sI u 0 (1 : Int32))) := hD
          refine lv_aload_n hx hb dX5_height_19 rfl (lv_at hl 0 rfl) ?_
          refine va_get (D := (dC, dI)) (ci := 5) (v := .int ((1 : Int32))) (C := RX5) (T := TX5) (N := 36) hx hb hts iX5 hown hK hP 0 rfl rfl 0 (by decide) k_0 (fun _ h9 => h9) rfl dX5_height_20 ?_
          refine lv_if_le (tgt := 28) hx hb dX5_height_23 (by decide) (fun c_3 => ?_) (fun c_3 => ?_)
          · exact absurd c_3 (by decide)
          · refine lv_iconst (v := 0) hx hb dX5_height_26 (by decide) ?_
            have hf := Option.some.inj hf
            exact W.iret (v := (0 : Int32)) hx hb hr (fun t ht hW => ⟨⟨(0 : Int32), (sI u 0 (1 : Int32)), rfl, hf, ⟨by rw [ht]; exact hP, va_K.moved hW.alike hK, hD⟩⟩, hS.F ht⟩) hS.2.2 dX5_height_27
        · have hf := (if_neg c_2).symm.trans hf
          refine lv_iconst (v := 0) hx hb dX5_height_11 (by decide) ?_
          refine lv_goto (tgt := 16) hx hb dX5_height_12 (by decide) ?_
          refine va_put (D := (dC, dI)) (ci := 5) (v := .int (0 : Int32)) (ty := .int) (C := RX5) (T := TX5) (N := 36) hx hb hts iX5 tyX5 tyX5_ok nmX5 hown hK hP hD hS 0 rfl rfl 0 (by decide) k_0 (fun _ h9 => h9) rfl (by decide +kernel) rfl rfl (Nat.le_of_ble_eq_true rfl) dX5_height_16 (fun H locs hP hD hS => ?_)
          have hP : va_P (dC, dI) vwCl (mw ad cI cL (sI u 0 (0 : Int32))) H := hP
          have hD : va_D A (mw ad cI cL (sI u 0 (0 : Int32))) := hD
          refine lv_aload_n hx hb dX5_height_19 rfl (lv_at hl 0 rfl) ?_
          refine va_get (D := (dC, dI)) (ci := 5) (v := .int ((0 : Int32))) (C := RX5) (T := TX5) (N := 36) hx hb hts iX5 hown hK hP 0 rfl rfl 0 (by decide) k_0 (fun _ h9 => h9) rfl dX5_height_20 ?_
          refine lv_if_le (tgt := 28) hx hb dX5_height_23 (by decide) (fun c_4 => ?_) (fun c_4 => ?_)
          · refine lv_aload_n hx hb dX5_height_28 rfl (lv_at hl 0 rfl) ?_
            refine va_get (D := (dC, dI)) (ci := 5) (v := .int (gI u 4)) (C := RX5) (T := TX5) (N := 36) hx hb hts iX5 hown hK hP 0 rfl rfl 17 (by decide) k_1 (fun _ h9 => h9) rfl dX5_height_29 ?_
            refine lv_istore_n (lv' := [(2, .int (gI u 4)), (0, .ref (ad 0)), (1, .int v1)]) hx hb dX5_height_32 rfl hl (by decide) rfl (fun ls hl => ?_)
            refine lv_aload_n hx hb dX5_height_33 rfl (lv_at hl 1 rfl) ?_
            refine lv_iload_n hx hb dX5_height_34 rfl (lv_at hl 2 rfl) ?_
            refine va_put (D := (dC, dI)) (ci := 5) (v := .int v1) (ty := .int) (C := RX5) (T := TX5) (N := 36) hx hb hts iX5 tyX5 tyX5_ok nmX5 hown hK hP hD hS 0 rfl rfl 17 (by decide) k_1 (fun _ h9 => h9) rfl (by decide +kernel) rfl rfl (Nat.le_of_ble_eq_true rfl) dX5_height_35 (fun H locs hP hD hS => ?_)
            have hP : va_P (dC, dI) vwCl (mw ad cI cL (sI (sI u 0 (0 : Int32)) 4 v1)) H := hP
            have hD : va_D A (mw ad cI cL (sI (sI u 0 (0 : Int32)) 4 v1)) := hD
            refine lv_aload_n hx hb dX5_height_38 rfl (lv_at hl 1 rfl) ?_
            obtain ⟨w_5, hw_5, hf⟩ := ob hf
            have hFc := freeAll hD hS hA
            refine va_callv (va_runV (As := []) (rest := []) ⟨hx, hb, hml, hown, hts⟩ (mX5_renew l dC dI cI cL ad H.size (sI (sI u 0 (0 : Int32)) 4 v1)  n w_5 hw_5) (cwV 0 hts gX5_height_X5_renew rfl rfl rfl (by decide +kernel) ⟨Nat.le_of_ble_eq_true rfl, Nat.le_of_ble_eq_true rfl⟩) ⟨wPre_blind, va_recv hK hP (ci := 5) (q0 := 0) rfl rfl, wPre_of hP hK hD hZ⟩ rfl rfl hl.1 rfl (lv_room (Nat.le_of_ble_eq_true rfl)) dX5_height_39 ⟨Nat.zero_le _, Nat.zero_le _⟩) hS (fun q _ h => hFc q h) hFc (fun u2 t H1 locs ht hvm hw hB hz1 hk1 hS => ?_)
            obtain ⟨hP1, hK1, hD1⟩ := hB
            rw [ht] at hP1
            subst u2
            have hP : va_P (dC, dI) vwCl (mw ad cI cL w_5) H1 := hP1
            have hD : va_D A (mw ad cI cL w_5) := hD1.weaken (fun _ _ _ h => hFc _ h)
            clear hP1 hD1 hK1 hFc hk1
            generalize H1 = H at hP hS ⊢
            refine lv_iload_n hx hb dX5_height_42 rfl (lv_at hl 0 rfl) ?_
            have hf := Option.some.inj hf
            exact W.iret (v := (gI u 4)) hx hb hr (fun t ht hW => ⟨⟨(gI u 4), w_5, rfl, hf, ⟨by rw [ht]; exact hP, va_K.moved hW.alike hK, hD⟩⟩, hS.F ht⟩) hS.2.2 dX5_height_43
          · exact absurd c_4 (by decide)
  exact (key n) z1 u _ _ ls hf0 hP hD hS (lv_sub hl [0, 1] rfl)

def fX5_hold (n pc : Nat) (v1 : Int32) (v2 : Int32) (u : St) : Option (St) := match n with
  | 0 => none
  | n + 1 => match pc with
    | 0 => ((FX5_isPlace n v1 u).bind fun w_1 => (if w_1.1 = 0 then some (sI w_1.2 0 (1 : Int32)) else ((FX5_isKind n v2 w_1.2).bind fun w_4 => (if w_4.1 = 0 then (if v2 = (-1 : Int32) then (if ck v1 7 = true then ((FX5_renew n  (sA (sI w_4.2 0 (0 : Int32)) 6 (upd (gA w_4.2 6) v1.toNatClampNeg v2))).bind fun w_12 => some w_12) else none) else (if v2 = (-2 : Int32) then (if ck v1 7 = true then ((FX5_renew n  (sA (sI w_4.2 0 (0 : Int32)) 6 (upd (gA w_4.2 6) v1.toNatClampNeg v2))).bind fun w_17 => some w_17) else none) else some (sI w_4.2 0 (1 : Int32)))) else (if ck v1 7 = true then ((FX5_renew n  (sA (sI w_4.2 0 (0 : Int32)) 6 (upd (gA w_4.2 6) v1.toNatClampNeg v2))).bind fun w_8 => some w_8) else none)))))
    | _ => none
theorem eX5_hold_0 (n : Nat) (v1 : Int32) (v2 : Int32) (u : St) : fX5_hold (n + 1) 0 v1 v2 u = ((FX5_isPlace n v1 u).bind fun w_1 => (if w_1.1 = 0 then some (sI w_1.2 0 (1 : Int32)) else ((FX5_isKind n v2 w_1.2).bind fun w_4 => (if w_4.1 = 0 then (if v2 = (-1 : Int32) then (if ck v1 7 = true then ((FX5_renew n  (sA (sI w_4.2 0 (0 : Int32)) 6 (upd (gA w_4.2 6) v1.toNatClampNeg v2))).bind fun w_12 => some w_12) else none) else (if v2 = (-2 : Int32) then (if ck v1 7 = true then ((FX5_renew n  (sA (sI w_4.2 0 (0 : Int32)) 6 (upd (gA w_4.2 6) v1.toNatClampNeg v2))).bind fun w_17 => some w_17) else none) else some (sI w_4.2 0 (1 : Int32)))) else (if ck v1 7 = true then ((FX5_renew n  (sA (sI w_4.2 0 (0 : Int32)) 6 (upd (gA w_4.2 6) v1.toNatClampNeg v2))).bind fun w_8 => some w_8) else none))))) := rfl
theorem vX5_hold_0 (v1 : Int32) (v2 : Int32) (u : St) (r : St) : Ev (fun n => fX5_hold n 0 v1 v2 u) r ↔ Ev (fun n => ((FX5_isPlace n v1 u).bind fun w_1 => (if w_1.1 = 0 then some (sI w_1.2 0 (1 : Int32)) else ((FX5_isKind n v2 w_1.2).bind fun w_4 => (if w_4.1 = 0 then (if v2 = (-1 : Int32) then (if ck v1 7 = true then ((FX5_renew n  (sA (sI w_4.2 0 (0 : Int32)) 6 (upd (gA w_4.2 6) v1.toNatClampNeg v2))).bind fun w_12 => some w_12) else none) else (if v2 = (-2 : Int32) then (if ck v1 7 = true then ((FX5_renew n  (sA (sI w_4.2 0 (0 : Int32)) 6 (upd (gA w_4.2 6) v1.toNatClampNeg v2))).bind fun w_17 => some w_17) else none) else some (sI w_4.2 0 (1 : Int32)))) else (if ck v1 7 = true then ((FX5_renew n  (sA (sI w_4.2 0 (0 : Int32)) 6 (upd (gA w_4.2 6) v1.toNatClampNeg v2))).bind fun w_8 => some w_8) else none)))))) r := Ev_succ (fun n => fX5_hold n 0 v1 v2 u) r
def FX5_hold (n : Nat) (v1 : Int32) (v2 : Int32) (u : St) : Option (St) := fX5_hold n 0 v1 v2 u
set_option maxHeartbeats 4000000 in
set_option maxRecDepth 100000 in
theorem mX5_hold (l : Launch) (dC : Nat → ClassId) (dI : Nat → Nat → Nat) (cI cL : ClassId) (ad : Nat → Nat) (sz : Nat) (u : St) (z1 : Int32) (z2 : Int32) (n : Nat) (r : St) (hf0 : FX5_hold n z1 z2 u = some r) : Met l yX5_hold wsX5_hold ({ frames := 2, cells := 0, slots := 0, locals := 43 }) (va_Pc [.ref (ad 0), .int z1, .int z2] (wPre dC dI cI cL (mw ad cI cL u) sz)) (va_Qv (fun t => t = r) (fun t => wPost dC dI cI cL (va_A (mw ad cI cL u) sz) (mw ad cI cL t)) (va_A (mw ad cI cL u) sz)) 0 0 (va_A (mw ad cI cL u) sz) := by
  refine Met.ofW (cc := cX5_hold) (maxL := 3) (ret := none) (by decide) rfl ?_
  intro p e s m args below meth c s₁ B hml hv
  obtain ⟨rfl, hsz, hP, hK, hD0, hZ⟩ := hv
  have hx := B.exec
  have hb := B.bytes
  have hr := B.returns
  have hts := atoms_spec (ws := wsX5_hold) B.pre
  have hown : s.vm.findClass RX5 = some m.cls := findClass_of_methodNamed B.named
  have hlocks := B.notSynchronized
  subst hsz
  have hD := hD0.self (sz := s.heap.size)
  generalize hAe : va_A (mw ad cI cL u) s.heap.size = A at hD ⊢
  have hA : ∀ q : Nat, s.heap.size ≤ q → A q := fun q h => by rw [← hAe]; exact Or.inr h
  have hS : va_S A s.heap s.heap [] := va_S.rf
  have iX5 : ∀ w ∈ u_ws RX5 TX5 36, w ∈ wsX5_hold := fun _ h => List.mem_cons_of_mem _ (List.mem_append_right _ h)
  have k_0 := hts (.fieldLink RX5 80 "LampChoiceModel" "code" "I") (by decide +kernel)
  have k_1 := hts (.fieldLink RX5 28 "LampChoiceModel" "held" "[I") (by decide +kernel)
  have hl := lv_entry ([.ref (ad 0), .int z1, .int z2]) (n := 3) (Nat.le_of_ble_eq_true rfl)
  rw [lg_entry_eq]
  generalize (lg_sl ([.ref (ad 0), .int z1, .int z2]) ++ List.replicate (3 - (lg_sl ([.ref (ad 0), .int z1, .int z2])).length) Slot.unset).toArray = ls at hl ⊢
  have hl : lv_has ls 3 [(0, .ref (ad 0)), (1, .int z1), (2, .int z2)] := hl
  have key : ∀ n : Nat, (∀ (v1 : Int32) (v2 : Int32) (u : St) (H : Heap) (locs : List Loc) (ls : Array Slot), fX5_hold n 0 v1 v2 u = some r → va_P (dC, dI) vwCl (mw ad cI cL u) H → va_D A (mw ad cI cL u) → va_S A s.heap H locs → lv_has ls 3 [(0, .ref (ad 0)), (1, .int v1), (2, .int v2)] → W p l e (headSpec wsX5_hold ({ frames := 2, cells := 0, slots := 0, locals := 43 })).room s m ([.ref (ad 0), .int z1, .int z2] : List Value).toArray below meth c H locs 0 0 (MQ below (va_Qv (fun t => t = r) (fun t => wPost dC dI cI cL A (mw ad cI cL t)) A) ([.ref (ad 0), .int z1, .int z2] : List Value).toArray s 0 0 A) (F0 m 0 ls [])) := by
    intro n
    induction n with
    | zero => exact (fun _ _ _ _ _ _ hf => nomatch (show (none : Option (St)) = some r from hf))
    | succ n ih =>
      have ih0 := ih
      · intro v1 v2 u H locs ls hf hP hD hS hl
        have hf := (eX5_hold_0 n v1 v2 u).symm.trans hf
        refine lv_aload_n hx hb dX5_hold_0 rfl (lv_at hl 0 rfl) ?_
        refine lv_aload_n hx hb dX5_hold_1 rfl (lv_at hl 0 rfl) ?_
        refine lv_iload_n hx hb dX5_hold_2 rfl (lv_at hl 1 rfl) ?_
        obtain ⟨w_1, hw_1, hf⟩ := ob hf
        have hFc := freeAll hD hS hA
        refine va_calli (va_runV (As := [.int v1]) (rest := [.ref (ad 0)]) ⟨hx, hb, hml, hown, hts⟩ (mX5_isPlace l dC dI cI cL ad H.size u v1 n w_1 hw_1) (cwV 1 hts gX5_hold_X5_isPlace rfl rfl rfl (by decide +kernel) ⟨Nat.le_of_ble_eq_true rfl, Nat.le_of_ble_eq_true rfl⟩) ⟨wPre_blind, va_recv hK hP (ci := 5) (q0 := 0) rfl rfl, wPre_of hP hK hD hZ⟩ rfl rfl hl.1 rfl (lv_room (Nat.le_of_ble_eq_true rfl)) dX5_hold_3 ⟨Nat.zero_le _, Nat.zero_le _⟩) hS (fun q _ h => hFc q h) hFc (fun r2 u2 t H1 locs ht hvm hw hB hz1 hk1 hS => ?_)
        obtain ⟨hP1, hK1, hD1⟩ := hB
        rw [ht] at hP1
        have e1 : r2 = w_1.1 := congrArg Prod.fst hw
        have e2 : u2 = w_1.2 := congrArg Prod.snd hw
        subst r2 u2
        have hP : va_P (dC, dI) vwCl (mw ad cI cL w_1.2) H1 := hP1
        have hD : va_D A (mw ad cI cL w_1.2) := hD1.weaken (fun _ _ _ h => hFc _ h)
        clear hP1 hD1 hK1 hFc hk1
        generalize H1 = H at hP hS ⊢
        refine lv_if_eq (tgt := 32) hx hb dX5_hold_6 (by decide) (fun c_2 => ?_) (fun c_2 => ?_)
        · have hf := (if_pos c_2).symm.trans hf
          refine lv_iconst (v := 1) hx hb dX5_hold_32 (by decide) ?_
          refine va_put (D := (dC, dI)) (ci := 5) (v := .int (1 : Int32)) (ty := .int) (C := RX5) (T := TX5) (N := 36) hx hb hts iX5 tyX5 tyX5_ok nmX5 hown hK hP hD hS 0 rfl rfl 0 (by decide) k_0 (fun _ h9 => h9) rfl (by decide +kernel) rfl rfl (Nat.le_of_ble_eq_true rfl) dX5_hold_33 (fun H locs hP hD hS => ?_)
          have hP : va_P (dC, dI) vwCl (mw ad cI cL (sI w_1.2 0 (1 : Int32))) H := hP
          have hD : va_D A (mw ad cI cL (sI w_1.2 0 (1 : Int32))) := hD
          refine lv_aload_n hx hb dX5_hold_36 rfl (lv_at hl 0 rfl) ?_
          refine va_get (D := (dC, dI)) (ci := 5) (v := .int ((1 : Int32))) (C := RX5) (T := TX5) (N := 36) hx hb hts iX5 hown hK hP 0 rfl rfl 0 (by decide) k_0 (fun _ h9 => h9) rfl dX5_hold_37 ?_
          refine lv_if_ne (tgt := 54) hx hb dX5_hold_40 (by decide) (fun c_3 => ?_) (fun c_3 => ?_)
          · have hf := Option.some.inj hf
            exact W.vret hx hb hr (fun t ht hW => ⟨⟨(sI w_1.2 0 (1 : Int32)), rfl, hf, ⟨by rw [ht]; exact hP, va_K.moved hW.alike hK, hD⟩⟩, hS.F ht⟩) hS.2.2 dX5_hold_54
          · exact absurd c_3 (by decide)
        · have hf := (if_neg c_2).symm.trans hf
          refine lv_aload_n hx hb dX5_hold_9 rfl (lv_at hl 0 rfl) ?_
          refine lv_iload_n hx hb dX5_hold_10 rfl (lv_at hl 2 rfl) ?_
          obtain ⟨w_4, hw_4, hf⟩ := ob hf
          have hFc := freeAll hD hS hA
          refine va_calli (va_runV (As := [.int v2]) (rest := [.ref (ad 0)]) ⟨hx, hb, hml, hown, hts⟩ (mX5_isKind l dC dI cI cL ad H.size w_1.2 v2 n w_4 hw_4) (cwV 1 hts gX5_hold_X5_isKind rfl rfl rfl (by decide +kernel) ⟨Nat.le_of_ble_eq_true rfl, Nat.le_of_ble_eq_true rfl⟩) ⟨wPre_blind, va_recv hK hP (ci := 5) (q0 := 0) rfl rfl, wPre_of hP hK hD hZ⟩ rfl rfl hl.1 rfl (lv_room (Nat.le_of_ble_eq_true rfl)) dX5_hold_11 ⟨Nat.zero_le _, Nat.zero_le _⟩) hS (fun q _ h => hFc q h) hFc (fun r2 u2 t H1 locs ht hvm hw hB hz1 hk1 hS => ?_)
          obtain ⟨hP1, hK1, hD1⟩ := hB
          rw [ht] at hP1
          have e1 : r2 = w_4.1 := congrArg Prod.fst hw
          have e2 : u2 = w_4.2 := congrArg Prod.snd hw
          subst r2 u2
          have hP : va_P (dC, dI) vwCl (mw ad cI cL w_4.2) H1 := hP1
          have hD : va_D A (mw ad cI cL w_4.2) := hD1.weaken (fun _ _ _ h => hFc _ h)
          clear hP1 hD1 hK1 hFc hk1
          generalize H1 = H at hP hS ⊢
          refine lv_if_ne (tgt := 28) hx hb dX5_hold_14 (by decide) (fun c_5 => ?_) (fun c_5 => ?_)
          · have hf := (if_neg c_5).symm.trans hf
            refine lv_iconst (v := 0) hx hb dX5_hold_28 (by decide) ?_
            refine lv_goto (tgt := 33) hx hb dX5_hold_29 (by decide) ?_
            refine va_put (D := (dC, dI)) (ci := 5) (v := .int (0 : Int32)) (ty := .int) (C := RX5) (T := TX5) (N := 36) hx hb hts iX5 tyX5 tyX5_ok nmX5 hown hK hP hD hS 0 rfl rfl 0 (by decide) k_0 (fun _ h9 => h9) rfl (by decide +kernel) rfl rfl (Nat.le_of_ble_eq_true rfl) dX5_hold_33 (fun H locs hP hD hS => ?_)
            have hP : va_P (dC, dI) vwCl (mw ad cI cL (sI w_4.2 0 (0 : Int32))) H := hP
            have hD : va_D A (mw ad cI cL (sI w_4.2 0 (0 : Int32))) := hD
            refine lv_aload_n hx hb dX5_hold_36 rfl (lv_at hl 0 rfl) ?_
            refine va_get (D := (dC, dI)) (ci := 5) (v := .int ((0 : Int32))) (C := RX5) (T := TX5) (N := 36) hx hb hts iX5 hown hK hP 0 rfl rfl 0 (by decide) k_0 (fun _ h9 => h9) rfl dX5_hold_37 ?_
            refine lv_if_ne (tgt := 54) hx hb dX5_hold_40 (by decide) (fun c_6 => ?_) (fun c_6 => ?_)
            · exact absurd c_6 (by decide)
            · refine lv_aload_n hx hb dX5_hold_43 rfl (lv_at hl 0 rfl) ?_
              refine va_get (D := (dC, dI)) (ci := 5) (v := .ref (ad 7)) (C := RX5) (T := TX5) (N := 36) hx hb hts iX5 hown hK hP 0 rfl rfl 9 (by decide) k_1 (fun _ h9 => h9) rfl dX5_hold_44 ?_
              refine lv_iload_n hx hb dX5_hold_47 rfl (lv_at hl 1 rfl) ?_
              refine lv_iload_n hx hb dX5_hold_48 rfl (lv_at hl 2 rfl) ?_
              obtain ⟨h_7, hf⟩ := ck_of hf
              refine va_iast (f := (gA w_4.2 6)) hx hb hK hP hD hS 7 0 rfl rfl h_7 dX5_hold_49 (fun H locs hP hD hS => ?_)
              have hP : va_P (dC, dI) vwCl (mw ad cI cL (sA (sI w_4.2 0 (0 : Int32)) 6 (upd (gA w_4.2 6) v1.toNatClampNeg v2))) H := hP
              have hD : va_D A (mw ad cI cL (sA (sI w_4.2 0 (0 : Int32)) 6 (upd (gA w_4.2 6) v1.toNatClampNeg v2))) := hD
              refine lv_aload_n hx hb dX5_hold_50 rfl (lv_at hl 0 rfl) ?_
              obtain ⟨w_8, hw_8, hf⟩ := ob hf
              have hFc := freeAll hD hS hA
              refine va_callv (va_runV (As := []) (rest := []) ⟨hx, hb, hml, hown, hts⟩ (mX5_renew l dC dI cI cL ad H.size (sA (sI w_4.2 0 (0 : Int32)) 6 (upd (gA w_4.2 6) v1.toNatClampNeg v2))  n w_8 hw_8) (cwV 0 hts gX5_hold_X5_renew rfl rfl rfl (by decide +kernel) ⟨Nat.le_of_ble_eq_true rfl, Nat.le_of_ble_eq_true rfl⟩) ⟨wPre_blind, va_recv hK hP (ci := 5) (q0 := 0) rfl rfl, wPre_of hP hK hD hZ⟩ rfl rfl hl.1 rfl (lv_room (Nat.le_of_ble_eq_true rfl)) dX5_hold_51 ⟨Nat.zero_le _, Nat.zero_le _⟩) hS (fun q _ h => hFc q h) hFc (fun u2 t H1 locs ht hvm hw hB hz1 hk1 hS => ?_)
              obtain ⟨hP1, hK1, hD1⟩ := hB
              rw [ht] at hP1
              subst u2
              have hP : va_P (dC, dI) vwCl (mw ad cI cL w_8) H1 := hP1
              have hD : va_D A (mw ad cI cL w_8) := hD1.weaken (fun _ _ _ h => hFc _ h)
              clear hP1 hD1 hK1 hFc hk1
              generalize H1 = H at hP hS ⊢
              have hf := Option.some.inj hf
              exact W.vret hx hb hr (fun t ht hW => ⟨⟨w_8, rfl, hf, ⟨by rw [ht]; exact hP, va_K.moved hW.alike hK, hD⟩⟩, hS.F ht⟩) hS.2.2 dX5_hold_54
          · have hf := (if_pos c_5).symm.trans hf
            refine lv_iload_n hx hb dX5_hold_17 rfl (lv_at hl 2 rfl) ?_
            refine lv_iconst (v := -1) hx hb dX5_hold_18 (by decide) ?_
            refine lv_icmp_eq (tgt := 28) hx hb dX5_hold_19 (by decide) (fun c_9 => ?_) (fun c_9 => ?_)
            · have hf := (if_pos c_9).symm.trans hf
              refine lv_iconst (v := 0) hx hb dX5_hold_28 (by decide) ?_
              refine lv_goto (tgt := 33) hx hb dX5_hold_29 (by decide) ?_
              refine va_put (D := (dC, dI)) (ci := 5) (v := .int (0 : Int32)) (ty := .int) (C := RX5) (T := TX5) (N := 36) hx hb hts iX5 tyX5 tyX5_ok nmX5 hown hK hP hD hS 0 rfl rfl 0 (by decide) k_0 (fun _ h9 => h9) rfl (by decide +kernel) rfl rfl (Nat.le_of_ble_eq_true rfl) dX5_hold_33 (fun H locs hP hD hS => ?_)
              have hP : va_P (dC, dI) vwCl (mw ad cI cL (sI w_4.2 0 (0 : Int32))) H := hP
              have hD : va_D A (mw ad cI cL (sI w_4.2 0 (0 : Int32))) := hD
              refine lv_aload_n hx hb dX5_hold_36 rfl (lv_at hl 0 rfl) ?_
              refine va_get (D := (dC, dI)) (ci := 5) (v := .int ((0 : Int32))) (C := RX5) (T := TX5) (N := 36) hx hb hts iX5 hown hK hP 0 rfl rfl 0 (by decide) k_0 (fun _ h9 => h9) rfl dX5_hold_37 ?_
              refine lv_if_ne (tgt := 54) hx hb dX5_hold_40 (by decide) (fun c_10 => ?_) (fun c_10 => ?_)
              · exact absurd c_10 (by decide)
              · refine lv_aload_n hx hb dX5_hold_43 rfl (lv_at hl 0 rfl) ?_
                refine va_get (D := (dC, dI)) (ci := 5) (v := .ref (ad 7)) (C := RX5) (T := TX5) (N := 36) hx hb hts iX5 hown hK hP 0 rfl rfl 9 (by decide) k_1 (fun _ h9 => h9) rfl dX5_hold_44 ?_
                refine lv_iload_n hx hb dX5_hold_47 rfl (lv_at hl 1 rfl) ?_
                refine lv_iload_n hx hb dX5_hold_48 rfl (lv_at hl 2 rfl) ?_
                obtain ⟨h_11, hf⟩ := ck_of hf
                refine va_iast (f := (gA w_4.2 6)) hx hb hK hP hD hS 7 0 rfl rfl h_11 dX5_hold_49 (fun H locs hP hD hS => ?_)
                have hP : va_P (dC, dI) vwCl (mw ad cI cL (sA (sI w_4.2 0 (0 : Int32)) 6 (upd (gA w_4.2 6) v1.toNatClampNeg v2))) H := hP
                have hD : va_D A (mw ad cI cL (sA (sI w_4.2 0 (0 : Int32)) 6 (upd (gA w_4.2 6) v1.toNatClampNeg v2))) := hD
                refine lv_aload_n hx hb dX5_hold_50 rfl (lv_at hl 0 rfl) ?_
                obtain ⟨w_12, hw_12, hf⟩ := ob hf
                have hFc := freeAll hD hS hA
                refine va_callv (va_runV (As := []) (rest := []) ⟨hx, hb, hml, hown, hts⟩ (mX5_renew l dC dI cI cL ad H.size (sA (sI w_4.2 0 (0 : Int32)) 6 (upd (gA w_4.2 6) v1.toNatClampNeg v2))  n w_12 hw_12) (cwV 0 hts gX5_hold_X5_renew rfl rfl rfl (by decide +kernel) ⟨Nat.le_of_ble_eq_true rfl, Nat.le_of_ble_eq_true rfl⟩) ⟨wPre_blind, va_recv hK hP (ci := 5) (q0 := 0) rfl rfl, wPre_of hP hK hD hZ⟩ rfl rfl hl.1 rfl (lv_room (Nat.le_of_ble_eq_true rfl)) dX5_hold_51 ⟨Nat.zero_le _, Nat.zero_le _⟩) hS (fun q _ h => hFc q h) hFc (fun u2 t H1 locs ht hvm hw hB hz1 hk1 hS => ?_)
                obtain ⟨hP1, hK1, hD1⟩ := hB
                rw [ht] at hP1
                subst u2
                have hP : va_P (dC, dI) vwCl (mw ad cI cL w_12) H1 := hP1
                have hD : va_D A (mw ad cI cL w_12) := hD1.weaken (fun _ _ _ h => hFc _ h)
                clear hP1 hD1 hK1 hFc hk1
                generalize H1 = H at hP hS ⊢
                have hf := Option.some.inj hf
                exact W.vret hx hb hr (fun t ht hW => ⟨⟨w_12, rfl, hf, ⟨by rw [ht]; exact hP, va_K.moved hW.alike hK, hD⟩⟩, hS.F ht⟩) hS.2.2 dX5_hold_54
            · have hf := (if_neg c_9).symm.trans hf
              refine lv_iload_n hx hb dX5_hold_22 rfl (lv_at hl 2 rfl) ?_
              refine lv_bipush (v := -2) hx hb dX5_hold_23 (by decide) ?_
              refine lv_icmp_ne (tgt := 32) hx hb dX5_hold_25 (by decide) (fun c_13 => ?_) (fun c_13 => ?_)
              · have hf := (if_neg c_13).symm.trans hf
                refine lv_iconst (v := 1) hx hb dX5_hold_32 (by decide) ?_
                refine va_put (D := (dC, dI)) (ci := 5) (v := .int (1 : Int32)) (ty := .int) (C := RX5) (T := TX5) (N := 36) hx hb hts iX5 tyX5 tyX5_ok nmX5 hown hK hP hD hS 0 rfl rfl 0 (by decide) k_0 (fun _ h9 => h9) rfl (by decide +kernel) rfl rfl (Nat.le_of_ble_eq_true rfl) dX5_hold_33 (fun H locs hP hD hS => ?_)
                have hP : va_P (dC, dI) vwCl (mw ad cI cL (sI w_4.2 0 (1 : Int32))) H := hP
                have hD : va_D A (mw ad cI cL (sI w_4.2 0 (1 : Int32))) := hD
                refine lv_aload_n hx hb dX5_hold_36 rfl (lv_at hl 0 rfl) ?_
                refine va_get (D := (dC, dI)) (ci := 5) (v := .int ((1 : Int32))) (C := RX5) (T := TX5) (N := 36) hx hb hts iX5 hown hK hP 0 rfl rfl 0 (by decide) k_0 (fun _ h9 => h9) rfl dX5_hold_37 ?_
                refine lv_if_ne (tgt := 54) hx hb dX5_hold_40 (by decide) (fun c_14 => ?_) (fun c_14 => ?_)
                · have hf := Option.some.inj hf
                  exact W.vret hx hb hr (fun t ht hW => ⟨⟨(sI w_4.2 0 (1 : Int32)), rfl, hf, ⟨by rw [ht]; exact hP, va_K.moved hW.alike hK, hD⟩⟩, hS.F ht⟩) hS.2.2 dX5_hold_54
                · exact absurd c_14 (by decide)
              · have hf := (if_pos c_13).symm.trans hf
                refine lv_iconst (v := 0) hx hb dX5_hold_28 (by decide) ?_
                refine lv_goto (tgt := 33) hx hb dX5_hold_29 (by decide) ?_
                refine va_put (D := (dC, dI)) (ci := 5) (v := .int (0 : Int32)) (ty := .int) (C := RX5) (T := TX5) (N := 36) hx hb hts iX5 tyX5 tyX5_ok nmX5 hown hK hP hD hS 0 rfl rfl 0 (by decide) k_0 (fun _ h9 => h9) rfl (by decide +kernel) rfl rfl (Nat.le_of_ble_eq_true rfl) dX5_hold_33 (fun H locs hP hD hS => ?_)
                have hP : va_P (dC, dI) vwCl (mw ad cI cL (sI w_4.2 0 (0 : Int32))) H := hP
                have hD : va_D A (mw ad cI cL (sI w_4.2 0 (0 : Int32))) := hD
                refine lv_aload_n hx hb dX5_hold_36 rfl (lv_at hl 0 rfl) ?_
                refine va_get (D := (dC, dI)) (ci := 5) (v := .int ((0 : Int32))) (C := RX5) (T := TX5) (N := 36) hx hb hts iX5 hown hK hP 0 rfl rfl 0 (by decide) k_0 (fun _ h9 => h9) rfl dX5_hold_37 ?_
                refine lv_if_ne (tgt := 54) hx hb dX5_hold_40 (by decide) (fun c_15 => ?_) (fun c_15 => ?_)
                · exact absurd c_15 (by decide)
                · refine lv_aload_n hx hb dX5_hold_43 rfl (lv_at hl 0 rfl) ?_
                  refine va_get (D := (dC, dI)) (ci := 5) (v := .ref (ad 7)) (C := RX5) (T := TX5) (N := 36) hx hb hts iX5 hown hK hP 0 rfl rfl 9 (by decide) k_1 (fun _ h9 => h9) rfl dX5_hold_44 ?_
                  refine lv_iload_n hx hb dX5_hold_47 rfl (lv_at hl 1 rfl) ?_
                  refine lv_iload_n hx hb dX5_hold_48 rfl (lv_at hl 2 rfl) ?_
                  obtain ⟨h_16, hf⟩ := ck_of hf
                  refine va_iast (f := (gA w_4.2 6)) hx hb hK hP hD hS 7 0 rfl rfl h_16 dX5_hold_49 (fun H locs hP hD hS => ?_)
                  have hP : va_P (dC, dI) vwCl (mw ad cI cL (sA (sI w_4.2 0 (0 : Int32)) 6 (upd (gA w_4.2 6) v1.toNatClampNeg v2))) H := hP
                  have hD : va_D A (mw ad cI cL (sA (sI w_4.2 0 (0 : Int32)) 6 (upd (gA w_4.2 6) v1.toNatClampNeg v2))) := hD
                  refine lv_aload_n hx hb dX5_hold_50 rfl (lv_at hl 0 rfl) ?_
                  obtain ⟨w_17, hw_17, hf⟩ := ob hf
                  have hFc := freeAll hD hS hA
                  refine va_callv (va_runV (As := []) (rest := []) ⟨hx, hb, hml, hown, hts⟩ (mX5_renew l dC dI cI cL ad H.size (sA (sI w_4.2 0 (0 : Int32)) 6 (upd (gA w_4.2 6) v1.toNatClampNeg v2))  n w_17 hw_17) (cwV 0 hts gX5_hold_X5_renew rfl rfl rfl (by decide +kernel) ⟨Nat.le_of_ble_eq_true rfl, Nat.le_of_ble_eq_true rfl⟩) ⟨wPre_blind, va_recv hK hP (ci := 5) (q0 := 0) rfl rfl, wPre_of hP hK hD hZ⟩ rfl rfl hl.1 rfl (lv_room (Nat.le_of_ble_eq_true rfl)) dX5_hold_51 ⟨Nat.zero_le _, Nat.zero_le _⟩) hS (fun q _ h => hFc q h) hFc (fun u2 t H1 locs ht hvm hw hB hz1 hk1 hS => ?_)
                  obtain ⟨hP1, hK1, hD1⟩ := hB
                  rw [ht] at hP1
                  subst u2
                  have hP : va_P (dC, dI) vwCl (mw ad cI cL w_17) H1 := hP1
                  have hD : va_D A (mw ad cI cL w_17) := hD1.weaken (fun _ _ _ h => hFc _ h)
                  clear hP1 hD1 hK1 hFc hk1
                  generalize H1 = H at hP hS ⊢
                  have hf := Option.some.inj hf
                  exact W.vret hx hb hr (fun t ht hW => ⟨⟨w_17, rfl, hf, ⟨by rw [ht]; exact hP, va_K.moved hW.alike hK, hD⟩⟩, hS.F ht⟩) hS.2.2 dX5_hold_54
  exact (key n) z1 z2 u _ _ ls hf0 hP hD hS (lv_sub hl [0, 1, 2] rfl)

def fX5_lightOf (n pc : Nat) (v1 : Int32) (v2 : Int32) (v3 : Int32) (u : St) : Option (Int32 × St) := match n with
  | 0 => none
  | n + 1 => match pc with
    | 0 => (if ck v2 7 = true then (if ck v3 16 = true then (if ck v1 3 = true then (if ((((gI u 4) * (gI u 4)) + ((((gA u 4) v2.toNatClampNeg) - ((gA u 8) v3.toNatClampNeg)) * (((gA u 4) v2.toNatClampNeg) - ((gA u 8) v3.toNatClampNeg)))) + ((((gA u 5) v2.toNatClampNeg) - ((gA u 9) v3.toNatClampNeg)) * (((gA u 5) v2.toNatClampNeg) - ((gA u 9) v3.toNatClampNeg)))) = 0 then none else some ((((1000 : Int32) * ((gA u 0) v1.toNatClampNeg)) / ((((gI u 4) * (gI u 4)) + ((((gA u 4) v2.toNatClampNeg) - ((gA u 8) v3.toNatClampNeg)) * (((gA u 4) v2.toNatClampNeg) - ((gA u 8) v3.toNatClampNeg)))) + ((((gA u 5) v2.toNatClampNeg) - ((gA u 9) v3.toNatClampNeg)) * (((gA u 5) v2.toNatClampNeg) - ((gA u 9) v3.toNatClampNeg))))), u)) else none) else none) else none)
    | _ => none
theorem eX5_lightOf_0 (n : Nat) (v1 : Int32) (v2 : Int32) (v3 : Int32) (u : St) : fX5_lightOf (n + 1) 0 v1 v2 v3 u = (if ck v2 7 = true then (if ck v3 16 = true then (if ck v1 3 = true then (if ((((gI u 4) * (gI u 4)) + ((((gA u 4) v2.toNatClampNeg) - ((gA u 8) v3.toNatClampNeg)) * (((gA u 4) v2.toNatClampNeg) - ((gA u 8) v3.toNatClampNeg)))) + ((((gA u 5) v2.toNatClampNeg) - ((gA u 9) v3.toNatClampNeg)) * (((gA u 5) v2.toNatClampNeg) - ((gA u 9) v3.toNatClampNeg)))) = 0 then none else some ((((1000 : Int32) * ((gA u 0) v1.toNatClampNeg)) / ((((gI u 4) * (gI u 4)) + ((((gA u 4) v2.toNatClampNeg) - ((gA u 8) v3.toNatClampNeg)) * (((gA u 4) v2.toNatClampNeg) - ((gA u 8) v3.toNatClampNeg)))) + ((((gA u 5) v2.toNatClampNeg) - ((gA u 9) v3.toNatClampNeg)) * (((gA u 5) v2.toNatClampNeg) - ((gA u 9) v3.toNatClampNeg))))), u)) else none) else none) else none) := rfl
theorem vX5_lightOf_0 (v1 : Int32) (v2 : Int32) (v3 : Int32) (u : St) (r : Int32 × St) : Ev (fun n => fX5_lightOf n 0 v1 v2 v3 u) r ↔ Ev (fun n => (if ck v2 7 = true then (if ck v3 16 = true then (if ck v1 3 = true then (if ((((gI u 4) * (gI u 4)) + ((((gA u 4) v2.toNatClampNeg) - ((gA u 8) v3.toNatClampNeg)) * (((gA u 4) v2.toNatClampNeg) - ((gA u 8) v3.toNatClampNeg)))) + ((((gA u 5) v2.toNatClampNeg) - ((gA u 9) v3.toNatClampNeg)) * (((gA u 5) v2.toNatClampNeg) - ((gA u 9) v3.toNatClampNeg)))) = 0 then none else some ((((1000 : Int32) * ((gA u 0) v1.toNatClampNeg)) / ((((gI u 4) * (gI u 4)) + ((((gA u 4) v2.toNatClampNeg) - ((gA u 8) v3.toNatClampNeg)) * (((gA u 4) v2.toNatClampNeg) - ((gA u 8) v3.toNatClampNeg)))) + ((((gA u 5) v2.toNatClampNeg) - ((gA u 9) v3.toNatClampNeg)) * (((gA u 5) v2.toNatClampNeg) - ((gA u 9) v3.toNatClampNeg))))), u)) else none) else none) else none)) r := Ev_succ (fun n => fX5_lightOf n 0 v1 v2 v3 u) r
def FX5_lightOf (n : Nat) (v1 : Int32) (v2 : Int32) (v3 : Int32) (u : St) : Option (Int32 × St) := fX5_lightOf n 0 v1 v2 v3 u
set_option maxHeartbeats 4000000 in
set_option maxRecDepth 100000 in
theorem mX5_lightOf (l : Launch) (dC : Nat → ClassId) (dI : Nat → Nat → Nat) (cI cL : ClassId) (ad : Nat → Nat) (sz : Nat) (u : St) (z1 : Int32) (z2 : Int32) (z3 : Int32) (n : Nat) (r : Int32 × St) (hf0 : FX5_lightOf n z1 z2 z3 u = some r) : Met l yX5_lightOf wsX5_lightOf ({ frames := 0, cells := 0, slots := 0, locals := 0 }) (va_Pc [.ref (ad 0), .int z1, .int z2, .int z3] (wPre dC dI cI cL (mw ad cI cL u) sz)) (va_Qi (fun a t => (a, t) = r) (fun t => wPost dC dI cI cL (va_A (mw ad cI cL u) sz) (mw ad cI cL t)) (va_A (mw ad cI cL u) sz)) 0 0 (va_A (mw ad cI cL u) sz) := by
  refine Met.ofW (cc := cX5_lightOf) (maxL := 6) (ret := (some .int)) (by decide) rfl ?_
  intro p e s m args below meth c s₁ B hml hv
  obtain ⟨rfl, hsz, hP, hK, hD0, hZ⟩ := hv
  have hx := B.exec
  have hb := B.bytes
  have hr := B.returns
  have hts := atoms_spec (ws := wsX5_lightOf) B.pre
  have hown : s.vm.findClass RX5 = some m.cls := findClass_of_methodNamed B.named
  have hlocks := B.notSynchronized
  subst hsz
  have hD := hD0.self (sz := s.heap.size)
  generalize hAe : va_A (mw ad cI cL u) s.heap.size = A at hD ⊢
  have hA : ∀ q : Nat, s.heap.size ≤ q → A q := fun q h => by rw [← hAe]; exact Or.inr h
  have hS : va_S A s.heap s.heap [] := va_S.rf
  have iX5 : ∀ w ∈ u_ws RX5 TX5 36, w ∈ wsX5_lightOf := fun _ h => List.mem_cons_of_mem _ (List.mem_append_right _ h)
  have k_0 := hts (.fieldLink RX5 22 "LampChoiceModel" "xs" "[I") (by decide +kernel)
  have k_1 := hts (.fieldLink RX5 34 "LampChoiceModel" "pointXs" "[I") (by decide +kernel)
  have k_2 := hts (.fieldLink RX5 25 "LampChoiceModel" "ys" "[I") (by decide +kernel)
  have k_3 := hts (.fieldLink RX5 37 "LampChoiceModel" "pointYs" "[I") (by decide +kernel)
  have k_4 := hts (.fieldLink RX5 7 "LampChoiceModel" "strengths" "[I") (by decide +kernel)
  have k_5 := hts (.fieldLink RX5 49 "LampChoiceModel" "height" "I") (by decide +kernel)
  have hl := lv_entry ([.ref (ad 0), .int z1, .int z2, .int z3]) (n := 6) (Nat.le_of_ble_eq_true rfl)
  rw [lg_entry_eq]
  generalize (lg_sl ([.ref (ad 0), .int z1, .int z2, .int z3]) ++ List.replicate (6 - (lg_sl ([.ref (ad 0), .int z1, .int z2, .int z3])).length) Slot.unset).toArray = ls at hl ⊢
  have hl : lv_has ls 6 [(0, .ref (ad 0)), (1, .int z1), (2, .int z2), (3, .int z3)] := hl
  have key : ∀ n : Nat, (∀ (v1 : Int32) (v2 : Int32) (v3 : Int32) (u : St) (H : Heap) (locs : List Loc) (ls : Array Slot), fX5_lightOf n 0 v1 v2 v3 u = some r → va_P (dC, dI) vwCl (mw ad cI cL u) H → va_D A (mw ad cI cL u) → va_S A s.heap H locs → lv_has ls 6 [(0, .ref (ad 0)), (1, .int v1), (2, .int v2), (3, .int v3)] → W p l e (headSpec wsX5_lightOf ({ frames := 0, cells := 0, slots := 0, locals := 0 })).room s m ([.ref (ad 0), .int z1, .int z2, .int z3] : List Value).toArray below meth c H locs 0 0 (MQ below (va_Qi (fun a t => (a, t) = r) (fun t => wPost dC dI cI cL A (mw ad cI cL t)) A) ([.ref (ad 0), .int z1, .int z2, .int z3] : List Value).toArray s 0 0 A) (F0 m 0 ls [])) := by
    intro n
    induction n with
    | zero => exact (fun _ _ _ _ _ _ _ hf => nomatch (show (none : Option (Int32 × St)) = some r from hf))
    | succ n ih =>
      have ih0 := ih
      · intro v1 v2 v3 u H locs ls hf hP hD hS hl
        have hf := (eX5_lightOf_0 n v1 v2 v3 u).symm.trans hf
        refine lv_aload_n hx hb dX5_lightOf_0 rfl (lv_at hl 0 rfl) ?_
        refine va_get (D := (dC, dI)) (ci := 5) (v := .ref (ad 5)) (C := RX5) (T := TX5) (N := 36) hx hb hts iX5 hown hK hP 0 rfl rfl 7 (by decide) k_0 (fun _ h9 => h9) rfl dX5_lightOf_1 ?_
        refine lv_iload_n hx hb dX5_lightOf_4 rfl (lv_at hl 2 rfl) ?_
        obtain ⟨h_1, hf⟩ := ck_of hf
        refine va_iald (f := (gA u 4)) hx hb hK hP 5 0 rfl rfl h_1 dX5_lightOf_5 ?_
        refine lv_aload_n hx hb dX5_lightOf_6 rfl (lv_at hl 0 rfl) ?_
        refine va_get (D := (dC, dI)) (ci := 5) (v := .ref (ad 9)) (C := RX5) (T := TX5) (N := 36) hx hb hts iX5 hown hK hP 0 rfl rfl 12 (by decide) k_1 (fun _ h9 => h9) rfl dX5_lightOf_7 ?_
        refine lv_iload_n hx hb dX5_lightOf_10 rfl (lv_at hl 3 rfl) ?_
        obtain ⟨h_2, hf⟩ := ck_of hf
        refine va_iald (f := (gA u 8)) hx hb hK hP 9 0 rfl rfl h_2 dX5_lightOf_11 ?_
        refine lv_isub hx hb dX5_lightOf_12 ?_
        refine lv_istore (lv' := [(4, .int (((gA u 4) v2.toNatClampNeg) - ((gA u 8) v3.toNatClampNeg))), (0, .ref (ad 0)), (1, .int v1), (2, .int v2), (3, .int v3)]) hx hb dX5_lightOf_13 hl (by decide) rfl (fun ls hl => ?_)
        refine lv_aload_n hx hb dX5_lightOf_15 rfl (lv_at hl 1 rfl) ?_
        refine va_get (D := (dC, dI)) (ci := 5) (v := .ref (ad 6)) (C := RX5) (T := TX5) (N := 36) hx hb hts iX5 hown hK hP 0 rfl rfl 8 (by decide) k_2 (fun _ h9 => h9) rfl dX5_lightOf_16 ?_
        refine lv_iload_n hx hb dX5_lightOf_19 rfl (lv_at hl 3 rfl) ?_
        refine va_iald (f := (gA u 5)) hx hb hK hP 6 0 rfl rfl h_1 dX5_lightOf_20 ?_
        refine lv_aload_n hx hb dX5_lightOf_21 rfl (lv_at hl 1 rfl) ?_
        refine va_get (D := (dC, dI)) (ci := 5) (v := .ref (ad 10)) (C := RX5) (T := TX5) (N := 36) hx hb hts iX5 hown hK hP 0 rfl rfl 13 (by decide) k_3 (fun _ h9 => h9) rfl dX5_lightOf_22 ?_
        refine lv_iload_n hx hb dX5_lightOf_25 rfl (lv_at hl 4 rfl) ?_
        refine va_iald (f := (gA u 9)) hx hb hK hP 10 0 rfl rfl h_2 dX5_lightOf_26 ?_
        refine lv_isub hx hb dX5_lightOf_27 ?_
        refine lv_istore (lv' := [(5, .int (((gA u 5) v2.toNatClampNeg) - ((gA u 9) v3.toNatClampNeg))), (4, .int (((gA u 4) v2.toNatClampNeg) - ((gA u 8) v3.toNatClampNeg))), (0, .ref (ad 0)), (1, .int v1), (2, .int v2), (3, .int v3)]) hx hb dX5_lightOf_28 hl (by decide) rfl (fun ls hl => ?_)
        refine lv_sipush (v := 1000) hx hb dX5_lightOf_30 (by decide) ?_
        refine lv_aload_n hx hb dX5_lightOf_33 rfl (lv_at hl 2 rfl) ?_
        refine va_get (D := (dC, dI)) (ci := 5) (v := .ref (ad 1)) (C := RX5) (T := TX5) (N := 36) hx hb hts iX5 hown hK hP 0 rfl rfl 2 (by decide) k_4 (fun _ h9 => h9) rfl dX5_lightOf_34 ?_
        refine lv_iload_n hx hb dX5_lightOf_37 rfl (lv_at hl 3 rfl) ?_
        obtain ⟨h_3, hf⟩ := ck_of hf
        refine va_iald (f := (gA u 0)) hx hb hK hP 1 0 rfl rfl h_3 dX5_lightOf_38 ?_
        refine lv_imul hx hb dX5_lightOf_39 ?_
        refine lv_aload_n hx hb dX5_lightOf_40 rfl (lv_at hl 2 rfl) ?_
        refine va_get (D := (dC, dI)) (ci := 5) (v := .int (gI u 4)) (C := RX5) (T := TX5) (N := 36) hx hb hts iX5 hown hK hP 0 rfl rfl 17 (by decide) k_5 (fun _ h9 => h9) rfl dX5_lightOf_41 ?_
        refine lv_aload_n hx hb dX5_lightOf_44 rfl (lv_at hl 2 rfl) ?_
        refine va_get (D := (dC, dI)) (ci := 5) (v := .int (gI u 4)) (C := RX5) (T := TX5) (N := 36) hx hb hts iX5 hown hK hP 0 rfl rfl 17 (by decide) k_5 (fun _ h9 => h9) rfl dX5_lightOf_45 ?_
        refine lv_imul hx hb dX5_lightOf_48 ?_
        refine lv_iload hx hb dX5_lightOf_49 (lv_at hl 1 rfl) ?_
        refine lv_iload hx hb dX5_lightOf_51 (lv_at hl 1 rfl) ?_
        refine lv_imul hx hb dX5_lightOf_53 ?_
        refine lv_iadd hx hb dX5_lightOf_54 ?_
        refine lv_iload hx hb dX5_lightOf_55 (lv_at hl 0 rfl) ?_
        refine lv_iload hx hb dX5_lightOf_57 (lv_at hl 0 rfl) ?_
        refine lv_imul hx hb dX5_lightOf_59 ?_
        refine lv_iadd hx hb dX5_lightOf_60 ?_
        obtain ⟨h_4, hf⟩ := nz_of hf
        refine lv_idiv hx hb dX5_lightOf_61 h_4 ?_
        have hf := Option.some.inj hf
        exact W.iret (v := (((1000 : Int32) * ((gA u 0) v1.toNatClampNeg)) / ((((gI u 4) * (gI u 4)) + ((((gA u 4) v2.toNatClampNeg) - ((gA u 8) v3.toNatClampNeg)) * (((gA u 4) v2.toNatClampNeg) - ((gA u 8) v3.toNatClampNeg)))) + ((((gA u 5) v2.toNatClampNeg) - ((gA u 9) v3.toNatClampNeg)) * (((gA u 5) v2.toNatClampNeg) - ((gA u 9) v3.toNatClampNeg)))))) hx hb hr (fun t ht hW => ⟨⟨(((1000 : Int32) * ((gA u 0) v1.toNatClampNeg)) / ((((gI u 4) * (gI u 4)) + ((((gA u 4) v2.toNatClampNeg) - ((gA u 8) v3.toNatClampNeg)) * (((gA u 4) v2.toNatClampNeg) - ((gA u 8) v3.toNatClampNeg)))) + ((((gA u 5) v2.toNatClampNeg) - ((gA u 9) v3.toNatClampNeg)) * (((gA u 5) v2.toNatClampNeg) - ((gA u 9) v3.toNatClampNeg))))), u, rfl, hf, ⟨by rw [ht]; exact hP, va_K.moved hW.alike hK, hD⟩⟩, hS.F ht⟩) hS.2.2 dX5_lightOf_62
  exact (key n) z1 z2 z3 u _ _ ls hf0 hP hD hS (lv_sub hl [0, 1, 2, 3] rfl)

def fX5_light (n pc : Nat) (v1 : Int32) (v2 : Int32) (v3 : Int32) (u : St) : Option (Int32 × St) := match n with
  | 0 => none
  | n + 1 => match pc with
    | 0 => ((FX5_isKind n v1 u).bind fun w_1 => (if w_1.1 = 0 then some ((0 : Int32), sI w_1.2 0 (1 : Int32)) else ((FX5_isPlace n v2 w_1.2).bind fun w_4 => (if w_4.1 = 0 then some ((0 : Int32), sI w_4.2 0 (1 : Int32)) else ((FX5_isPoint n v3 w_4.2).bind fun w_7 => (if w_7.1 = 0 then some ((0 : Int32), sI w_7.2 0 (1 : Int32)) else ((FX5_lightOf n v1 v2 v3 (sI w_7.2 0 (0 : Int32))).bind fun w_11 => some (w_11.1, w_11.2))))))))
    | _ => none
theorem eX5_light_0 (n : Nat) (v1 : Int32) (v2 : Int32) (v3 : Int32) (u : St) : fX5_light (n + 1) 0 v1 v2 v3 u = ((FX5_isKind n v1 u).bind fun w_1 => (if w_1.1 = 0 then some ((0 : Int32), sI w_1.2 0 (1 : Int32)) else ((FX5_isPlace n v2 w_1.2).bind fun w_4 => (if w_4.1 = 0 then some ((0 : Int32), sI w_4.2 0 (1 : Int32)) else ((FX5_isPoint n v3 w_4.2).bind fun w_7 => (if w_7.1 = 0 then some ((0 : Int32), sI w_7.2 0 (1 : Int32)) else ((FX5_lightOf n v1 v2 v3 (sI w_7.2 0 (0 : Int32))).bind fun w_11 => some (w_11.1, w_11.2)))))))) := rfl
theorem vX5_light_0 (v1 : Int32) (v2 : Int32) (v3 : Int32) (u : St) (r : Int32 × St) : Ev (fun n => fX5_light n 0 v1 v2 v3 u) r ↔ Ev (fun n => ((FX5_isKind n v1 u).bind fun w_1 => (if w_1.1 = 0 then some ((0 : Int32), sI w_1.2 0 (1 : Int32)) else ((FX5_isPlace n v2 w_1.2).bind fun w_4 => (if w_4.1 = 0 then some ((0 : Int32), sI w_4.2 0 (1 : Int32)) else ((FX5_isPoint n v3 w_4.2).bind fun w_7 => (if w_7.1 = 0 then some ((0 : Int32), sI w_7.2 0 (1 : Int32)) else ((FX5_lightOf n v1 v2 v3 (sI w_7.2 0 (0 : Int32))).bind fun w_11 => some (w_11.1, w_11.2))))))))) r := Ev_succ (fun n => fX5_light n 0 v1 v2 v3 u) r
def FX5_light (n : Nat) (v1 : Int32) (v2 : Int32) (v3 : Int32) (u : St) : Option (Int32 × St) := fX5_light n 0 v1 v2 v3 u
set_option maxHeartbeats 4000000 in
set_option maxRecDepth 100000 in
theorem mX5_light (l : Launch) (dC : Nat → ClassId) (dI : Nat → Nat → Nat) (cI cL : ClassId) (ad : Nat → Nat) (sz : Nat) (u : St) (z1 : Int32) (z2 : Int32) (z3 : Int32) (n : Nat) (r : Int32 × St) (hf0 : FX5_light n z1 z2 z3 u = some r) : Met l yX5_light wsX5_light ({ frames := 2, cells := 0, slots := 0, locals := 43 }) (va_Pc [.ref (ad 0), .int z1, .int z2, .int z3] (wPre dC dI cI cL (mw ad cI cL u) sz)) (va_Qi (fun a t => (a, t) = r) (fun t => wPost dC dI cI cL (va_A (mw ad cI cL u) sz) (mw ad cI cL t)) (va_A (mw ad cI cL u) sz)) 0 0 (va_A (mw ad cI cL u) sz) := by
  refine Met.ofW (cc := cX5_light) (maxL := 4) (ret := (some .int)) (by decide) rfl ?_
  intro p e s m args below meth c s₁ B hml hv
  obtain ⟨rfl, hsz, hP, hK, hD0, hZ⟩ := hv
  have hx := B.exec
  have hb := B.bytes
  have hr := B.returns
  have hts := atoms_spec (ws := wsX5_light) B.pre
  have hown : s.vm.findClass RX5 = some m.cls := findClass_of_methodNamed B.named
  have hlocks := B.notSynchronized
  subst hsz
  have hD := hD0.self (sz := s.heap.size)
  generalize hAe : va_A (mw ad cI cL u) s.heap.size = A at hD ⊢
  have hA : ∀ q : Nat, s.heap.size ≤ q → A q := fun q h => by rw [← hAe]; exact Or.inr h
  have hS : va_S A s.heap s.heap [] := va_S.rf
  have iX5 : ∀ w ∈ u_ws RX5 TX5 36, w ∈ wsX5_light := fun _ h => List.mem_cons_of_mem _ (List.mem_append_right _ h)
  have k_0 := hts (.fieldLink RX5 80 "LampChoiceModel" "code" "I") (by decide +kernel)
  have hl := lv_entry ([.ref (ad 0), .int z1, .int z2, .int z3]) (n := 4) (Nat.le_of_ble_eq_true rfl)
  rw [lg_entry_eq]
  generalize (lg_sl ([.ref (ad 0), .int z1, .int z2, .int z3]) ++ List.replicate (4 - (lg_sl ([.ref (ad 0), .int z1, .int z2, .int z3])).length) Slot.unset).toArray = ls at hl ⊢
  have hl : lv_has ls 4 [(0, .ref (ad 0)), (1, .int z1), (2, .int z2), (3, .int z3)] := hl
  have key : ∀ n : Nat, (∀ (v1 : Int32) (v2 : Int32) (v3 : Int32) (u : St) (H : Heap) (locs : List Loc) (ls : Array Slot), fX5_light n 0 v1 v2 v3 u = some r → va_P (dC, dI) vwCl (mw ad cI cL u) H → va_D A (mw ad cI cL u) → va_S A s.heap H locs → lv_has ls 4 [(0, .ref (ad 0)), (1, .int v1), (2, .int v2), (3, .int v3)] → W p l e (headSpec wsX5_light ({ frames := 2, cells := 0, slots := 0, locals := 43 })).room s m ([.ref (ad 0), .int z1, .int z2, .int z3] : List Value).toArray below meth c H locs 0 0 (MQ below (va_Qi (fun a t => (a, t) = r) (fun t => wPost dC dI cI cL A (mw ad cI cL t)) A) ([.ref (ad 0), .int z1, .int z2, .int z3] : List Value).toArray s 0 0 A) (F0 m 0 ls [])) := by
    intro n
    induction n with
    | zero => exact (fun _ _ _ _ _ _ _ hf => nomatch (show (none : Option (Int32 × St)) = some r from hf))
    | succ n ih =>
      have ih0 := ih
      · intro v1 v2 v3 u H locs ls hf hP hD hS hl
        have hf := (eX5_light_0 n v1 v2 v3 u).symm.trans hf
        refine lv_aload_n hx hb dX5_light_0 rfl (lv_at hl 0 rfl) ?_
        refine lv_aload_n hx hb dX5_light_1 rfl (lv_at hl 0 rfl) ?_
        refine lv_iload_n hx hb dX5_light_2 rfl (lv_at hl 1 rfl) ?_
        obtain ⟨w_1, hw_1, hf⟩ := ob hf
        have hFc := freeAll hD hS hA
        refine va_calli (va_runV (As := [.int v1]) (rest := [.ref (ad 0)]) ⟨hx, hb, hml, hown, hts⟩ (mX5_isKind l dC dI cI cL ad H.size u v1 n w_1 hw_1) (cwV 1 hts gX5_light_X5_isKind rfl rfl rfl (by decide +kernel) ⟨Nat.le_of_ble_eq_true rfl, Nat.le_of_ble_eq_true rfl⟩) ⟨wPre_blind, va_recv hK hP (ci := 5) (q0 := 0) rfl rfl, wPre_of hP hK hD hZ⟩ rfl rfl hl.1 rfl (lv_room (Nat.le_of_ble_eq_true rfl)) dX5_light_3 ⟨Nat.zero_le _, Nat.zero_le _⟩) hS (fun q _ h => hFc q h) hFc (fun r2 u2 t H1 locs ht hvm hw hB hz1 hk1 hS => ?_)
        obtain ⟨hP1, hK1, hD1⟩ := hB
        rw [ht] at hP1
        have e1 : r2 = w_1.1 := congrArg Prod.fst hw
        have e2 : u2 = w_1.2 := congrArg Prod.snd hw
        subst r2 u2
        have hP : va_P (dC, dI) vwCl (mw ad cI cL w_1.2) H1 := hP1
        have hD : va_D A (mw ad cI cL w_1.2) := hD1.weaken (fun _ _ _ h => hFc _ h)
        clear hP1 hD1 hK1 hFc hk1
        generalize H1 = H at hP hS ⊢
        refine lv_if_eq (tgt := 29) hx hb dX5_light_6 (by decide) (fun c_2 => ?_) (fun c_2 => ?_)
        · have hf := (if_pos c_2).symm.trans hf
          refine lv_iconst (v := 1) hx hb dX5_light_29 (by decide) ?_
          refine va_put (D := (dC, dI)) (ci := 5) (v := .int (1 : Int32)) (ty := .int) (C := RX5) (T := TX5) (N := 36) hx hb hts iX5 tyX5 tyX5_ok nmX5 hown hK hP hD hS 0 rfl rfl 0 (by decide) k_0 (fun _ h9 => h9) rfl (by decide +kernel) rfl rfl (Nat.le_of_ble_eq_true rfl) dX5_light_30 (fun H locs hP hD hS => ?_)
          have hP : va_P (dC, dI) vwCl (mw ad cI cL (sI w_1.2 0 (1 : Int32))) H := hP
          have hD : va_D A (mw ad cI cL (sI w_1.2 0 (1 : Int32))) := hD
          refine lv_aload_n hx hb dX5_light_33 rfl (lv_at hl 0 rfl) ?_
          refine va_get (D := (dC, dI)) (ci := 5) (v := .int ((1 : Int32))) (C := RX5) (T := TX5) (N := 36) hx hb hts iX5 hown hK hP 0 rfl rfl 0 (by decide) k_0 (fun _ h9 => h9) rfl dX5_light_34 ?_
          refine lv_if_le (tgt := 44) hx hb dX5_light_37 (by decide) (fun c_3 => ?_) (fun c_3 => ?_)
          · exact absurd c_3 (by decide)
          · refine lv_iconst (v := 0) hx hb dX5_light_40 (by decide) ?_
            refine lv_goto (tgt := 51) hx hb dX5_light_41 (by decide) ?_
            have hf := Option.some.inj hf
            exact W.iret (v := (0 : Int32)) hx hb hr (fun t ht hW => ⟨⟨(0 : Int32), (sI w_1.2 0 (1 : Int32)), rfl, hf, ⟨by rw [ht]; exact hP, va_K.moved hW.alike hK, hD⟩⟩, hS.F ht⟩) hS.2.2 dX5_light_51
        · have hf := (if_neg c_2).symm.trans hf
          refine lv_aload_n hx hb dX5_light_9 rfl (lv_at hl 0 rfl) ?_
          refine lv_iload_n hx hb dX5_light_10 rfl (lv_at hl 2 rfl) ?_
          obtain ⟨w_4, hw_4, hf⟩ := ob hf
          have hFc := freeAll hD hS hA
          refine va_calli (va_runV (As := [.int v2]) (rest := [.ref (ad 0)]) ⟨hx, hb, hml, hown, hts⟩ (mX5_isPlace l dC dI cI cL ad H.size w_1.2 v2 n w_4 hw_4) (cwV 1 hts gX5_light_X5_isPlace rfl rfl rfl (by decide +kernel) ⟨Nat.le_of_ble_eq_true rfl, Nat.le_of_ble_eq_true rfl⟩) ⟨wPre_blind, va_recv hK hP (ci := 5) (q0 := 0) rfl rfl, wPre_of hP hK hD hZ⟩ rfl rfl hl.1 rfl (lv_room (Nat.le_of_ble_eq_true rfl)) dX5_light_11 ⟨Nat.zero_le _, Nat.zero_le _⟩) hS (fun q _ h => hFc q h) hFc (fun r2 u2 t H1 locs ht hvm hw hB hz1 hk1 hS => ?_)
          obtain ⟨hP1, hK1, hD1⟩ := hB
          rw [ht] at hP1
          have e1 : r2 = w_4.1 := congrArg Prod.fst hw
          have e2 : u2 = w_4.2 := congrArg Prod.snd hw
          subst r2 u2
          have hP : va_P (dC, dI) vwCl (mw ad cI cL w_4.2) H1 := hP1
          have hD : va_D A (mw ad cI cL w_4.2) := hD1.weaken (fun _ _ _ h => hFc _ h)
          clear hP1 hD1 hK1 hFc hk1
          generalize H1 = H at hP hS ⊢
          refine lv_if_eq (tgt := 29) hx hb dX5_light_14 (by decide) (fun c_5 => ?_) (fun c_5 => ?_)
          · have hf := (if_pos c_5).symm.trans hf
            refine lv_iconst (v := 1) hx hb dX5_light_29 (by decide) ?_
            refine va_put (D := (dC, dI)) (ci := 5) (v := .int (1 : Int32)) (ty := .int) (C := RX5) (T := TX5) (N := 36) hx hb hts iX5 tyX5 tyX5_ok nmX5 hown hK hP hD hS 0 rfl rfl 0 (by decide) k_0 (fun _ h9 => h9) rfl (by decide +kernel) rfl rfl (Nat.le_of_ble_eq_true rfl) dX5_light_30 (fun H locs hP hD hS => ?_)
            have hP : va_P (dC, dI) vwCl (mw ad cI cL (sI w_4.2 0 (1 : Int32))) H := hP
            have hD : va_D A (mw ad cI cL (sI w_4.2 0 (1 : Int32))) := hD
            refine lv_aload_n hx hb dX5_light_33 rfl (lv_at hl 0 rfl) ?_
            refine va_get (D := (dC, dI)) (ci := 5) (v := .int ((1 : Int32))) (C := RX5) (T := TX5) (N := 36) hx hb hts iX5 hown hK hP 0 rfl rfl 0 (by decide) k_0 (fun _ h9 => h9) rfl dX5_light_34 ?_
            refine lv_if_le (tgt := 44) hx hb dX5_light_37 (by decide) (fun c_6 => ?_) (fun c_6 => ?_)
            · exact absurd c_6 (by decide)
            · refine lv_iconst (v := 0) hx hb dX5_light_40 (by decide) ?_
              refine lv_goto (tgt := 51) hx hb dX5_light_41 (by decide) ?_
              have hf := Option.some.inj hf
              exact W.iret (v := (0 : Int32)) hx hb hr (fun t ht hW => ⟨⟨(0 : Int32), (sI w_4.2 0 (1 : Int32)), rfl, hf, ⟨by rw [ht]; exact hP, va_K.moved hW.alike hK, hD⟩⟩, hS.F ht⟩) hS.2.2 dX5_light_51
          · have hf := (if_neg c_5).symm.trans hf
            refine lv_aload_n hx hb dX5_light_17 rfl (lv_at hl 0 rfl) ?_
            refine lv_iload_n hx hb dX5_light_18 rfl (lv_at hl 3 rfl) ?_
            obtain ⟨w_7, hw_7, hf⟩ := ob hf
            have hFc := freeAll hD hS hA
            refine va_calli (va_runV (As := [.int v3]) (rest := [.ref (ad 0)]) ⟨hx, hb, hml, hown, hts⟩ (mX5_isPoint l dC dI cI cL ad H.size w_4.2 v3 n w_7 hw_7) (cwV 1 hts gX5_light_X5_isPoint rfl rfl rfl (by decide +kernel) ⟨Nat.le_of_ble_eq_true rfl, Nat.le_of_ble_eq_true rfl⟩) ⟨wPre_blind, va_recv hK hP (ci := 5) (q0 := 0) rfl rfl, wPre_of hP hK hD hZ⟩ rfl rfl hl.1 rfl (lv_room (Nat.le_of_ble_eq_true rfl)) dX5_light_19 ⟨Nat.zero_le _, Nat.zero_le _⟩) hS (fun q _ h => hFc q h) hFc (fun r2 u2 t H1 locs ht hvm hw hB hz1 hk1 hS => ?_)
            obtain ⟨hP1, hK1, hD1⟩ := hB
            rw [ht] at hP1
            have e1 : r2 = w_7.1 := congrArg Prod.fst hw
            have e2 : u2 = w_7.2 := congrArg Prod.snd hw
            subst r2 u2
            have hP : va_P (dC, dI) vwCl (mw ad cI cL w_7.2) H1 := hP1
            have hD : va_D A (mw ad cI cL w_7.2) := hD1.weaken (fun _ _ _ h => hFc _ h)
            clear hP1 hD1 hK1 hFc hk1
            generalize H1 = H at hP hS ⊢
            refine lv_if_eq (tgt := 29) hx hb dX5_light_22 (by decide) (fun c_8 => ?_) (fun c_8 => ?_)
            · have hf := (if_pos c_8).symm.trans hf
              refine lv_iconst (v := 1) hx hb dX5_light_29 (by decide) ?_
              refine va_put (D := (dC, dI)) (ci := 5) (v := .int (1 : Int32)) (ty := .int) (C := RX5) (T := TX5) (N := 36) hx hb hts iX5 tyX5 tyX5_ok nmX5 hown hK hP hD hS 0 rfl rfl 0 (by decide) k_0 (fun _ h9 => h9) rfl (by decide +kernel) rfl rfl (Nat.le_of_ble_eq_true rfl) dX5_light_30 (fun H locs hP hD hS => ?_)
              have hP : va_P (dC, dI) vwCl (mw ad cI cL (sI w_7.2 0 (1 : Int32))) H := hP
              have hD : va_D A (mw ad cI cL (sI w_7.2 0 (1 : Int32))) := hD
              refine lv_aload_n hx hb dX5_light_33 rfl (lv_at hl 0 rfl) ?_
              refine va_get (D := (dC, dI)) (ci := 5) (v := .int ((1 : Int32))) (C := RX5) (T := TX5) (N := 36) hx hb hts iX5 hown hK hP 0 rfl rfl 0 (by decide) k_0 (fun _ h9 => h9) rfl dX5_light_34 ?_
              refine lv_if_le (tgt := 44) hx hb dX5_light_37 (by decide) (fun c_9 => ?_) (fun c_9 => ?_)
              · exact absurd c_9 (by decide)
              · refine lv_iconst (v := 0) hx hb dX5_light_40 (by decide) ?_
                refine lv_goto (tgt := 51) hx hb dX5_light_41 (by decide) ?_
                have hf := Option.some.inj hf
                exact W.iret (v := (0 : Int32)) hx hb hr (fun t ht hW => ⟨⟨(0 : Int32), (sI w_7.2 0 (1 : Int32)), rfl, hf, ⟨by rw [ht]; exact hP, va_K.moved hW.alike hK, hD⟩⟩, hS.F ht⟩) hS.2.2 dX5_light_51
            · have hf := (if_neg c_8).symm.trans hf
              refine lv_iconst (v := 0) hx hb dX5_light_25 (by decide) ?_
              refine lv_goto (tgt := 30) hx hb dX5_light_26 (by decide) ?_
              refine va_put (D := (dC, dI)) (ci := 5) (v := .int (0 : Int32)) (ty := .int) (C := RX5) (T := TX5) (N := 36) hx hb hts iX5 tyX5 tyX5_ok nmX5 hown hK hP hD hS 0 rfl rfl 0 (by decide) k_0 (fun _ h9 => h9) rfl (by decide +kernel) rfl rfl (Nat.le_of_ble_eq_true rfl) dX5_light_30 (fun H locs hP hD hS => ?_)
              have hP : va_P (dC, dI) vwCl (mw ad cI cL (sI w_7.2 0 (0 : Int32))) H := hP
              have hD : va_D A (mw ad cI cL (sI w_7.2 0 (0 : Int32))) := hD
              refine lv_aload_n hx hb dX5_light_33 rfl (lv_at hl 0 rfl) ?_
              refine va_get (D := (dC, dI)) (ci := 5) (v := .int ((0 : Int32))) (C := RX5) (T := TX5) (N := 36) hx hb hts iX5 hown hK hP 0 rfl rfl 0 (by decide) k_0 (fun _ h9 => h9) rfl dX5_light_34 ?_
              refine lv_if_le (tgt := 44) hx hb dX5_light_37 (by decide) (fun c_10 => ?_) (fun c_10 => ?_)
              · refine lv_aload_n hx hb dX5_light_44 rfl (lv_at hl 0 rfl) ?_
                refine lv_iload_n hx hb dX5_light_45 rfl (lv_at hl 1 rfl) ?_
                refine lv_iload_n hx hb dX5_light_46 rfl (lv_at hl 2 rfl) ?_
                refine lv_iload_n hx hb dX5_light_47 rfl (lv_at hl 3 rfl) ?_
                obtain ⟨w_11, hw_11, hf⟩ := ob hf
                have hFc := freeAll hD hS hA
                refine va_calli (va_runV (As := [.int v1, .int v2, .int v3]) (rest := []) ⟨hx, hb, hml, hown, hts⟩ (mX5_lightOf l dC dI cI cL ad H.size (sI w_7.2 0 (0 : Int32)) v1 v2 v3 n w_11 hw_11) (cwV 3 hts gX5_light_X5_lightOf rfl rfl rfl (by decide +kernel) ⟨Nat.le_of_ble_eq_true rfl, Nat.le_of_ble_eq_true rfl⟩) ⟨wPre_blind, va_recv hK hP (ci := 5) (q0 := 0) rfl rfl, wPre_of hP hK hD hZ⟩ rfl rfl hl.1 rfl (lv_room (Nat.le_of_ble_eq_true rfl)) dX5_light_48 ⟨Nat.zero_le _, Nat.zero_le _⟩) hS (fun q _ h => hFc q h) hFc (fun r2 u2 t H1 locs ht hvm hw hB hz1 hk1 hS => ?_)
                obtain ⟨hP1, hK1, hD1⟩ := hB
                rw [ht] at hP1
                have e1 : r2 = w_11.1 := congrArg Prod.fst hw
                have e2 : u2 = w_11.2 := congrArg Prod.snd hw
                subst r2 u2
                have hP : va_P (dC, dI) vwCl (mw ad cI cL w_11.2) H1 := hP1
                have hD : va_D A (mw ad cI cL w_11.2) := hD1.weaken (fun _ _ _ h => hFc _ h)
                clear hP1 hD1 hK1 hFc hk1
                generalize H1 = H at hP hS ⊢
                have hf := Option.some.inj hf
                exact W.iret (v := w_11.1) hx hb hr (fun t ht hW => ⟨⟨w_11.1, w_11.2, rfl, hf, ⟨by rw [ht]; exact hP, va_K.moved hW.alike hK, hD⟩⟩, hS.F ht⟩) hS.2.2 dX5_light_51
              · exact absurd c_10 (by decide)
  exact (key n) z1 z2 z3 u _ _ ls hf0 hP hD hS (lv_sub hl [0, 1, 2, 3] rfl)

def fJ7_fill (k : Nat) (n pc : Nat) (v1 : Int32) (v2 : Int32) (v3 : Int32) (u : Nat → Int32) : Option (Nat → Int32) := match n with
  | 0 => none
  | n + 1 => match pc with
    | 0 => fJ7_fill k n 5 v1 (0 : Int32) (Int32.ofNat k) u
    | 5 => (if v3 ≤ v2 then some u else (if ck v2 k = true then fJ7_fill k n 5 v1 (v2 + 1) v3 (upd (u) v2.toNatClampNeg v1) else none))
    | _ => none
theorem eJ7_fill_0 (k : Nat) (n : Nat) (v1 : Int32) (v2 : Int32) (v3 : Int32) (u : Nat → Int32) : fJ7_fill k (n + 1) 0 v1 v2 v3 u = fJ7_fill k n 5 v1 (0 : Int32) (Int32.ofNat k) u := rfl
theorem eJ7_fill_5 (k : Nat) (n : Nat) (v1 : Int32) (v2 : Int32) (v3 : Int32) (u : Nat → Int32) : fJ7_fill k (n + 1) 5 v1 v2 v3 u = (if v3 ≤ v2 then some u else (if ck v2 k = true then fJ7_fill k n 5 v1 (v2 + 1) v3 (upd (u) v2.toNatClampNeg v1) else none)) := rfl
theorem vJ7_fill_0 (k : Nat) (v1 : Int32) (v2 : Int32) (v3 : Int32) (u : Nat → Int32) (r : Nat → Int32) : Ev (fun n => fJ7_fill k n 0 v1 v2 v3 u) r ↔ Ev (fun n => fJ7_fill k n 5 v1 (0 : Int32) (Int32.ofNat k) u) r := Ev_succ (fun n => fJ7_fill k n 0 v1 v2 v3 u) r
theorem vJ7_fill_5 (k : Nat) (v1 : Int32) (v2 : Int32) (v3 : Int32) (u : Nat → Int32) (r : Nat → Int32) : Ev (fun n => fJ7_fill k n 5 v1 v2 v3 u) r ↔ Ev (fun n => (if v3 ≤ v2 then some u else (if ck v2 k = true then fJ7_fill k n 5 v1 (v2 + 1) v3 (upd (u) v2.toNatClampNeg v1) else none))) r := Ev_succ (fun n => fJ7_fill k n 5 v1 v2 v3 u) r
def FJ7_fill (n : Nat) (k : Nat) (v1 : Int32) (u : Nat → Int32) : Option (Nat → Int32) := fJ7_fill k n 0 v1 0 0 u
set_option maxHeartbeats 4000000 in
set_option maxRecDepth 100000 in
theorem mJ7_fill (l : Launch) (dC : Nat → ClassId) (dI : Nat → Nat → Nat) (cI cL : ClassId) (ad k : Nat) (sz : Nat) (u : Nat → Int32) (z1 : Int32) (n : Nat) (r : Nat → Int32) (hf0 : FJ7_fill n k z1 u = some r) : Met l yJ7_fill_53178 wsJ7_fill_53178 ({ frames := 0, cells := 0, slots := 0, locals := 0 }) (va_Pc [.ref ad, .int z1] (wPre dC dI cI cL ([(ad, .inl (cI, k, .inl u))]) sz)) (va_Qv (fun t => t = r) (fun t => wPost dC dI cI cL (va_A ([(ad, .inl (cI, k, .inl u))]) sz) ([(ad, .inl (cI, k, .inl t))])) (va_A ([(ad, .inl (cI, k, .inl u))]) sz)) 0 0 (va_A ([(ad, .inl (cI, k, .inl u))]) sz) := by
  refine Met.ofW (cc := cJ7_fill_53178) (maxL := 4) (ret := none) (by decide) rfl ?_
  intro p e s m args below meth c s₁ B hml hv
  obtain ⟨rfl, hsz, hP, hK, hD0, hZ⟩ := hv
  have hx := B.exec
  have hb := B.bytes
  have hr := B.returns
  have hts := atoms_spec (ws := wsJ7_fill_53178) B.pre
  have hown : s.vm.findClass RJ7 = some m.cls := findClass_of_methodNamed B.named
  have hlocks := B.notSynchronized
  subst hsz
  have hD := hD0.self (sz := s.heap.size)
  generalize hAe : va_A ([(ad, .inl (cI, k, .inl u))]) s.heap.size = A at hD ⊢
  have hA : ∀ q : Nat, s.heap.size ≤ q → A q := fun q h => by rw [← hAe]; exact Or.inr h
  have hS : va_S A s.heap s.heap [] := va_S.rf
  have hl := lv_entry ([.ref ad, .int z1]) (n := 4) (Nat.le_of_ble_eq_true rfl)
  rw [lg_entry_eq]
  generalize (lg_sl ([.ref ad, .int z1]) ++ List.replicate (4 - (lg_sl ([.ref ad, .int z1])).length) Slot.unset).toArray = ls at hl ⊢
  have hl : lv_has ls 4 [(0, .ref ad), (1, .int z1)] := hl
  have key : ∀ n : Nat, (∀ (v1 : Int32) (v2 : Int32) (v3 : Int32) (u : Nat → Int32) (H : Heap) (locs : List Loc) (ls : Array Slot), fJ7_fill k n 0 v1 v2 v3 u = some r → va_P (dC, dI) vwCl ([(ad, .inl (cI, k, .inl u))]) H → va_D A ([(ad, .inl (cI, k, .inl u))]) → va_S A s.heap H locs → lv_has ls 4 [(0, .ref ad), (1, .int v1)] → W p l e (headSpec wsJ7_fill_53178 ({ frames := 0, cells := 0, slots := 0, locals := 0 })).room s m ([.ref ad, .int z1] : List Value).toArray below meth c H locs 0 0 (MQ below (va_Qv (fun t => t = r) (fun t => wPost dC dI cI cL A ([(ad, .inl (cI, k, .inl t))])) A) ([.ref ad, .int z1] : List Value).toArray s 0 0 A) (F0 m 0 ls [])) ∧ (∀ (v1 : Int32) (v2 : Int32) (v3 : Int32) (u : Nat → Int32) (H : Heap) (locs : List Loc) (ls : Array Slot), fJ7_fill k n 5 v1 v2 v3 u = some r → va_P (dC, dI) vwCl ([(ad, .inl (cI, k, .inl u))]) H → va_D A ([(ad, .inl (cI, k, .inl u))]) → va_S A s.heap H locs → lv_has ls 4 [(0, .ref ad), (1, .int v1), (2, .int v2), (3, .int v3)] → W p l e (headSpec wsJ7_fill_53178 ({ frames := 0, cells := 0, slots := 0, locals := 0 })).room s m ([.ref ad, .int z1] : List Value).toArray below meth c H locs 0 0 (MQ below (va_Qv (fun t => t = r) (fun t => wPost dC dI cI cL A ([(ad, .inl (cI, k, .inl t))])) A) ([.ref ad, .int z1] : List Value).toArray s 0 0 A) (F0 m 5 ls [])) := by
    intro n
    induction n with
    | zero => exact ⟨(fun _ _ _ _ _ _ _ hf => nomatch (show (none : Option (Nat → Int32)) = some r from hf)), (fun _ _ _ _ _ _ _ hf => nomatch (show (none : Option (Nat → Int32)) = some r from hf))⟩
    | succ n ih =>
      obtain ⟨ih0, ih1⟩ := ih
      refine ⟨?_, ?_⟩
      · intro v1 v2 v3 u H locs ls hf hP hD hS hl
        have hf := (eJ7_fill_0 k n v1 v2 v3 u).symm.trans hf
        refine lv_iconst (v := 0) hx hb dJ7_fill_53178_0 (by decide) ?_
        refine lv_istore_n (lv' := [(2, .int (0 : Int32)), (0, .ref ad), (1, .int v1)]) hx hb dJ7_fill_53178_1 rfl hl (by decide) rfl (fun ls hl => ?_)
        refine lv_aload_n hx hb dJ7_fill_53178_2 rfl (lv_at hl 1 rfl) ?_
        refine va_alen (v := (Int32.ofNat k)) hx hb hK hP 0 0 rfl rfl rfl dJ7_fill_53178_3 ?_
        refine lv_istore_n (lv' := [(3, .int (Int32.ofNat k)), (2, .int (0 : Int32)), (0, .ref ad), (1, .int v1)]) hx hb dJ7_fill_53178_4 rfl hl (by decide) rfl (fun ls hl => ?_)
        exact ih1 v1 (0 : Int32) (Int32.ofNat k) u H locs ls hf hP hD hS (lv_sub hl [2, 3, 1, 0] rfl)
      · intro v1 v2 v3 u H locs ls hf hP hD hS hl
        have hf := (eJ7_fill_5 k n v1 v2 v3 u).symm.trans hf
        refine lv_iload_n hx hb dJ7_fill_53178_5 rfl (lv_at hl 2 rfl) ?_
        refine lv_iload_n hx hb dJ7_fill_53178_6 rfl (lv_at hl 3 rfl) ?_
        refine lv_icmp_ge (tgt := 20) hx hb dJ7_fill_53178_7 (by decide) (fun c_1 => ?_) (fun c_1 => ?_)
        · have hf := (if_pos c_1).symm.trans hf
          have hf := Option.some.inj hf
          exact W.vret hx hb hr (fun t ht hW => ⟨⟨u, rfl, hf, ⟨by rw [ht]; exact hP, va_K.moved hW.alike hK, hD⟩⟩, hS.F ht⟩) hS.2.2 dJ7_fill_53178_20
        · have hf := (if_neg c_1).symm.trans hf
          refine lv_aload_n hx hb dJ7_fill_53178_10 rfl (lv_at hl 0 rfl) ?_
          refine lv_iload_n hx hb dJ7_fill_53178_11 rfl (lv_at hl 2 rfl) ?_
          refine lv_iload_n hx hb dJ7_fill_53178_12 rfl (lv_at hl 1 rfl) ?_
          obtain ⟨h_2, hf⟩ := ck_of hf
          refine va_iast (f := (u)) hx hb hK hP hD hS 0 0 rfl rfl h_2 dJ7_fill_53178_13 (fun H locs hP hD hS => ?_)
          have hP : va_P (dC, dI) vwCl ([(ad, .inl (cI, k, .inl (upd (u) v2.toNatClampNeg v1)))]) H := hP
          have hD : va_D A ([(ad, .inl (cI, k, .inl (upd (u) v2.toNatClampNeg v1)))]) := hD
          refine lv_iinc (v := (v2 + 1)) (lv' := [(2, .int (v2 + 1)), (0, .ref ad), (1, .int v1), (3, .int v3)]) hx hb dJ7_fill_53178_14 hl (k := 2) rfl rfl (by decide) rfl (fun ls hl => ?_)
          refine lv_goto (tgt := 5) hx hb dJ7_fill_53178_17 (by decide) ?_
          exact ih1 v1 (v2 + 1) v3 (upd (u) v2.toNatClampNeg v1) H locs ls hf hP hD hS (lv_sub hl [1, 2, 0, 3] rfl)
  exact (key n).1 z1 0 0 u _ _ ls hf0 hP hD hS (lv_sub hl [0, 1] rfl)

def fX4_quotient (n pc : Nat) (w0 : Int64) (w2 : Int64) : Option (Int64) := match n with
  | 0 => none
  | n + 1 => match pc with
    | 0 => (if w2 ≤ (0 : Int64) then some (0 : Int64) else (if w2 = 0 then none else some (w0 / w2)))
    | _ => none
theorem eX4_quotient_0 (n : Nat) (w0 : Int64) (w2 : Int64) : fX4_quotient (n + 1) 0 w0 w2 = (if w2 ≤ (0 : Int64) then some (0 : Int64) else (if w2 = 0 then none else some (w0 / w2))) := rfl
theorem vX4_quotient_0 (w0 : Int64) (w2 : Int64) (r : Int64) : Ev (fun n => fX4_quotient n 0 w0 w2) r ↔ Ev (fun n => (if w2 ≤ (0 : Int64) then some (0 : Int64) else (if w2 = 0 then none else some (w0 / w2)))) r := Ev_succ (fun n => fX4_quotient n 0 w0 w2) r
def FX4_quotient (n : Nat) (w0 : Int64) (w2 : Int64) : Option (Int64) := fX4_quotient n 0 w0 w2
set_option maxHeartbeats 4000000 in
set_option maxRecDepth 100000 in
theorem mX4_quotient (l : Launch) (sz : Nat) (z0 : Int64) (z2 : Int64) (n : Nat) (r : Int64) (hf0 : FX4_quotient n z0 z2 = some r) : Met l yX4_quotient wsX4_quotient ({ frames := 0, cells := 0, slots := 0, locals := 0 }) (va_Pc [.long z0, .long z2] (nPre sz)) (va_Ql (fun a (_ : Unit) => a = r) (fun _ _ => True) (va_A [] sz)) 0 0 (va_A [] sz) := by
  refine Met.ofW (cc := cX4_quotient) (maxL := 4) (ret := (some .long)) (by decide) rfl ?_
  intro p e s m args below meth c s₁ B hml hv
  obtain ⟨rfl, hsz⟩ := hv
  have hsz : s.heap.size = sz := hsz
  have hx := B.exec
  have hb := B.bytes
  have hr := B.returns
  have hts := atoms_spec (ws := wsX4_quotient) B.pre
  have hown : s.vm.findClass RX4 = some m.cls := findClass_of_methodNamed B.named
  have hlocks := B.notSynchronized
  subst hsz
  generalize hAe : va_A ([]) s.heap.size = A at ⊢
  have hA : ∀ q : Nat, s.heap.size ≤ q → A q := fun q h => by rw [← hAe]; exact Or.inr h
  have hS : va_S A s.heap s.heap [] := va_S.rf
  have hl := lv_entry ([.long z0, .long z2]) (n := 4) (Nat.le_of_ble_eq_true rfl)
  rw [lg_entry_eq]
  generalize (lg_sl ([.long z0, .long z2]) ++ List.replicate (4 - (lg_sl ([.long z0, .long z2])).length) Slot.unset).toArray = ls at hl ⊢
  have hl : lv_has ls 4 [(0, .long z0), (2, .long z2)] := hl
  have key : ∀ n : Nat, (∀ (w0 : Int64) (w2 : Int64) (H : Heap) (locs : List Loc) (ls : Array Slot), fX4_quotient n 0 w0 w2 = some r → va_S A s.heap H locs → lv_has ls 4 [(0, .long w0), (2, .long w2)] → W p l e (headSpec wsX4_quotient ({ frames := 0, cells := 0, slots := 0, locals := 0 })).room s m ([.long z0, .long z2] : List Value).toArray below meth c H locs 0 0 (MQ below (va_Ql (fun a (_ : Unit) => a = r) (fun _ _ => True) A) ([.long z0, .long z2] : List Value).toArray s 0 0 A) (F0 m 0 ls [])) := by
    intro n
    induction n with
    | zero => exact (fun _ _ _ _ _ hf => nomatch (show (none : Option (Int64)) = some r from hf))
    | succ n ih =>
      have ih0 := ih
      · intro w0 w2 H locs ls hf hS hl
        have hf := (eX4_quotient_0 n w0 w2).symm.trans hf
        refine lv_lload_n hx hb dX4_quotient_0 rfl (lv_at hl 1 rfl) ?_
        refine lv_lconst (v := 0) hx hb dX4_quotient_1 (by decide) ?_
        refine W.lcmp hx hb dX4_quotient_2 ?_
        refine lv_if_le (tgt := 12) hx hb dX4_quotient_3 (by decide) (fun c_1 => ?_) (fun c_1 => ?_)
        · have c_1 := (lg_cmp_le w2 (0 : Int64)).mp c_1
          have hf := (if_pos c_1).symm.trans hf
          refine lv_lconst (v := 0) hx hb dX4_quotient_12 (by decide) ?_
          have hf := Option.some.inj hf
          exact W.lret (v := (0 : Int64)) hx hb hr (fun t ht hW => ⟨⟨(0 : Int64), (), rfl, hf, trivial⟩, hS.F ht⟩) hS.2.2 dX4_quotient_13
        · have c_1 := fun q => c_1 ((lg_cmp_le w2 (0 : Int64)).mpr q)
          have hf := (if_neg c_1).symm.trans hf
          refine lv_lload_n hx hb dX4_quotient_6 rfl (lv_at hl 0 rfl) ?_
          refine lv_lload_n hx hb dX4_quotient_7 rfl (lv_at hl 1 rfl) ?_
          obtain ⟨h_2, hf⟩ := nz_of hf
          refine lv_ldiv hx hb dX4_quotient_8 h_2 ?_
          refine lv_goto (tgt := 13) hx hb dX4_quotient_9 (by decide) ?_
          have hf := Option.some.inj hf
          exact W.lret (v := (w0 / w2)) hx hb hr (fun t ht hW => ⟨⟨(w0 / w2), (), rfl, hf, trivial⟩, hS.F ht⟩) hS.2.2 dX4_quotient_13
  exact (key n) z0 z2 _ _ ls hf0 hS (lv_sub hl [0, 1] rfl)

def fX0_lightRow (n pc : Nat) (v0 : Int32) (v1 : Int32) : Option (Int32) := match n with
  | 0 => none
  | n + 1 => match pc with
    | 0 => some (((v0 * (3 : Int32)) + v1) * (16 : Int32))
    | _ => none
theorem eX0_lightRow_0 (n : Nat) (v0 : Int32) (v1 : Int32) : fX0_lightRow (n + 1) 0 v0 v1 = some (((v0 * (3 : Int32)) + v1) * (16 : Int32)) := rfl
theorem vX0_lightRow_0 (v0 : Int32) (v1 : Int32) (r : Int32) : Ev (fun n => fX0_lightRow n 0 v0 v1) r ↔ Ev (fun n => some (((v0 * (3 : Int32)) + v1) * (16 : Int32))) r := Ev_succ (fun n => fX0_lightRow n 0 v0 v1) r
def FX0_lightRow (n : Nat) (v0 : Int32) (v1 : Int32) : Option (Int32) := fX0_lightRow n 0 v0 v1
set_option maxHeartbeats 4000000 in
set_option maxRecDepth 100000 in
theorem mX0_lightRow (l : Launch) (sz : Nat) (z0 : Int32) (z1 : Int32) (n : Nat) (r : Int32) (hf0 : FX0_lightRow n z0 z1 = some r) : Met l yX0_lightRow wsX0_lightRow ({ frames := 0, cells := 0, slots := 0, locals := 0 }) (va_Pc [.int z0, .int z1] (nPre sz)) (va_Qi (fun a (_ : Unit) => a = r) (fun _ _ => True) (va_A [] sz)) 0 0 (va_A [] sz) := by
  refine Met.ofW (cc := cX0_lightRow) (maxL := 2) (ret := (some .int)) (by decide) rfl ?_
  intro p e s m args below meth c s₁ B hml hv
  obtain ⟨rfl, hsz⟩ := hv
  have hsz : s.heap.size = sz := hsz
  have hx := B.exec
  have hb := B.bytes
  have hr := B.returns
  have hts := atoms_spec (ws := wsX0_lightRow) B.pre
  have hown : s.vm.findClass RX0 = some m.cls := findClass_of_methodNamed B.named
  have hlocks := B.notSynchronized
  subst hsz
  generalize hAe : va_A ([]) s.heap.size = A at ⊢
  have hA : ∀ q : Nat, s.heap.size ≤ q → A q := fun q h => by rw [← hAe]; exact Or.inr h
  have hS : va_S A s.heap s.heap [] := va_S.rf
  have hl := lv_entry ([.int z0, .int z1]) (n := 2) (Nat.le_of_ble_eq_true rfl)
  rw [lg_entry_eq]
  generalize (lg_sl ([.int z0, .int z1]) ++ List.replicate (2 - (lg_sl ([.int z0, .int z1])).length) Slot.unset).toArray = ls at hl ⊢
  have hl : lv_has ls 2 [(0, .int z0), (1, .int z1)] := hl
  have key : ∀ n : Nat, (∀ (v0 : Int32) (v1 : Int32) (H : Heap) (locs : List Loc) (ls : Array Slot), fX0_lightRow n 0 v0 v1 = some r → va_S A s.heap H locs → lv_has ls 2 [(0, .int v0), (1, .int v1)] → W p l e (headSpec wsX0_lightRow ({ frames := 0, cells := 0, slots := 0, locals := 0 })).room s m ([.int z0, .int z1] : List Value).toArray below meth c H locs 0 0 (MQ below (va_Qi (fun a (_ : Unit) => a = r) (fun _ _ => True) A) ([.int z0, .int z1] : List Value).toArray s 0 0 A) (F0 m 0 ls [])) := by
    intro n
    induction n with
    | zero => exact (fun _ _ _ _ _ hf => nomatch (show (none : Option (Int32)) = some r from hf))
    | succ n ih =>
      have ih0 := ih
      · intro v0 v1 H locs ls hf hS hl
        have hf := (eX0_lightRow_0 n v0 v1).symm.trans hf
        refine lv_iload_n hx hb dX0_lightRow_0 rfl (lv_at hl 0 rfl) ?_
        refine lv_iconst (v := 3) hx hb dX0_lightRow_1 (by decide) ?_
        refine lv_imul hx hb dX0_lightRow_2 ?_
        refine lv_iload_n hx hb dX0_lightRow_3 rfl (lv_at hl 1 rfl) ?_
        refine lv_iadd hx hb dX0_lightRow_4 ?_
        refine lv_bipush (v := 16) hx hb dX0_lightRow_5 (by decide) ?_
        refine lv_imul hx hb dX0_lightRow_7 ?_
        have hf := Option.some.inj hf
        exact W.iret (v := (((v0 * (3 : Int32)) + v1) * (16 : Int32))) hx hb hr (fun t ht hW => ⟨⟨(((v0 * (3 : Int32)) + v1) * (16 : Int32)), (), rfl, hf, trivial⟩, hS.F ht⟩) hS.2.2 dX0_lightRow_8
  exact (key n) z0 z1 _ _ ls hf0 hS (lv_sub hl [0, 1] rfl)

def fX0_commonDivisor (n pc : Nat) (w0 : Int64) (w2 : Int64) (w4 : Int64) (w6 : Int64) (v8 : Int32) : Option (Int64) := match n with
  | 0 => none
  | n + 1 => match pc with
    | 0 => fX0_commonDivisor n 9 0 0 w0 w2 (0 : Int32)
    | 9 => (if (100 : Int32) ≤ v8 then some w4 else (if w6 ≤ (0 : Int64) then some w4 else (if w6 = 0 then none else fX0_commonDivisor n 9 0 0 w6 (w4 - w4 / w6 * w6) (v8 + 1))))
    | _ => none
theorem eX0_commonDivisor_0 (n : Nat) (w0 : Int64) (w2 : Int64) (w4 : Int64) (w6 : Int64) (v8 : Int32) : fX0_commonDivisor (n + 1) 0 w0 w2 w4 w6 v8 = fX0_commonDivisor n 9 0 0 w0 w2 (0 : Int32) := rfl
theorem eX0_commonDivisor_9 (n : Nat) (w0 : Int64) (w2 : Int64) (w4 : Int64) (w6 : Int64) (v8 : Int32) : fX0_commonDivisor (n + 1) 9 w0 w2 w4 w6 v8 = (if (100 : Int32) ≤ v8 then some w4 else (if w6 ≤ (0 : Int64) then some w4 else (if w6 = 0 then none else fX0_commonDivisor n 9 0 0 w6 (w4 - w4 / w6 * w6) (v8 + 1)))) := rfl
theorem vX0_commonDivisor_0 (w0 : Int64) (w2 : Int64) (w4 : Int64) (w6 : Int64) (v8 : Int32) (r : Int64) : Ev (fun n => fX0_commonDivisor n 0 w0 w2 w4 w6 v8) r ↔ Ev (fun n => fX0_commonDivisor n 9 0 0 w0 w2 (0 : Int32)) r := Ev_succ (fun n => fX0_commonDivisor n 0 w0 w2 w4 w6 v8) r
theorem vX0_commonDivisor_9 (w0 : Int64) (w2 : Int64) (w4 : Int64) (w6 : Int64) (v8 : Int32) (r : Int64) : Ev (fun n => fX0_commonDivisor n 9 w0 w2 w4 w6 v8) r ↔ Ev (fun n => (if (100 : Int32) ≤ v8 then some w4 else (if w6 ≤ (0 : Int64) then some w4 else (if w6 = 0 then none else fX0_commonDivisor n 9 0 0 w6 (w4 - w4 / w6 * w6) (v8 + 1))))) r := Ev_succ (fun n => fX0_commonDivisor n 9 w0 w2 w4 w6 v8) r
def FX0_commonDivisor (n : Nat) (w0 : Int64) (w2 : Int64) : Option (Int64) := fX0_commonDivisor n 0 w0 w2 0 0 0
set_option maxHeartbeats 4000000 in
set_option maxRecDepth 100000 in
theorem mX0_commonDivisor (l : Launch) (sz : Nat) (z0 : Int64) (z2 : Int64) (n : Nat) (r : Int64) (hf0 : FX0_commonDivisor n z0 z2 = some r) : Met l yX0_commonDivisor wsX0_commonDivisor ({ frames := 0, cells := 0, slots := 0, locals := 0 }) (va_Pc [.long z0, .long z2] (nPre sz)) (va_Ql (fun a (_ : Unit) => a = r) (fun _ _ => True) (va_A [] sz)) 0 0 (va_A [] sz) := by
  refine Met.ofW (cc := cX0_commonDivisor) (maxL := 11) (ret := (some .long)) (by decide) rfl ?_
  intro p e s m args below meth c s₁ B hml hv
  obtain ⟨rfl, hsz⟩ := hv
  have hsz : s.heap.size = sz := hsz
  have hx := B.exec
  have hb := B.bytes
  have hr := B.returns
  have hts := atoms_spec (ws := wsX0_commonDivisor) B.pre
  have hown : s.vm.findClass RX0 = some m.cls := findClass_of_methodNamed B.named
  have hlocks := B.notSynchronized
  subst hsz
  generalize hAe : va_A ([]) s.heap.size = A at ⊢
  have hA : ∀ q : Nat, s.heap.size ≤ q → A q := fun q h => by rw [← hAe]; exact Or.inr h
  have hS : va_S A s.heap s.heap [] := va_S.rf
  have hl := lv_entry ([.long z0, .long z2]) (n := 11) (Nat.le_of_ble_eq_true rfl)
  rw [lg_entry_eq]
  generalize (lg_sl ([.long z0, .long z2]) ++ List.replicate (11 - (lg_sl ([.long z0, .long z2])).length) Slot.unset).toArray = ls at hl ⊢
  have hl : lv_has ls 11 [(0, .long z0), (2, .long z2)] := hl
  have key : ∀ n : Nat, (∀ (w0 : Int64) (w2 : Int64) (w4 : Int64) (w6 : Int64) (v8 : Int32) (H : Heap) (locs : List Loc) (ls : Array Slot), fX0_commonDivisor n 0 w0 w2 w4 w6 v8 = some r → va_S A s.heap H locs → lv_has ls 11 [(0, .long w0), (2, .long w2)] → W p l e (headSpec wsX0_commonDivisor ({ frames := 0, cells := 0, slots := 0, locals := 0 })).room s m ([.long z0, .long z2] : List Value).toArray below meth c H locs 0 0 (MQ below (va_Ql (fun a (_ : Unit) => a = r) (fun _ _ => True) A) ([.long z0, .long z2] : List Value).toArray s 0 0 A) (F0 m 0 ls [])) ∧ (∀ (w0 : Int64) (w2 : Int64) (w4 : Int64) (w6 : Int64) (v8 : Int32) (H : Heap) (locs : List Loc) (ls : Array Slot), fX0_commonDivisor n 9 w0 w2 w4 w6 v8 = some r → va_S A s.heap H locs → lv_has ls 11 [(4, .long w4), (6, .long w6), (8, .int v8)] → W p l e (headSpec wsX0_commonDivisor ({ frames := 0, cells := 0, slots := 0, locals := 0 })).room s m ([.long z0, .long z2] : List Value).toArray below meth c H locs 0 0 (MQ below (va_Ql (fun a (_ : Unit) => a = r) (fun _ _ => True) A) ([.long z0, .long z2] : List Value).toArray s 0 0 A) (F0 m 9 ls [])) := by
    intro n
    induction n with
    | zero => exact ⟨(fun _ _ _ _ _ _ _ _ hf => nomatch (show (none : Option (Int64)) = some r from hf)), (fun _ _ _ _ _ _ _ _ hf => nomatch (show (none : Option (Int64)) = some r from hf))⟩
    | succ n ih =>
      obtain ⟨ih0, ih1⟩ := ih
      refine ⟨?_, ?_⟩
      · intro w0 w2 w4 w6 v8 H locs ls hf hS hl
        have hf := (eX0_commonDivisor_0 n w0 w2 w4 w6 v8).symm.trans hf
        refine lv_lload_n hx hb dX0_commonDivisor_0 rfl (lv_at hl 0 rfl) ?_
        refine lv_lstore (lv' := [(4, .long w0), (0, .long w0), (2, .long w2)]) hx hb dX0_commonDivisor_1 hl (by decide) rfl (fun ls hl => ?_)
        refine lv_lload_n hx hb dX0_commonDivisor_3 rfl (lv_at hl 2 rfl) ?_
        refine lv_lstore (lv' := [(6, .long w2), (4, .long w0), (0, .long w0), (2, .long w2)]) hx hb dX0_commonDivisor_4 hl (by decide) rfl (fun ls hl => ?_)
        refine lv_iconst (v := 0) hx hb dX0_commonDivisor_6 (by decide) ?_
        refine lv_istore (lv' := [(8, .int (0 : Int32)), (6, .long w2), (4, .long w0), (0, .long w0), (2, .long w2)]) hx hb dX0_commonDivisor_7 hl (by decide) rfl (fun ls hl => ?_)
        exact ih1 0 0 w0 w2 (0 : Int32) H locs ls hf hS (lv_sub hl [2, 1, 0] rfl)
      · intro w0 w2 w4 w6 v8 H locs ls hf hS hl
        have hf := (eX0_commonDivisor_9 n w0 w2 w4 w6 v8).symm.trans hf
        refine lv_iload hx hb dX0_commonDivisor_9 (lv_at hl 2 rfl) ?_
        refine lv_bipush (v := 100) hx hb dX0_commonDivisor_11 (by decide) ?_
        refine lv_icmp_ge (tgt := 44) hx hb dX0_commonDivisor_13 (by decide) (fun c_1 => ?_) (fun c_1 => ?_)
        · have hf := (if_pos c_1).symm.trans hf
          refine lv_lload hx hb dX0_commonDivisor_44 (lv_at hl 0 rfl) ?_
          have hf := Option.some.inj hf
          exact W.lret (v := w4) hx hb hr (fun t ht hW => ⟨⟨w4, (), rfl, hf, trivial⟩, hS.F ht⟩) hS.2.2 dX0_commonDivisor_46
        · have hf := (if_neg c_1).symm.trans hf
          refine lv_lload hx hb dX0_commonDivisor_16 (lv_at hl 1 rfl) ?_
          refine lv_lconst (v := 0) hx hb dX0_commonDivisor_18 (by decide) ?_
          refine W.lcmp hx hb dX0_commonDivisor_19 ?_
          refine lv_if_le (tgt := 44) hx hb dX0_commonDivisor_20 (by decide) (fun c_2 => ?_) (fun c_2 => ?_)
          · have c_2 := (lg_cmp_le w6 (0 : Int64)).mp c_2
            have hf := (if_pos c_2).symm.trans hf
            refine lv_lload hx hb dX0_commonDivisor_44 (lv_at hl 0 rfl) ?_
            have hf := Option.some.inj hf
            exact W.lret (v := w4) hx hb hr (fun t ht hW => ⟨⟨w4, (), rfl, hf, trivial⟩, hS.F ht⟩) hS.2.2 dX0_commonDivisor_46
          · have c_2 := fun q => c_2 ((lg_cmp_le w6 (0 : Int64)).mpr q)
            have hf := (if_neg c_2).symm.trans hf
            refine lv_lload hx hb dX0_commonDivisor_23 (lv_at hl 0 rfl) ?_
            refine lv_lload hx hb dX0_commonDivisor_25 (lv_at hl 1 rfl) ?_
            obtain ⟨h_3, hf⟩ := nz_of hf
            refine lv_lrem hx hb dX0_commonDivisor_27 h_3 ?_
            refine lv_lstore (lv' := [(9, .long (w4 - w4 / w6 * w6)), (4, .long w4), (6, .long w6), (8, .int v8)]) hx hb dX0_commonDivisor_28 hl (by decide) rfl (fun ls hl => ?_)
            refine lv_lload hx hb dX0_commonDivisor_30 (lv_at hl 2 rfl) ?_
            refine lv_lstore (lv' := [(4, .long w6), (9, .long (w4 - w4 / w6 * w6)), (6, .long w6), (8, .int v8)]) hx hb dX0_commonDivisor_32 hl (by decide) rfl (fun ls hl => ?_)
            refine lv_lload hx hb dX0_commonDivisor_34 (lv_at hl 1 rfl) ?_
            refine lv_lstore (lv' := [(6, .long (w4 - w4 / w6 * w6)), (4, .long w6), (9, .long (w4 - w4 / w6 * w6)), (8, .int v8)]) hx hb dX0_commonDivisor_36 hl (by decide) rfl (fun ls hl => ?_)
            refine lv_iinc (v := (v8 + 1)) (lv' := [(8, .int (v8 + 1)), (6, .long (w4 - w4 / w6 * w6)), (4, .long w6), (9, .long (w4 - w4 / w6 * w6))]) hx hb dX0_commonDivisor_38 hl (k := 3) rfl rfl (by decide) rfl (fun ls hl => ?_)
            refine lv_goto (tgt := 9) hx hb dX0_commonDivisor_41 (by decide) ?_
            exact ih1 0 0 w6 (w4 - w4 / w6 * w6) (v8 + 1) H locs ls hf hS (lv_sub hl [2, 1, 0] rfl)
  exact (key n).1 z0 z2 0 0 0 _ _ ls hf0 hS (lv_sub hl [0, 1] rfl)

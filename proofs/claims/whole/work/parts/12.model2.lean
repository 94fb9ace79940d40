def fX5_firstOf (n pc : Nat) (v1 : Int32) (u : St) : Option (Int32 × St) := match n with
  | 0 => none
  | n + 1 => match pc with
    | 0 => (if ck v1 7 = true then (if ((gA u 6) v1.toNatClampNeg) = (-2 : Int32) then some ((-1 : Int32), u) else some (((gA u 6) v1.toNatClampNeg), u)) else none)
    | _ => none
theorem eX5_firstOf_0 (n : Nat) (v1 : Int32) (u : St) : fX5_firstOf (n + 1) 0 v1 u = (if ck v1 7 = true then (if ((gA u 6) v1.toNatClampNeg) = (-2 : Int32) then some ((-1 : Int32), u) else some (((gA u 6) v1.toNatClampNeg), u)) else none) := rfl
theorem vX5_firstOf_0 (v1 : Int32) (u : St) (r : Int32 × St) : Ev (fun n => fX5_firstOf n 0 v1 u) r ↔ Ev (fun n => (if ck v1 7 = true then (if ((gA u 6) v1.toNatClampNeg) = (-2 : Int32) then some ((-1 : Int32), u) else some (((gA u 6) v1.toNatClampNeg), u)) else none)) r := Ev_succ (fun n => fX5_firstOf n 0 v1 u) r
def FX5_firstOf (n : Nat) (v1 : Int32) (u : St) : Option (Int32 × St) := fX5_firstOf n 0 v1 u
set_option maxHeartbeats 4000000 in
set_option maxRecDepth 100000 in
theorem mX5_firstOf (l : Launch) (dC : Nat → ClassId) (dI : Nat → Nat → Nat) (cI cL : ClassId) (ad : Nat → Nat) (sz : Nat) (u : St) (z1 : Int32) (n : Nat) (r : Int32 × St) (hf0 : FX5_firstOf n z1 u = some r) : Met l yX5_firstOf wsX5_firstOf ({ frames := 0, cells := 0, slots := 0, locals := 0 }) (va_Pc [.ref (ad 0), .int z1] (wPre dC dI cI cL (mw ad cI cL u) sz)) (va_Qi (fun a t => (a, t) = r) (fun t => wPost dC dI cI cL (va_A (mw ad cI cL u) sz) (mw ad cI cL t)) (va_A (mw ad cI cL u) sz)) 0 0 (va_A (mw ad cI cL u) sz) := by
  refine Met.ofW (cc := cX5_firstOf) (maxL := 2) (ret := (some .int)) (by decide) rfl ?_
  intro p e s m args below meth c s₁ B hml hv
  obtain ⟨rfl, hsz, hP, hK, hD0, hZ⟩ := hv
  have hx := B.exec
  have hb := B.bytes
  have hr := B.returns
  have hts := atoms_spec (ws := wsX5_firstOf) B.pre
  have hown : s.vm.findClass RX5 = some m.cls := findClass_of_methodNamed B.named
  have hlocks := B.notSynchronized
  subst hsz
  have hD := hD0.self (sz := s.heap.size)
  generalize hAe : va_A (mw ad cI cL u) s.heap.size = A at hD ⊢
  have hA : ∀ q : Nat, s.heap.size ≤ q → A q := fun q h => by rw [← hAe]; exact Or.inr h
  have hS : va_S A s.heap s.heap [] := va_S.rf
  have iX5 : ∀ w ∈ u_ws RX5 TX5 36, w ∈ wsX5_firstOf := fun _ h => List.mem_cons_of_mem _ (List.mem_append_right _ h)
  have k_0 := hts (.fieldLink RX5 28 "LampChoiceModel" "held" "[I") (by decide +kernel)
  have hl := lv_entry ([.ref (ad 0), .int z1]) (n := 2) (Nat.le_of_ble_eq_true rfl)
  rw [lg_entry_eq]
  generalize (lg_sl ([.ref (ad 0), .int z1]) ++ List.replicate (2 - (lg_sl ([.ref (ad 0), .int z1])).length) Slot.unset).toArray = ls at hl ⊢
  have hl : lv_has ls 2 [(0, .ref (ad 0)), (1, .int z1)] := hl
  have key : ∀ n : Nat, (∀ (v1 : Int32) (u : St) (H : Heap) (locs : List Loc) (ls : Array Slot), fX5_firstOf n 0 v1 u = some r → va_P (dC, dI) vwCl (mw ad cI cL u) H → va_D A (mw ad cI cL u) → va_S A s.heap H locs → lv_has ls 2 [(0, .ref (ad 0)), (1, .int v1)] → W p l e (headSpec wsX5_firstOf ({ frames := 0, cells := 0, slots := 0, locals := 0 })).room s m ([.ref (ad 0), .int z1] : List Value).toArray below meth c H locs 0 0 (MQ below (va_Qi (fun a t => (a, t) = r) (fun t => wPost dC dI cI cL A (mw ad cI cL t)) A) ([.ref (ad 0), .int z1] : List Value).toArray s 0 0 A) (F0 m 0 ls [])) := by
    intro n
    induction n with
    | zero => exact (fun _ _ _ _ _ hf => nomatch (show (none : Option (Int32 × St)) = some r from hf))
    | succ n ih =>
      have ih0 := ih
      · intro v1 u H locs ls hf hP hD hS hl
        have hf := (eX5_firstOf_0 n v1 u).symm.trans hf
        refine lv_aload_n hx hb dX5_firstOf_0 rfl (lv_at hl 0 rfl) ?_
        refine va_get (D := (dC, dI)) (ci := 5) (v := .ref (ad 7)) (C := RX5) (T := TX5) (N := 36) hx hb hts iX5 hown hK hP 0 rfl rfl 9 (by decide) k_0 (fun _ h9 => h9) rfl dX5_firstOf_1 ?_
        refine lv_iload_n hx hb dX5_firstOf_4 rfl (lv_at hl 1 rfl) ?_
        obtain ⟨h_1, hf⟩ := ck_of hf
        refine va_iald (f := (gA u 6)) hx hb hK hP 7 0 rfl rfl h_1 dX5_firstOf_5 ?_
        refine lv_bipush (v := -2) hx hb dX5_firstOf_6 (by decide) ?_
        refine lv_icmp_ne (tgt := 15) hx hb dX5_firstOf_8 (by decide) (fun c_2 => ?_) (fun c_2 => ?_)
        · have hf := (if_neg c_2).symm.trans hf
          refine lv_aload_n hx hb dX5_firstOf_15 rfl (lv_at hl 0 rfl) ?_
          refine va_get (D := (dC, dI)) (ci := 5) (v := .ref (ad 7)) (C := RX5) (T := TX5) (N := 36) hx hb hts iX5 hown hK hP 0 rfl rfl 9 (by decide) k_0 (fun _ h9 => h9) rfl dX5_firstOf_16 ?_
          refine lv_iload_n hx hb dX5_firstOf_19 rfl (lv_at hl 1 rfl) ?_
          refine va_iald (f := (gA u 6)) hx hb hK hP 7 0 rfl rfl h_1 dX5_firstOf_20 ?_
          have hf := Option.some.inj hf
          exact W.iret (v := ((gA u 6) v1.toNatClampNeg)) hx hb hr (fun t ht hW => ⟨⟨((gA u 6) v1.toNatClampNeg), u, rfl, hf, ⟨by rw [ht]; exact hP, va_K.moved hW.alike hK, hD⟩⟩, hS.F ht⟩) hS.2.2 dX5_firstOf_21
        · have hf := (if_pos c_2).symm.trans hf
          refine lv_iconst (v := -1) hx hb dX5_firstOf_11 (by decide) ?_
          refine lv_goto (tgt := 21) hx hb dX5_firstOf_12 (by decide) ?_
          have hf := Option.some.inj hf
          exact W.iret (v := (-1 : Int32)) hx hb hr (fun t ht hW => ⟨⟨(-1 : Int32), u, rfl, hf, ⟨by rw [ht]; exact hP, va_K.moved hW.alike hK, hD⟩⟩, hS.F ht⟩) hS.2.2 dX5_firstOf_21
  exact (key n) z1 u _ _ ls hf0 hP hD hS (lv_sub hl [0, 1] rfl)

def fX5_addUp (n pc : Nat) (v1 : Int32) (v2 : Int32) (v3 : Int32) (v4 : Int32) (u : St) : Option (St) := match n with
  | 0 => none
  | n + 1 => match pc with
    | 0 => fX5_addUp n 2 0 v1 0 0 u
    | 2 => (if (gI u 2) ≤ v2 then some u else (if ck v2 7 = true then (if ck v2 8 = true then (if 0 ≤ ((gA u 14) v2.toNatClampNeg) then (if ck ((gA u 14) v2.toNatClampNeg) 3 = true then (if ck (v2 + (1 : Int32)) 8 = true then fX5_addUp n 49 0 v2 ((gA u 14) v2.toNatClampNeg) (0 : Int32) (sA u 16 (upd (gA u 16) (v2 + (1 : Int32)).toNatClampNeg (((gA u 16) v2.toNatClampNeg) + ((gA u 1) ((gA u 14) v2.toNatClampNeg).toNatClampNeg)))) else none) else none) else (if ck (v2 + (1 : Int32)) 8 = true then fX5_addUp n 49 0 v2 ((gA u 14) v2.toNatClampNeg) (0 : Int32) (sA u 16 (upd (gA u 16) (v2 + (1 : Int32)).toNatClampNeg (((gA u 16) v2.toNatClampNeg) + (0 : Int32)))) else none)) else none) else none))
    | 49 => (if (gI u 3) ≤ v4 then fX5_addUp n 2 0 (v2 + 1) 0 0 u else (if ck (((16 : Int32) * v2) + v4) 128 = true then (if 0 ≤ v3 then (if ck ((((112 : Int32) * v3) + ((16 : Int32) * v2)) + v4) 336 = true then (if ck (((16 : Int32) * (v2 + (1 : Int32))) + v4) 128 = true then fX5_addUp n 49 0 v2 v3 (v4 + 1) (sA u 15 (upd (gA u 15) (((16 : Int32) * (v2 + (1 : Int32))) + v4).toNatClampNeg (((gA u 15) (((16 : Int32) * v2) + v4).toNatClampNeg) + ((gA u 17) ((((112 : Int32) * v3) + ((16 : Int32) * v2)) + v4).toNatClampNeg)))) else none) else none) else (if ck (((16 : Int32) * (v2 + (1 : Int32))) + v4) 128 = true then fX5_addUp n 49 0 v2 v3 (v4 + 1) (sA u 15 (upd (gA u 15) (((16 : Int32) * (v2 + (1 : Int32))) + v4).toNatClampNeg (((gA u 15) (((16 : Int32) * v2) + v4).toNatClampNeg) + (0 : Int32)))) else none)) else none))
    | _ => none
theorem eX5_addUp_0 (n : Nat) (v1 : Int32) (v2 : Int32) (v3 : Int32) (v4 : Int32) (u : St) : fX5_addUp (n + 1) 0 v1 v2 v3 v4 u = fX5_addUp n 2 0 v1 0 0 u := rfl
theorem eX5_addUp_2 (n : Nat) (v1 : Int32) (v2 : Int32) (v3 : Int32) (v4 : Int32) (u : St) : fX5_addUp (n + 1) 2 v1 v2 v3 v4 u = (if (gI u 2) ≤ v2 then some u else (if ck v2 7 = true then (if ck v2 8 = true then (if 0 ≤ ((gA u 14) v2.toNatClampNeg) then (if ck ((gA u 14) v2.toNatClampNeg) 3 = true then (if ck (v2 + (1 : Int32)) 8 = true then fX5_addUp n 49 0 v2 ((gA u 14) v2.toNatClampNeg) (0 : Int32) (sA u 16 (upd (gA u 16) (v2 + (1 : Int32)).toNatClampNeg (((gA u 16) v2.toNatClampNeg) + ((gA u 1) ((gA u 14) v2.toNatClampNeg).toNatClampNeg)))) else none) else none) else (if ck (v2 + (1 : Int32)) 8 = true then fX5_addUp n 49 0 v2 ((gA u 14) v2.toNatClampNeg) (0 : Int32) (sA u 16 (upd (gA u 16) (v2 + (1 : Int32)).toNatClampNeg (((gA u 16) v2.toNatClampNeg) + (0 : Int32)))) else none)) else none) else none)) := rfl
theorem eX5_addUp_49 (n : Nat) (v1 : Int32) (v2 : Int32) (v3 : Int32) (v4 : Int32) (u : St) : fX5_addUp (n + 1) 49 v1 v2 v3 v4 u = (if (gI u 3) ≤ v4 then fX5_addUp n 2 0 (v2 + 1) 0 0 u else (if ck (((16 : Int32) * v2) + v4) 128 = true then (if 0 ≤ v3 then (if ck ((((112 : Int32) * v3) + ((16 : Int32) * v2)) + v4) 336 = true then (if ck (((16 : Int32) * (v2 + (1 : Int32))) + v4) 128 = true then fX5_addUp n 49 0 v2 v3 (v4 + 1) (sA u 15 (upd (gA u 15) (((16 : Int32) * (v2 + (1 : Int32))) + v4).toNatClampNeg (((gA u 15) (((16 : Int32) * v2) + v4).toNatClampNeg) + ((gA u 17) ((((112 : Int32) * v3) + ((16 : Int32) * v2)) + v4).toNatClampNeg)))) else none) else none) else (if ck (((16 : Int32) * (v2 + (1 : Int32))) + v4) 128 = true then fX5_addUp n 49 0 v2 v3 (v4 + 1) (sA u 15 (upd (gA u 15) (((16 : Int32) * (v2 + (1 : Int32))) + v4).toNatClampNeg (((gA u 15) (((16 : Int32) * v2) + v4).toNatClampNeg) + (0 : Int32)))) else none)) else none)) := rfl
theorem vX5_addUp_0 (v1 : Int32) (v2 : Int32) (v3 : Int32) (v4 : Int32) (u : St) (r : St) : Ev (fun n => fX5_addUp n 0 v1 v2 v3 v4 u) r ↔ Ev (fun n => fX5_addUp n 2 0 v1 0 0 u) r := Ev_succ (fun n => fX5_addUp n 0 v1 v2 v3 v4 u) r
theorem vX5_addUp_2 (v1 : Int32) (v2 : Int32) (v3 : Int32) (v4 : Int32) (u : St) (r : St) : Ev (fun n => fX5_addUp n 2 v1 v2 v3 v4 u) r ↔ Ev (fun n => (if (gI u 2) ≤ v2 then some u else (if ck v2 7 = true then (if ck v2 8 = true then (if 0 ≤ ((gA u 14) v2.toNatClampNeg) then (if ck ((gA u 14) v2.toNatClampNeg) 3 = true then (if ck (v2 + (1 : Int32)) 8 = true then fX5_addUp n 49 0 v2 ((gA u 14) v2.toNatClampNeg) (0 : Int32) (sA u 16 (upd (gA u 16) (v2 + (1 : Int32)).toNatClampNeg (((gA u 16) v2.toNatClampNeg) + ((gA u 1) ((gA u 14) v2.toNatClampNeg).toNatClampNeg)))) else none) else none) else (if ck (v2 + (1 : Int32)) 8 = true then fX5_addUp n 49 0 v2 ((gA u 14) v2.toNatClampNeg) (0 : Int32) (sA u 16 (upd (gA u 16) (v2 + (1 : Int32)).toNatClampNeg (((gA u 16) v2.toNatClampNeg) + (0 : Int32)))) else none)) else none) else none))) r := Ev_succ (fun n => fX5_addUp n 2 v1 v2 v3 v4 u) r
theorem vX5_addUp_49 (v1 : Int32) (v2 : Int32) (v3 : Int32) (v4 : Int32) (u : St) (r : St) : Ev (fun n => fX5_addUp n 49 v1 v2 v3 v4 u) r ↔ Ev (fun n => (if (gI u 3) ≤ v4 then fX5_addUp n 2 0 (v2 + 1) 0 0 u else (if ck (((16 : Int32) * v2) + v4) 128 = true then (if 0 ≤ v3 then (if ck ((((112 : Int32) * v3) + ((16 : Int32) * v2)) + v4) 336 = true then (if ck (((16 : Int32) * (v2 + (1 : Int32))) + v4) 128 = true then fX5_addUp n 49 0 v2 v3 (v4 + 1) (sA u 15 (upd (gA u 15) (((16 : Int32) * (v2 + (1 : Int32))) + v4).toNatClampNeg (((gA u 15) (((16 : Int32) * v2) + v4).toNatClampNeg) + ((gA u 17) ((((112 : Int32) * v3) + ((16 : Int32) * v2)) + v4).toNatClampNeg)))) else none) else none) else (if ck (((16 : Int32) * (v2 + (1 : Int32))) + v4) 128 = true then fX5_addUp n 49 0 v2 v3 (v4 + 1) (sA u 15 (upd (gA u 15) (((16 : Int32) * (v2 + (1 : Int32))) + v4).toNatClampNeg (((gA u 15) (((16 : Int32) * v2) + v4).toNatClampNeg) + (0 : Int32)))) else none)) else none))) r := Ev_succ (fun n => fX5_addUp n 49 v1 v2 v3 v4 u) r
def FX5_addUp (n : Nat) (v1 : Int32) (u : St) : Option (St) := fX5_addUp n 0 v1 0 0 0 u
set_option maxHeartbeats 4000000 in
set_option maxRecDepth 100000 in
theorem mX5_addUp (l : Launch) (dC : Nat → ClassId) (dI : Nat → Nat → Nat) (cI cL : ClassId) (ad : Nat → Nat) (sz : Nat) (u : St) (z1 : Int32) (n : Nat) (r : St) (hf0 : FX5_addUp n z1 u = some r) : Met l yX5_addUp wsX5_addUp ({ frames := 0, cells := 0, slots := 0, locals := 0 }) (va_Pc [.ref (ad 0), .int z1] (wPre dC dI cI cL (mw ad cI cL u) sz)) (va_Qv (fun t => t = r) (fun t => wPost dC dI cI cL (va_A (mw ad cI cL u) sz) (mw ad cI cL t)) (va_A (mw ad cI cL u) sz)) 0 0 (va_A (mw ad cI cL u) sz) := by
  refine Met.ofW (cc := cX5_addUp) (maxL := 5) (ret := none) (by decide) rfl ?_
  intro p e s m args below meth c s₁ B hml hv
  obtain ⟨rfl, hsz, hP, hK, hD0, hZ⟩ := hv
  have hx := B.exec
  have hb := B.bytes
  have hr := B.returns
  have hts := atoms_spec (ws := wsX5_addUp) B.pre
  have hown : s.vm.findClass RX5 = some m.cls := findClass_of_methodNamed B.named
  have hlocks := B.notSynchronized
  subst hsz
  have hD := hD0.self (sz := s.heap.size)
  generalize hAe : va_A (mw ad cI cL u) s.heap.size = A at hD ⊢
  have hA : ∀ q : Nat, s.heap.size ≤ q → A q := fun q h => by rw [← hAe]; exact Or.inr h
  have hS : va_S A s.heap s.heap [] := va_S.rf
  have iX5 : ∀ w ∈ u_ws RX5 TX5 36, w ∈ wsX5_addUp := fun _ h => List.mem_cons_of_mem _ (List.mem_append_right _ h)
  have k_0 := hts (.fieldLink RX5 90 "LampChoiceModel" "places" "I") (by decide +kernel)
  have k_1 := hts (.fieldLink RX5 59 "LampChoiceModel" "choice" "[I") (by decide +kernel)
  have k_2 := hts (.fieldLink RX5 65 "LampChoiceModel" "wattsBefore" "[I") (by decide +kernel)
  have k_3 := hts (.fieldLink RX5 13 "LampChoiceModel" "watts" "[I") (by decide +kernel)
  have k_4 := hts (.fieldLink RX5 93 "LampChoiceModel" "points" "I") (by decide +kernel)
  have k_5 := hts (.fieldLink RX5 62 "LampChoiceModel" "sums" "[I") (by decide +kernel)
  have k_6 := hts (.fieldLink RX5 68 "LampChoiceModel" "lights" "[I") (by decide +kernel)
  have hl := lv_entry ([.ref (ad 0), .int z1]) (n := 5) (Nat.le_of_ble_eq_true rfl)
  rw [lg_entry_eq]
  generalize (lg_sl ([.ref (ad 0), .int z1]) ++ List.replicate (5 - (lg_sl ([.ref (ad 0), .int z1])).length) Slot.unset).toArray = ls at hl ⊢
  have hl : lv_has ls 5 [(0, .ref (ad 0)), (1, .int z1)] := hl
  have key : ∀ n : Nat, (∀ (v1 : Int32) (v2 : Int32) (v3 : Int32) (v4 : Int32) (u : St) (H : Heap) (locs : List Loc) (ls : Array Slot), fX5_addUp n 0 v1 v2 v3 v4 u = some r → va_P (dC, dI) vwCl (mw ad cI cL u) H → va_D A (mw ad cI cL u) → va_S A s.heap H locs → lv_has ls 5 [(0, .ref (ad 0)), (1, .int v1)] → W p l e (headSpec wsX5_addUp ({ frames := 0, cells := 0, slots := 0, locals := 0 })).room s m ([.ref (ad 0), .int z1] : List Value).toArray below meth c H locs 0 0 (MQ below (va_Qv (fun t => t = r) (fun t => wPost dC dI cI cL A (mw ad cI cL t)) A) ([.ref (ad 0), .int z1] : List Value).toArray s 0 0 A) (F0 m 0 ls [])) ∧ (∀ (v1 : Int32) (v2 : Int32) (v3 : Int32) (v4 : Int32) (u : St) (H : Heap) (locs : List Loc) (ls : Array Slot), fX5_addUp n 2 v1 v2 v3 v4 u = some r → va_P (dC, dI) vwCl (mw ad cI cL u) H → va_D A (mw ad cI cL u) → va_S A s.heap H locs → lv_has ls 5 [(0, .ref (ad 0)), (2, .int v2)] → W p l e (headSpec wsX5_addUp ({ frames := 0, cells := 0, slots := 0, locals := 0 })).room s m ([.ref (ad 0), .int z1] : List Value).toArray below meth c H locs 0 0 (MQ below (va_Qv (fun t => t = r) (fun t => wPost dC dI cI cL A (mw ad cI cL t)) A) ([.ref (ad 0), .int z1] : List Value).toArray s 0 0 A) (F0 m 2 ls [])) ∧ (∀ (v1 : Int32) (v2 : Int32) (v3 : Int32) (v4 : Int32) (u : St) (H : Heap) (locs : List Loc) (ls : Array Slot), fX5_addUp n 49 v1 v2 v3 v4 u = some r → va_P (dC, dI) vwCl (mw ad cI cL u) H → va_D A (mw ad cI cL u) → va_S A s.heap H locs → lv_has ls 5 [(0, .ref (ad 0)), (2, .int v2), (3, .int v3), (4, .int v4)] → W p l e (headSpec wsX5_addUp ({ frames := 0, cells := 0, slots := 0, locals := 0 })).room s m ([.ref (ad 0), .int z1] : List Value).toArray below meth c H locs 0 0 (MQ below (va_Qv (fun t => t = r) (fun t => wPost dC dI cI cL A (mw ad cI cL t)) A) ([.ref (ad 0), .int z1] : List Value).toArray s 0 0 A) (F0 m 49 ls [])) := by
    intro n
    induction n with
    | zero => exact ⟨(fun _ _ _ _ _ _ _ _ hf => nomatch (show (none : Option (St)) = some r from hf)), (fun _ _ _ _ _ _ _ _ hf => nomatch (show (none : Option (St)) = some r from hf)), (fun _ _ _ _ _ _ _ _ hf => nomatch (show (none : Option (St)) = some r from hf))⟩
    | succ n ih =>
      obtain ⟨ih0, ih1, ih2⟩ := ih
      refine ⟨?_, ?_, ?_⟩
      · intro v1 v2 v3 v4 u H locs ls hf hP hD hS hl
        have hf := (eX5_addUp_0 n v1 v2 v3 v4 u).symm.trans hf
        refine lv_iload_n hx hb dX5_addUp_0 rfl (lv_at hl 1 rfl) ?_
        refine lv_istore_n (lv' := [(2, .int v1), (0, .ref (ad 0)), (1, .int v1)]) hx hb dX5_addUp_1 rfl hl (by decide) rfl (fun ls hl => ?_)
        exact ih1 0 v1 0 0 u H locs ls hf hP hD hS (lv_sub hl [1, 0] rfl)
      · intro v1 v2 v3 v4 u H locs ls hf hP hD hS hl
        have hf := (eX5_addUp_2 n v1 v2 v3 v4 u).symm.trans hf
        refine lv_iload_n hx hb dX5_addUp_2 rfl (lv_at hl 1 rfl) ?_
        refine lv_aload_n hx hb dX5_addUp_3 rfl (lv_at hl 0 rfl) ?_
        refine va_get (D := (dC, dI)) (ci := 5) (v := .int (gI u 2)) (C := RX5) (T := TX5) (N := 36) hx hb hts iX5 hown hK hP 0 rfl rfl 6 (by decide) k_0 (fun _ h9 => h9) rfl dX5_addUp_4 ?_
        refine lv_icmp_ge (tgt := 122) hx hb dX5_addUp_7 (by decide) (fun c_1 => ?_) (fun c_1 => ?_)
        · have hf := (if_pos c_1).symm.trans hf
          have hf := Option.some.inj hf
          exact W.vret hx hb hr (fun t ht hW => ⟨⟨u, rfl, hf, ⟨by rw [ht]; exact hP, va_K.moved hW.alike hK, hD⟩⟩, hS.F ht⟩) hS.2.2 dX5_addUp_122
        · have hf := (if_neg c_1).symm.trans hf
          refine lv_aload_n hx hb dX5_addUp_10 rfl (lv_at hl 0 rfl) ?_
          refine va_get (D := (dC, dI)) (ci := 5) (v := .ref (ad 15)) (C := RX5) (T := TX5) (N := 36) hx hb hts iX5 hown hK hP 0 rfl rfl 25 (by decide) k_1 (fun _ h9 => h9) rfl dX5_addUp_11 ?_
          refine lv_iload_n hx hb dX5_addUp_14 rfl (lv_at hl 1 rfl) ?_
          obtain ⟨h_2, hf⟩ := ck_of hf
          refine va_iald (f := (gA u 14)) hx hb hK hP 15 0 rfl rfl h_2 dX5_addUp_15 ?_
          refine lv_istore_n (lv' := [(3, .int ((gA u 14) v2.toNatClampNeg)), (0, .ref (ad 0)), (2, .int v2)]) hx hb dX5_addUp_16 rfl hl (by decide) rfl (fun ls hl => ?_)
          refine lv_aload_n hx hb dX5_addUp_17 rfl (lv_at hl 1 rfl) ?_
          refine va_get (D := (dC, dI)) (ci := 5) (v := .ref (ad 17)) (C := RX5) (T := TX5) (N := 36) hx hb hts iX5 hown hK hP 0 rfl rfl 27 (by decide) k_2 (fun _ h9 => h9) rfl dX5_addUp_18 ?_
          refine lv_iload_n hx hb dX5_addUp_21 rfl (lv_at hl 2 rfl) ?_
          refine lv_iconst (v := 1) hx hb dX5_addUp_22 (by decide) ?_
          refine lv_iadd hx hb dX5_addUp_23 ?_
          refine lv_aload_n hx hb dX5_addUp_24 rfl (lv_at hl 1 rfl) ?_
          refine va_get (D := (dC, dI)) (ci := 5) (v := .ref (ad 17)) (C := RX5) (T := TX5) (N := 36) hx hb hts iX5 hown hK hP 0 rfl rfl 27 (by decide) k_2 (fun _ h9 => h9) rfl dX5_addUp_25 ?_
          refine lv_iload_n hx hb dX5_addUp_28 rfl (lv_at hl 2 rfl) ?_
          obtain ⟨h_3, hf⟩ := ck_of hf
          refine va_iald (f := (gA u 16)) hx hb hK hP 17 0 rfl rfl h_3 dX5_addUp_29 ?_
          refine lv_iload_n hx hb dX5_addUp_30 rfl (lv_at hl 0 rfl) ?_
          refine lv_if_ge (tgt := 38) hx hb dX5_addUp_31 (by decide) (fun c_4 => ?_) (fun c_4 => ?_)
          · have hf := (if_pos c_4).symm.trans hf
            refine lv_aload_n hx hb dX5_addUp_38 rfl (lv_at hl 1 rfl) ?_
            refine va_get (D := (dC, dI)) (ci := 5) (v := .ref (ad 2)) (C := RX5) (T := TX5) (N := 36) hx hb hts iX5 hown hK hP 0 rfl rfl 3 (by decide) k_3 (fun _ h9 => h9) rfl dX5_addUp_39 ?_
            refine lv_iload_n hx hb dX5_addUp_42 rfl (lv_at hl 0 rfl) ?_
            obtain ⟨h_5, hf⟩ := ck_of hf
            refine va_iald (f := (gA u 1)) hx hb hK hP 2 0 rfl rfl h_5 dX5_addUp_43 ?_
            refine lv_iadd hx hb dX5_addUp_44 ?_
            obtain ⟨h_6, hf⟩ := ck_of hf
            refine va_iast (f := (gA u 16)) hx hb hK hP hD hS 17 0 rfl rfl h_6 dX5_addUp_45 (fun H locs hP hD hS => ?_)
            have hP : va_P (dC, dI) vwCl (mw ad cI cL (sA u 16 (upd (gA u 16) (v2 + (1 : Int32)).toNatClampNeg (((gA u 16) v2.toNatClampNeg) + ((gA u 1) ((gA u 14) v2.toNatClampNeg).toNatClampNeg))))) H := hP
            have hD : va_D A (mw ad cI cL (sA u 16 (upd (gA u 16) (v2 + (1 : Int32)).toNatClampNeg (((gA u 16) v2.toNatClampNeg) + ((gA u 1) ((gA u 14) v2.toNatClampNeg).toNatClampNeg))))) := hD
            refine lv_iconst (v := 0) hx hb dX5_addUp_46 (by decide) ?_
            refine lv_istore (lv' := [(4, .int (0 : Int32)), (3, .int ((gA u 14) v2.toNatClampNeg)), (0, .ref (ad 0)), (2, .int v2)]) hx hb dX5_addUp_47 hl (by decide) rfl (fun ls hl => ?_)
            exact ih2 0 v2 ((gA u 14) v2.toNatClampNeg) (0 : Int32) (sA u 16 (upd (gA u 16) (v2 + (1 : Int32)).toNatClampNeg (((gA u 16) v2.toNatClampNeg) + ((gA u 1) ((gA u 14) v2.toNatClampNeg).toNatClampNeg)))) H locs ls hf hP hD hS (lv_sub hl [2, 3, 1, 0] rfl)
          · have hf := (if_neg c_4).symm.trans hf
            refine lv_iconst (v := 0) hx hb dX5_addUp_34 (by decide) ?_
            refine lv_goto (tgt := 44) hx hb dX5_addUp_35 (by decide) ?_
            refine lv_iadd hx hb dX5_addUp_44 ?_
            obtain ⟨h_7, hf⟩ := ck_of hf
            refine va_iast (f := (gA u 16)) hx hb hK hP hD hS 17 0 rfl rfl h_7 dX5_addUp_45 (fun H locs hP hD hS => ?_)
            have hP : va_P (dC, dI) vwCl (mw ad cI cL (sA u 16 (upd (gA u 16) (v2 + (1 : Int32)).toNatClampNeg (((gA u 16) v2.toNatClampNeg) + (0 : Int32))))) H := hP
            have hD : va_D A (mw ad cI cL (sA u 16 (upd (gA u 16) (v2 + (1 : Int32)).toNatClampNeg (((gA u 16) v2.toNatClampNeg) + (0 : Int32))))) := hD
            refine lv_iconst (v := 0) hx hb dX5_addUp_46 (by decide) ?_
            refine lv_istore (lv' := [(4, .int (0 : Int32)), (3, .int ((gA u 14) v2.toNatClampNeg)), (0, .ref (ad 0)), (2, .int v2)]) hx hb dX5_addUp_47 hl (by decide) rfl (fun ls hl => ?_)
            exact ih2 0 v2 ((gA u 14) v2.toNatClampNeg) (0 : Int32) (sA u 16 (upd (gA u 16) (v2 + (1 : Int32)).toNatClampNeg (((gA u 16) v2.toNatClampNeg) + (0 : Int32)))) H locs ls hf hP hD hS (lv_sub hl [2, 3, 1, 0] rfl)
      · intro v1 v2 v3 v4 u H locs ls hf hP hD hS hl
        have hf := (eX5_addUp_49 n v1 v2 v3 v4 u).symm.trans hf
        refine lv_iload hx hb dX5_addUp_49 (lv_at hl 3 rfl) ?_
        refine lv_aload_n hx hb dX5_addUp_51 rfl (lv_at hl 0 rfl) ?_
        refine va_get (D := (dC, dI)) (ci := 5) (v := .int (gI u 3)) (C := RX5) (T := TX5) (N := 36) hx hb hts iX5 hown hK hP 0 rfl rfl 11 (by decide) k_4 (fun _ h9 => h9) rfl dX5_addUp_52 ?_
        refine lv_icmp_ge (tgt := 116) hx hb dX5_addUp_55 (by decide) (fun c_8 => ?_) (fun c_8 => ?_)
        · have hf := (if_pos c_8).symm.trans hf
          refine lv_iinc (v := (v2 + 1)) (lv' := [(2, .int (v2 + 1)), (0, .ref (ad 0)), (3, .int v3), (4, .int v4)]) hx hb dX5_addUp_116 hl (k := 1) rfl rfl (by decide) rfl (fun ls hl => ?_)
          refine lv_goto (tgt := 2) hx hb dX5_addUp_119 (by decide) ?_
          exact ih1 0 (v2 + 1) 0 0 u H locs ls hf hP hD hS (lv_sub hl [1, 0] rfl)
        · have hf := (if_neg c_8).symm.trans hf
          refine lv_aload_n hx hb dX5_addUp_58 rfl (lv_at hl 0 rfl) ?_
          refine va_get (D := (dC, dI)) (ci := 5) (v := .ref (ad 16)) (C := RX5) (T := TX5) (N := 36) hx hb hts iX5 hown hK hP 0 rfl rfl 26 (by decide) k_5 (fun _ h9 => h9) rfl dX5_addUp_59 ?_
          refine lv_bipush (v := 16) hx hb dX5_addUp_62 (by decide) ?_
          refine lv_iload_n hx hb dX5_addUp_64 rfl (lv_at hl 1 rfl) ?_
          refine lv_iconst (v := 1) hx hb dX5_addUp_65 (by decide) ?_
          refine lv_iadd hx hb dX5_addUp_66 ?_
          refine lv_imul hx hb dX5_addUp_67 ?_
          refine lv_iload hx hb dX5_addUp_68 (lv_at hl 3 rfl) ?_
          refine lv_iadd hx hb dX5_addUp_70 ?_
          refine lv_aload_n hx hb dX5_addUp_71 rfl (lv_at hl 0 rfl) ?_
          refine va_get (D := (dC, dI)) (ci := 5) (v := .ref (ad 16)) (C := RX5) (T := TX5) (N := 36) hx hb hts iX5 hown hK hP 0 rfl rfl 26 (by decide) k_5 (fun _ h9 => h9) rfl dX5_addUp_72 ?_
          refine lv_bipush (v := 16) hx hb dX5_addUp_75 (by decide) ?_
          refine lv_iload_n hx hb dX5_addUp_77 rfl (lv_at hl 1 rfl) ?_
          refine lv_imul hx hb dX5_addUp_78 ?_
          refine lv_iload hx hb dX5_addUp_79 (lv_at hl 3 rfl) ?_
          refine lv_iadd hx hb dX5_addUp_81 ?_
          obtain ⟨h_9, hf⟩ := ck_of hf
          refine va_iald (f := (gA u 15)) hx hb hK hP 16 0 rfl rfl h_9 dX5_addUp_82 ?_
          refine lv_iload_n hx hb dX5_addUp_83 rfl (lv_at hl 2 rfl) ?_
          refine lv_if_ge (tgt := 91) hx hb dX5_addUp_84 (by decide) (fun c_10 => ?_) (fun c_10 => ?_)
          · have hf := (if_pos c_10).symm.trans hf
            refine lv_aload_n hx hb dX5_addUp_91 rfl (lv_at hl 0 rfl) ?_
            refine va_get (D := (dC, dI)) (ci := 5) (v := .ref (ad 18)) (C := RX5) (T := TX5) (N := 36) hx hb hts iX5 hown hK hP 0 rfl rfl 28 (by decide) k_6 (fun _ h9 => h9) rfl dX5_addUp_92 ?_
            refine lv_bipush (v := 112) hx hb dX5_addUp_95 (by decide) ?_
            refine lv_iload_n hx hb dX5_addUp_97 rfl (lv_at hl 2 rfl) ?_
            refine lv_imul hx hb dX5_addUp_98 ?_
            refine lv_bipush (v := 16) hx hb dX5_addUp_99 (by decide) ?_
            refine lv_iload_n hx hb dX5_addUp_101 rfl (lv_at hl 1 rfl) ?_
            refine lv_imul hx hb dX5_addUp_102 ?_
            refine lv_iadd hx hb dX5_addUp_103 ?_
            refine lv_iload hx hb dX5_addUp_104 (lv_at hl 3 rfl) ?_
            refine lv_iadd hx hb dX5_addUp_106 ?_
            obtain ⟨h_11, hf⟩ := ck_of hf
            refine va_iald (f := (gA u 17)) hx hb hK hP 18 0 rfl rfl h_11 dX5_addUp_107 ?_
            refine lv_iadd hx hb dX5_addUp_108 ?_
            obtain ⟨h_12, hf⟩ := ck_of hf
            refine va_iast (f := (gA u 15)) hx hb hK hP hD hS 16 0 rfl rfl h_12 dX5_addUp_109 (fun H locs hP hD hS => ?_)
            have hP : va_P (dC, dI) vwCl (mw ad cI cL (sA u 15 (upd (gA u 15) (((16 : Int32) * (v2 + (1 : Int32))) + v4).toNatClampNeg (((gA u 15) (((16 : Int32) * v2) + v4).toNatClampNeg) + ((gA u 17) ((((112 : Int32) * v3) + ((16 : Int32) * v2)) + v4).toNatClampNeg))))) H := hP
            have hD : va_D A (mw ad cI cL (sA u 15 (upd (gA u 15) (((16 : Int32) * (v2 + (1 : Int32))) + v4).toNatClampNeg (((gA u 15) (((16 : Int32) * v2) + v4).toNatClampNeg) + ((gA u 17) ((((112 : Int32) * v3) + ((16 : Int32) * v2)) + v4).toNatClampNeg))))) := hD
            refine lv_iinc (v := (v4 + 1)) (lv' := [(4, .int (v4 + 1)), (0, .ref (ad 0)), (2, .int v2), (3, .int v3)]) hx hb dX5_addUp_110 hl (k := 3) rfl rfl (by decide) rfl (fun ls hl => ?_)
            refine lv_goto (tgt := 49) hx hb dX5_addUp_113 (by decide) ?_
            exact ih2 0 v2 v3 (v4 + 1) (sA u 15 (upd (gA u 15) (((16 : Int32) * (v2 + (1 : Int32))) + v4).toNatClampNeg (((gA u 15) (((16 : Int32) * v2) + v4).toNatClampNeg) + ((gA u 17) ((((112 : Int32) * v3) + ((16 : Int32) * v2)) + v4).toNatClampNeg)))) H locs ls hf hP hD hS (lv_sub hl [1, 2, 3, 0] rfl)
          · have hf := (if_neg c_10).symm.trans hf
            refine lv_iconst (v := 0) hx hb dX5_addUp_87 (by decide) ?_
            refine lv_goto (tgt := 108) hx hb dX5_addUp_88 (by decide) ?_
            refine lv_iadd hx hb dX5_addUp_108 ?_
            obtain ⟨h_13, hf⟩ := ck_of hf
            refine va_iast (f := (gA u 15)) hx hb hK hP hD hS 16 0 rfl rfl h_13 dX5_addUp_109 (fun H locs hP hD hS => ?_)
            have hP : va_P (dC, dI) vwCl (mw ad cI cL (sA u 15 (upd (gA u 15) (((16 : Int32) * (v2 + (1 : Int32))) + v4).toNatClampNeg (((gA u 15) (((16 : Int32) * v2) + v4).toNatClampNeg) + (0 : Int32))))) H := hP
            have hD : va_D A (mw ad cI cL (sA u 15 (upd (gA u 15) (((16 : Int32) * (v2 + (1 : Int32))) + v4).toNatClampNeg (((gA u 15) (((16 : Int32) * v2) + v4).toNatClampNeg) + (0 : Int32))))) := hD
            refine lv_iinc (v := (v4 + 1)) (lv' := [(4, .int (v4 + 1)), (0, .ref (ad 0)), (2, .int v2), (3, .int v3)]) hx hb dX5_addUp_110 hl (k := 3) rfl rfl (by decide) rfl (fun ls hl => ?_)
            refine lv_goto (tgt := 49) hx hb dX5_addUp_113 (by decide) ?_
            exact ih2 0 v2 v3 (v4 + 1) (sA u 15 (upd (gA u 15) (((16 : Int32) * (v2 + (1 : Int32))) + v4).toNatClampNeg (((gA u 15) (((16 : Int32) * v2) + v4).toNatClampNeg) + (0 : Int32)))) H locs ls hf hP hD hS (lv_sub hl [1, 2, 3, 0] rfl)
  exact (key n).1 z1 0 0 0 u _ _ ls hf0 hP hD hS (lv_sub hl [0, 1] rfl)

def fX5_nextChoice (n pc : Nat) (v1 : Int32) (u : St) : Option (Int32 × St) := match n with
  | 0 => none
  | n + 1 => match pc with
    | 0 => fX5_nextChoice n 7 ((gI u 2) - (1 : Int32)) u
    | 7 => (if v1 < 0 then some ((-1 : Int32), u) else (if ck v1 7 = true then (if ((gA u 6) v1.toNatClampNeg) = (-2 : Int32) then (if ((gI u 1) - (1 : Int32)) ≤ ((gA u 14) v1.toNatClampNeg) then fX5_nextChoice n 49 v1 u else some (v1, sA u 14 (upd (gA u 14) v1.toNatClampNeg (((gA u 14) v1.toNatClampNeg) + (1 : Int32))))) else fX5_nextChoice n 49 v1 u) else none))
    | 49 => ((FX5_firstOf n v1 u).bind fun w_5 => (if ck v1 7 = true then fX5_nextChoice n 7 (v1 + (-1)) (sA w_5.2 14 (upd (gA w_5.2 14) v1.toNatClampNeg w_5.1)) else none))
    | _ => none
theorem eX5_nextChoice_0 (n : Nat) (v1 : Int32) (u : St) : fX5_nextChoice (n + 1) 0 v1 u = fX5_nextChoice n 7 ((gI u 2) - (1 : Int32)) u := rfl
theorem eX5_nextChoice_7 (n : Nat) (v1 : Int32) (u : St) : fX5_nextChoice (n + 1) 7 v1 u = (if v1 < 0 then some ((-1 : Int32), u) else (if ck v1 7 = true then (if ((gA u 6) v1.toNatClampNeg) = (-2 : Int32) then (if ((gI u 1) - (1 : Int32)) ≤ ((gA u 14) v1.toNatClampNeg) then fX5_nextChoice n 49 v1 u else some (v1, sA u 14 (upd (gA u 14) v1.toNatClampNeg (((gA u 14) v1.toNatClampNeg) + (1 : Int32))))) else fX5_nextChoice n 49 v1 u) else none)) := rfl
theorem eX5_nextChoice_49 (n : Nat) (v1 : Int32) (u : St) : fX5_nextChoice (n + 1) 49 v1 u = ((FX5_firstOf n v1 u).bind fun w_5 => (if ck v1 7 = true then fX5_nextChoice n 7 (v1 + (-1)) (sA w_5.2 14 (upd (gA w_5.2 14) v1.toNatClampNeg w_5.1)) else none)) := rfl
theorem vX5_nextChoice_0 (v1 : Int32) (u : St) (r : Int32 × St) : Ev (fun n => fX5_nextChoice n 0 v1 u) r ↔ Ev (fun n => fX5_nextChoice n 7 ((gI u 2) - (1 : Int32)) u) r := Ev_succ (fun n => fX5_nextChoice n 0 v1 u) r
theorem vX5_nextChoice_7 (v1 : Int32) (u : St) (r : Int32 × St) : Ev (fun n => fX5_nextChoice n 7 v1 u) r ↔ Ev (fun n => (if v1 < 0 then some ((-1 : Int32), u) else (if ck v1 7 = true then (if ((gA u 6) v1.toNatClampNeg) = (-2 : Int32) then (if ((gI u 1) - (1 : Int32)) ≤ ((gA u 14) v1.toNatClampNeg) then fX5_nextChoice n 49 v1 u else some (v1, sA u 14 (upd (gA u 14) v1.toNatClampNeg (((gA u 14) v1.toNatClampNeg) + (1 : Int32))))) else fX5_nextChoice n 49 v1 u) else none))) r := Ev_succ (fun n => fX5_nextChoice n 7 v1 u) r
theorem vX5_nextChoice_49 (v1 : Int32) (u : St) (r : Int32 × St) : Ev (fun n => fX5_nextChoice n 49 v1 u) r ↔ Ev (fun n => ((FX5_firstOf n v1 u).bind fun w_5 => (if ck v1 7 = true then fX5_nextChoice n 7 (v1 + (-1)) (sA w_5.2 14 (upd (gA w_5.2 14) v1.toNatClampNeg w_5.1)) else none))) r := Ev_succ (fun n => fX5_nextChoice n 49 v1 u) r
def FX5_nextChoice (n : Nat) (u : St) : Option (Int32 × St) := fX5_nextChoice n 0 0 u
set_option maxHeartbeats 4000000 in
set_option maxRecDepth 100000 in
theorem mX5_nextChoice (l : Launch) (dC : Nat → ClassId) (dI : Nat → Nat → Nat) (cI cL : ClassId) (ad : Nat → Nat) (sz : Nat) (u : St) (n : Nat) (r : Int32 × St) (hf0 : FX5_nextChoice n  u = some r) : Met l yX5_nextChoice wsX5_nextChoice ({ frames := 1, cells := 0, slots := 0, locals := 21 }) (va_Pc [.ref (ad 0)] (wPre dC dI cI cL (mw ad cI cL u) sz)) (va_Qi (fun a t => (a, t) = r) (fun t => wPost dC dI cI cL (va_A (mw ad cI cL u) sz) (mw ad cI cL t)) (va_A (mw ad cI cL u) sz)) 0 0 (va_A (mw ad cI cL u) sz) := by
  refine Met.ofW (cc := cX5_nextChoice) (maxL := 2) (ret := (some .int)) (by decide) rfl ?_
  intro p e s m args below meth c s₁ B hml hv
  obtain ⟨rfl, hsz, hP, hK, hD0, hZ⟩ := hv
  have hx := B.exec
  have hb := B.bytes
  have hr := B.returns
  have hts := atoms_spec (ws := wsX5_nextChoice) B.pre
  have hown : s.vm.findClass RX5 = some m.cls := findClass_of_methodNamed B.named
  have hlocks := B.notSynchronized
  subst hsz
  have hD := hD0.self (sz := s.heap.size)
  generalize hAe : va_A (mw ad cI cL u) s.heap.size = A at hD ⊢
  have hA : ∀ q : Nat, s.heap.size ≤ q → A q := fun q h => by rw [← hAe]; exact Or.inr h
  have hS : va_S A s.heap s.heap [] := va_S.rf
  have iX5 : ∀ w ∈ u_ws RX5 TX5 36, w ∈ wsX5_nextChoice := fun _ h => List.mem_cons_of_mem _ (List.mem_append_right _ h)
  have k_0 := hts (.fieldLink RX5 90 "LampChoiceModel" "places" "I") (by decide +kernel)
  have k_1 := hts (.fieldLink RX5 28 "LampChoiceModel" "held" "[I") (by decide +kernel)
  have k_2 := hts (.fieldLink RX5 59 "LampChoiceModel" "choice" "[I") (by decide +kernel)
  have k_3 := hts (.fieldLink RX5 83 "LampChoiceModel" "kinds" "I") (by decide +kernel)
  have hl := lv_entry ([.ref (ad 0)]) (n := 2) (Nat.le_of_ble_eq_true rfl)
  rw [lg_entry_eq]
  generalize (lg_sl ([.ref (ad 0)]) ++ List.replicate (2 - (lg_sl ([.ref (ad 0)])).length) Slot.unset).toArray = ls at hl ⊢
  have hl : lv_has ls 2 [(0, .ref (ad 0))] := hl
  have key : ∀ n : Nat, (∀ (v1 : Int32) (u : St) (H : Heap) (locs : List Loc) (ls : Array Slot), fX5_nextChoice n 0 v1 u = some r → va_P (dC, dI) vwCl (mw ad cI cL u) H → va_D A (mw ad cI cL u) → va_S A s.heap H locs → lv_has ls 2 [(0, .ref (ad 0))] → W p l e (headSpec wsX5_nextChoice ({ frames := 1, cells := 0, slots := 0, locals := 21 })).room s m ([.ref (ad 0)] : List Value).toArray below meth c H locs 0 0 (MQ below (va_Qi (fun a t => (a, t) = r) (fun t => wPost dC dI cI cL A (mw ad cI cL t)) A) ([.ref (ad 0)] : List Value).toArray s 0 0 A) (F0 m 0 ls [])) ∧ (∀ (v1 : Int32) (u : St) (H : Heap) (locs : List Loc) (ls : Array Slot), fX5_nextChoice n 7 v1 u = some r → va_P (dC, dI) vwCl (mw ad cI cL u) H → va_D A (mw ad cI cL u) → va_S A s.heap H locs → lv_has ls 2 [(0, .ref (ad 0)), (1, .int v1)] → W p l e (headSpec wsX5_nextChoice ({ frames := 1, cells := 0, slots := 0, locals := 21 })).room s m ([.ref (ad 0)] : List Value).toArray below meth c H locs 0 0 (MQ below (va_Qi (fun a t => (a, t) = r) (fun t => wPost dC dI cI cL A (mw ad cI cL t)) A) ([.ref (ad 0)] : List Value).toArray s 0 0 A) (F0 m 7 ls [])) ∧ (∀ (v1 : Int32) (u : St) (H : Heap) (locs : List Loc) (ls : Array Slot), fX5_nextChoice n 49 v1 u = some r → va_P (dC, dI) vwCl (mw ad cI cL u) H → va_D A (mw ad cI cL u) → va_S A s.heap H locs → lv_has ls 2 [(0, .ref (ad 0)), (1, .int v1)] → W p l e (headSpec wsX5_nextChoice ({ frames := 1, cells := 0, slots := 0, locals := 21 })).room s m ([.ref (ad 0)] : List Value).toArray below meth c H locs 0 0 (MQ below (va_Qi (fun a t => (a, t) = r) (fun t => wPost dC dI cI cL A (mw ad cI cL t)) A) ([.ref (ad 0)] : List Value).toArray s 0 0 A) (F0 m 49 ls [])) := by
    intro n
    induction n with
    | zero => exact ⟨(fun _ _ _ _ _ hf => nomatch (show (none : Option (Int32 × St)) = some r from hf)), (fun _ _ _ _ _ hf => nomatch (show (none : Option (Int32 × St)) = some r from hf)), (fun _ _ _ _ _ hf => nomatch (show (none : Option (Int32 × St)) = some r from hf))⟩
    | succ n ih =>
      obtain ⟨ih0, ih1, ih2⟩ := ih
      refine ⟨?_, ?_, ?_⟩
      · intro v1 u H locs ls hf hP hD hS hl
        have hf := (eX5_nextChoice_0 n v1 u).symm.trans hf
        refine lv_aload_n hx hb dX5_nextChoice_0 rfl (lv_at hl 0 rfl) ?_
        refine va_get (D := (dC, dI)) (ci := 5) (v := .int (gI u 2)) (C := RX5) (T := TX5) (N := 36) hx hb hts iX5 hown hK hP 0 rfl rfl 6 (by decide) k_0 (fun _ h9 => h9) rfl dX5_nextChoice_1 ?_
        refine lv_iconst (v := 1) hx hb dX5_nextChoice_4 (by decide) ?_
        refine lv_isub hx hb dX5_nextChoice_5 ?_
        refine lv_istore_n (lv' := [(1, .int ((gI u 2) - (1 : Int32))), (0, .ref (ad 0))]) hx hb dX5_nextChoice_6 rfl hl (by decide) rfl (fun ls hl => ?_)
        exact ih1 ((gI u 2) - (1 : Int32)) u H locs ls hf hP hD hS (lv_sub hl [1, 0] rfl)
      · intro v1 u H locs ls hf hP hD hS hl
        have hf := (eX5_nextChoice_7 n v1 u).symm.trans hf
        refine lv_iload_n hx hb dX5_nextChoice_7 rfl (lv_at hl 1 rfl) ?_
        refine lv_if_lt (tgt := 66) hx hb dX5_nextChoice_8 (by decide) (fun c_1 => ?_) (fun c_1 => ?_)
        · have hf := (if_pos c_1).symm.trans hf
          refine lv_iconst (v := -1) hx hb dX5_nextChoice_66 (by decide) ?_
          have hf := Option.some.inj hf
          exact W.iret (v := (-1 : Int32)) hx hb hr (fun t ht hW => ⟨⟨(-1 : Int32), u, rfl, hf, ⟨by rw [ht]; exact hP, va_K.moved hW.alike hK, hD⟩⟩, hS.F ht⟩) hS.2.2 dX5_nextChoice_67
        · have hf := (if_neg c_1).symm.trans hf
          refine lv_aload_n hx hb dX5_nextChoice_11 rfl (lv_at hl 0 rfl) ?_
          refine va_get (D := (dC, dI)) (ci := 5) (v := .ref (ad 7)) (C := RX5) (T := TX5) (N := 36) hx hb hts iX5 hown hK hP 0 rfl rfl 9 (by decide) k_1 (fun _ h9 => h9) rfl dX5_nextChoice_12 ?_
          refine lv_iload_n hx hb dX5_nextChoice_15 rfl (lv_at hl 1 rfl) ?_
          obtain ⟨h_2, hf⟩ := ck_of hf
          refine va_iald (f := (gA u 6)) hx hb hK hP 7 0 rfl rfl h_2 dX5_nextChoice_16 ?_
          refine lv_bipush (v := -2) hx hb dX5_nextChoice_17 (by decide) ?_
          refine lv_icmp_ne (tgt := 49) hx hb dX5_nextChoice_19 (by decide) (fun c_3 => ?_) (fun c_3 => ?_)
          · have hf := (if_neg c_3).symm.trans hf
            exact ih2 v1 u H locs ls hf hP hD hS (lv_sub hl [0, 1] rfl)
          · have hf := (if_pos c_3).symm.trans hf
            refine lv_aload_n hx hb dX5_nextChoice_22 rfl (lv_at hl 0 rfl) ?_
            refine va_get (D := (dC, dI)) (ci := 5) (v := .ref (ad 15)) (C := RX5) (T := TX5) (N := 36) hx hb hts iX5 hown hK hP 0 rfl rfl 25 (by decide) k_2 (fun _ h9 => h9) rfl dX5_nextChoice_23 ?_
            refine lv_iload_n hx hb dX5_nextChoice_26 rfl (lv_at hl 1 rfl) ?_
            refine va_iald (f := (gA u 14)) hx hb hK hP 15 0 rfl rfl h_2 dX5_nextChoice_27 ?_
            refine lv_aload_n hx hb dX5_nextChoice_28 rfl (lv_at hl 0 rfl) ?_
            refine va_get (D := (dC, dI)) (ci := 5) (v := .int (gI u 1)) (C := RX5) (T := TX5) (N := 36) hx hb hts iX5 hown hK hP 0 rfl rfl 1 (by decide) k_3 (fun _ h9 => h9) rfl dX5_nextChoice_29 ?_
            refine lv_iconst (v := 1) hx hb dX5_nextChoice_32 (by decide) ?_
            refine lv_isub hx hb dX5_nextChoice_33 ?_
            refine lv_icmp_ge (tgt := 49) hx hb dX5_nextChoice_34 (by decide) (fun c_4 => ?_) (fun c_4 => ?_)
            · have hf := (if_pos c_4).symm.trans hf
              exact ih2 v1 u H locs ls hf hP hD hS (lv_sub hl [0, 1] rfl)
            · have hf := (if_neg c_4).symm.trans hf
              refine lv_aload_n hx hb dX5_nextChoice_37 rfl (lv_at hl 0 rfl) ?_
              refine va_get (D := (dC, dI)) (ci := 5) (v := .ref (ad 15)) (C := RX5) (T := TX5) (N := 36) hx hb hts iX5 hown hK hP 0 rfl rfl 25 (by decide) k_2 (fun _ h9 => h9) rfl dX5_nextChoice_38 ?_
              refine lv_iload_n hx hb dX5_nextChoice_41 rfl (lv_at hl 1 rfl) ?_
              refine lv_dup2_11 hx hb dX5_nextChoice_42 rfl rfl ?_
              refine va_iald (f := (gA u 14)) hx hb hK hP 15 0 rfl rfl h_2 dX5_nextChoice_43 ?_
              refine lv_iconst (v := 1) hx hb dX5_nextChoice_44 (by decide) ?_
              refine lv_iadd hx hb dX5_nextChoice_45 ?_
              refine va_iast (f := (gA u 14)) hx hb hK hP hD hS 15 0 rfl rfl h_2 dX5_nextChoice_46 (fun H locs hP hD hS => ?_)
              have hP : va_P (dC, dI) vwCl (mw ad cI cL (sA u 14 (upd (gA u 14) v1.toNatClampNeg (((gA u 14) v1.toNatClampNeg) + (1 : Int32))))) H := hP
              have hD : va_D A (mw ad cI cL (sA u 14 (upd (gA u 14) v1.toNatClampNeg (((gA u 14) v1.toNatClampNeg) + (1 : Int32))))) := hD
              refine lv_iload_n hx hb dX5_nextChoice_47 rfl (lv_at hl 1 rfl) ?_
              have hf := Option.some.inj hf
              exact W.iret (v := v1) hx hb hr (fun t ht hW => ⟨⟨v1, (sA u 14 (upd (gA u 14) v1.toNatClampNeg (((gA u 14) v1.toNatClampNeg) + (1 : Int32)))), rfl, hf, ⟨by rw [ht]; exact hP, va_K.moved hW.alike hK, hD⟩⟩, hS.F ht⟩) hS.2.2 dX5_nextChoice_48
      · intro v1 u H locs ls hf hP hD hS hl
        have hf := (eX5_nextChoice_49 n v1 u).symm.trans hf
        refine lv_aload_n hx hb dX5_nextChoice_49 rfl (lv_at hl 0 rfl) ?_
        refine va_get (D := (dC, dI)) (ci := 5) (v := .ref (ad 15)) (C := RX5) (T := TX5) (N := 36) hx hb hts iX5 hown hK hP 0 rfl rfl 25 (by decide) k_2 (fun _ h9 => h9) rfl dX5_nextChoice_50 ?_
        refine lv_iload_n hx hb dX5_nextChoice_53 rfl (lv_at hl 1 rfl) ?_
        refine lv_aload_n hx hb dX5_nextChoice_54 rfl (lv_at hl 0 rfl) ?_
        refine lv_iload_n hx hb dX5_nextChoice_55 rfl (lv_at hl 1 rfl) ?_
        obtain ⟨w_5, hw_5, hf⟩ := ob hf
        have hFc := freeAll hD hS hA
        refine va_calli (va_runV (As := [.int v1]) (rest := [.int v1, .ref (ad 15)]) ⟨hx, hb, hml, hown, hts⟩ (mX5_firstOf l dC dI cI cL ad H.size u v1 n w_5 hw_5) (cwV 1 hts gX5_nextChoice_X5_firstOf rfl rfl rfl (by decide +kernel) ⟨Nat.le_of_ble_eq_true rfl, Nat.le_of_ble_eq_true rfl⟩) ⟨wPre_blind, va_recv hK hP (ci := 5) (q0 := 0) rfl rfl, wPre_of hP hK hD hZ⟩ rfl rfl hl.1 rfl (lv_room (Nat.le_of_ble_eq_true rfl)) dX5_nextChoice_56 ⟨Nat.zero_le _, Nat.zero_le _⟩) hS (fun q _ h => hFc q h) hFc (fun r2 u2 t H1 locs ht hvm hw hB hz1 hk1 hS => ?_)
        obtain ⟨hP1, hK1, hD1⟩ := hB
        rw [ht] at hP1
        have e1 : r2 = w_5.1 := congrArg Prod.fst hw
        have e2 : u2 = w_5.2 := congrArg Prod.snd hw
        subst r2 u2
        have hP : va_P (dC, dI) vwCl (mw ad cI cL w_5.2) H1 := hP1
        have hD : va_D A (mw ad cI cL w_5.2) := hD1.weaken (fun _ _ _ h => hFc _ h)
        clear hP1 hD1 hK1 hFc hk1
        generalize H1 = H at hP hS ⊢
        obtain ⟨h_6, hf⟩ := ck_of hf
        refine va_iast (f := (gA w_5.2 14)) hx hb hK hP hD hS 15 0 rfl rfl h_6 dX5_nextChoice_59 (fun H locs hP hD hS => ?_)
        have hP : va_P (dC, dI) vwCl (mw ad cI cL (sA w_5.2 14 (upd (gA w_5.2 14) v1.toNatClampNeg w_5.1))) H := hP
        have hD : va_D A (mw ad cI cL (sA w_5.2 14 (upd (gA w_5.2 14) v1.toNatClampNeg w_5.1))) := hD
        refine lv_iinc (v := (v1 + (-1))) (lv' := [(1, .int (v1 + (-1))), (0, .ref (ad 0))]) hx hb dX5_nextChoice_60 hl (k := 1) rfl rfl (by decide) rfl (fun ls hl => ?_)
        refine lv_goto (tgt := 7) hx hb dX5_nextChoice_63 (by decide) ?_
        exact ih1 (v1 + (-1)) (sA w_5.2 14 (upd (gA w_5.2 14) v1.toNatClampNeg w_5.1)) H locs ls hf hP hD hS (lv_sub hl [1, 0] rfl)
  exact (key n).1 0 u _ _ ls hf0 hP hD hS (lv_sub hl [0] rfl)

def fX5_look (n pc : Nat) (v1 : Int32) (w2 : Int64) (w4 : Int64) (v6 : Int32) (v7 : Int32) (u : St) : Option (St) := match n with
  | 0 => none
  | n + 1 => match pc with
    | 0 => (if ck (gI u 2) 8 = true then (if (gI u 7) = 0 then fX5_look n 34 ((gA u 16) (gI u 2).toNatClampNeg) (0 : Int64) (0 : Int64) (0 : Int32) 0 u else (if ((gA u 16) (gI u 2).toNatClampNeg) ≤ (gI u 8) then fX5_look n 34 ((gA u 16) (gI u 2).toNatClampNeg) (0 : Int64) (0 : Int64) (0 : Int32) 0 u else some u)) else none)
    | 34 => (if (gI u 3) ≤ v6 then (if w4 = (0 : Int64) then (if (gI u 7) = 0 then fX5_look n 163 v1 (w2 * (gI u 3).toInt64) (1 : Int64) 0 0 u else (if v1 < (gI u 8) then fX5_look n 163 v1 (w2 * (gI u 3).toInt64) (1 : Int64) 0 0 u else (if ((w2 * (gI u 3).toInt64) * (gJ u 1)) ≤ ((gJ u 0) * (1 : Int64)) then some u else fX5_look n 163 v1 (w2 * (gI u 3).toInt64) (1 : Int64) 0 0 u))) else (if (gI u 7) = 0 then fX5_look n 163 v1 (w2 * (gI u 3).toInt64) w4 0 0 u else (if v1 < (gI u 8) then fX5_look n 163 v1 (w2 * (gI u 3).toInt64) w4 0 0 u else (if ((w2 * (gI u 3).toInt64) * (gJ u 1)) ≤ ((gJ u 0) * w4) then some u else fX5_look n 163 v1 (w2 * (gI u 3).toInt64) w4 0 0 u)))) else (if ck (((16 : Int32) * (gI u 2)) + v6) 128 = true then (if ck v6 16 = true then (if ((gA u 10) v6.toNatClampNeg) ≤ ((gA u 15) (((16 : Int32) * (gI u 2)) + v6).toNatClampNeg) then (if v6 = 0 then fX5_look n 86 v1 0 w4 v6 ((gA u 15) (((16 : Int32) * (gI u 2)) + v6).toNatClampNeg) u else (if w2 ≤ ((gA u 15) (((16 : Int32) * (gI u 2)) + v6).toNatClampNeg).toInt64 then fX5_look n 34 v1 w2 (w4 + ((gA u 15) (((16 : Int32) * (gI u 2)) + v6).toNatClampNeg).toInt64) (v6 + 1) 0 u else fX5_look n 86 v1 0 w4 v6 ((gA u 15) (((16 : Int32) * (gI u 2)) + v6).toNatClampNeg) u)) else some u) else none) else none))
    | 86 => fX5_look n 34 v1 v7.toInt64 (w4 + v7.toInt64) (v6 + 1) 0 u
    | 163 => fX5_look n 187 0 0 0 (0 : Int32) 0 (sJ (sJ (sI (sI u 7 (1 : Int32)) 8 v1) 0 w2) 1 w4)
    | 187 => (if (gI u 2) ≤ v6 then some u else (if ck v6 7 = true then fX5_look n 187 0 0 0 (v6 + 1) 0 (sA u 13 (upd (gA u 13) v6.toNatClampNeg ((gA u 14) v6.toNatClampNeg))) else none))
    | _ => none
theorem eX5_look_0 (n : Nat) (v1 : Int32) (w2 : Int64) (w4 : Int64) (v6 : Int32) (v7 : Int32) (u : St) : fX5_look (n + 1) 0 v1 w2 w4 v6 v7 u = (if ck (gI u 2) 8 = true then (if (gI u 7) = 0 then fX5_look n 34 ((gA u 16) (gI u 2).toNatClampNeg) (0 : Int64) (0 : Int64) (0 : Int32) 0 u else (if ((gA u 16) (gI u 2).toNatClampNeg) ≤ (gI u 8) then fX5_look n 34 ((gA u 16) (gI u 2).toNatClampNeg) (0 : Int64) (0 : Int64) (0 : Int32) 0 u else some u)) else none) := rfl
theorem eX5_look_34 (n : Nat) (v1 : Int32) (w2 : Int64) (w4 : Int64) (v6 : Int32) (v7 : Int32) (u : St) : fX5_look (n + 1) 34 v1 w2 w4 v6 v7 u = (if (gI u 3) ≤ v6 then (if w4 = (0 : Int64) then (if (gI u 7) = 0 then fX5_look n 163 v1 (w2 * (gI u 3).toInt64) (1 : Int64) 0 0 u else (if v1 < (gI u 8) then fX5_look n 163 v1 (w2 * (gI u 3).toInt64) (1 : Int64) 0 0 u else (if ((w2 * (gI u 3).toInt64) * (gJ u 1)) ≤ ((gJ u 0) * (1 : Int64)) then some u else fX5_look n 163 v1 (w2 * (gI u 3).toInt64) (1 : Int64) 0 0 u))) else (if (gI u 7) = 0 then fX5_look n 163 v1 (w2 * (gI u 3).toInt64) w4 0 0 u else (if v1 < (gI u 8) then fX5_look n 163 v1 (w2 * (gI u 3).toInt64) w4 0 0 u else (if ((w2 * (gI u 3).toInt64) * (gJ u 1)) ≤ ((gJ u 0) * w4) then some u else fX5_look n 163 v1 (w2 * (gI u 3).toInt64) w4 0 0 u)))) else (if ck (((16 : Int32) * (gI u 2)) + v6) 128 = true then (if ck v6 16 = true then (if ((gA u 10) v6.toNatClampNeg) ≤ ((gA u 15) (((16 : Int32) * (gI u 2)) + v6).toNatClampNeg) then (if v6 = 0 then fX5_look n 86 v1 0 w4 v6 ((gA u 15) (((16 : Int32) * (gI u 2)) + v6).toNatClampNeg) u else (if w2 ≤ ((gA u 15) (((16 : Int32) * (gI u 2)) + v6).toNatClampNeg).toInt64 then fX5_look n 34 v1 w2 (w4 + ((gA u 15) (((16 : Int32) * (gI u 2)) + v6).toNatClampNeg).toInt64) (v6 + 1) 0 u else fX5_look n 86 v1 0 w4 v6 ((gA u 15) (((16 : Int32) * (gI u 2)) + v6).toNatClampNeg) u)) else some u) else none) else none)) := rfl
theorem eX5_look_86 (n : Nat) (v1 : Int32) (w2 : Int64) (w4 : Int64) (v6 : Int32) (v7 : Int32) (u : St) : fX5_look (n + 1) 86 v1 w2 w4 v6 v7 u = fX5_look n 34 v1 v7.toInt64 (w4 + v7.toInt64) (v6 + 1) 0 u := rfl
theorem eX5_look_163 (n : Nat) (v1 : Int32) (w2 : Int64) (w4 : Int64) (v6 : Int32) (v7 : Int32) (u : St) : fX5_look (n + 1) 163 v1 w2 w4 v6 v7 u = fX5_look n 187 0 0 0 (0 : Int32) 0 (sJ (sJ (sI (sI u 7 (1 : Int32)) 8 v1) 0 w2) 1 w4) := rfl
theorem eX5_look_187 (n : Nat) (v1 : Int32) (w2 : Int64) (w4 : Int64) (v6 : Int32) (v7 : Int32) (u : St) : fX5_look (n + 1) 187 v1 w2 w4 v6 v7 u = (if (gI u 2) ≤ v6 then some u else (if ck v6 7 = true then fX5_look n 187 0 0 0 (v6 + 1) 0 (sA u 13 (upd (gA u 13) v6.toNatClampNeg ((gA u 14) v6.toNatClampNeg))) else none)) := rfl
theorem vX5_look_0 (v1 : Int32) (w2 : Int64) (w4 : Int64) (v6 : Int32) (v7 : Int32) (u : St) (r : St) : Ev (fun n => fX5_look n 0 v1 w2 w4 v6 v7 u) r ↔ Ev (fun n => (if ck (gI u 2) 8 = true then (if (gI u 7) = 0 then fX5_look n 34 ((gA u 16) (gI u 2).toNatClampNeg) (0 : Int64) (0 : Int64) (0 : Int32) 0 u else (if ((gA u 16) (gI u 2).toNatClampNeg) ≤ (gI u 8) then fX5_look n 34 ((gA u 16) (gI u 2).toNatClampNeg) (0 : Int64) (0 : Int64) (0 : Int32) 0 u else some u)) else none)) r := Ev_succ (fun n => fX5_look n 0 v1 w2 w4 v6 v7 u) r
theorem vX5_look_34 (v1 : Int32) (w2 : Int64) (w4 : Int64) (v6 : Int32) (v7 : Int32) (u : St) (r : St) : Ev (fun n => fX5_look n 34 v1 w2 w4 v6 v7 u) r ↔ Ev (fun n => (if (gI u 3) ≤ v6 then (if w4 = (0 : Int64) then (if (gI u 7) = 0 then fX5_look n 163 v1 (w2 * (gI u 3).toInt64) (1 : Int64) 0 0 u else (if v1 < (gI u 8) then fX5_look n 163 v1 (w2 * (gI u 3).toInt64) (1 : Int64) 0 0 u else (if ((w2 * (gI u 3).toInt64) * (gJ u 1)) ≤ ((gJ u 0) * (1 : Int64)) then some u else fX5_look n 163 v1 (w2 * (gI u 3).toInt64) (1 : Int64) 0 0 u))) else (if (gI u 7) = 0 then fX5_look n 163 v1 (w2 * (gI u 3).toInt64) w4 0 0 u else (if v1 < (gI u 8) then fX5_look n 163 v1 (w2 * (gI u 3).toInt64) w4 0 0 u else (if ((w2 * (gI u 3).toInt64) * (gJ u 1)) ≤ ((gJ u 0) * w4) then some u else fX5_look n 163 v1 (w2 * (gI u 3).toInt64) w4 0 0 u)))) else (if ck (((16 : Int32) * (gI u 2)) + v6) 128 = true then (if ck v6 16 = true then (if ((gA u 10) v6.toNatClampNeg) ≤ ((gA u 15) (((16 : Int32) * (gI u 2)) + v6).toNatClampNeg) then (if v6 = 0 then fX5_look n 86 v1 0 w4 v6 ((gA u 15) (((16 : Int32) * (gI u 2)) + v6).toNatClampNeg) u else (if w2 ≤ ((gA u 15) (((16 : Int32) * (gI u 2)) + v6).toNatClampNeg).toInt64 then fX5_look n 34 v1 w2 (w4 + ((gA u 15) (((16 : Int32) * (gI u 2)) + v6).toNatClampNeg).toInt64) (v6 + 1) 0 u else fX5_look n 86 v1 0 w4 v6 ((gA u 15) (((16 : Int32) * (gI u 2)) + v6).toNatClampNeg) u)) else some u) else none) else none))) r := Ev_succ (fun n => fX5_look n 34 v1 w2 w4 v6 v7 u) r
theorem vX5_look_86 (v1 : Int32) (w2 : Int64) (w4 : Int64) (v6 : Int32) (v7 : Int32) (u : St) (r : St) : Ev (fun n => fX5_look n 86 v1 w2 w4 v6 v7 u) r ↔ Ev (fun n => fX5_look n 34 v1 v7.toInt64 (w4 + v7.toInt64) (v6 + 1) 0 u) r := Ev_succ (fun n => fX5_look n 86 v1 w2 w4 v6 v7 u) r
theorem vX5_look_163 (v1 : Int32) (w2 : Int64) (w4 : Int64) (v6 : Int32) (v7 : Int32) (u : St) (r : St) : Ev (fun n => fX5_look n 163 v1 w2 w4 v6 v7 u) r ↔ Ev (fun n => fX5_look n 187 0 0 0 (0 : Int32) 0 (sJ (sJ (sI (sI u 7 (1 : Int32)) 8 v1) 0 w2) 1 w4)) r := Ev_succ (fun n => fX5_look n 163 v1 w2 w4 v6 v7 u) r
theorem vX5_look_187 (v1 : Int32) (w2 : Int64) (w4 : Int64) (v6 : Int32) (v7 : Int32) (u : St) (r : St) : Ev (fun n => fX5_look n 187 v1 w2 w4 v6 v7 u) r ↔ Ev (fun n => (if (gI u 2) ≤ v6 then some u else (if ck v6 7 = true then fX5_look n 187 0 0 0 (v6 + 1) 0 (sA u 13 (upd (gA u 13) v6.toNatClampNeg ((gA u 14) v6.toNatClampNeg))) else none))) r := Ev_succ (fun n => fX5_look n 187 v1 w2 w4 v6 v7 u) r
def FX5_look (n : Nat) (u : St) : Option (St) := fX5_look n 0 0 0 0 0 0 u
set_option maxHeartbeats 4000000 in
set_option maxRecDepth 100000 in
theorem mX5_look (l : Launch) (dC : Nat → ClassId) (dI : Nat → Nat → Nat) (cI cL : ClassId) (ad : Nat → Nat) (sz : Nat) (u : St) (n : Nat) (r : St) (hf0 : FX5_look n  u = some r) : Met l yX5_look wsX5_look ({ frames := 0, cells := 0, slots := 0, locals := 0 }) (va_Pc [.ref (ad 0)] (wPre dC dI cI cL (mw ad cI cL u) sz)) (va_Qv (fun t => t = r) (fun t => wPost dC dI cI cL (va_A (mw ad cI cL u) sz) (mw ad cI cL t)) (va_A (mw ad cI cL u) sz)) 0 0 (va_A (mw ad cI cL u) sz) := by
  refine Met.ofW (cc := cX5_look) (maxL := 8) (ret := none) (by decide) rfl ?_
  intro p e s m args below meth c s₁ B hml hv
  obtain ⟨rfl, hsz, hP, hK, hD0, hZ⟩ := hv
  have hx := B.exec
  have hb := B.bytes
  have hr := B.returns
  have hts := atoms_spec (ws := wsX5_look) B.pre
  have hown : s.vm.findClass RX5 = some m.cls := findClass_of_methodNamed B.named
  have hlocks := B.notSynchronized
  subst hsz
  have hD := hD0.self (sz := s.heap.size)
  generalize hAe : va_A (mw ad cI cL u) s.heap.size = A at hD ⊢
  have hA : ∀ q : Nat, s.heap.size ≤ q → A q := fun q h => by rw [← hAe]; exact Or.inr h
  have hS : va_S A s.heap s.heap [] := va_S.rf
  have iX5 : ∀ w ∈ u_ws RX5 TX5 36, w ∈ wsX5_look := fun _ h => List.mem_cons_of_mem _ (List.mem_append_right _ h)
  have k_0 := hts (.fieldLink RX5 65 "LampChoiceModel" "wattsBefore" "[I") (by decide +kernel)
  have k_1 := hts (.fieldLink RX5 90 "LampChoiceModel" "places" "I") (by decide +kernel)
  have k_2 := hts (.fieldLink RX5 122 "LampChoiceModel" "found" "Z") (by decide +kernel)
  have k_3 := hts (.fieldLink RX5 125 "LampChoiceModel" "bestWatts" "I") (by decide +kernel)
  have k_4 := hts (.fieldLink RX5 93 "LampChoiceModel" "points" "I") (by decide +kernel)
  have k_5 := hts (.fieldLink RX5 128 "LampChoiceModel" "bestSum" "J") (by decide +kernel)
  have k_6 := hts (.fieldLink RX5 132 "LampChoiceModel" "bestLeast" "J") (by decide +kernel)
  have k_7 := hts (.fieldLink RX5 62 "LampChoiceModel" "sums" "[I") (by decide +kernel)
  have k_8 := hts (.fieldLink RX5 40 "LampChoiceModel" "wanted" "[I") (by decide +kernel)
  have k_9 := hts (.fieldLink RX5 56 "LampChoiceModel" "best" "[I") (by decide +kernel)
  have k_10 := hts (.fieldLink RX5 59 "LampChoiceModel" "choice" "[I") (by decide +kernel)
  have hl := lv_entry ([.ref (ad 0)]) (n := 8) (Nat.le_of_ble_eq_true rfl)
  rw [lg_entry_eq]
  generalize (lg_sl ([.ref (ad 0)]) ++ List.replicate (8 - (lg_sl ([.ref (ad 0)])).length) Slot.unset).toArray = ls at hl ⊢
  have hl : lv_has ls 8 [(0, .ref (ad 0))] := hl
  have key : ∀ n : Nat, (∀ (v1 : Int32) (w2 : Int64) (w4 : Int64) (v6 : Int32) (v7 : Int32) (u : St) (H : Heap) (locs : List Loc) (ls : Array Slot), fX5_look n 0 v1 w2 w4 v6 v7 u = some r → va_P (dC, dI) vwCl (mw ad cI cL u) H → va_D A (mw ad cI cL u) → va_S A s.heap H locs → lv_has ls 8 [(0, .ref (ad 0))] → W p l e (headSpec wsX5_look ({ frames := 0, cells := 0, slots := 0, locals := 0 })).room s m ([.ref (ad 0)] : List Value).toArray below meth c H locs 0 0 (MQ below (va_Qv (fun t => t = r) (fun t => wPost dC dI cI cL A (mw ad cI cL t)) A) ([.ref (ad 0)] : List Value).toArray s 0 0 A) (F0 m 0 ls [])) ∧ (∀ (v1 : Int32) (w2 : Int64) (w4 : Int64) (v6 : Int32) (v7 : Int32) (u : St) (H : Heap) (locs : List Loc) (ls : Array Slot), fX5_look n 34 v1 w2 w4 v6 v7 u = some r → va_P (dC, dI) vwCl (mw ad cI cL u) H → va_D A (mw ad cI cL u) → va_S A s.heap H locs → lv_has ls 8 [(0, .ref (ad 0)), (1, .int v1), (2, .long w2), (4, .long w4), (6, .int v6)] → W p l e (headSpec wsX5_look ({ frames := 0, cells := 0, slots := 0, locals := 0 })).room s m ([.ref (ad 0)] : List Value).toArray below meth c H locs 0 0 (MQ below (va_Qv (fun t => t = r) (fun t => wPost dC dI cI cL A (mw ad cI cL t)) A) ([.ref (ad 0)] : List Value).toArray s 0 0 A) (F0 m 34 ls [])) ∧ (∀ (v1 : Int32) (w2 : Int64) (w4 : Int64) (v6 : Int32) (v7 : Int32) (u : St) (H : Heap) (locs : List Loc) (ls : Array Slot), fX5_look n 86 v1 w2 w4 v6 v7 u = some r → va_P (dC, dI) vwCl (mw ad cI cL u) H → va_D A (mw ad cI cL u) → va_S A s.heap H locs → lv_has ls 8 [(0, .ref (ad 0)), (1, .int v1), (4, .long w4), (6, .int v6), (7, .int v7)] → W p l e (headSpec wsX5_look ({ frames := 0, cells := 0, slots := 0, locals := 0 })).room s m ([.ref (ad 0)] : List Value).toArray below meth c H locs 0 0 (MQ below (va_Qv (fun t => t = r) (fun t => wPost dC dI cI cL A (mw ad cI cL t)) A) ([.ref (ad 0)] : List Value).toArray s 0 0 A) (F0 m 86 ls [])) ∧ (∀ (v1 : Int32) (w2 : Int64) (w4 : Int64) (v6 : Int32) (v7 : Int32) (u : St) (H : Heap) (locs : List Loc) (ls : Array Slot), fX5_look n 163 v1 w2 w4 v6 v7 u = some r → va_P (dC, dI) vwCl (mw ad cI cL u) H → va_D A (mw ad cI cL u) → va_S A s.heap H locs → lv_has ls 8 [(0, .ref (ad 0)), (1, .int v1), (2, .long w2), (4, .long w4)] → W p l e (headSpec wsX5_look ({ frames := 0, cells := 0, slots := 0, locals := 0 })).room s m ([.ref (ad 0)] : List Value).toArray below meth c H locs 0 0 (MQ below (va_Qv (fun t => t = r) (fun t => wPost dC dI cI cL A (mw ad cI cL t)) A) ([.ref (ad 0)] : List Value).toArray s 0 0 A) (F0 m 163 ls [])) ∧ (∀ (v1 : Int32) (w2 : Int64) (w4 : Int64) (v6 : Int32) (v7 : Int32) (u : St) (H : Heap) (locs : List Loc) (ls : Array Slot), fX5_look n 187 v1 w2 w4 v6 v7 u = some r → va_P (dC, dI) vwCl (mw ad cI cL u) H → va_D A (mw ad cI cL u) → va_S A s.heap H locs → lv_has ls 8 [(0, .ref (ad 0)), (6, .int v6)] → W p l e (headSpec wsX5_look ({ frames := 0, cells := 0, slots := 0, locals := 0 })).room s m ([.ref (ad 0)] : List Value).toArray below meth c H locs 0 0 (MQ below (va_Qv (fun t => t = r) (fun t => wPost dC dI cI cL A (mw ad cI cL t)) A) ([.ref (ad 0)] : List Value).toArray s 0 0 A) (F0 m 187 ls [])) := by
    intro n
    induction n with
    | zero => exact ⟨(fun _ _ _ _ _ _ _ _ _ hf => nomatch (show (none : Option (St)) = some r from hf)), (fun _ _ _ _ _ _ _ _ _ hf => nomatch (show (none : Option (St)) = some r from hf)), (fun _ _ _ _ _ _ _ _ _ hf => nomatch (show (none : Option (St)) = some r from hf)), (fun _ _ _ _ _ _ _ _ _ hf => nomatch (show (none : Option (St)) = some r from hf)), (fun _ _ _ _ _ _ _ _ _ hf => nomatch (show (none : Option (St)) = some r from hf))⟩
    | succ n ih =>
      obtain ⟨ih0, ih1, ih2, ih3, ih4⟩ := ih
      refine ⟨?_, ?_, ?_, ?_, ?_⟩
      · intro v1 w2 w4 v6 v7 u H locs ls hf hP hD hS hl
        have hf := (eX5_look_0 n v1 w2 w4 v6 v7 u).symm.trans hf
        refine lv_aload_n hx hb dX5_look_0 rfl (lv_at hl 0 rfl) ?_
        refine va_get (D := (dC, dI)) (ci := 5) (v := .ref (ad 17)) (C := RX5) (T := TX5) (N := 36) hx hb hts iX5 hown hK hP 0 rfl rfl 27 (by decide) k_0 (fun _ h9 => h9) rfl dX5_look_1 ?_
        refine lv_aload_n hx hb dX5_look_4 rfl (lv_at hl 0 rfl) ?_
        refine va_get (D := (dC, dI)) (ci := 5) (v := .int (gI u 2)) (C := RX5) (T := TX5) (N := 36) hx hb hts iX5 hown hK hP 0 rfl rfl 6 (by decide) k_1 (fun _ h9 => h9) rfl dX5_look_5 ?_
        obtain ⟨h_1, hf⟩ := ck_of hf
        refine va_iald (f := (gA u 16)) hx hb hK hP 17 0 rfl rfl h_1 dX5_look_8 ?_
        refine lv_istore_n (lv' := [(1, .int ((gA u 16) (gI u 2).toNatClampNeg)), (0, .ref (ad 0))]) hx hb dX5_look_9 rfl hl (by decide) rfl (fun ls hl => ?_)
        refine lv_aload_n hx hb dX5_look_10 rfl (lv_at hl 1 rfl) ?_
        refine va_get (D := (dC, dI)) (ci := 5) (v := .int (gI u 7)) (C := RX5) (T := TX5) (N := 36) hx hb hts iX5 hown hK hP 0 rfl rfl 20 (by decide) k_2 (fun _ h9 => h9) rfl dX5_look_11 ?_
        refine lv_if_eq (tgt := 26) hx hb dX5_look_14 (by decide) (fun c_2 => ?_) (fun c_2 => ?_)
        · have hf := (if_pos c_2).symm.trans hf
          refine lv_lconst (v := 0) hx hb dX5_look_26 (by decide) ?_
          refine lv_lstore_n (lv' := [(2, .long (0 : Int64)), (1, .int ((gA u 16) (gI u 2).toNatClampNeg)), (0, .ref (ad 0))]) hx hb dX5_look_27 rfl hl (by decide) rfl (fun ls hl => ?_)
          refine lv_lconst (v := 0) hx hb dX5_look_28 (by decide) ?_
          refine lv_lstore (lv' := [(4, .long (0 : Int64)), (2, .long (0 : Int64)), (1, .int ((gA u 16) (gI u 2).toNatClampNeg)), (0, .ref (ad 0))]) hx hb dX5_look_29 hl (by decide) rfl (fun ls hl => ?_)
          refine lv_iconst (v := 0) hx hb dX5_look_31 (by decide) ?_
          refine lv_istore (lv' := [(6, .int (0 : Int32)), (4, .long (0 : Int64)), (2, .long (0 : Int64)), (1, .int ((gA u 16) (gI u 2).toNatClampNeg)), (0, .ref (ad 0))]) hx hb dX5_look_32 hl (by decide) rfl (fun ls hl => ?_)
          exact ih1 ((gA u 16) (gI u 2).toNatClampNeg) (0 : Int64) (0 : Int64) (0 : Int32) 0 u H locs ls hf hP hD hS (lv_sub hl [4, 3, 2, 1, 0] rfl)
        · have hf := (if_neg c_2).symm.trans hf
          refine lv_iload_n hx hb dX5_look_17 rfl (lv_at hl 0 rfl) ?_
          refine lv_aload_n hx hb dX5_look_18 rfl (lv_at hl 1 rfl) ?_
          refine va_get (D := (dC, dI)) (ci := 5) (v := .int (gI u 8)) (C := RX5) (T := TX5) (N := 36) hx hb hts iX5 hown hK hP 0 rfl rfl 22 (by decide) k_3 (fun _ h9 => h9) rfl dX5_look_19 ?_
          refine lv_icmp_le (tgt := 26) hx hb dX5_look_22 (by decide) (fun c_3 => ?_) (fun c_3 => ?_)
          · have hf := (if_pos c_3).symm.trans hf
            refine lv_lconst (v := 0) hx hb dX5_look_26 (by decide) ?_
            refine lv_lstore_n (lv' := [(2, .long (0 : Int64)), (1, .int ((gA u 16) (gI u 2).toNatClampNeg)), (0, .ref (ad 0))]) hx hb dX5_look_27 rfl hl (by decide) rfl (fun ls hl => ?_)
            refine lv_lconst (v := 0) hx hb dX5_look_28 (by decide) ?_
            refine lv_lstore (lv' := [(4, .long (0 : Int64)), (2, .long (0 : Int64)), (1, .int ((gA u 16) (gI u 2).toNatClampNeg)), (0, .ref (ad 0))]) hx hb dX5_look_29 hl (by decide) rfl (fun ls hl => ?_)
            refine lv_iconst (v := 0) hx hb dX5_look_31 (by decide) ?_
            refine lv_istore (lv' := [(6, .int (0 : Int32)), (4, .long (0 : Int64)), (2, .long (0 : Int64)), (1, .int ((gA u 16) (gI u 2).toNatClampNeg)), (0, .ref (ad 0))]) hx hb dX5_look_32 hl (by decide) rfl (fun ls hl => ?_)
            exact ih1 ((gA u 16) (gI u 2).toNatClampNeg) (0 : Int64) (0 : Int64) (0 : Int32) 0 u H locs ls hf hP hD hS (lv_sub hl [4, 3, 2, 1, 0] rfl)
          · have hf := (if_neg c_3).symm.trans hf
            have hf := Option.some.inj hf
            exact W.vret hx hb hr (fun t ht hW => ⟨⟨u, rfl, hf, ⟨by rw [ht]; exact hP, va_K.moved hW.alike hK, hD⟩⟩, hS.F ht⟩) hS.2.2 dX5_look_25
      · intro v1 w2 w4 v6 v7 u H locs ls hf hP hD hS hl
        have hf := (eX5_look_34 n v1 w2 w4 v6 v7 u).symm.trans hf
        refine lv_iload hx hb dX5_look_34 (lv_at hl 4 rfl) ?_
        refine lv_aload_n hx hb dX5_look_36 rfl (lv_at hl 0 rfl) ?_
        refine va_get (D := (dC, dI)) (ci := 5) (v := .int (gI u 3)) (C := RX5) (T := TX5) (N := 36) hx hb hts iX5 hown hK hP 0 rfl rfl 11 (by decide) k_4 (fun _ h9 => h9) rfl dX5_look_37 ?_
        refine lv_icmp_ge (tgt := 108) hx hb dX5_look_40 (by decide) (fun c_4 => ?_) (fun c_4 => ?_)
        · have hf := (if_pos c_4).symm.trans hf
          refine lv_lload_n hx hb dX5_look_108 rfl (lv_at hl 2 rfl) ?_
          refine lv_aload_n hx hb dX5_look_109 rfl (lv_at hl 0 rfl) ?_
          refine va_get (D := (dC, dI)) (ci := 5) (v := .int (gI u 3)) (C := RX5) (T := TX5) (N := 36) hx hb hts iX5 hown hK hP 0 rfl rfl 11 (by decide) k_4 (fun _ h9 => h9) rfl dX5_look_110 ?_
          refine lv_i2l (v := (gI u 3).toInt64) hx hb dX5_look_113 rfl ?_
          refine lv_lmul hx hb dX5_look_114 ?_
          refine lv_lstore_n (lv' := [(2, .long (w2 * (gI u 3).toInt64)), (0, .ref (ad 0)), (1, .int v1), (4, .long w4), (6, .int v6)]) hx hb dX5_look_115 rfl hl (by decide) rfl (fun ls hl => ?_)
          refine lv_lload hx hb dX5_look_116 (lv_at hl 3 rfl) ?_
          refine lv_lconst (v := 0) hx hb dX5_look_118 (by decide) ?_
          refine W.lcmp hx hb dX5_look_119 ?_
          refine lv_if_ne (tgt := 127) hx hb dX5_look_120 (by decide) (fun c_5 => ?_) (fun c_5 => ?_)
          · have c_5 := fun q => c_5 ((lg_cmp_eq w4 (0 : Int64)).mpr q)
            have hf := (if_neg c_5).symm.trans hf
            refine lv_lload hx hb dX5_look_127 (lv_at hl 3 rfl) ?_
            refine lv_lstore (lv' := [(4, .long w4), (2, .long (w2 * (gI u 3).toInt64)), (0, .ref (ad 0)), (1, .int v1), (6, .int v6)]) hx hb dX5_look_129 hl (by decide) rfl (fun ls hl => ?_)
            refine lv_aload_n hx hb dX5_look_131 rfl (lv_at hl 2 rfl) ?_
            refine va_get (D := (dC, dI)) (ci := 5) (v := .int (gI u 7)) (C := RX5) (T := TX5) (N := 36) hx hb hts iX5 hown hK hP 0 rfl rfl 20 (by decide) k_2 (fun _ h9 => h9) rfl dX5_look_132 ?_
            refine lv_if_eq (tgt := 163) hx hb dX5_look_135 (by decide) (fun c_6 => ?_) (fun c_6 => ?_)
            · have hf := (if_pos c_6).symm.trans hf
              exact ih3 v1 (w2 * (gI u 3).toInt64) w4 0 0 u H locs ls hf hP hD hS (lv_sub hl [2, 3, 1, 0] rfl)
            · have hf := (if_neg c_6).symm.trans hf
              refine lv_iload_n hx hb dX5_look_138 rfl (lv_at hl 3 rfl) ?_
              refine lv_aload_n hx hb dX5_look_139 rfl (lv_at hl 2 rfl) ?_
              refine va_get (D := (dC, dI)) (ci := 5) (v := .int (gI u 8)) (C := RX5) (T := TX5) (N := 36) hx hb hts iX5 hown hK hP 0 rfl rfl 22 (by decide) k_3 (fun _ h9 => h9) rfl dX5_look_140 ?_
              refine lv_icmp_lt (tgt := 163) hx hb dX5_look_143 (by decide) (fun c_7 => ?_) (fun c_7 => ?_)
              · have hf := (if_pos c_7).symm.trans hf
                exact ih3 v1 (w2 * (gI u 3).toInt64) w4 0 0 u H locs ls hf hP hD hS (lv_sub hl [2, 3, 1, 0] rfl)
              · have hf := (if_neg c_7).symm.trans hf
                refine lv_lload_n hx hb dX5_look_146 rfl (lv_at hl 1 rfl) ?_
                refine lv_aload_n hx hb dX5_look_147 rfl (lv_at hl 2 rfl) ?_
                refine va_get (D := (dC, dI)) (ci := 5) (v := .long (gJ u 1)) (C := RX5) (T := TX5) (N := 36) hx hb hts iX5 hown hK hP 0 rfl rfl 24 (by decide) k_5 (fun _ h9 => h9) rfl dX5_look_148 ?_
                refine lv_lmul hx hb dX5_look_151 ?_
                refine lv_aload_n hx hb dX5_look_152 rfl (lv_at hl 2 rfl) ?_
                refine va_get (D := (dC, dI)) (ci := 5) (v := .long (gJ u 0)) (C := RX5) (T := TX5) (N := 36) hx hb hts iX5 hown hK hP 0 rfl rfl 23 (by decide) k_6 (fun _ h9 => h9) rfl dX5_look_153 ?_
                refine lv_lload hx hb dX5_look_156 (lv_at hl 0 rfl) ?_
                refine lv_lmul hx hb dX5_look_158 ?_
                refine W.lcmp hx hb dX5_look_159 ?_
                refine lv_if_le (tgt := 216) hx hb dX5_look_160 (by decide) (fun c_8 => ?_) (fun c_8 => ?_)
                · have c_8 := (lg_cmp_le ((w2 * (gI u 3).toInt64) * (gJ u 1)) ((gJ u 0) * w4)).mp c_8
                  have hf := (if_pos c_8).symm.trans hf
                  have hf := Option.some.inj hf
                  exact W.vret hx hb hr (fun t ht hW => ⟨⟨u, rfl, hf, ⟨by rw [ht]; exact hP, va_K.moved hW.alike hK, hD⟩⟩, hS.F ht⟩) hS.2.2 dX5_look_216
                · have c_8 := fun q => c_8 ((lg_cmp_le ((w2 * (gI u 3).toInt64) * (gJ u 1)) ((gJ u 0) * w4)).mpr q)
                  have hf := (if_neg c_8).symm.trans hf
                  exact ih3 v1 (w2 * (gI u 3).toInt64) w4 0 0 u H locs ls hf hP hD hS (lv_sub hl [2, 3, 1, 0] rfl)
          · have c_5 := (lg_cmp_eq w4 (0 : Int64)).mp c_5
            have hf := (if_pos c_5).symm.trans hf
            refine lv_lconst (v := 1) hx hb dX5_look_123 (by decide) ?_
            refine lv_goto (tgt := 129) hx hb dX5_look_124 (by decide) ?_
            refine lv_lstore (lv' := [(4, .long (1 : Int64)), (2, .long (w2 * (gI u 3).toInt64)), (0, .ref (ad 0)), (1, .int v1), (6, .int v6)]) hx hb dX5_look_129 hl (by decide) rfl (fun ls hl => ?_)
            refine lv_aload_n hx hb dX5_look_131 rfl (lv_at hl 2 rfl) ?_
            refine va_get (D := (dC, dI)) (ci := 5) (v := .int (gI u 7)) (C := RX5) (T := TX5) (N := 36) hx hb hts iX5 hown hK hP 0 rfl rfl 20 (by decide) k_2 (fun _ h9 => h9) rfl dX5_look_132 ?_
            refine lv_if_eq (tgt := 163) hx hb dX5_look_135 (by decide) (fun c_9 => ?_) (fun c_9 => ?_)
            · have hf := (if_pos c_9).symm.trans hf
              exact ih3 v1 (w2 * (gI u 3).toInt64) (1 : Int64) 0 0 u H locs ls hf hP hD hS (lv_sub hl [2, 3, 1, 0] rfl)
            · have hf := (if_neg c_9).symm.trans hf
              refine lv_iload_n hx hb dX5_look_138 rfl (lv_at hl 3 rfl) ?_
              refine lv_aload_n hx hb dX5_look_139 rfl (lv_at hl 2 rfl) ?_
              refine va_get (D := (dC, dI)) (ci := 5) (v := .int (gI u 8)) (C := RX5) (T := TX5) (N := 36) hx hb hts iX5 hown hK hP 0 rfl rfl 22 (by decide) k_3 (fun _ h9 => h9) rfl dX5_look_140 ?_
              refine lv_icmp_lt (tgt := 163) hx hb dX5_look_143 (by decide) (fun c_10 => ?_) (fun c_10 => ?_)
              · have hf := (if_pos c_10).symm.trans hf
                exact ih3 v1 (w2 * (gI u 3).toInt64) (1 : Int64) 0 0 u H locs ls hf hP hD hS (lv_sub hl [2, 3, 1, 0] rfl)
              · have hf := (if_neg c_10).symm.trans hf
                refine lv_lload_n hx hb dX5_look_146 rfl (lv_at hl 1 rfl) ?_
                refine lv_aload_n hx hb dX5_look_147 rfl (lv_at hl 2 rfl) ?_
                refine va_get (D := (dC, dI)) (ci := 5) (v := .long (gJ u 1)) (C := RX5) (T := TX5) (N := 36) hx hb hts iX5 hown hK hP 0 rfl rfl 24 (by decide) k_5 (fun _ h9 => h9) rfl dX5_look_148 ?_
                refine lv_lmul hx hb dX5_look_151 ?_
                refine lv_aload_n hx hb dX5_look_152 rfl (lv_at hl 2 rfl) ?_
                refine va_get (D := (dC, dI)) (ci := 5) (v := .long (gJ u 0)) (C := RX5) (T := TX5) (N := 36) hx hb hts iX5 hown hK hP 0 rfl rfl 23 (by decide) k_6 (fun _ h9 => h9) rfl dX5_look_153 ?_
                refine lv_lload hx hb dX5_look_156 (lv_at hl 0 rfl) ?_
                refine lv_lmul hx hb dX5_look_158 ?_
                refine W.lcmp hx hb dX5_look_159 ?_
                refine lv_if_le (tgt := 216) hx hb dX5_look_160 (by decide) (fun c_11 => ?_) (fun c_11 => ?_)
                · have c_11 := (lg_cmp_le ((w2 * (gI u 3).toInt64) * (gJ u 1)) ((gJ u 0) * (1 : Int64))).mp c_11
                  have hf := (if_pos c_11).symm.trans hf
                  have hf := Option.some.inj hf
                  exact W.vret hx hb hr (fun t ht hW => ⟨⟨u, rfl, hf, ⟨by rw [ht]; exact hP, va_K.moved hW.alike hK, hD⟩⟩, hS.F ht⟩) hS.2.2 dX5_look_216
                · have c_11 := fun q => c_11 ((lg_cmp_le ((w2 * (gI u 3).toInt64) * (gJ u 1)) ((gJ u 0) * (1 : Int64))).mpr q)
                  have hf := (if_neg c_11).symm.trans hf
                  exact ih3 v1 (w2 * (gI u 3).toInt64) (1 : Int64) 0 0 u H locs ls hf hP hD hS (lv_sub hl [2, 3, 1, 0] rfl)
        · have hf := (if_neg c_4).symm.trans hf
          refine lv_aload_n hx hb dX5_look_43 rfl (lv_at hl 0 rfl) ?_
          refine va_get (D := (dC, dI)) (ci := 5) (v := .ref (ad 16)) (C := RX5) (T := TX5) (N := 36) hx hb hts iX5 hown hK hP 0 rfl rfl 26 (by decide) k_7 (fun _ h9 => h9) rfl dX5_look_44 ?_
          refine lv_bipush (v := 16) hx hb dX5_look_47 (by decide) ?_
          refine lv_aload_n hx hb dX5_look_49 rfl (lv_at hl 0 rfl) ?_
          refine va_get (D := (dC, dI)) (ci := 5) (v := .int (gI u 2)) (C := RX5) (T := TX5) (N := 36) hx hb hts iX5 hown hK hP 0 rfl rfl 6 (by decide) k_1 (fun _ h9 => h9) rfl dX5_look_50 ?_
          refine lv_imul hx hb dX5_look_53 ?_
          refine lv_iload hx hb dX5_look_54 (lv_at hl 4 rfl) ?_
          refine lv_iadd hx hb dX5_look_56 ?_
          obtain ⟨h_12, hf⟩ := ck_of hf
          refine va_iald (f := (gA u 15)) hx hb hK hP 16 0 rfl rfl h_12 dX5_look_57 ?_
          refine lv_istore (lv' := [(7, .int ((gA u 15) (((16 : Int32) * (gI u 2)) + v6).toNatClampNeg)), (0, .ref (ad 0)), (1, .int v1), (2, .long w2), (4, .long w4), (6, .int v6)]) hx hb dX5_look_58 hl (by decide) rfl (fun ls hl => ?_)
          refine lv_iload hx hb dX5_look_60 (lv_at hl 0 rfl) ?_
          refine lv_aload_n hx hb dX5_look_62 rfl (lv_at hl 1 rfl) ?_
          refine va_get (D := (dC, dI)) (ci := 5) (v := .ref (ad 11)) (C := RX5) (T := TX5) (N := 36) hx hb hts iX5 hown hK hP 0 rfl rfl 14 (by decide) k_8 (fun _ h9 => h9) rfl dX5_look_63 ?_
          refine lv_iload hx hb dX5_look_66 (lv_at hl 5 rfl) ?_
          obtain ⟨h_13, hf⟩ := ck_of hf
          refine va_iald (f := (gA u 10)) hx hb hK hP 11 0 rfl rfl h_13 dX5_look_68 ?_
          refine lv_icmp_ge (tgt := 73) hx hb dX5_look_69 (by decide) (fun c_14 => ?_) (fun c_14 => ?_)
          · have hf := (if_pos c_14).symm.trans hf
            refine lv_iload hx hb dX5_look_73 (lv_at hl 5 rfl) ?_
            refine lv_if_eq (tgt := 86) hx hb dX5_look_75 (by decide) (fun c_15 => ?_) (fun c_15 => ?_)
            · have hf := (if_pos c_15).symm.trans hf
              exact ih2 v1 0 w4 v6 ((gA u 15) (((16 : Int32) * (gI u 2)) + v6).toNatClampNeg) u H locs ls hf hP hD hS (lv_sub hl [1, 2, 4, 5, 0] rfl)
            · have hf := (if_neg c_15).symm.trans hf
              refine lv_iload hx hb dX5_look_78 (lv_at hl 0 rfl) ?_
              refine lv_i2l (v := ((gA u 15) (((16 : Int32) * (gI u 2)) + v6).toNatClampNeg).toInt64) hx hb dX5_look_80 rfl ?_
              refine lv_lload_n hx hb dX5_look_81 rfl (lv_at hl 3 rfl) ?_
              refine W.lcmp hx hb dX5_look_82 ?_
              refine lv_if_ge (tgt := 92) hx hb dX5_look_83 (by decide) (fun c_16 => ?_) (fun c_16 => ?_)
              · have c_16 := (lg_cmp_ge (((gA u 15) (((16 : Int32) * (gI u 2)) + v6).toNatClampNeg).toInt64) w2).mp c_16
                have hf := (if_pos c_16).symm.trans hf
                refine lv_lload_n hx hb dX5_look_92 rfl (lv_at hl 3 rfl) ?_
                refine lv_lstore_n (lv' := [(2, .long w2), (7, .int ((gA u 15) (((16 : Int32) * (gI u 2)) + v6).toNatClampNeg)), (0, .ref (ad 0)), (1, .int v1), (4, .long w4), (6, .int v6)]) hx hb dX5_look_93 rfl hl (by decide) rfl (fun ls hl => ?_)
                refine lv_lload hx hb dX5_look_94 (lv_at hl 4 rfl) ?_
                refine lv_iload hx hb dX5_look_96 (lv_at hl 1 rfl) ?_
                refine lv_i2l (v := ((gA u 15) (((16 : Int32) * (gI u 2)) + v6).toNatClampNeg).toInt64) hx hb dX5_look_98 rfl ?_
                refine lv_ladd hx hb dX5_look_99 ?_
                refine lv_lstore (lv' := [(4, .long (w4 + ((gA u 15) (((16 : Int32) * (gI u 2)) + v6).toNatClampNeg).toInt64)), (2, .long w2), (7, .int ((gA u 15) (((16 : Int32) * (gI u 2)) + v6).toNatClampNeg)), (0, .ref (ad 0)), (1, .int v1), (6, .int v6)]) hx hb dX5_look_100 hl (by decide) rfl (fun ls hl => ?_)
                refine lv_iinc (v := (v6 + 1)) (lv' := [(6, .int (v6 + 1)), (4, .long (w4 + ((gA u 15) (((16 : Int32) * (gI u 2)) + v6).toNatClampNeg).toInt64)), (2, .long w2), (7, .int ((gA u 15) (((16 : Int32) * (gI u 2)) + v6).toNatClampNeg)), (0, .ref (ad 0)), (1, .int v1)]) hx hb dX5_look_102 hl (k := 5) rfl rfl (by decide) rfl (fun ls hl => ?_)
                refine lv_goto (tgt := 34) hx hb dX5_look_105 (by decide) ?_
                exact ih1 v1 w2 (w4 + ((gA u 15) (((16 : Int32) * (gI u 2)) + v6).toNatClampNeg).toInt64) (v6 + 1) 0 u H locs ls hf hP hD hS (lv_sub hl [4, 5, 2, 1, 0] rfl)
              · have c_16 := fun q => c_16 ((lg_cmp_ge (((gA u 15) (((16 : Int32) * (gI u 2)) + v6).toNatClampNeg).toInt64) w2).mpr q)
                have hf := (if_neg c_16).symm.trans hf
                exact ih2 v1 0 w4 v6 ((gA u 15) (((16 : Int32) * (gI u 2)) + v6).toNatClampNeg) u H locs ls hf hP hD hS (lv_sub hl [1, 2, 4, 5, 0] rfl)
          · have hf := (if_neg c_14).symm.trans hf
            have hf := Option.some.inj hf
            exact W.vret hx hb hr (fun t ht hW => ⟨⟨u, rfl, hf, ⟨by rw [ht]; exact hP, va_K.moved hW.alike hK, hD⟩⟩, hS.F ht⟩) hS.2.2 dX5_look_72
      · intro v1 w2 w4 v6 v7 u H locs ls hf hP hD hS hl
        have hf := (eX5_look_86 n v1 w2 w4 v6 v7 u).symm.trans hf
        refine lv_iload hx hb dX5_look_86 (lv_at hl 4 rfl) ?_
        refine lv_i2l (v := v7.toInt64) hx hb dX5_look_88 rfl ?_
        refine lv_goto (tgt := 93) hx hb dX5_look_89 (by decide) ?_
        refine lv_lstore_n (lv' := [(2, .long v7.toInt64), (0, .ref (ad 0)), (1, .int v1), (4, .long w4), (6, .int v6), (7, .int v7)]) hx hb dX5_look_93 rfl hl (by decide) rfl (fun ls hl => ?_)
        refine lv_lload hx hb dX5_look_94 (lv_at hl 3 rfl) ?_
        refine lv_iload hx hb dX5_look_96 (lv_at hl 5 rfl) ?_
        refine lv_i2l (v := v7.toInt64) hx hb dX5_look_98 rfl ?_
        refine lv_ladd hx hb dX5_look_99 ?_
        refine lv_lstore (lv' := [(4, .long (w4 + v7.toInt64)), (2, .long v7.toInt64), (0, .ref (ad 0)), (1, .int v1), (6, .int v6), (7, .int v7)]) hx hb dX5_look_100 hl (by decide) rfl (fun ls hl => ?_)
        refine lv_iinc (v := (v6 + 1)) (lv' := [(6, .int (v6 + 1)), (4, .long (w4 + v7.toInt64)), (2, .long v7.toInt64), (0, .ref (ad 0)), (1, .int v1), (7, .int v7)]) hx hb dX5_look_102 hl (k := 4) rfl rfl (by decide) rfl (fun ls hl => ?_)
        refine lv_goto (tgt := 34) hx hb dX5_look_105 (by decide) ?_
        exact ih1 v1 v7.toInt64 (w4 + v7.toInt64) (v6 + 1) 0 u H locs ls hf hP hD hS (lv_sub hl [3, 4, 2, 1, 0] rfl)
      · intro v1 w2 w4 v6 v7 u H locs ls hf hP hD hS hl
        have hf := (eX5_look_163 n v1 w2 w4 v6 v7 u).symm.trans hf
        refine lv_aload_n hx hb dX5_look_163 rfl (lv_at hl 0 rfl) ?_
        refine lv_iconst (v := 1) hx hb dX5_look_164 (by decide) ?_
        refine va_put (D := (dC, dI)) (ci := 5) (v := .int (1 : Int32)) (ty := .boolean) (C := RX5) (T := TX5) (N := 36) hx hb hts iX5 tyX5 tyX5_ok nmX5 hown hK hP hD hS 0 rfl rfl 20 (by decide) k_2 (fun _ h9 => h9) rfl (by decide +kernel) rfl rfl (Nat.le_of_ble_eq_true rfl) dX5_look_165 (fun H locs hP hD hS => ?_)
        have hP : va_P (dC, dI) vwCl (mw ad cI cL (sI u 7 (1 : Int32))) H := hP
        have hD : va_D A (mw ad cI cL (sI u 7 (1 : Int32))) := hD
        refine lv_aload_n hx hb dX5_look_168 rfl (lv_at hl 0 rfl) ?_
        refine lv_iload_n hx hb dX5_look_169 rfl (lv_at hl 1 rfl) ?_
        refine va_put (D := (dC, dI)) (ci := 5) (v := .int v1) (ty := .int) (C := RX5) (T := TX5) (N := 36) hx hb hts iX5 tyX5 tyX5_ok nmX5 hown hK hP hD hS 0 rfl rfl 22 (by decide) k_3 (fun _ h9 => h9) rfl (by decide +kernel) rfl rfl (Nat.le_of_ble_eq_true rfl) dX5_look_170 (fun H locs hP hD hS => ?_)
        have hP : va_P (dC, dI) vwCl (mw ad cI cL (sI (sI u 7 (1 : Int32)) 8 v1)) H := hP
        have hD : va_D A (mw ad cI cL (sI (sI u 7 (1 : Int32)) 8 v1)) := hD
        refine lv_aload_n hx hb dX5_look_173 rfl (lv_at hl 0 rfl) ?_
        refine lv_lload_n hx hb dX5_look_174 rfl (lv_at hl 2 rfl) ?_
        refine va_put (D := (dC, dI)) (ci := 5) (v := .long w2) (ty := .long) (C := RX5) (T := TX5) (N := 36) hx hb hts iX5 tyX5 tyX5_ok nmX5 hown hK hP hD hS 0 rfl rfl 23 (by decide) k_6 (fun _ h9 => h9) rfl (by decide +kernel) rfl rfl (Nat.le_of_ble_eq_true rfl) dX5_look_175 (fun H locs hP hD hS => ?_)
        have hP : va_P (dC, dI) vwCl (mw ad cI cL (sJ (sI (sI u 7 (1 : Int32)) 8 v1) 0 w2)) H := hP
        have hD : va_D A (mw ad cI cL (sJ (sI (sI u 7 (1 : Int32)) 8 v1) 0 w2)) := hD
        refine lv_aload_n hx hb dX5_look_178 rfl (lv_at hl 0 rfl) ?_
        refine lv_lload hx hb dX5_look_179 (lv_at hl 3 rfl) ?_
        refine va_put (D := (dC, dI)) (ci := 5) (v := .long w4) (ty := .long) (C := RX5) (T := TX5) (N := 36) hx hb hts iX5 tyX5 tyX5_ok nmX5 hown hK hP hD hS 0 rfl rfl 24 (by decide) k_5 (fun _ h9 => h9) rfl (by decide +kernel) rfl rfl (Nat.le_of_ble_eq_true rfl) dX5_look_181 (fun H locs hP hD hS => ?_)
        have hP : va_P (dC, dI) vwCl (mw ad cI cL (sJ (sJ (sI (sI u 7 (1 : Int32)) 8 v1) 0 w2) 1 w4)) H := hP
        have hD : va_D A (mw ad cI cL (sJ (sJ (sI (sI u 7 (1 : Int32)) 8 v1) 0 w2) 1 w4)) := hD
        refine lv_iconst (v := 0) hx hb dX5_look_184 (by decide) ?_
        refine lv_istore (lv' := [(6, .int (0 : Int32)), (0, .ref (ad 0)), (1, .int v1), (2, .long w2), (4, .long w4)]) hx hb dX5_look_185 hl (by decide) rfl (fun ls hl => ?_)
        exact ih4 0 0 0 (0 : Int32) 0 (sJ (sJ (sI (sI u 7 (1 : Int32)) 8 v1) 0 w2) 1 w4) H locs ls hf hP hD hS (lv_sub hl [1, 0] rfl)
      · intro v1 w2 w4 v6 v7 u H locs ls hf hP hD hS hl
        have hf := (eX5_look_187 n v1 w2 w4 v6 v7 u).symm.trans hf
        refine lv_iload hx hb dX5_look_187 (lv_at hl 1 rfl) ?_
        refine lv_aload_n hx hb dX5_look_189 rfl (lv_at hl 0 rfl) ?_
        refine va_get (D := (dC, dI)) (ci := 5) (v := .int (gI u 2)) (C := RX5) (T := TX5) (N := 36) hx hb hts iX5 hown hK hP 0 rfl rfl 6 (by decide) k_1 (fun _ h9 => h9) rfl dX5_look_190 ?_
        refine lv_icmp_ge (tgt := 216) hx hb dX5_look_193 (by decide) (fun c_17 => ?_) (fun c_17 => ?_)
        · have hf := (if_pos c_17).symm.trans hf
          have hf := Option.some.inj hf
          exact W.vret hx hb hr (fun t ht hW => ⟨⟨u, rfl, hf, ⟨by rw [ht]; exact hP, va_K.moved hW.alike hK, hD⟩⟩, hS.F ht⟩) hS.2.2 dX5_look_216
        · have hf := (if_neg c_17).symm.trans hf
          refine lv_aload_n hx hb dX5_look_196 rfl (lv_at hl 0 rfl) ?_
          refine va_get (D := (dC, dI)) (ci := 5) (v := .ref (ad 14)) (C := RX5) (T := TX5) (N := 36) hx hb hts iX5 hown hK hP 0 rfl rfl 21 (by decide) k_9 (fun _ h9 => h9) rfl dX5_look_197 ?_
          refine lv_iload hx hb dX5_look_200 (lv_at hl 1 rfl) ?_
          refine lv_aload_n hx hb dX5_look_202 rfl (lv_at hl 0 rfl) ?_
          refine va_get (D := (dC, dI)) (ci := 5) (v := .ref (ad 15)) (C := RX5) (T := TX5) (N := 36) hx hb hts iX5 hown hK hP 0 rfl rfl 25 (by decide) k_10 (fun _ h9 => h9) rfl dX5_look_203 ?_
          refine lv_iload hx hb dX5_look_206 (lv_at hl 1 rfl) ?_
          obtain ⟨h_18, hf⟩ := ck_of hf
          refine va_iald (f := (gA u 14)) hx hb hK hP 15 0 rfl rfl h_18 dX5_look_208 ?_
          refine va_iast (f := (gA u 13)) hx hb hK hP hD hS 14 0 rfl rfl h_18 dX5_look_209 (fun H locs hP hD hS => ?_)
          have hP : va_P (dC, dI) vwCl (mw ad cI cL (sA u 13 (upd (gA u 13) v6.toNatClampNeg ((gA u 14) v6.toNatClampNeg)))) H := hP
          have hD : va_D A (mw ad cI cL (sA u 13 (upd (gA u 13) v6.toNatClampNeg ((gA u 14) v6.toNatClampNeg)))) := hD
          refine lv_iinc (v := (v6 + 1)) (lv' := [(6, .int (v6 + 1)), (0, .ref (ad 0))]) hx hb dX5_look_210 hl (k := 1) rfl rfl (by decide) rfl (fun ls hl => ?_)
          refine lv_goto (tgt := 187) hx hb dX5_look_213 (by decide) ?_
          exact ih4 0 0 0 (v6 + 1) 0 (sA u 13 (upd (gA u 13) v6.toNatClampNeg ((gA u 14) v6.toNatClampNeg))) H locs ls hf hP hD hS (lv_sub hl [1, 0] rfl)
  exact (key n).1 0 0 0 0 0 u _ _ ls hf0 hP hD hS (lv_sub hl [0] rfl)

def fX5_findBest (n pc : Nat) (v1 : Int32) (v2 : Int32) (v3 : Int32) (u : St) : Option (St) := match n with
  | 0 => none
  | n + 1 => match pc with
    | 0 => (if (gI u 6) = 0 then fX5_findBest n 20 (0 : Int32) 0 0 (sI (sI u 6 (1 : Int32)) 7 (0 : Int32)) else some u)
    | 20 => (if (gI u 1) ≤ v1 then fX5_findBest n 91 (0 : Int32) 0 0 u else fX5_findBest n 30 v1 (0 : Int32) 0 u)
    | 30 => (if (gI u 2) ≤ v2 then fX5_findBest n 20 (v1 + 1) 0 0 u else fX5_findBest n 40 v1 v2 (0 : Int32) u)
    | 40 => (if (gI u 3) ≤ v3 then fX5_findBest n 30 v1 (v2 + 1) 0 u else ((FX5_lightOf n v1 v2 v3 u).bind fun w_5 => (if ck ((((112 : Int32) * v1) + ((16 : Int32) * v2)) + v3) 336 = true then fX5_findBest n 40 v1 v2 (v3 + 1) (sA w_5.2 17 (upd (gA w_5.2 17) ((((112 : Int32) * v1) + ((16 : Int32) * v2)) + v3).toNatClampNeg w_5.1)) else none)))
    | 91 => (if (16 : Int32) ≤ v1 then fX5_findBest n 112 (0 : Int32) 0 0 u else (if ck v1 128 = true then fX5_findBest n 91 (v1 + 1) 0 0 (sA u 15 (upd (gA u 15) v1.toNatClampNeg (0 : Int32))) else none))
    | 112 => (if (gI u 2) ≤ v1 then fX5_findBest n 139 (0 : Int32) 0 0 u else ((FX5_firstOf n v1 u).bind fun w_10 => (if ck v1 7 = true then fX5_findBest n 112 (v1 + 1) 0 0 (sA w_10.2 14 (upd (gA w_10.2 14) v1.toNatClampNeg w_10.1)) else none)))
    | 139 => (if v1 < 0 then some u else ((FX5_addUp n v1 u).bind fun w_13 => ((FX5_look n  w_13).bind fun w_14 => ((FX5_nextChoice n  w_14).bind fun w_15 => fX5_findBest n 139 w_15.1 0 0 w_15.2))))
    | _ => none
theorem eX5_findBest_0 (n : Nat) (v1 : Int32) (v2 : Int32) (v3 : Int32) (u : St) : fX5_findBest (n + 1) 0 v1 v2 v3 u = (if (gI u 6) = 0 then fX5_findBest n 20 (0 : Int32) 0 0 (sI (sI u 6 (1 : Int32)) 7 (0 : Int32)) else some u) := rfl
theorem eX5_findBest_20 (n : Nat) (v1 : Int32) (v2 : Int32) (v3 : Int32) (u : St) : fX5_findBest (n + 1) 20 v1 v2 v3 u = (if (gI u 1) ≤ v1 then fX5_findBest n 91 (0 : Int32) 0 0 u else fX5_findBest n 30 v1 (0 : Int32) 0 u) := rfl
theorem eX5_findBest_30 (n : Nat) (v1 : Int32) (v2 : Int32) (v3 : Int32) (u : St) : fX5_findBest (n + 1) 30 v1 v2 v3 u = (if (gI u 2) ≤ v2 then fX5_findBest n 20 (v1 + 1) 0 0 u else fX5_findBest n 40 v1 v2 (0 : Int32) u) := rfl
theorem eX5_findBest_40 (n : Nat) (v1 : Int32) (v2 : Int32) (v3 : Int32) (u : St) : fX5_findBest (n + 1) 40 v1 v2 v3 u = (if (gI u 3) ≤ v3 then fX5_findBest n 30 v1 (v2 + 1) 0 u else ((FX5_lightOf n v1 v2 v3 u).bind fun w_5 => (if ck ((((112 : Int32) * v1) + ((16 : Int32) * v2)) + v3) 336 = true then fX5_findBest n 40 v1 v2 (v3 + 1) (sA w_5.2 17 (upd (gA w_5.2 17) ((((112 : Int32) * v1) + ((16 : Int32) * v2)) + v3).toNatClampNeg w_5.1)) else none))) := rfl
theorem eX5_findBest_91 (n : Nat) (v1 : Int32) (v2 : Int32) (v3 : Int32) (u : St) : fX5_findBest (n + 1) 91 v1 v2 v3 u = (if (16 : Int32) ≤ v1 then fX5_findBest n 112 (0 : Int32) 0 0 u else (if ck v1 128 = true then fX5_findBest n 91 (v1 + 1) 0 0 (sA u 15 (upd (gA u 15) v1.toNatClampNeg (0 : Int32))) else none)) := rfl
theorem eX5_findBest_112 (n : Nat) (v1 : Int32) (v2 : Int32) (v3 : Int32) (u : St) : fX5_findBest (n + 1) 112 v1 v2 v3 u = (if (gI u 2) ≤ v1 then fX5_findBest n 139 (0 : Int32) 0 0 u else ((FX5_firstOf n v1 u).bind fun w_10 => (if ck v1 7 = true then fX5_findBest n 112 (v1 + 1) 0 0 (sA w_10.2 14 (upd (gA w_10.2 14) v1.toNatClampNeg w_10.1)) else none))) := rfl
theorem eX5_findBest_139 (n : Nat) (v1 : Int32) (v2 : Int32) (v3 : Int32) (u : St) : fX5_findBest (n + 1) 139 v1 v2 v3 u = (if v1 < 0 then some u else ((FX5_addUp n v1 u).bind fun w_13 => ((FX5_look n  w_13).bind fun w_14 => ((FX5_nextChoice n  w_14).bind fun w_15 => fX5_findBest n 139 w_15.1 0 0 w_15.2)))) := rfl
theorem vX5_findBest_0 (v1 : Int32) (v2 : Int32) (v3 : Int32) (u : St) (r : St) : Ev (fun n => fX5_findBest n 0 v1 v2 v3 u) r ↔ Ev (fun n => (if (gI u 6) = 0 then fX5_findBest n 20 (0 : Int32) 0 0 (sI (sI u 6 (1 : Int32)) 7 (0 : Int32)) else some u)) r := Ev_succ (fun n => fX5_findBest n 0 v1 v2 v3 u) r
theorem vX5_findBest_20 (v1 : Int32) (v2 : Int32) (v3 : Int32) (u : St) (r : St) : Ev (fun n => fX5_findBest n 20 v1 v2 v3 u) r ↔ Ev (fun n => (if (gI u 1) ≤ v1 then fX5_findBest n 91 (0 : Int32) 0 0 u else fX5_findBest n 30 v1 (0 : Int32) 0 u)) r := Ev_succ (fun n => fX5_findBest n 20 v1 v2 v3 u) r
theorem vX5_findBest_30 (v1 : Int32) (v2 : Int32) (v3 : Int32) (u : St) (r : St) : Ev (fun n => fX5_findBest n 30 v1 v2 v3 u) r ↔ Ev (fun n => (if (gI u 2) ≤ v2 then fX5_findBest n 20 (v1 + 1) 0 0 u else fX5_findBest n 40 v1 v2 (0 : Int32) u)) r := Ev_succ (fun n => fX5_findBest n 30 v1 v2 v3 u) r
theorem vX5_findBest_40 (v1 : Int32) (v2 : Int32) (v3 : Int32) (u : St) (r : St) : Ev (fun n => fX5_findBest n 40 v1 v2 v3 u) r ↔ Ev (fun n => (if (gI u 3) ≤ v3 then fX5_findBest n 30 v1 (v2 + 1) 0 u else ((FX5_lightOf n v1 v2 v3 u).bind fun w_5 => (if ck ((((112 : Int32) * v1) + ((16 : Int32) * v2)) + v3) 336 = true then fX5_findBest n 40 v1 v2 (v3 + 1) (sA w_5.2 17 (upd (gA w_5.2 17) ((((112 : Int32) * v1) + ((16 : Int32) * v2)) + v3).toNatClampNeg w_5.1)) else none)))) r := Ev_succ (fun n => fX5_findBest n 40 v1 v2 v3 u) r
theorem vX5_findBest_91 (v1 : Int32) (v2 : Int32) (v3 : Int32) (u : St) (r : St) : Ev (fun n => fX5_findBest n 91 v1 v2 v3 u) r ↔ Ev (fun n => (if (16 : Int32) ≤ v1 then fX5_findBest n 112 (0 : Int32) 0 0 u else (if ck v1 128 = true then fX5_findBest n 91 (v1 + 1) 0 0 (sA u 15 (upd (gA u 15) v1.toNatClampNeg (0 : Int32))) else none))) r := Ev_succ (fun n => fX5_findBest n 91 v1 v2 v3 u) r
theorem vX5_findBest_112 (v1 : Int32) (v2 : Int32) (v3 : Int32) (u : St) (r : St) : Ev (fun n => fX5_findBest n 112 v1 v2 v3 u) r ↔ Ev (fun n => (if (gI u 2) ≤ v1 then fX5_findBest n 139 (0 : Int32) 0 0 u else ((FX5_firstOf n v1 u).bind fun w_10 => (if ck v1 7 = true then fX5_findBest n 112 (v1 + 1) 0 0 (sA w_10.2 14 (upd (gA w_10.2 14) v1.toNatClampNeg w_10.1)) else none)))) r := Ev_succ (fun n => fX5_findBest n 112 v1 v2 v3 u) r
theorem vX5_findBest_139 (v1 : Int32) (v2 : Int32) (v3 : Int32) (u : St) (r : St) : Ev (fun n => fX5_findBest n 139 v1 v2 v3 u) r ↔ Ev (fun n => (if v1 < 0 then some u else ((FX5_addUp n v1 u).bind fun w_13 => ((FX5_look n  w_13).bind fun w_14 => ((FX5_nextChoice n  w_14).bind fun w_15 => fX5_findBest n 139 w_15.1 0 0 w_15.2))))) r := Ev_succ (fun n => fX5_findBest n 139 v1 v2 v3 u) r
def FX5_findBest (n : Nat) (u : St) : Option (St) := fX5_findBest n 0 0 0 0 u
set_option maxHeartbeats 4000000 in
set_option maxRecDepth 100000 in
theorem mX5_findBest (l : Launch) (dC : Nat → ClassId) (dI : Nat → Nat → Nat) (cI cL : ClassId) (ad : Nat → Nat) (sz : Nat) (u : St) (n : Nat) (r : St) (hf0 : FX5_findBest n  u = some r) : Met l yX5_findBest wsX5_findBest ({ frames := 2, cells := 0, slots := 0, locals := 42 }) (va_Pc [.ref (ad 0)] (wPre dC dI cI cL (mw ad cI cL u) sz)) (va_Qv (fun t => t = r) (fun t => wPost dC dI cI cL (va_A (mw ad cI cL u) sz) (mw ad cI cL t)) (va_A (mw ad cI cL u) sz)) 0 0 (va_A (mw ad cI cL u) sz) := by
  refine Met.ofW (cc := cX5_findBest) (maxL := 4) (ret := none) (by decide) rfl ?_
  intro p e s m args below meth c s₁ B hml hv
  obtain ⟨rfl, hsz, hP, hK, hD0, hZ⟩ := hv
  have hx := B.exec
  have hb := B.bytes
  have hr := B.returns
  have hts := atoms_spec (ws := wsX5_findBest) B.pre
  have hown : s.vm.findClass RX5 = some m.cls := findClass_of_methodNamed B.named
  have hlocks := B.notSynchronized
  subst hsz
  have hD := hD0.self (sz := s.heap.size)
  generalize hAe : va_A (mw ad cI cL u) s.heap.size = A at hD ⊢
  have hA : ∀ q : Nat, s.heap.size ≤ q → A q := fun q h => by rw [← hAe]; exact Or.inr h
  have hS : va_S A s.heap s.heap [] := va_S.rf
  have iX5 : ∀ w ∈ u_ws RX5 TX5 36, w ∈ wsX5_findBest := fun _ h => List.mem_cons_of_mem _ (List.mem_append_right _ h)
  have k_0 := hts (.fieldLink RX5 96 "LampChoiceModel" "isKnown" "Z") (by decide +kernel)
  have k_1 := hts (.fieldLink RX5 122 "LampChoiceModel" "found" "Z") (by decide +kernel)
  have k_2 := hts (.fieldLink RX5 83 "LampChoiceModel" "kinds" "I") (by decide +kernel)
  have k_3 := hts (.fieldLink RX5 90 "LampChoiceModel" "places" "I") (by decide +kernel)
  have k_4 := hts (.fieldLink RX5 93 "LampChoiceModel" "points" "I") (by decide +kernel)
  have k_5 := hts (.fieldLink RX5 68 "LampChoiceModel" "lights" "[I") (by decide +kernel)
  have k_6 := hts (.fieldLink RX5 62 "LampChoiceModel" "sums" "[I") (by decide +kernel)
  have k_7 := hts (.fieldLink RX5 59 "LampChoiceModel" "choice" "[I") (by decide +kernel)
  have hl := lv_entry ([.ref (ad 0)]) (n := 4) (Nat.le_of_ble_eq_true rfl)
  rw [lg_entry_eq]
  generalize (lg_sl ([.ref (ad 0)]) ++ List.replicate (4 - (lg_sl ([.ref (ad 0)])).length) Slot.unset).toArray = ls at hl ⊢
  have hl : lv_has ls 4 [(0, .ref (ad 0))] := hl
  have key : ∀ n : Nat, (∀ (v1 : Int32) (v2 : Int32) (v3 : Int32) (u : St) (H : Heap) (locs : List Loc) (ls : Array Slot), fX5_findBest n 0 v1 v2 v3 u = some r → va_P (dC, dI) vwCl (mw ad cI cL u) H → va_D A (mw ad cI cL u) → va_S A s.heap H locs → lv_has ls 4 [(0, .ref (ad 0))] → W p l e (headSpec wsX5_findBest ({ frames := 2, cells := 0, slots := 0, locals := 42 })).room s m ([.ref (ad 0)] : List Value).toArray below meth c H locs 0 0 (MQ below (va_Qv (fun t => t = r) (fun t => wPost dC dI cI cL A (mw ad cI cL t)) A) ([.ref (ad 0)] : List Value).toArray s 0 0 A) (F0 m 0 ls [])) ∧ (∀ (v1 : Int32) (v2 : Int32) (v3 : Int32) (u : St) (H : Heap) (locs : List Loc) (ls : Array Slot), fX5_findBest n 20 v1 v2 v3 u = some r → va_P (dC, dI) vwCl (mw ad cI cL u) H → va_D A (mw ad cI cL u) → va_S A s.heap H locs → lv_has ls 4 [(0, .ref (ad 0)), (1, .int v1)] → W p l e (headSpec wsX5_findBest ({ frames := 2, cells := 0, slots := 0, locals := 42 })).room s m ([.ref (ad 0)] : List Value).toArray below meth c H locs 0 0 (MQ below (va_Qv (fun t => t = r) (fun t => wPost dC dI cI cL A (mw ad cI cL t)) A) ([.ref (ad 0)] : List Value).toArray s 0 0 A) (F0 m 20 ls [])) ∧ (∀ (v1 : Int32) (v2 : Int32) (v3 : Int32) (u : St) (H : Heap) (locs : List Loc) (ls : Array Slot), fX5_findBest n 30 v1 v2 v3 u = some r → va_P (dC, dI) vwCl (mw ad cI cL u) H → va_D A (mw ad cI cL u) → va_S A s.heap H locs → lv_has ls 4 [(0, .ref (ad 0)), (1, .int v1), (2, .int v2)] → W p l e (headSpec wsX5_findBest ({ frames := 2, cells := 0, slots := 0, locals := 42 })).room s m ([.ref (ad 0)] : List Value).toArray below meth c H locs 0 0 (MQ below (va_Qv (fun t => t = r) (fun t => wPost dC dI cI cL A (mw ad cI cL t)) A) ([.ref (ad 0)] : List Value).toArray s 0 0 A) (F0 m 30 ls [])) ∧ (∀ (v1 : Int32) (v2 : Int32) (v3 : Int32) (u : St) (H : Heap) (locs : List Loc) (ls : Array Slot), fX5_findBest n 40 v1 v2 v3 u = some r → va_P (dC, dI) vwCl (mw ad cI cL u) H → va_D A (mw ad cI cL u) → va_S A s.heap H locs → lv_has ls 4 [(0, .ref (ad 0)), (1, .int v1), (2, .int v2), (3, .int v3)] → W p l e (headSpec wsX5_findBest ({ frames := 2, cells := 0, slots := 0, locals := 42 })).room s m ([.ref (ad 0)] : List Value).toArray below meth c H locs 0 0 (MQ below (va_Qv (fun t => t = r) (fun t => wPost dC dI cI cL A (mw ad cI cL t)) A) ([.ref (ad 0)] : List Value).toArray s 0 0 A) (F0 m 40 ls [])) ∧ (∀ (v1 : Int32) (v2 : Int32) (v3 : Int32) (u : St) (H : Heap) (locs : List Loc) (ls : Array Slot), fX5_findBest n 91 v1 v2 v3 u = some r → va_P (dC, dI) vwCl (mw ad cI cL u) H → va_D A (mw ad cI cL u) → va_S A s.heap H locs → lv_has ls 4 [(0, .ref (ad 0)), (1, .int v1)] → W p l e (headSpec wsX5_findBest ({ frames := 2, cells := 0, slots := 0, locals := 42 })).room s m ([.ref (ad 0)] : List Value).toArray below meth c H locs 0 0 (MQ below (va_Qv (fun t => t = r) (fun t => wPost dC dI cI cL A (mw ad cI cL t)) A) ([.ref (ad 0)] : List Value).toArray s 0 0 A) (F0 m 91 ls [])) ∧ (∀ (v1 : Int32) (v2 : Int32) (v3 : Int32) (u : St) (H : Heap) (locs : List Loc) (ls : Array Slot), fX5_findBest n 112 v1 v2 v3 u = some r → va_P (dC, dI) vwCl (mw ad cI cL u) H → va_D A (mw ad cI cL u) → va_S A s.heap H locs → lv_has ls 4 [(0, .ref (ad 0)), (1, .int v1)] → W p l e (headSpec wsX5_findBest ({ frames := 2, cells := 0, slots := 0, locals := 42 })).room s m ([.ref (ad 0)] : List Value).toArray below meth c H locs 0 0 (MQ below (va_Qv (fun t => t = r) (fun t => wPost dC dI cI cL A (mw ad cI cL t)) A) ([.ref (ad 0)] : List Value).toArray s 0 0 A) (F0 m 112 ls [])) ∧ (∀ (v1 : Int32) (v2 : Int32) (v3 : Int32) (u : St) (H : Heap) (locs : List Loc) (ls : Array Slot), fX5_findBest n 139 v1 v2 v3 u = some r → va_P (dC, dI) vwCl (mw ad cI cL u) H → va_D A (mw ad cI cL u) → va_S A s.heap H locs → lv_has ls 4 [(0, .ref (ad 0)), (1, .int v1)] → W p l e (headSpec wsX5_findBest ({ frames := 2, cells := 0, slots := 0, locals := 42 })).room s m ([.ref (ad 0)] : List Value).toArray below meth c H locs 0 0 (MQ below (va_Qv (fun t => t = r) (fun t => wPost dC dI cI cL A (mw ad cI cL t)) A) ([.ref (ad 0)] : List Value).toArray s 0 0 A) (F0 m 139 ls [])) := by
    intro n
    induction n with
    | zero => exact ⟨(fun _ _ _ _ _ _ _ hf => nomatch (show (none : Option (St)) = some r from hf)), (fun _ _ _ _ _ _ _ hf => nomatch (show (none : Option (St)) = some r from hf)), (fun _ _ _ _ _ _ _ hf => nomatch (show (none : Option (St)) = some r from hf)), (fun _ _ _ _ _ _ _ hf => nomatch (show (none : Option (St)) = some r from hf)), (fun _ _ _ _ _ _ _ hf => nomatch (show (none : Option (St)) = some r from hf)), (fun _ _ _ _ _ _ _ hf => nomatch (show (none : Option (St)) = some r from hf)), (fun _ _ _ _ _ _ _ hf => nomatch (show (none : Option (St)) = some r from hf))⟩
    | succ n ih =>
      obtain ⟨ih0, ih1, ih2, ih3, ih4, ih5, ih6⟩ := ih
      refine ⟨?_, ?_, ?_, ?_, ?_, ?_, ?_⟩
      · intro v1 v2 v3 u H locs ls hf hP hD hS hl
        have hf := (eX5_findBest_0 n v1 v2 v3 u).symm.trans hf
        refine lv_aload_n hx hb dX5_findBest_0 rfl (lv_at hl 0 rfl) ?_
        refine va_get (D := (dC, dI)) (ci := 5) (v := .int (gI u 6)) (C := RX5) (T := TX5) (N := 36) hx hb hts iX5 hown hK hP 0 rfl rfl 19 (by decide) k_0 (fun _ h9 => h9) rfl dX5_findBest_1 ?_
        refine lv_if_eq (tgt := 8) hx hb dX5_findBest_4 (by decide) (fun c_1 => ?_) (fun c_1 => ?_)
        · have hf := (if_pos c_1).symm.trans hf
          refine lv_aload_n hx hb dX5_findBest_8 rfl (lv_at hl 0 rfl) ?_
          refine lv_iconst (v := 1) hx hb dX5_findBest_9 (by decide) ?_
          refine va_put (D := (dC, dI)) (ci := 5) (v := .int (1 : Int32)) (ty := .boolean) (C := RX5) (T := TX5) (N := 36) hx hb hts iX5 tyX5 tyX5_ok nmX5 hown hK hP hD hS 0 rfl rfl 19 (by decide) k_0 (fun _ h9 => h9) rfl (by decide +kernel) rfl rfl (Nat.le_of_ble_eq_true rfl) dX5_findBest_10 (fun H locs hP hD hS => ?_)
          have hP : va_P (dC, dI) vwCl (mw ad cI cL (sI u 6 (1 : Int32))) H := hP
          have hD : va_D A (mw ad cI cL (sI u 6 (1 : Int32))) := hD
          refine lv_aload_n hx hb dX5_findBest_13 rfl (lv_at hl 0 rfl) ?_
          refine lv_iconst (v := 0) hx hb dX5_findBest_14 (by decide) ?_
          refine va_put (D := (dC, dI)) (ci := 5) (v := .int (0 : Int32)) (ty := .boolean) (C := RX5) (T := TX5) (N := 36) hx hb hts iX5 tyX5 tyX5_ok nmX5 hown hK hP hD hS 0 rfl rfl 20 (by decide) k_1 (fun _ h9 => h9) rfl (by decide +kernel) rfl rfl (Nat.le_of_ble_eq_true rfl) dX5_findBest_15 (fun H locs hP hD hS => ?_)
          have hP : va_P (dC, dI) vwCl (mw ad cI cL (sI (sI u 6 (1 : Int32)) 7 (0 : Int32))) H := hP
          have hD : va_D A (mw ad cI cL (sI (sI u 6 (1 : Int32)) 7 (0 : Int32))) := hD
          refine lv_iconst (v := 0) hx hb dX5_findBest_18 (by decide) ?_
          refine lv_istore_n (lv' := [(1, .int (0 : Int32)), (0, .ref (ad 0))]) hx hb dX5_findBest_19 rfl hl (by decide) rfl (fun ls hl => ?_)
          exact ih1 (0 : Int32) 0 0 (sI (sI u 6 (1 : Int32)) 7 (0 : Int32)) H locs ls hf hP hD hS (lv_sub hl [1, 0] rfl)
        · have hf := (if_neg c_1).symm.trans hf
          have hf := Option.some.inj hf
          exact W.vret hx hb hr (fun t ht hW => ⟨⟨u, rfl, hf, ⟨by rw [ht]; exact hP, va_K.moved hW.alike hK, hD⟩⟩, hS.F ht⟩) hS.2.2 dX5_findBest_7
      · intro v1 v2 v3 u H locs ls hf hP hD hS hl
        have hf := (eX5_findBest_20 n v1 v2 v3 u).symm.trans hf
        refine lv_iload_n hx hb dX5_findBest_20 rfl (lv_at hl 1 rfl) ?_
        refine lv_aload_n hx hb dX5_findBest_21 rfl (lv_at hl 0 rfl) ?_
        refine va_get (D := (dC, dI)) (ci := 5) (v := .int (gI u 1)) (C := RX5) (T := TX5) (N := 36) hx hb hts iX5 hown hK hP 0 rfl rfl 1 (by decide) k_2 (fun _ h9 => h9) rfl dX5_findBest_22 ?_
        refine lv_icmp_ge (tgt := 89) hx hb dX5_findBest_25 (by decide) (fun c_2 => ?_) (fun c_2 => ?_)
        · have hf := (if_pos c_2).symm.trans hf
          refine lv_iconst (v := 0) hx hb dX5_findBest_89 (by decide) ?_
          refine lv_istore_n (lv' := [(1, .int (0 : Int32)), (0, .ref (ad 0))]) hx hb dX5_findBest_90 rfl hl (by decide) rfl (fun ls hl => ?_)
          exact ih4 (0 : Int32) 0 0 u H locs ls hf hP hD hS (lv_sub hl [1, 0] rfl)
        · have hf := (if_neg c_2).symm.trans hf
          refine lv_iconst (v := 0) hx hb dX5_findBest_28 (by decide) ?_
          refine lv_istore_n (lv' := [(2, .int (0 : Int32)), (0, .ref (ad 0)), (1, .int v1)]) hx hb dX5_findBest_29 rfl hl (by decide) rfl (fun ls hl => ?_)
          exact ih2 v1 (0 : Int32) 0 u H locs ls hf hP hD hS (lv_sub hl [1, 2, 0] rfl)
      · intro v1 v2 v3 u H locs ls hf hP hD hS hl
        have hf := (eX5_findBest_30 n v1 v2 v3 u).symm.trans hf
        refine lv_iload_n hx hb dX5_findBest_30 rfl (lv_at hl 2 rfl) ?_
        refine lv_aload_n hx hb dX5_findBest_31 rfl (lv_at hl 0 rfl) ?_
        refine va_get (D := (dC, dI)) (ci := 5) (v := .int (gI u 2)) (C := RX5) (T := TX5) (N := 36) hx hb hts iX5 hown hK hP 0 rfl rfl 6 (by decide) k_3 (fun _ h9 => h9) rfl dX5_findBest_32 ?_
        refine lv_icmp_ge (tgt := 83) hx hb dX5_findBest_35 (by decide) (fun c_3 => ?_) (fun c_3 => ?_)
        · have hf := (if_pos c_3).symm.trans hf
          refine lv_iinc (v := (v1 + 1)) (lv' := [(1, .int (v1 + 1)), (0, .ref (ad 0)), (2, .int v2)]) hx hb dX5_findBest_83 hl (k := 1) rfl rfl (by decide) rfl (fun ls hl => ?_)
          refine lv_goto (tgt := 20) hx hb dX5_findBest_86 (by decide) ?_
          exact ih1 (v1 + 1) 0 0 u H locs ls hf hP hD hS (lv_sub hl [1, 0] rfl)
        · have hf := (if_neg c_3).symm.trans hf
          refine lv_iconst (v := 0) hx hb dX5_findBest_38 (by decide) ?_
          refine lv_istore_n (lv' := [(3, .int (0 : Int32)), (0, .ref (ad 0)), (1, .int v1), (2, .int v2)]) hx hb dX5_findBest_39 rfl hl (by decide) rfl (fun ls hl => ?_)
          exact ih3 v1 v2 (0 : Int32) u H locs ls hf hP hD hS (lv_sub hl [1, 2, 3, 0] rfl)
      · intro v1 v2 v3 u H locs ls hf hP hD hS hl
        have hf := (eX5_findBest_40 n v1 v2 v3 u).symm.trans hf
        refine lv_iload_n hx hb dX5_findBest_40 rfl (lv_at hl 3 rfl) ?_
        refine lv_aload_n hx hb dX5_findBest_41 rfl (lv_at hl 0 rfl) ?_
        refine va_get (D := (dC, dI)) (ci := 5) (v := .int (gI u 3)) (C := RX5) (T := TX5) (N := 36) hx hb hts iX5 hown hK hP 0 rfl rfl 11 (by decide) k_4 (fun _ h9 => h9) rfl dX5_findBest_42 ?_
        refine lv_icmp_ge (tgt := 77) hx hb dX5_findBest_45 (by decide) (fun c_4 => ?_) (fun c_4 => ?_)
        · have hf := (if_pos c_4).symm.trans hf
          refine lv_iinc (v := (v2 + 1)) (lv' := [(2, .int (v2 + 1)), (0, .ref (ad 0)), (1, .int v1), (3, .int v3)]) hx hb dX5_findBest_77 hl (k := 2) rfl rfl (by decide) rfl (fun ls hl => ?_)
          refine lv_goto (tgt := 30) hx hb dX5_findBest_80 (by decide) ?_
          exact ih2 v1 (v2 + 1) 0 u H locs ls hf hP hD hS (lv_sub hl [1, 2, 0] rfl)
        · have hf := (if_neg c_4).symm.trans hf
          refine lv_aload_n hx hb dX5_findBest_48 rfl (lv_at hl 0 rfl) ?_
          refine va_get (D := (dC, dI)) (ci := 5) (v := .ref (ad 18)) (C := RX5) (T := TX5) (N := 36) hx hb hts iX5 hown hK hP 0 rfl rfl 28 (by decide) k_5 (fun _ h9 => h9) rfl dX5_findBest_49 ?_
          refine lv_bipush (v := 112) hx hb dX5_findBest_52 (by decide) ?_
          refine lv_iload_n hx hb dX5_findBest_54 rfl (lv_at hl 1 rfl) ?_
          refine lv_imul hx hb dX5_findBest_55 ?_
          refine lv_bipush (v := 16) hx hb dX5_findBest_56 (by decide) ?_
          refine lv_iload_n hx hb dX5_findBest_58 rfl (lv_at hl 2 rfl) ?_
          refine lv_imul hx hb dX5_findBest_59 ?_
          refine lv_iadd hx hb dX5_findBest_60 ?_
          refine lv_iload_n hx hb dX5_findBest_61 rfl (lv_at hl 3 rfl) ?_
          refine lv_iadd hx hb dX5_findBest_62 ?_
          refine lv_aload_n hx hb dX5_findBest_63 rfl (lv_at hl 0 rfl) ?_
          refine lv_iload_n hx hb dX5_findBest_64 rfl (lv_at hl 1 rfl) ?_
          refine lv_iload_n hx hb dX5_findBest_65 rfl (lv_at hl 2 rfl) ?_
          refine lv_iload_n hx hb dX5_findBest_66 rfl (lv_at hl 3 rfl) ?_
          obtain ⟨w_5, hw_5, hf⟩ := ob hf
          have hFc := freeAll hD hS hA
          refine va_calli (va_runV (As := [.int v1, .int v2, .int v3]) (rest := [.int ((((112 : Int32) * v1) + ((16 : Int32) * v2)) + v3), .ref (ad 18)]) ⟨hx, hb, hml, hown, hts⟩ (mX5_lightOf l dC dI cI cL ad H.size u v1 v2 v3 n w_5 hw_5) (cwV 3 hts gX5_findBest_X5_lightOf rfl rfl rfl (by decide +kernel) ⟨Nat.le_of_ble_eq_true rfl, Nat.le_of_ble_eq_true rfl⟩) ⟨wPre_blind, va_recv hK hP (ci := 5) (q0 := 0) rfl rfl, wPre_of hP hK hD hZ⟩ rfl rfl hl.1 rfl (lv_room (Nat.le_of_ble_eq_true rfl)) dX5_findBest_67 ⟨Nat.zero_le _, Nat.zero_le _⟩) hS (fun q _ h => hFc q h) hFc (fun r2 u2 t H1 locs ht hvm hw hB hz1 hk1 hS => ?_)
          obtain ⟨hP1, hK1, hD1⟩ := hB
          rw [ht] at hP1
          have e1 : r2 = w_5.1 := congrArg Prod.fst hw
          have e2 : u2 = w_5.2 := congrArg Prod.snd hw
          subst r2 u2
          have hP : va_P (dC, dI) vwCl (mw ad cI cL w_5.2) H1 := hP1
          have hD : va_D A (mw ad cI cL w_5.2) := hD1.weaken (fun _ _ _ h => hFc _ h)
          clear hP1 hD1 hK1 hFc hk1
          generalize H1 = H at hP hS ⊢
          obtain ⟨h_6, hf⟩ := ck_of hf
          refine va_iast (f := (gA w_5.2 17)) hx hb hK hP hD hS 18 0 rfl rfl h_6 dX5_findBest_70 (fun H locs hP hD hS => ?_)
          have hP : va_P (dC, dI) vwCl (mw ad cI cL (sA w_5.2 17 (upd (gA w_5.2 17) ((((112 : Int32) * v1) + ((16 : Int32) * v2)) + v3).toNatClampNeg w_5.1))) H := hP
          have hD : va_D A (mw ad cI cL (sA w_5.2 17 (upd (gA w_5.2 17) ((((112 : Int32) * v1) + ((16 : Int32) * v2)) + v3).toNatClampNeg w_5.1))) := hD
          refine lv_iinc (v := (v3 + 1)) (lv' := [(3, .int (v3 + 1)), (0, .ref (ad 0)), (1, .int v1), (2, .int v2)]) hx hb dX5_findBest_71 hl (k := 3) rfl rfl (by decide) rfl (fun ls hl => ?_)
          refine lv_goto (tgt := 40) hx hb dX5_findBest_74 (by decide) ?_
          exact ih3 v1 v2 (v3 + 1) (sA w_5.2 17 (upd (gA w_5.2 17) ((((112 : Int32) * v1) + ((16 : Int32) * v2)) + v3).toNatClampNeg w_5.1)) H locs ls hf hP hD hS (lv_sub hl [1, 2, 3, 0] rfl)
      · intro v1 v2 v3 u H locs ls hf hP hD hS hl
        have hf := (eX5_findBest_91 n v1 v2 v3 u).symm.trans hf
        refine lv_iload_n hx hb dX5_findBest_91 rfl (lv_at hl 1 rfl) ?_
        refine lv_bipush (v := 16) hx hb dX5_findBest_92 (by decide) ?_
        refine lv_icmp_ge (tgt := 110) hx hb dX5_findBest_94 (by decide) (fun c_7 => ?_) (fun c_7 => ?_)
        · have hf := (if_pos c_7).symm.trans hf
          refine lv_iconst (v := 0) hx hb dX5_findBest_110 (by decide) ?_
          refine lv_istore_n (lv' := [(1, .int (0 : Int32)), (0, .ref (ad 0))]) hx hb dX5_findBest_111 rfl hl (by decide) rfl (fun ls hl => ?_)
          exact ih5 (0 : Int32) 0 0 u H locs ls hf hP hD hS (lv_sub hl [1, 0] rfl)
        · have hf := (if_neg c_7).symm.trans hf
          refine lv_aload_n hx hb dX5_findBest_97 rfl (lv_at hl 0 rfl) ?_
          refine va_get (D := (dC, dI)) (ci := 5) (v := .ref (ad 16)) (C := RX5) (T := TX5) (N := 36) hx hb hts iX5 hown hK hP 0 rfl rfl 26 (by decide) k_6 (fun _ h9 => h9) rfl dX5_findBest_98 ?_
          refine lv_iload_n hx hb dX5_findBest_101 rfl (lv_at hl 1 rfl) ?_
          refine lv_iconst (v := 0) hx hb dX5_findBest_102 (by decide) ?_
          obtain ⟨h_8, hf⟩ := ck_of hf
          refine va_iast (f := (gA u 15)) hx hb hK hP hD hS 16 0 rfl rfl h_8 dX5_findBest_103 (fun H locs hP hD hS => ?_)
          have hP : va_P (dC, dI) vwCl (mw ad cI cL (sA u 15 (upd (gA u 15) v1.toNatClampNeg (0 : Int32)))) H := hP
          have hD : va_D A (mw ad cI cL (sA u 15 (upd (gA u 15) v1.toNatClampNeg (0 : Int32)))) := hD
          refine lv_iinc (v := (v1 + 1)) (lv' := [(1, .int (v1 + 1)), (0, .ref (ad 0))]) hx hb dX5_findBest_104 hl (k := 1) rfl rfl (by decide) rfl (fun ls hl => ?_)
          refine lv_goto (tgt := 91) hx hb dX5_findBest_107 (by decide) ?_
          exact ih4 (v1 + 1) 0 0 (sA u 15 (upd (gA u 15) v1.toNatClampNeg (0 : Int32))) H locs ls hf hP hD hS (lv_sub hl [1, 0] rfl)
      · intro v1 v2 v3 u H locs ls hf hP hD hS hl
        have hf := (eX5_findBest_112 n v1 v2 v3 u).symm.trans hf
        refine lv_iload_n hx hb dX5_findBest_112 rfl (lv_at hl 1 rfl) ?_
        refine lv_aload_n hx hb dX5_findBest_113 rfl (lv_at hl 0 rfl) ?_
        refine va_get (D := (dC, dI)) (ci := 5) (v := .int (gI u 2)) (C := RX5) (T := TX5) (N := 36) hx hb hts iX5 hown hK hP 0 rfl rfl 6 (by decide) k_3 (fun _ h9 => h9) rfl dX5_findBest_114 ?_
        refine lv_icmp_ge (tgt := 137) hx hb dX5_findBest_117 (by decide) (fun c_9 => ?_) (fun c_9 => ?_)
        · have hf := (if_pos c_9).symm.trans hf
          refine lv_iconst (v := 0) hx hb dX5_findBest_137 (by decide) ?_
          refine lv_istore_n (lv' := [(1, .int (0 : Int32)), (0, .ref (ad 0))]) hx hb dX5_findBest_138 rfl hl (by decide) rfl (fun ls hl => ?_)
          exact ih6 (0 : Int32) 0 0 u H locs ls hf hP hD hS (lv_sub hl [1, 0] rfl)
        · have hf := (if_neg c_9).symm.trans hf
          refine lv_aload_n hx hb dX5_findBest_120 rfl (lv_at hl 0 rfl) ?_
          refine va_get (D := (dC, dI)) (ci := 5) (v := .ref (ad 15)) (C := RX5) (T := TX5) (N := 36) hx hb hts iX5 hown hK hP 0 rfl rfl 25 (by decide) k_7 (fun _ h9 => h9) rfl dX5_findBest_121 ?_
          refine lv_iload_n hx hb dX5_findBest_124 rfl (lv_at hl 1 rfl) ?_
          refine lv_aload_n hx hb dX5_findBest_125 rfl (lv_at hl 0 rfl) ?_
          refine lv_iload_n hx hb dX5_findBest_126 rfl (lv_at hl 1 rfl) ?_
          obtain ⟨w_10, hw_10, hf⟩ := ob hf
          have hFc := freeAll hD hS hA
          refine va_calli (va_runV (As := [.int v1]) (rest := [.int v1, .ref (ad 15)]) ⟨hx, hb, hml, hown, hts⟩ (mX5_firstOf l dC dI cI cL ad H.size u v1 n w_10 hw_10) (cwV 1 hts gX5_findBest_X5_firstOf rfl rfl rfl (by decide +kernel) ⟨Nat.le_of_ble_eq_true rfl, Nat.le_of_ble_eq_true rfl⟩) ⟨wPre_blind, va_recv hK hP (ci := 5) (q0 := 0) rfl rfl, wPre_of hP hK hD hZ⟩ rfl rfl hl.1 rfl (lv_room (Nat.le_of_ble_eq_true rfl)) dX5_findBest_127 ⟨Nat.zero_le _, Nat.zero_le _⟩) hS (fun q _ h => hFc q h) hFc (fun r2 u2 t H1 locs ht hvm hw hB hz1 hk1 hS => ?_)
          obtain ⟨hP1, hK1, hD1⟩ := hB
          rw [ht] at hP1
          have e1 : r2 = w_10.1 := congrArg Prod.fst hw
          have e2 : u2 = w_10.2 := congrArg Prod.snd hw
          subst r2 u2
          have hP : va_P (dC, dI) vwCl (mw ad cI cL w_10.2) H1 := hP1
          have hD : va_D A (mw ad cI cL w_10.2) := hD1.weaken (fun _ _ _ h => hFc _ h)
          clear hP1 hD1 hK1 hFc hk1
          generalize H1 = H at hP hS ⊢
          obtain ⟨h_11, hf⟩ := ck_of hf
          refine va_iast (f := (gA w_10.2 14)) hx hb hK hP hD hS 15 0 rfl rfl h_11 dX5_findBest_130 (fun H locs hP hD hS => ?_)
          have hP : va_P (dC, dI) vwCl (mw ad cI cL (sA w_10.2 14 (upd (gA w_10.2 14) v1.toNatClampNeg w_10.1))) H := hP
          have hD : va_D A (mw ad cI cL (sA w_10.2 14 (upd (gA w_10.2 14) v1.toNatClampNeg w_10.1))) := hD
          refine lv_iinc (v := (v1 + 1)) (lv' := [(1, .int (v1 + 1)), (0, .ref (ad 0))]) hx hb dX5_findBest_131 hl (k := 1) rfl rfl (by decide) rfl (fun ls hl => ?_)
          refine lv_goto (tgt := 112) hx hb dX5_findBest_134 (by decide) ?_
          exact ih5 (v1 + 1) 0 0 (sA w_10.2 14 (upd (gA w_10.2 14) v1.toNatClampNeg w_10.1)) H locs ls hf hP hD hS (lv_sub hl [1, 0] rfl)
      · intro v1 v2 v3 u H locs ls hf hP hD hS hl
        have hf := (eX5_findBest_139 n v1 v2 v3 u).symm.trans hf
        refine lv_iload_n hx hb dX5_findBest_139 rfl (lv_at hl 1 rfl) ?_
        refine lv_if_lt (tgt := 160) hx hb dX5_findBest_140 (by decide) (fun c_12 => ?_) (fun c_12 => ?_)
        · have hf := (if_pos c_12).symm.trans hf
          have hf := Option.some.inj hf
          exact W.vret hx hb hr (fun t ht hW => ⟨⟨u, rfl, hf, ⟨by rw [ht]; exact hP, va_K.moved hW.alike hK, hD⟩⟩, hS.F ht⟩) hS.2.2 dX5_findBest_160
        · have hf := (if_neg c_12).symm.trans hf
          refine lv_aload_n hx hb dX5_findBest_143 rfl (lv_at hl 0 rfl) ?_
          refine lv_iload_n hx hb dX5_findBest_144 rfl (lv_at hl 1 rfl) ?_
          obtain ⟨w_13, hw_13, hf⟩ := ob hf
          have hFc := freeAll hD hS hA
          refine va_callv (va_runV (As := [.int v1]) (rest := []) ⟨hx, hb, hml, hown, hts⟩ (mX5_addUp l dC dI cI cL ad H.size u v1 n w_13 hw_13) (cwV 1 hts gX5_findBest_X5_addUp rfl rfl rfl (by decide +kernel) ⟨Nat.le_of_ble_eq_true rfl, Nat.le_of_ble_eq_true rfl⟩) ⟨wPre_blind, va_recv hK hP (ci := 5) (q0 := 0) rfl rfl, wPre_of hP hK hD hZ⟩ rfl rfl hl.1 rfl (lv_room (Nat.le_of_ble_eq_true rfl)) dX5_findBest_145 ⟨Nat.zero_le _, Nat.zero_le _⟩) hS (fun q _ h => hFc q h) hFc (fun u2 t H1 locs ht hvm hw hB hz1 hk1 hS => ?_)
          obtain ⟨hP1, hK1, hD1⟩ := hB
          rw [ht] at hP1
          subst u2
          have hP : va_P (dC, dI) vwCl (mw ad cI cL w_13) H1 := hP1
          have hD : va_D A (mw ad cI cL w_13) := hD1.weaken (fun _ _ _ h => hFc _ h)
          clear hP1 hD1 hK1 hFc hk1
          generalize H1 = H at hP hS ⊢
          refine lv_aload_n hx hb dX5_findBest_148 rfl (lv_at hl 0 rfl) ?_
          obtain ⟨w_14, hw_14, hf⟩ := ob hf
          have hFc := freeAll hD hS hA
          refine va_callv (va_runV (As := []) (rest := []) ⟨hx, hb, hml, hown, hts⟩ (mX5_look l dC dI cI cL ad H.size w_13  n w_14 hw_14) (cwV 0 hts gX5_findBest_X5_look rfl rfl rfl (by decide +kernel) ⟨Nat.le_of_ble_eq_true rfl, Nat.le_of_ble_eq_true rfl⟩) ⟨wPre_blind, va_recv hK hP (ci := 5) (q0 := 0) rfl rfl, wPre_of hP hK hD hZ⟩ rfl rfl hl.1 rfl (lv_room (Nat.le_of_ble_eq_true rfl)) dX5_findBest_149 ⟨Nat.zero_le _, Nat.zero_le _⟩) hS (fun q _ h => hFc q h) hFc (fun u2 t H1 locs ht hvm hw hB hz1 hk1 hS => ?_)
          obtain ⟨hP1, hK1, hD1⟩ := hB
          rw [ht] at hP1
          subst u2
          have hP : va_P (dC, dI) vwCl (mw ad cI cL w_14) H1 := hP1
          have hD : va_D A (mw ad cI cL w_14) := hD1.weaken (fun _ _ _ h => hFc _ h)
          clear hP1 hD1 hK1 hFc hk1
          generalize H1 = H at hP hS ⊢
          refine lv_aload_n hx hb dX5_findBest_152 rfl (lv_at hl 0 rfl) ?_
          obtain ⟨w_15, hw_15, hf⟩ := ob hf
          have hFc := freeAll hD hS hA
          refine va_calli (va_runV (As := []) (rest := []) ⟨hx, hb, hml, hown, hts⟩ (mX5_nextChoice l dC dI cI cL ad H.size w_14  n w_15 hw_15) (cwV 0 hts gX5_findBest_X5_nextChoice rfl rfl rfl (by decide +kernel) ⟨Nat.le_of_ble_eq_true rfl, Nat.le_of_ble_eq_true rfl⟩) ⟨wPre_blind, va_recv hK hP (ci := 5) (q0 := 0) rfl rfl, wPre_of hP hK hD hZ⟩ rfl rfl hl.1 rfl (lv_room (Nat.le_of_ble_eq_true rfl)) dX5_findBest_153 ⟨Nat.zero_le _, Nat.zero_le _⟩) hS (fun q _ h => hFc q h) hFc (fun r2 u2 t H1 locs ht hvm hw hB hz1 hk1 hS => ?_)
          obtain ⟨hP1, hK1, hD1⟩ := hB
          rw [ht] at hP1
          have e1 : r2 = w_15.1 := congrArg Prod.fst hw
          have e2 : u2 = w_15.2 := congrArg Prod.snd hw
          subst r2 u2
          have hP : va_P (dC, dI) vwCl (mw ad cI cL w_15.2) H1 := hP1
          have hD : va_D A (mw ad cI cL w_15.2) := hD1.weaken (fun _ _ _ h => hFc _ h)
          clear hP1 hD1 hK1 hFc hk1
          generalize H1 = H at hP hS ⊢
          refine lv_istore_n (lv' := [(1, .int w_15.1), (0, .ref (ad 0))]) hx hb dX5_findBest_156 rfl hl (by decide) rfl (fun ls hl => ?_)
          refine lv_goto (tgt := 139) hx hb dX5_findBest_157 (by decide) ?_
          exact ih6 w_15.1 0 0 w_15.2 H locs ls hf hP hD hS (lv_sub hl [1, 0] rfl)
  exact (key n).1 0 0 0 u _ _ ls hf0 hP hD hS (lv_sub hl [0] rfl)

def fX5_best (n pc : Nat) (u : St) : Option (Int32 × St) := match n with
  | 0 => none
  | n + 1 => match pc with
    | 0 => ((FX5_findBest n  (sI u 0 (0 : Int32))).bind fun w_1 => (if (gI w_1 7) = 0 then some ((-2 : Int32), w_1) else some ((gI w_1 8), w_1)))
    | _ => none
theorem eX5_best_0 (n : Nat) (u : St) : fX5_best (n + 1) 0  u = ((FX5_findBest n  (sI u 0 (0 : Int32))).bind fun w_1 => (if (gI w_1 7) = 0 then some ((-2 : Int32), w_1) else some ((gI w_1 8), w_1))) := rfl
theorem vX5_best_0 (u : St) (r : Int32 × St) : Ev (fun n => fX5_best n 0  u) r ↔ Ev (fun n => ((FX5_findBest n  (sI u 0 (0 : Int32))).bind fun w_1 => (if (gI w_1 7) = 0 then some ((-2 : Int32), w_1) else some ((gI w_1 8), w_1)))) r := Ev_succ (fun n => fX5_best n 0  u) r
def FX5_best (n : Nat) (u : St) : Option (Int32 × St) := fX5_best n 0  u
set_option maxHeartbeats 4000000 in
set_option maxRecDepth 100000 in
theorem mX5_best (l : Launch) (dC : Nat → ClassId) (dI : Nat → Nat → Nat) (cI cL : ClassId) (ad : Nat → Nat) (sz : Nat) (u : St) (n : Nat) (r : Int32 × St) (hf0 : FX5_best n  u = some r) : Met l yX5_best wsX5_best ({ frames := 3, cells := 0, slots := 0, locals := 65 }) (va_Pc [.ref (ad 0)] (wPre dC dI cI cL (mw ad cI cL u) sz)) (va_Qi (fun a t => (a, t) = r) (fun t => wPost dC dI cI cL (va_A (mw ad cI cL u) sz) (mw ad cI cL t)) (va_A (mw ad cI cL u) sz)) 0 0 (va_A (mw ad cI cL u) sz) := by
  refine Met.ofW (cc := cX5_best) (maxL := 1) (ret := (some .int)) (by decide) rfl ?_
  intro p e s m args below meth c s₁ B hml hv
  obtain ⟨rfl, hsz, hP, hK, hD0, hZ⟩ := hv
  have hx := B.exec
  have hb := B.bytes
  have hr := B.returns
  have hts := atoms_spec (ws := wsX5_best) B.pre
  have hown : s.vm.findClass RX5 = some m.cls := findClass_of_methodNamed B.named
  have hlocks := B.notSynchronized
  subst hsz
  have hD := hD0.self (sz := s.heap.size)
  generalize hAe : va_A (mw ad cI cL u) s.heap.size = A at hD ⊢
  have hA : ∀ q : Nat, s.heap.size ≤ q → A q := fun q h => by rw [← hAe]; exact Or.inr h
  have hS : va_S A s.heap s.heap [] := va_S.rf
  have iX5 : ∀ w ∈ u_ws RX5 TX5 36, w ∈ wsX5_best := fun _ h => List.mem_cons_of_mem _ (List.mem_append_right _ h)
  have k_0 := hts (.fieldLink RX5 80 "LampChoiceModel" "code" "I") (by decide +kernel)
  have k_1 := hts (.fieldLink RX5 122 "LampChoiceModel" "found" "Z") (by decide +kernel)
  have k_2 := hts (.fieldLink RX5 125 "LampChoiceModel" "bestWatts" "I") (by decide +kernel)
  have hl := lv_entry ([.ref (ad 0)]) (n := 1) (Nat.le_of_ble_eq_true rfl)
  rw [lg_entry_eq]
  generalize (lg_sl ([.ref (ad 0)]) ++ List.replicate (1 - (lg_sl ([.ref (ad 0)])).length) Slot.unset).toArray = ls at hl ⊢
  have hl : lv_has ls 1 [(0, .ref (ad 0))] := hl
  have key : ∀ n : Nat, (∀ (u : St) (H : Heap) (locs : List Loc) (ls : Array Slot), fX5_best n 0  u = some r → va_P (dC, dI) vwCl (mw ad cI cL u) H → va_D A (mw ad cI cL u) → va_S A s.heap H locs → lv_has ls 1 [(0, .ref (ad 0))] → W p l e (headSpec wsX5_best ({ frames := 3, cells := 0, slots := 0, locals := 65 })).room s m ([.ref (ad 0)] : List Value).toArray below meth c H locs 0 0 (MQ below (va_Qi (fun a t => (a, t) = r) (fun t => wPost dC dI cI cL A (mw ad cI cL t)) A) ([.ref (ad 0)] : List Value).toArray s 0 0 A) (F0 m 0 ls [])) := by
    intro n
    induction n with
    | zero => exact (fun _ _ _ _ hf => nomatch (show (none : Option (Int32 × St)) = some r from hf))
    | succ n ih =>
      have ih0 := ih
      · intro  u H locs ls hf hP hD hS hl
        have hf := (eX5_best_0 n  u).symm.trans hf
        refine lv_aload_n hx hb dX5_best_0 rfl (lv_at hl 0 rfl) ?_
        refine lv_iconst (v := 0) hx hb dX5_best_1 (by decide) ?_
        refine va_put (D := (dC, dI)) (ci := 5) (v := .int (0 : Int32)) (ty := .int) (C := RX5) (T := TX5) (N := 36) hx hb hts iX5 tyX5 tyX5_ok nmX5 hown hK hP hD hS 0 rfl rfl 0 (by decide) k_0 (fun _ h9 => h9) rfl (by decide +kernel) rfl rfl (Nat.le_of_ble_eq_true rfl) dX5_best_2 (fun H locs hP hD hS => ?_)
        have hP : va_P (dC, dI) vwCl (mw ad cI cL (sI u 0 (0 : Int32))) H := hP
        have hD : va_D A (mw ad cI cL (sI u 0 (0 : Int32))) := hD
        refine lv_aload_n hx hb dX5_best_5 rfl (lv_at hl 0 rfl) ?_
        obtain ⟨w_1, hw_1, hf⟩ := ob hf
        have hFc := freeAll hD hS hA
        refine va_callv (va_runV (As := []) (rest := []) ⟨hx, hb, hml, hown, hts⟩ (mX5_findBest l dC dI cI cL ad H.size (sI u 0 (0 : Int32))  n w_1 hw_1) (cwV 0 hts gX5_best_X5_findBest rfl rfl rfl (by decide +kernel) ⟨Nat.le_of_ble_eq_true rfl, Nat.le_of_ble_eq_true rfl⟩) ⟨wPre_blind, va_recv hK hP (ci := 5) (q0 := 0) rfl rfl, wPre_of hP hK hD hZ⟩ rfl rfl hl.1 rfl (lv_room (Nat.le_of_ble_eq_true rfl)) dX5_best_6 ⟨Nat.zero_le _, Nat.zero_le _⟩) hS (fun q _ h => hFc q h) hFc (fun u2 t H1 locs ht hvm hw hB hz1 hk1 hS => ?_)
        obtain ⟨hP1, hK1, hD1⟩ := hB
        rw [ht] at hP1
        subst u2
        have hP : va_P (dC, dI) vwCl (mw ad cI cL w_1) H1 := hP1
        have hD : va_D A (mw ad cI cL w_1) := hD1.weaken (fun _ _ _ h => hFc _ h)
        clear hP1 hD1 hK1 hFc hk1
        generalize H1 = H at hP hS ⊢
        refine lv_aload_n hx hb dX5_best_9 rfl (lv_at hl 0 rfl) ?_
        refine va_get (D := (dC, dI)) (ci := 5) (v := .int (gI w_1 7)) (C := RX5) (T := TX5) (N := 36) hx hb hts iX5 hown hK hP 0 rfl rfl 20 (by decide) k_1 (fun _ h9 => h9) rfl dX5_best_10 ?_
        refine lv_if_eq (tgt := 23) hx hb dX5_best_13 (by decide) (fun c_2 => ?_) (fun c_2 => ?_)
        · have hf := (if_pos c_2).symm.trans hf
          refine lv_bipush (v := -2) hx hb dX5_best_23 (by decide) ?_
          have hf := Option.some.inj hf
          exact W.iret (v := (-2 : Int32)) hx hb hr (fun t ht hW => ⟨⟨(-2 : Int32), w_1, rfl, hf, ⟨by rw [ht]; exact hP, va_K.moved hW.alike hK, hD⟩⟩, hS.F ht⟩) hS.2.2 dX5_best_25
        · have hf := (if_neg c_2).symm.trans hf
          refine lv_aload_n hx hb dX5_best_16 rfl (lv_at hl 0 rfl) ?_
          refine va_get (D := (dC, dI)) (ci := 5) (v := .int (gI w_1 8)) (C := RX5) (T := TX5) (N := 36) hx hb hts iX5 hown hK hP 0 rfl rfl 22 (by decide) k_2 (fun _ h9 => h9) rfl dX5_best_17 ?_
          refine lv_goto (tgt := 25) hx hb dX5_best_20 (by decide) ?_
          have hf := Option.some.inj hf
          exact W.iret (v := (gI w_1 8)) hx hb hr (fun t ht hW => ⟨⟨(gI w_1 8), w_1, rfl, hf, ⟨by rw [ht]; exact hP, va_K.moved hW.alike hK, hD⟩⟩, hS.F ht⟩) hS.2.2 dX5_best_25
  exact (key n)  u _ _ ls hf0 hP hD hS (lv_sub hl [0] rfl)

def fX5_lamp (n pc : Nat) (v1 : Int32) (u : St) : Option (Int32 × St) := match n with
  | 0 => none
  | n + 1 => match pc with
    | 0 => ((FX5_isPlace n v1 u).bind fun w_1 => (if w_1.1 = 0 then some ((0 : Int32), sI w_1.2 0 (1 : Int32)) else ((FX5_findBest n  (sI w_1.2 0 (0 : Int32))).bind fun w_5 => (if (gI w_5 7) = 0 then some ((-2 : Int32), w_5) else (if ck v1 7 = true then some (((gA w_5 13) v1.toNatClampNeg), w_5) else none)))))
    | _ => none
theorem eX5_lamp_0 (n : Nat) (v1 : Int32) (u : St) : fX5_lamp (n + 1) 0 v1 u = ((FX5_isPlace n v1 u).bind fun w_1 => (if w_1.1 = 0 then some ((0 : Int32), sI w_1.2 0 (1 : Int32)) else ((FX5_findBest n  (sI w_1.2 0 (0 : Int32))).bind fun w_5 => (if (gI w_5 7) = 0 then some ((-2 : Int32), w_5) else (if ck v1 7 = true then some (((gA w_5 13) v1.toNatClampNeg), w_5) else none))))) := rfl
theorem vX5_lamp_0 (v1 : Int32) (u : St) (r : Int32 × St) : Ev (fun n => fX5_lamp n 0 v1 u) r ↔ Ev (fun n => ((FX5_isPlace n v1 u).bind fun w_1 => (if w_1.1 = 0 then some ((0 : Int32), sI w_1.2 0 (1 : Int32)) else ((FX5_findBest n  (sI w_1.2 0 (0 : Int32))).bind fun w_5 => (if (gI w_5 7) = 0 then some ((-2 : Int32), w_5) else (if ck v1 7 = true then some (((gA w_5 13) v1.toNatClampNeg), w_5) else none)))))) r := Ev_succ (fun n => fX5_lamp n 0 v1 u) r
def FX5_lamp (n : Nat) (v1 : Int32) (u : St) : Option (Int32 × St) := fX5_lamp n 0 v1 u
set_option maxHeartbeats 4000000 in
set_option maxRecDepth 100000 in
theorem mX5_lamp (l : Launch) (dC : Nat → ClassId) (dI : Nat → Nat → Nat) (cI cL : ClassId) (ad : Nat → Nat) (sz : Nat) (u : St) (z1 : Int32) (n : Nat) (r : Int32 × St) (hf0 : FX5_lamp n z1 u = some r) : Met l yX5_lamp wsX5_lamp ({ frames := 3, cells := 0, slots := 0, locals := 65 }) (va_Pc [.ref (ad 0), .int z1] (wPre dC dI cI cL (mw ad cI cL u) sz)) (va_Qi (fun a t => (a, t) = r) (fun t => wPost dC dI cI cL (va_A (mw ad cI cL u) sz) (mw ad cI cL t)) (va_A (mw ad cI cL u) sz)) 0 0 (va_A (mw ad cI cL u) sz) := by
  refine Met.ofW (cc := cX5_lamp) (maxL := 2) (ret := (some .int)) (by decide) rfl ?_
  intro p e s m args below meth c s₁ B hml hv
  obtain ⟨rfl, hsz, hP, hK, hD0, hZ⟩ := hv
  have hx := B.exec
  have hb := B.bytes
  have hr := B.returns
  have hts := atoms_spec (ws := wsX5_lamp) B.pre
  have hown : s.vm.findClass RX5 = some m.cls := findClass_of_methodNamed B.named
  have hlocks := B.notSynchronized
  subst hsz
  have hD := hD0.self (sz := s.heap.size)
  generalize hAe : va_A (mw ad cI cL u) s.heap.size = A at hD ⊢
  have hA : ∀ q : Nat, s.heap.size ≤ q → A q := fun q h => by rw [← hAe]; exact Or.inr h
  have hS : va_S A s.heap s.heap [] := va_S.rf
  have iX5 : ∀ w ∈ u_ws RX5 TX5 36, w ∈ wsX5_lamp := fun _ h => List.mem_cons_of_mem _ (List.mem_append_right _ h)
  have k_0 := hts (.fieldLink RX5 80 "LampChoiceModel" "code" "I") (by decide +kernel)
  have k_1 := hts (.fieldLink RX5 122 "LampChoiceModel" "found" "Z") (by decide +kernel)
  have k_2 := hts (.fieldLink RX5 56 "LampChoiceModel" "best" "[I") (by decide +kernel)
  have hl := lv_entry ([.ref (ad 0), .int z1]) (n := 2) (Nat.le_of_ble_eq_true rfl)
  rw [lg_entry_eq]
  generalize (lg_sl ([.ref (ad 0), .int z1]) ++ List.replicate (2 - (lg_sl ([.ref (ad 0), .int z1])).length) Slot.unset).toArray = ls at hl ⊢
  have hl : lv_has ls 2 [(0, .ref (ad 0)), (1, .int z1)] := hl
  have key : ∀ n : Nat, (∀ (v1 : Int32) (u : St) (H : Heap) (locs : List Loc) (ls : Array Slot), fX5_lamp n 0 v1 u = some r → va_P (dC, dI) vwCl (mw ad cI cL u) H → va_D A (mw ad cI cL u) → va_S A s.heap H locs → lv_has ls 2 [(0, .ref (ad 0)), (1, .int v1)] → W p l e (headSpec wsX5_lamp ({ frames := 3, cells := 0, slots := 0, locals := 65 })).room s m ([.ref (ad 0), .int z1] : List Value).toArray below meth c H locs 0 0 (MQ below (va_Qi (fun a t => (a, t) = r) (fun t => wPost dC dI cI cL A (mw ad cI cL t)) A) ([.ref (ad 0), .int z1] : List Value).toArray s 0 0 A) (F0 m 0 ls [])) := by
    intro n
    induction n with
    | zero => exact (fun _ _ _ _ _ hf => nomatch (show (none : Option (Int32 × St)) = some r from hf))
    | succ n ih =>
      have ih0 := ih
      · intro v1 u H locs ls hf hP hD hS hl
        have hf := (eX5_lamp_0 n v1 u).symm.trans hf
        refine lv_aload_n hx hb dX5_lamp_0 rfl (lv_at hl 0 rfl) ?_
        refine lv_aload_n hx hb dX5_lamp_1 rfl (lv_at hl 0 rfl) ?_
        refine lv_iload_n hx hb dX5_lamp_2 rfl (lv_at hl 1 rfl) ?_
        obtain ⟨w_1, hw_1, hf⟩ := ob hf
        have hFc := freeAll hD hS hA
        refine va_calli (va_runV (As := [.int v1]) (rest := [.ref (ad 0)]) ⟨hx, hb, hml, hown, hts⟩ (mX5_isPlace l dC dI cI cL ad H.size u v1 n w_1 hw_1) (cwV 1 hts gX5_lamp_X5_isPlace rfl rfl rfl (by decide +kernel) ⟨Nat.le_of_ble_eq_true rfl, Nat.le_of_ble_eq_true rfl⟩) ⟨wPre_blind, va_recv hK hP (ci := 5) (q0 := 0) rfl rfl, wPre_of hP hK hD hZ⟩ rfl rfl hl.1 rfl (lv_room (Nat.le_of_ble_eq_true rfl)) dX5_lamp_3 ⟨Nat.zero_le _, Nat.zero_le _⟩) hS (fun q _ h => hFc q h) hFc (fun r2 u2 t H1 locs ht hvm hw hB hz1 hk1 hS => ?_)
        obtain ⟨hP1, hK1, hD1⟩ := hB
        rw [ht] at hP1
        have e1 : r2 = w_1.1 := congrArg Prod.fst hw
        have e2 : u2 = w_1.2 := congrArg Prod.snd hw
        subst r2 u2
        have hP : va_P (dC, dI) vwCl (mw ad cI cL w_1.2) H1 := hP1
        have hD : va_D A (mw ad cI cL w_1.2) := hD1.weaken (fun _ _ _ h => hFc _ h)
        clear hP1 hD1 hK1 hFc hk1
        generalize H1 = H at hP hS ⊢
        refine lv_if_eq (tgt := 13) hx hb dX5_lamp_6 (by decide) (fun c_2 => ?_) (fun c_2 => ?_)
        · have hf := (if_pos c_2).symm.trans hf
          refine lv_iconst (v := 1) hx hb dX5_lamp_13 (by decide) ?_
          refine va_put (D := (dC, dI)) (ci := 5) (v := .int (1 : Int32)) (ty := .int) (C := RX5) (T := TX5) (N := 36) hx hb hts iX5 tyX5 tyX5_ok nmX5 hown hK hP hD hS 0 rfl rfl 0 (by decide) k_0 (fun _ h9 => h9) rfl (by decide +kernel) rfl rfl (Nat.le_of_ble_eq_true rfl) dX5_lamp_14 (fun H locs hP hD hS => ?_)
          have hP : va_P (dC, dI) vwCl (mw ad cI cL (sI w_1.2 0 (1 : Int32))) H := hP
          have hD : va_D A (mw ad cI cL (sI w_1.2 0 (1 : Int32))) := hD
          refine lv_aload_n hx hb dX5_lamp_17 rfl (lv_at hl 0 rfl) ?_
          refine va_get (D := (dC, dI)) (ci := 5) (v := .int ((1 : Int32))) (C := RX5) (T := TX5) (N := 36) hx hb hts iX5 hown hK hP 0 rfl rfl 0 (by decide) k_0 (fun _ h9 => h9) rfl dX5_lamp_18 ?_
          refine lv_if_le (tgt := 26) hx hb dX5_lamp_21 (by decide) (fun c_3 => ?_) (fun c_3 => ?_)
          · exact absurd c_3 (by decide)
          · refine lv_iconst (v := 0) hx hb dX5_lamp_24 (by decide) ?_
            have hf := Option.some.inj hf
            exact W.iret (v := (0 : Int32)) hx hb hr (fun t ht hW => ⟨⟨(0 : Int32), (sI w_1.2 0 (1 : Int32)), rfl, hf, ⟨by rw [ht]; exact hP, va_K.moved hW.alike hK, hD⟩⟩, hS.F ht⟩) hS.2.2 dX5_lamp_25
        · have hf := (if_neg c_2).symm.trans hf
          refine lv_iconst (v := 0) hx hb dX5_lamp_9 (by decide) ?_
          refine lv_goto (tgt := 14) hx hb dX5_lamp_10 (by decide) ?_
          refine va_put (D := (dC, dI)) (ci := 5) (v := .int (0 : Int32)) (ty := .int) (C := RX5) (T := TX5) (N := 36) hx hb hts iX5 tyX5 tyX5_ok nmX5 hown hK hP hD hS 0 rfl rfl 0 (by decide) k_0 (fun _ h9 => h9) rfl (by decide +kernel) rfl rfl (Nat.le_of_ble_eq_true rfl) dX5_lamp_14 (fun H locs hP hD hS => ?_)
          have hP : va_P (dC, dI) vwCl (mw ad cI cL (sI w_1.2 0 (0 : Int32))) H := hP
          have hD : va_D A (mw ad cI cL (sI w_1.2 0 (0 : Int32))) := hD
          refine lv_aload_n hx hb dX5_lamp_17 rfl (lv_at hl 0 rfl) ?_
          refine va_get (D := (dC, dI)) (ci := 5) (v := .int ((0 : Int32))) (C := RX5) (T := TX5) (N := 36) hx hb hts iX5 hown hK hP 0 rfl rfl 0 (by decide) k_0 (fun _ h9 => h9) rfl dX5_lamp_18 ?_
          refine lv_if_le (tgt := 26) hx hb dX5_lamp_21 (by decide) (fun c_4 => ?_) (fun c_4 => ?_)
          · refine lv_aload_n hx hb dX5_lamp_26 rfl (lv_at hl 0 rfl) ?_
            obtain ⟨w_5, hw_5, hf⟩ := ob hf
            have hFc := freeAll hD hS hA
            refine va_callv (va_runV (As := []) (rest := []) ⟨hx, hb, hml, hown, hts⟩ (mX5_findBest l dC dI cI cL ad H.size (sI w_1.2 0 (0 : Int32))  n w_5 hw_5) (cwV 0 hts gX5_lamp_X5_findBest rfl rfl rfl (by decide +kernel) ⟨Nat.le_of_ble_eq_true rfl, Nat.le_of_ble_eq_true rfl⟩) ⟨wPre_blind, va_recv hK hP (ci := 5) (q0 := 0) rfl rfl, wPre_of hP hK hD hZ⟩ rfl rfl hl.1 rfl (lv_room (Nat.le_of_ble_eq_true rfl)) dX5_lamp_27 ⟨Nat.zero_le _, Nat.zero_le _⟩) hS (fun q _ h => hFc q h) hFc (fun u2 t H1 locs ht hvm hw hB hz1 hk1 hS => ?_)
            obtain ⟨hP1, hK1, hD1⟩ := hB
            rw [ht] at hP1
            subst u2
            have hP : va_P (dC, dI) vwCl (mw ad cI cL w_5) H1 := hP1
            have hD : va_D A (mw ad cI cL w_5) := hD1.weaken (fun _ _ _ h => hFc _ h)
            clear hP1 hD1 hK1 hFc hk1
            generalize H1 = H at hP hS ⊢
            refine lv_aload_n hx hb dX5_lamp_30 rfl (lv_at hl 0 rfl) ?_
            refine va_get (D := (dC, dI)) (ci := 5) (v := .int (gI w_5 7)) (C := RX5) (T := TX5) (N := 36) hx hb hts iX5 hown hK hP 0 rfl rfl 20 (by decide) k_1 (fun _ h9 => h9) rfl dX5_lamp_31 ?_
            refine lv_if_eq (tgt := 46) hx hb dX5_lamp_34 (by decide) (fun c_6 => ?_) (fun c_6 => ?_)
            · have hf := (if_pos c_6).symm.trans hf
              refine lv_bipush (v := -2) hx hb dX5_lamp_46 (by decide) ?_
              have hf := Option.some.inj hf
              exact W.iret (v := (-2 : Int32)) hx hb hr (fun t ht hW => ⟨⟨(-2 : Int32), w_5, rfl, hf, ⟨by rw [ht]; exact hP, va_K.moved hW.alike hK, hD⟩⟩, hS.F ht⟩) hS.2.2 dX5_lamp_48
            · have hf := (if_neg c_6).symm.trans hf
              refine lv_aload_n hx hb dX5_lamp_37 rfl (lv_at hl 0 rfl) ?_
              refine va_get (D := (dC, dI)) (ci := 5) (v := .ref (ad 14)) (C := RX5) (T := TX5) (N := 36) hx hb hts iX5 hown hK hP 0 rfl rfl 21 (by decide) k_2 (fun _ h9 => h9) rfl dX5_lamp_38 ?_
              refine lv_iload_n hx hb dX5_lamp_41 rfl (lv_at hl 1 rfl) ?_
              obtain ⟨h_7, hf⟩ := ck_of hf
              refine va_iald (f := (gA w_5 13)) hx hb hK hP 14 0 rfl rfl h_7 dX5_lamp_42 ?_
              refine lv_goto (tgt := 48) hx hb dX5_lamp_43 (by decide) ?_
              have hf := Option.some.inj hf
              exact W.iret (v := ((gA w_5 13) v1.toNatClampNeg)) hx hb hr (fun t ht hW => ⟨⟨((gA w_5 13) v1.toNatClampNeg), w_5, rfl, hf, ⟨by rw [ht]; exact hP, va_K.moved hW.alike hK, hD⟩⟩, hS.F ht⟩) hS.2.2 dX5_lamp_48
          · exact absurd c_4 (by decide)
  exact (key n) z1 u _ _ ls hf0 hP hD hS (lv_sub hl [0, 1] rfl)

def fX5_level (n pc : Nat) (v1 : Int32) (v2 : Int32) (v3 : Int32) (u : St) : Option (Int32 × St) := match n with
  | 0 => none
  | n + 1 => match pc with
    | 0 => ((FX5_isPoint n v1 u).bind fun w_1 => (if w_1.1 = 0 then some ((0 : Int32), sI w_1.2 0 (1 : Int32)) else ((FX5_findBest n  (sI w_1.2 0 (0 : Int32))).bind fun w_5 => (if (gI w_5 7) = 0 then some ((-2 : Int32), w_5) else fX5_level n 44 v1 (0 : Int32) (0 : Int32) w_5))))
    | 44 => (if (gI u 2) ≤ v3 then some (v2, u) else (if ck v3 7 = true then (if 0 ≤ ((gA u 13) v3.toNatClampNeg) then ((FX5_lightOf n ((gA u 13) v3.toNatClampNeg) v3 v1 u).bind fun w_10 => fX5_level n 44 v1 (v2 + w_10.1) (v3 + 1) w_10.2) else fX5_level n 44 v1 (v2 + (0 : Int32)) (v3 + 1) u) else none))
    | _ => none
theorem eX5_level_0 (n : Nat) (v1 : Int32) (v2 : Int32) (v3 : Int32) (u : St) : fX5_level (n + 1) 0 v1 v2 v3 u = ((FX5_isPoint n v1 u).bind fun w_1 => (if w_1.1 = 0 then some ((0 : Int32), sI w_1.2 0 (1 : Int32)) else ((FX5_findBest n  (sI w_1.2 0 (0 : Int32))).bind fun w_5 => (if (gI w_5 7) = 0 then some ((-2 : Int32), w_5) else fX5_level n 44 v1 (0 : Int32) (0 : Int32) w_5)))) := rfl
theorem eX5_level_44 (n : Nat) (v1 : Int32) (v2 : Int32) (v3 : Int32) (u : St) : fX5_level (n + 1) 44 v1 v2 v3 u = (if (gI u 2) ≤ v3 then some (v2, u) else (if ck v3 7 = true then (if 0 ≤ ((gA u 13) v3.toNatClampNeg) then ((FX5_lightOf n ((gA u 13) v3.toNatClampNeg) v3 v1 u).bind fun w_10 => fX5_level n 44 v1 (v2 + w_10.1) (v3 + 1) w_10.2) else fX5_level n 44 v1 (v2 + (0 : Int32)) (v3 + 1) u) else none)) := rfl
theorem vX5_level_0 (v1 : Int32) (v2 : Int32) (v3 : Int32) (u : St) (r : Int32 × St) : Ev (fun n => fX5_level n 0 v1 v2 v3 u) r ↔ Ev (fun n => ((FX5_isPoint n v1 u).bind fun w_1 => (if w_1.1 = 0 then some ((0 : Int32), sI w_1.2 0 (1 : Int32)) else ((FX5_findBest n  (sI w_1.2 0 (0 : Int32))).bind fun w_5 => (if (gI w_5 7) = 0 then some ((-2 : Int32), w_5) else fX5_level n 44 v1 (0 : Int32) (0 : Int32) w_5))))) r := Ev_succ (fun n => fX5_level n 0 v1 v2 v3 u) r
theorem vX5_level_44 (v1 : Int32) (v2 : Int32) (v3 : Int32) (u : St) (r : Int32 × St) : Ev (fun n => fX5_level n 44 v1 v2 v3 u) r ↔ Ev (fun n => (if (gI u 2) ≤ v3 then some (v2, u) else (if ck v3 7 = true then (if 0 ≤ ((gA u 13) v3.toNatClampNeg) then ((FX5_lightOf n ((gA u 13) v3.toNatClampNeg) v3 v1 u).bind fun w_10 => fX5_level n 44 v1 (v2 + w_10.1) (v3 + 1) w_10.2) else fX5_level n 44 v1 (v2 + (0 : Int32)) (v3 + 1) u) else none))) r := Ev_succ (fun n => fX5_level n 44 v1 v2 v3 u) r
def FX5_level (n : Nat) (v1 : Int32) (u : St) : Option (Int32 × St) := fX5_level n 0 v1 0 0 u
set_option maxHeartbeats 4000000 in
set_option maxRecDepth 100000 in
theorem mX5_level (l : Launch) (dC : Nat → ClassId) (dI : Nat → Nat → Nat) (cI cL : ClassId) (ad : Nat → Nat) (sz : Nat) (u : St) (z1 : Int32) (n : Nat) (r : Int32 × St) (hf0 : FX5_level n z1 u = some r) : Met l yX5_level wsX5_level ({ frames := 3, cells := 0, slots := 0, locals := 65 }) (va_Pc [.ref (ad 0), .int z1] (wPre dC dI cI cL (mw ad cI cL u) sz)) (va_Qi (fun a t => (a, t) = r) (fun t => wPost dC dI cI cL (va_A (mw ad cI cL u) sz) (mw ad cI cL t)) (va_A (mw ad cI cL u) sz)) 0 0 (va_A (mw ad cI cL u) sz) := by
  refine Met.ofW (cc := cX5_level) (maxL := 4) (ret := (some .int)) (by decide) rfl ?_
  intro p e s m args below meth c s₁ B hml hv
  obtain ⟨rfl, hsz, hP, hK, hD0, hZ⟩ := hv
  have hx := B.exec
  have hb := B.bytes
  have hr := B.returns
  have hts := atoms_spec (ws := wsX5_level) B.pre
  have hown : s.vm.findClass RX5 = some m.cls := findClass_of_methodNamed B.named
  have hlocks := B.notSynchronized
  subst hsz
  have hD := hD0.self (sz := s.heap.size)
  generalize hAe : va_A (mw ad cI cL u) s.heap.size = A at hD ⊢
  have hA : ∀ q : Nat, s.heap.size ≤ q → A q := fun q h => by rw [← hAe]; exact Or.inr h
  have hS : va_S A s.heap s.heap [] := va_S.rf
  have iX5 : ∀ w ∈ u_ws RX5 TX5 36, w ∈ wsX5_level := fun _ h => List.mem_cons_of_mem _ (List.mem_append_right _ h)
  have k_0 := hts (.fieldLink RX5 80 "LampChoiceModel" "code" "I") (by decide +kernel)
  have k_1 := hts (.fieldLink RX5 122 "LampChoiceModel" "found" "Z") (by decide +kernel)
  have k_2 := hts (.fieldLink RX5 90 "LampChoiceModel" "places" "I") (by decide +kernel)
  have k_3 := hts (.fieldLink RX5 56 "LampChoiceModel" "best" "[I") (by decide +kernel)
  have hl := lv_entry ([.ref (ad 0), .int z1]) (n := 4) (Nat.le_of_ble_eq_true rfl)
  rw [lg_entry_eq]
  generalize (lg_sl ([.ref (ad 0), .int z1]) ++ List.replicate (4 - (lg_sl ([.ref (ad 0), .int z1])).length) Slot.unset).toArray = ls at hl ⊢
  have hl : lv_has ls 4 [(0, .ref (ad 0)), (1, .int z1)] := hl
  have key : ∀ n : Nat, (∀ (v1 : Int32) (v2 : Int32) (v3 : Int32) (u : St) (H : Heap) (locs : List Loc) (ls : Array Slot), fX5_level n 0 v1 v2 v3 u = some r → va_P (dC, dI) vwCl (mw ad cI cL u) H → va_D A (mw ad cI cL u) → va_S A s.heap H locs → lv_has ls 4 [(0, .ref (ad 0)), (1, .int v1)] → W p l e (headSpec wsX5_level ({ frames := 3, cells := 0, slots := 0, locals := 65 })).room s m ([.ref (ad 0), .int z1] : List Value).toArray below meth c H locs 0 0 (MQ below (va_Qi (fun a t => (a, t) = r) (fun t => wPost dC dI cI cL A (mw ad cI cL t)) A) ([.ref (ad 0), .int z1] : List Value).toArray s 0 0 A) (F0 m 0 ls [])) ∧ (∀ (v1 : Int32) (v2 : Int32) (v3 : Int32) (u : St) (H : Heap) (locs : List Loc) (ls : Array Slot), fX5_level n 44 v1 v2 v3 u = some r → va_P (dC, dI) vwCl (mw ad cI cL u) H → va_D A (mw ad cI cL u) → va_S A s.heap H locs → lv_has ls 4 [(0, .ref (ad 0)), (1, .int v1), (2, .int v2), (3, .int v3)] → W p l e (headSpec wsX5_level ({ frames := 3, cells := 0, slots := 0, locals := 65 })).room s m ([.ref (ad 0), .int z1] : List Value).toArray below meth c H locs 0 0 (MQ below (va_Qi (fun a t => (a, t) = r) (fun t => wPost dC dI cI cL A (mw ad cI cL t)) A) ([.ref (ad 0), .int z1] : List Value).toArray s 0 0 A) (F0 m 44 ls [])) := by
    intro n
    induction n with
    | zero => exact ⟨(fun _ _ _ _ _ _ _ hf => nomatch (show (none : Option (Int32 × St)) = some r from hf)), (fun _ _ _ _ _ _ _ hf => nomatch (show (none : Option (Int32 × St)) = some r from hf))⟩
    | succ n ih =>
      obtain ⟨ih0, ih1⟩ := ih
      refine ⟨?_, ?_⟩
      · intro v1 v2 v3 u H locs ls hf hP hD hS hl
        have hf := (eX5_level_0 n v1 v2 v3 u).symm.trans hf
        refine lv_aload_n hx hb dX5_level_0 rfl (lv_at hl 0 rfl) ?_
        refine lv_aload_n hx hb dX5_level_1 rfl (lv_at hl 0 rfl) ?_
        refine lv_iload_n hx hb dX5_level_2 rfl (lv_at hl 1 rfl) ?_
        obtain ⟨w_1, hw_1, hf⟩ := ob hf
        have hFc := freeAll hD hS hA
        refine va_calli (va_runV (As := [.int v1]) (rest := [.ref (ad 0)]) ⟨hx, hb, hml, hown, hts⟩ (mX5_isPoint l dC dI cI cL ad H.size u v1 n w_1 hw_1) (cwV 1 hts gX5_level_X5_isPoint rfl rfl rfl (by decide +kernel) ⟨Nat.le_of_ble_eq_true rfl, Nat.le_of_ble_eq_true rfl⟩) ⟨wPre_blind, va_recv hK hP (ci := 5) (q0 := 0) rfl rfl, wPre_of hP hK hD hZ⟩ rfl rfl hl.1 rfl (lv_room (Nat.le_of_ble_eq_true rfl)) dX5_level_3 ⟨Nat.zero_le _, Nat.zero_le _⟩) hS (fun q _ h => hFc q h) hFc (fun r2 u2 t H1 locs ht hvm hw hB hz1 hk1 hS => ?_)
        obtain ⟨hP1, hK1, hD1⟩ := hB
        rw [ht] at hP1
        have e1 : r2 = w_1.1 := congrArg Prod.fst hw
        have e2 : u2 = w_1.2 := congrArg Prod.snd hw
        subst r2 u2
        have hP : va_P (dC, dI) vwCl (mw ad cI cL w_1.2) H1 := hP1
        have hD : va_D A (mw ad cI cL w_1.2) := hD1.weaken (fun _ _ _ h => hFc _ h)
        clear hP1 hD1 hK1 hFc hk1
        generalize H1 = H at hP hS ⊢
        refine lv_if_eq (tgt := 13) hx hb dX5_level_6 (by decide) (fun c_2 => ?_) (fun c_2 => ?_)
        · have hf := (if_pos c_2).symm.trans hf
          refine lv_iconst (v := 1) hx hb dX5_level_13 (by decide) ?_
          refine va_put (D := (dC, dI)) (ci := 5) (v := .int (1 : Int32)) (ty := .int) (C := RX5) (T := TX5) (N := 36) hx hb hts iX5 tyX5 tyX5_ok nmX5 hown hK hP hD hS 0 rfl rfl 0 (by decide) k_0 (fun _ h9 => h9) rfl (by decide +kernel) rfl rfl (Nat.le_of_ble_eq_true rfl) dX5_level_14 (fun H locs hP hD hS => ?_)
          have hP : va_P (dC, dI) vwCl (mw ad cI cL (sI w_1.2 0 (1 : Int32))) H := hP
          have hD : va_D A (mw ad cI cL (sI w_1.2 0 (1 : Int32))) := hD
          refine lv_aload_n hx hb dX5_level_17 rfl (lv_at hl 0 rfl) ?_
          refine va_get (D := (dC, dI)) (ci := 5) (v := .int ((1 : Int32))) (C := RX5) (T := TX5) (N := 36) hx hb hts iX5 hown hK hP 0 rfl rfl 0 (by decide) k_0 (fun _ h9 => h9) rfl dX5_level_18 ?_
          refine lv_if_le (tgt := 26) hx hb dX5_level_21 (by decide) (fun c_3 => ?_) (fun c_3 => ?_)
          · exact absurd c_3 (by decide)
          · refine lv_iconst (v := 0) hx hb dX5_level_24 (by decide) ?_
            have hf := Option.some.inj hf
            exact W.iret (v := (0 : Int32)) hx hb hr (fun t ht hW => ⟨⟨(0 : Int32), (sI w_1.2 0 (1 : Int32)), rfl, hf, ⟨by rw [ht]; exact hP, va_K.moved hW.alike hK, hD⟩⟩, hS.F ht⟩) hS.2.2 dX5_level_25
        · have hf := (if_neg c_2).symm.trans hf
          refine lv_iconst (v := 0) hx hb dX5_level_9 (by decide) ?_
          refine lv_goto (tgt := 14) hx hb dX5_level_10 (by decide) ?_
          refine va_put (D := (dC, dI)) (ci := 5) (v := .int (0 : Int32)) (ty := .int) (C := RX5) (T := TX5) (N := 36) hx hb hts iX5 tyX5 tyX5_ok nmX5 hown hK hP hD hS 0 rfl rfl 0 (by decide) k_0 (fun _ h9 => h9) rfl (by decide +kernel) rfl rfl (Nat.le_of_ble_eq_true rfl) dX5_level_14 (fun H locs hP hD hS => ?_)
          have hP : va_P (dC, dI) vwCl (mw ad cI cL (sI w_1.2 0 (0 : Int32))) H := hP
          have hD : va_D A (mw ad cI cL (sI w_1.2 0 (0 : Int32))) := hD
          refine lv_aload_n hx hb dX5_level_17 rfl (lv_at hl 0 rfl) ?_
          refine va_get (D := (dC, dI)) (ci := 5) (v := .int ((0 : Int32))) (C := RX5) (T := TX5) (N := 36) hx hb hts iX5 hown hK hP 0 rfl rfl 0 (by decide) k_0 (fun _ h9 => h9) rfl dX5_level_18 ?_
          refine lv_if_le (tgt := 26) hx hb dX5_level_21 (by decide) (fun c_4 => ?_) (fun c_4 => ?_)
          · refine lv_aload_n hx hb dX5_level_26 rfl (lv_at hl 0 rfl) ?_
            obtain ⟨w_5, hw_5, hf⟩ := ob hf
            have hFc := freeAll hD hS hA
            refine va_callv (va_runV (As := []) (rest := []) ⟨hx, hb, hml, hown, hts⟩ (mX5_findBest l dC dI cI cL ad H.size (sI w_1.2 0 (0 : Int32))  n w_5 hw_5) (cwV 0 hts gX5_level_X5_findBest rfl rfl rfl (by decide +kernel) ⟨Nat.le_of_ble_eq_true rfl, Nat.le_of_ble_eq_true rfl⟩) ⟨wPre_blind, va_recv hK hP (ci := 5) (q0 := 0) rfl rfl, wPre_of hP hK hD hZ⟩ rfl rfl hl.1 rfl (lv_room (Nat.le_of_ble_eq_true rfl)) dX5_level_27 ⟨Nat.zero_le _, Nat.zero_le _⟩) hS (fun q _ h => hFc q h) hFc (fun u2 t H1 locs ht hvm hw hB hz1 hk1 hS => ?_)
            obtain ⟨hP1, hK1, hD1⟩ := hB
            rw [ht] at hP1
            subst u2
            have hP : va_P (dC, dI) vwCl (mw ad cI cL w_5) H1 := hP1
            have hD : va_D A (mw ad cI cL w_5) := hD1.weaken (fun _ _ _ h => hFc _ h)
            clear hP1 hD1 hK1 hFc hk1
            generalize H1 = H at hP hS ⊢
            refine lv_aload_n hx hb dX5_level_30 rfl (lv_at hl 0 rfl) ?_
            refine va_get (D := (dC, dI)) (ci := 5) (v := .int (gI w_5 7)) (C := RX5) (T := TX5) (N := 36) hx hb hts iX5 hown hK hP 0 rfl rfl 20 (by decide) k_1 (fun _ h9 => h9) rfl dX5_level_31 ?_
            refine lv_if_ne (tgt := 40) hx hb dX5_level_34 (by decide) (fun c_6 => ?_) (fun c_6 => ?_)
            · have hf := (if_neg c_6).symm.trans hf
              refine lv_iconst (v := 0) hx hb dX5_level_40 (by decide) ?_
              refine lv_istore_n (lv' := [(2, .int (0 : Int32)), (0, .ref (ad 0)), (1, .int v1)]) hx hb dX5_level_41 rfl hl (by decide) rfl (fun ls hl => ?_)
              refine lv_iconst (v := 0) hx hb dX5_level_42 (by decide) ?_
              refine lv_istore_n (lv' := [(3, .int (0 : Int32)), (2, .int (0 : Int32)), (0, .ref (ad 0)), (1, .int v1)]) hx hb dX5_level_43 rfl hl (by decide) rfl (fun ls hl => ?_)
              exact ih1 v1 (0 : Int32) (0 : Int32) w_5 H locs ls hf hP hD hS (lv_sub hl [2, 3, 1, 0] rfl)
            · have hf := (if_pos c_6).symm.trans hf
              refine lv_bipush (v := -2) hx hb dX5_level_37 (by decide) ?_
              have hf := Option.some.inj hf
              exact W.iret (v := (-2 : Int32)) hx hb hr (fun t ht hW => ⟨⟨(-2 : Int32), w_5, rfl, hf, ⟨by rw [ht]; exact hP, va_K.moved hW.alike hK, hD⟩⟩, hS.F ht⟩) hS.2.2 dX5_level_39
          · exact absurd c_4 (by decide)
      · intro v1 v2 v3 u H locs ls hf hP hD hS hl
        have hf := (eX5_level_44 n v1 v2 v3 u).symm.trans hf
        refine lv_iload_n hx hb dX5_level_44 rfl (lv_at hl 3 rfl) ?_
        refine lv_aload_n hx hb dX5_level_45 rfl (lv_at hl 0 rfl) ?_
        refine va_get (D := (dC, dI)) (ci := 5) (v := .int (gI u 2)) (C := RX5) (T := TX5) (N := 36) hx hb hts iX5 hown hK hP 0 rfl rfl 6 (by decide) k_2 (fun _ h9 => h9) rfl dX5_level_46 ?_
        refine lv_icmp_ge (tgt := 86) hx hb dX5_level_49 (by decide) (fun c_7 => ?_) (fun c_7 => ?_)
        · have hf := (if_pos c_7).symm.trans hf
          refine lv_iload_n hx hb dX5_level_86 rfl (lv_at hl 2 rfl) ?_
          have hf := Option.some.inj hf
          exact W.iret (v := v2) hx hb hr (fun t ht hW => ⟨⟨v2, u, rfl, hf, ⟨by rw [ht]; exact hP, va_K.moved hW.alike hK, hD⟩⟩, hS.F ht⟩) hS.2.2 dX5_level_87
        · have hf := (if_neg c_7).symm.trans hf
          refine lv_iload_n hx hb dX5_level_52 rfl (lv_at hl 2 rfl) ?_
          refine lv_aload_n hx hb dX5_level_53 rfl (lv_at hl 0 rfl) ?_
          refine va_get (D := (dC, dI)) (ci := 5) (v := .ref (ad 14)) (C := RX5) (T := TX5) (N := 36) hx hb hts iX5 hown hK hP 0 rfl rfl 21 (by decide) k_3 (fun _ h9 => h9) rfl dX5_level_54 ?_
          refine lv_iload_n hx hb dX5_level_57 rfl (lv_at hl 3 rfl) ?_
          obtain ⟨h_8, hf⟩ := ck_of hf
          refine va_iald (f := (gA u 13)) hx hb hK hP 14 0 rfl rfl h_8 dX5_level_58 ?_
          refine lv_if_ge (tgt := 66) hx hb dX5_level_59 (by decide) (fun c_9 => ?_) (fun c_9 => ?_)
          · have hf := (if_pos c_9).symm.trans hf
            refine lv_aload_n hx hb dX5_level_66 rfl (lv_at hl 0 rfl) ?_
            refine lv_aload_n hx hb dX5_level_67 rfl (lv_at hl 0 rfl) ?_
            refine va_get (D := (dC, dI)) (ci := 5) (v := .ref (ad 14)) (C := RX5) (T := TX5) (N := 36) hx hb hts iX5 hown hK hP 0 rfl rfl 21 (by decide) k_3 (fun _ h9 => h9) rfl dX5_level_68 ?_
            refine lv_iload_n hx hb dX5_level_71 rfl (lv_at hl 3 rfl) ?_
            refine va_iald (f := (gA u 13)) hx hb hK hP 14 0 rfl rfl h_8 dX5_level_72 ?_
            refine lv_iload_n hx hb dX5_level_73 rfl (lv_at hl 3 rfl) ?_
            refine lv_iload_n hx hb dX5_level_74 rfl (lv_at hl 1 rfl) ?_
            obtain ⟨w_10, hw_10, hf⟩ := ob hf
            have hFc := freeAll hD hS hA
            refine va_calli (va_runV (As := [.int ((gA u 13) v3.toNatClampNeg), .int v3, .int v1]) (rest := [.int v2]) ⟨hx, hb, hml, hown, hts⟩ (mX5_lightOf l dC dI cI cL ad H.size u ((gA u 13) v3.toNatClampNeg) v3 v1 n w_10 hw_10) (cwV 3 hts gX5_level_X5_lightOf rfl rfl rfl (by decide +kernel) ⟨Nat.le_of_ble_eq_true rfl, Nat.le_of_ble_eq_true rfl⟩) ⟨wPre_blind, va_recv hK hP (ci := 5) (q0 := 0) rfl rfl, wPre_of hP hK hD hZ⟩ rfl rfl hl.1 rfl (lv_room (Nat.le_of_ble_eq_true rfl)) dX5_level_75 ⟨Nat.zero_le _, Nat.zero_le _⟩) hS (fun q _ h => hFc q h) hFc (fun r2 u2 t H1 locs ht hvm hw hB hz1 hk1 hS => ?_)
            obtain ⟨hP1, hK1, hD1⟩ := hB
            rw [ht] at hP1
            have e1 : r2 = w_10.1 := congrArg Prod.fst hw
            have e2 : u2 = w_10.2 := congrArg Prod.snd hw
            subst r2 u2
            have hP : va_P (dC, dI) vwCl (mw ad cI cL w_10.2) H1 := hP1
            have hD : va_D A (mw ad cI cL w_10.2) := hD1.weaken (fun _ _ _ h => hFc _ h)
            clear hP1 hD1 hK1 hFc hk1
            generalize H1 = H at hP hS ⊢
            refine lv_iadd hx hb dX5_level_78 ?_
            refine lv_istore_n (lv' := [(2, .int (v2 + w_10.1)), (0, .ref (ad 0)), (1, .int v1), (3, .int v3)]) hx hb dX5_level_79 rfl hl (by decide) rfl (fun ls hl => ?_)
            refine lv_iinc (v := (v3 + 1)) (lv' := [(3, .int (v3 + 1)), (2, .int (v2 + w_10.1)), (0, .ref (ad 0)), (1, .int v1)]) hx hb dX5_level_80 hl (k := 3) rfl rfl (by decide) rfl (fun ls hl => ?_)
            refine lv_goto (tgt := 44) hx hb dX5_level_83 (by decide) ?_
            exact ih1 v1 (v2 + w_10.1) (v3 + 1) w_10.2 H locs ls hf hP hD hS (lv_sub hl [2, 3, 1, 0] rfl)
          · have hf := (if_neg c_9).symm.trans hf
            refine lv_iconst (v := 0) hx hb dX5_level_62 (by decide) ?_
            refine lv_goto (tgt := 78) hx hb dX5_level_63 (by decide) ?_
            refine lv_iadd hx hb dX5_level_78 ?_
            refine lv_istore_n (lv' := [(2, .int (v2 + (0 : Int32))), (0, .ref (ad 0)), (1, .int v1), (3, .int v3)]) hx hb dX5_level_79 rfl hl (by decide) rfl (fun ls hl => ?_)
            refine lv_iinc (v := (v3 + 1)) (lv' := [(3, .int (v3 + 1)), (2, .int (v2 + (0 : Int32))), (0, .ref (ad 0)), (1, .int v1)]) hx hb dX5_level_80 hl (k := 3) rfl rfl (by decide) rfl (fun ls hl => ?_)
            refine lv_goto (tgt := 44) hx hb dX5_level_83 (by decide) ?_
            exact ih1 v1 (v2 + (0 : Int32)) (v3 + 1) u H locs ls hf hP hD hS (lv_sub hl [2, 3, 1, 0] rfl)
  exact (key n).1 z1 0 0 u _ _ ls hf0 hP hD hS (lv_sub hl [0, 1] rfl)

def fX5_even (n pc : Nat) (v1 : Int32) (u : St) : Option (Int64 × St) := match n with
  | 0 => none
  | n + 1 => match pc with
    | 0 => ((FX5_isIn n v1 (0 : Int32) (1 : Int32)).bind fun w_1 => (if w_1 = 0 then some ((0 : Int64), sI u 0 (1 : Int32)) else ((FX5_findBest n  (sI u 0 (0 : Int32))).bind fun w_5 => (if (gI w_5 7) = 0 then some ((-2 : Int64), w_5) else ((FX5_common n (gJ w_5 0) (gJ w_5 1)).bind fun w_7 => (if (gJ w_5 0) = (0 : Int64) then some (v1.toInt64, w_5) else (if v1 = 0 then (if w_7 = 0 then none else some (((gJ w_5 0) / w_7), w_5)) else (if w_7 = 0 then none else some (((gJ w_5 1) / w_7), w_5)))))))))
    | _ => none
theorem eX5_even_0 (n : Nat) (v1 : Int32) (u : St) : fX5_even (n + 1) 0 v1 u = ((FX5_isIn n v1 (0 : Int32) (1 : Int32)).bind fun w_1 => (if w_1 = 0 then some ((0 : Int64), sI u 0 (1 : Int32)) else ((FX5_findBest n  (sI u 0 (0 : Int32))).bind fun w_5 => (if (gI w_5 7) = 0 then some ((-2 : Int64), w_5) else ((FX5_common n (gJ w_5 0) (gJ w_5 1)).bind fun w_7 => (if (gJ w_5 0) = (0 : Int64) then some (v1.toInt64, w_5) else (if v1 = 0 then (if w_7 = 0 then none else some (((gJ w_5 0) / w_7), w_5)) else (if w_7 = 0 then none else some (((gJ w_5 1) / w_7), w_5))))))))) := rfl
theorem vX5_even_0 (v1 : Int32) (u : St) (r : Int64 × St) : Ev (fun n => fX5_even n 0 v1 u) r ↔ Ev (fun n => ((FX5_isIn n v1 (0 : Int32) (1 : Int32)).bind fun w_1 => (if w_1 = 0 then some ((0 : Int64), sI u 0 (1 : Int32)) else ((FX5_findBest n  (sI u 0 (0 : Int32))).bind fun w_5 => (if (gI w_5 7) = 0 then some ((-2 : Int64), w_5) else ((FX5_common n (gJ w_5 0) (gJ w_5 1)).bind fun w_7 => (if (gJ w_5 0) = (0 : Int64) then some (v1.toInt64, w_5) else (if v1 = 0 then (if w_7 = 0 then none else some (((gJ w_5 0) / w_7), w_5)) else (if w_7 = 0 then none else some (((gJ w_5 1) / w_7), w_5)))))))))) r := Ev_succ (fun n => fX5_even n 0 v1 u) r
def FX5_even (n : Nat) (v1 : Int32) (u : St) : Option (Int64 × St) := fX5_even n 0 v1 u
set_option maxHeartbeats 4000000 in
set_option maxRecDepth 100000 in
theorem mX5_even (l : Launch) (dC : Nat → ClassId) (dI : Nat → Nat → Nat) (cI cL : ClassId) (ad : Nat → Nat) (sz : Nat) (u : St) (z1 : Int32) (n : Nat) (r : Int64 × St) (hf0 : FX5_even n z1 u = some r) : Met l yX5_even wsX5_even ({ frames := 3, cells := 0, slots := 0, locals := 65 }) (va_Pc [.ref (ad 0), .int z1] (wPre dC dI cI cL (mw ad cI cL u) sz)) (va_Ql (fun a t => (a, t) = r) (fun t => wPost dC dI cI cL (va_A (mw ad cI cL u) sz) (mw ad cI cL t)) (va_A (mw ad cI cL u) sz)) 0 0 (va_A (mw ad cI cL u) sz) := by
  refine Met.ofW (cc := cX5_even) (maxL := 4) (ret := (some .long)) (by decide) rfl ?_
  intro p e s m args below meth c s₁ B hml hv
  obtain ⟨rfl, hsz, hP, hK, hD0, hZ⟩ := hv
  have hx := B.exec
  have hb := B.bytes
  have hr := B.returns
  have hts := atoms_spec (ws := wsX5_even) B.pre
  have hown : s.vm.findClass RX5 = some m.cls := findClass_of_methodNamed B.named
  have hlocks := B.notSynchronized
  subst hsz
  have hD := hD0.self (sz := s.heap.size)
  generalize hAe : va_A (mw ad cI cL u) s.heap.size = A at hD ⊢
  have hA : ∀ q : Nat, s.heap.size ≤ q → A q := fun q h => by rw [← hAe]; exact Or.inr h
  have hS : va_S A s.heap s.heap [] := va_S.rf
  have iX5 : ∀ w ∈ u_ws RX5 TX5 36, w ∈ wsX5_even := fun _ h => List.mem_cons_of_mem _ (List.mem_append_right _ h)
  have k_0 := hts (.fieldLink RX5 80 "LampChoiceModel" "code" "I") (by decide +kernel)
  have k_1 := hts (.fieldLink RX5 122 "LampChoiceModel" "found" "Z") (by decide +kernel)
  have k_2 := hts (.fieldLink RX5 132 "LampChoiceModel" "bestLeast" "J") (by decide +kernel)
  have k_3 := hts (.fieldLink RX5 128 "LampChoiceModel" "bestSum" "J") (by decide +kernel)
  have k_4 := hts (.constantLong RX5 149 (-2)) (by decide +kernel)
  have hl := lv_entry ([.ref (ad 0), .int z1]) (n := 4) (Nat.le_of_ble_eq_true rfl)
  rw [lg_entry_eq]
  generalize (lg_sl ([.ref (ad 0), .int z1]) ++ List.replicate (4 - (lg_sl ([.ref (ad 0), .int z1])).length) Slot.unset).toArray = ls at hl ⊢
  have hl : lv_has ls 4 [(0, .ref (ad 0)), (1, .int z1)] := hl
  have key : ∀ n : Nat, (∀ (v1 : Int32) (u : St) (H : Heap) (locs : List Loc) (ls : Array Slot), fX5_even n 0 v1 u = some r → va_P (dC, dI) vwCl (mw ad cI cL u) H → va_D A (mw ad cI cL u) → va_S A s.heap H locs → lv_has ls 4 [(0, .ref (ad 0)), (1, .int v1)] → W p l e (headSpec wsX5_even ({ frames := 3, cells := 0, slots := 0, locals := 65 })).room s m ([.ref (ad 0), .int z1] : List Value).toArray below meth c H locs 0 0 (MQ below (va_Ql (fun a t => (a, t) = r) (fun t => wPost dC dI cI cL A (mw ad cI cL t)) A) ([.ref (ad 0), .int z1] : List Value).toArray s 0 0 A) (F0 m 0 ls [])) := by
    intro n
    induction n with
    | zero => exact (fun _ _ _ _ _ hf => nomatch (show (none : Option (Int64 × St)) = some r from hf))
    | succ n ih =>
      have ih0 := ih
      · intro v1 u H locs ls hf hP hD hS hl
        have hf := (eX5_even_0 n v1 u).symm.trans hf
        refine lv_aload_n hx hb dX5_even_0 rfl (lv_at hl 0 rfl) ?_
        refine lv_iload_n hx hb dX5_even_1 rfl (lv_at hl 1 rfl) ?_
        refine lv_iconst (v := 0) hx hb dX5_even_2 (by decide) ?_
        refine lv_iconst (v := 1) hx hb dX5_even_3 (by decide) ?_
        obtain ⟨w_1, hw_1, hf⟩ := ob hf
        have hFc := freeNil hS hA
        refine va_calli (va_runS (As := [.int v1, .int (0 : Int32), .int (1 : Int32)]) (rest := [.ref (ad 0)]) ⟨hx, hb, hml, hown, hts⟩ (mX5_isIn l H.size v1 (0 : Int32) (1 : Int32) n w_1 hw_1) (va_cwS 3 hts gX5_even_X5_isIn rfl rfl rfl (by decide +kernel) ⟨Nat.le_of_ble_eq_true rfl, Nat.le_of_ble_eq_true rfl⟩) ⟨nPre_blind, nPre_of⟩ rfl rfl hl.1 rfl (lv_room (Nat.le_of_ble_eq_true rfl)) dX5_even_4 ⟨Nat.zero_le _, Nat.zero_le _⟩) hS (fun q _ h => hFc q h) hFc (fun r2 u2 t H1 locs ht hvm hw hB hz1 hk1 hS => ?_)
        subst r2
        have hP := keepP hP hk1
        clear hFc hk1 hB
        generalize H1 = H at hP hS ⊢
        refine lv_if_eq (tgt := 14) hx hb dX5_even_7 (by decide) (fun c_2 => ?_) (fun c_2 => ?_)
        · have hf := (if_pos c_2).symm.trans hf
          refine lv_iconst (v := 1) hx hb dX5_even_14 (by decide) ?_
          refine va_put (D := (dC, dI)) (ci := 5) (v := .int (1 : Int32)) (ty := .int) (C := RX5) (T := TX5) (N := 36) hx hb hts iX5 tyX5 tyX5_ok nmX5 hown hK hP hD hS 0 rfl rfl 0 (by decide) k_0 (fun _ h9 => h9) rfl (by decide +kernel) rfl rfl (Nat.le_of_ble_eq_true rfl) dX5_even_15 (fun H locs hP hD hS => ?_)
          have hP : va_P (dC, dI) vwCl (mw ad cI cL (sI u 0 (1 : Int32))) H := hP
          have hD : va_D A (mw ad cI cL (sI u 0 (1 : Int32))) := hD
          refine lv_aload_n hx hb dX5_even_18 rfl (lv_at hl 0 rfl) ?_
          refine va_get (D := (dC, dI)) (ci := 5) (v := .int ((1 : Int32))) (C := RX5) (T := TX5) (N := 36) hx hb hts iX5 hown hK hP 0 rfl rfl 0 (by decide) k_0 (fun _ h9 => h9) rfl dX5_even_19 ?_
          refine lv_if_le (tgt := 27) hx hb dX5_even_22 (by decide) (fun c_3 => ?_) (fun c_3 => ?_)
          · exact absurd c_3 (by decide)
          · refine lv_lconst (v := 0) hx hb dX5_even_25 (by decide) ?_
            have hf := Option.some.inj hf
            exact W.lret (v := (0 : Int64)) hx hb hr (fun t ht hW => ⟨⟨(0 : Int64), (sI u 0 (1 : Int32)), rfl, hf, ⟨by rw [ht]; exact hP, va_K.moved hW.alike hK, hD⟩⟩, hS.F ht⟩) hS.2.2 dX5_even_26
        · have hf := (if_neg c_2).symm.trans hf
          refine lv_iconst (v := 0) hx hb dX5_even_10 (by decide) ?_
          refine lv_goto (tgt := 15) hx hb dX5_even_11 (by decide) ?_
          refine va_put (D := (dC, dI)) (ci := 5) (v := .int (0 : Int32)) (ty := .int) (C := RX5) (T := TX5) (N := 36) hx hb hts iX5 tyX5 tyX5_ok nmX5 hown hK hP hD hS 0 rfl rfl 0 (by decide) k_0 (fun _ h9 => h9) rfl (by decide +kernel) rfl rfl (Nat.le_of_ble_eq_true rfl) dX5_even_15 (fun H locs hP hD hS => ?_)
          have hP : va_P (dC, dI) vwCl (mw ad cI cL (sI u 0 (0 : Int32))) H := hP
          have hD : va_D A (mw ad cI cL (sI u 0 (0 : Int32))) := hD
          refine lv_aload_n hx hb dX5_even_18 rfl (lv_at hl 0 rfl) ?_
          refine va_get (D := (dC, dI)) (ci := 5) (v := .int ((0 : Int32))) (C := RX5) (T := TX5) (N := 36) hx hb hts iX5 hown hK hP 0 rfl rfl 0 (by decide) k_0 (fun _ h9 => h9) rfl dX5_even_19 ?_
          refine lv_if_le (tgt := 27) hx hb dX5_even_22 (by decide) (fun c_4 => ?_) (fun c_4 => ?_)
          · refine lv_aload_n hx hb dX5_even_27 rfl (lv_at hl 0 rfl) ?_
            obtain ⟨w_5, hw_5, hf⟩ := ob hf
            have hFc := freeAll hD hS hA
            refine va_callv (va_runV (As := []) (rest := []) ⟨hx, hb, hml, hown, hts⟩ (mX5_findBest l dC dI cI cL ad H.size (sI u 0 (0 : Int32))  n w_5 hw_5) (cwV 0 hts gX5_even_X5_findBest rfl rfl rfl (by decide +kernel) ⟨Nat.le_of_ble_eq_true rfl, Nat.le_of_ble_eq_true rfl⟩) ⟨wPre_blind, va_recv hK hP (ci := 5) (q0 := 0) rfl rfl, wPre_of hP hK hD hZ⟩ rfl rfl hl.1 rfl (lv_room (Nat.le_of_ble_eq_true rfl)) dX5_even_28 ⟨Nat.zero_le _, Nat.zero_le _⟩) hS (fun q _ h => hFc q h) hFc (fun u2 t H1 locs ht hvm hw hB hz1 hk1 hS => ?_)
            obtain ⟨hP1, hK1, hD1⟩ := hB
            rw [ht] at hP1
            subst u2
            have hP : va_P (dC, dI) vwCl (mw ad cI cL w_5) H1 := hP1
            have hD : va_D A (mw ad cI cL w_5) := hD1.weaken (fun _ _ _ h => hFc _ h)
            clear hP1 hD1 hK1 hFc hk1
            generalize H1 = H at hP hS ⊢
            refine lv_aload_n hx hb dX5_even_31 rfl (lv_at hl 0 rfl) ?_
            refine va_get (D := (dC, dI)) (ci := 5) (v := .int (gI w_5 7)) (C := RX5) (T := TX5) (N := 36) hx hb hts iX5 hown hK hP 0 rfl rfl 20 (by decide) k_1 (fun _ h9 => h9) rfl dX5_even_32 ?_
            refine lv_if_ne (tgt := 42) hx hb dX5_even_35 (by decide) (fun c_6 => ?_) (fun c_6 => ?_)
            · have hf := (if_neg c_6).symm.trans hf
              refine lv_aload_n hx hb dX5_even_42 rfl (lv_at hl 0 rfl) ?_
              refine va_get (D := (dC, dI)) (ci := 5) (v := .long (gJ w_5 0)) (C := RX5) (T := TX5) (N := 36) hx hb hts iX5 hown hK hP 0 rfl rfl 23 (by decide) k_2 (fun _ h9 => h9) rfl dX5_even_43 ?_
              refine lv_aload_n hx hb dX5_even_46 rfl (lv_at hl 0 rfl) ?_
              refine va_get (D := (dC, dI)) (ci := 5) (v := .long (gJ w_5 1)) (C := RX5) (T := TX5) (N := 36) hx hb hts iX5 hown hK hP 0 rfl rfl 24 (by decide) k_3 (fun _ h9 => h9) rfl dX5_even_47 ?_
              obtain ⟨w_7, hw_7, hf⟩ := ob hf
              have hFc := freeNil hS hA
              refine va_calll (va_runS (As := [.long (gJ w_5 0), .long (gJ w_5 1)]) (rest := []) ⟨hx, hb, hml, hown, hts⟩ (mX5_common l H.size (gJ w_5 0) (gJ w_5 1) n w_7 hw_7) (va_cwS 2 hts gX5_even_X5_common rfl rfl rfl (by decide +kernel) ⟨Nat.le_of_ble_eq_true rfl, Nat.le_of_ble_eq_true rfl⟩) ⟨nPre_blind, nPre_of⟩ rfl rfl hl.1 rfl (lv_room (Nat.le_of_ble_eq_true rfl)) dX5_even_50 ⟨Nat.zero_le _, Nat.zero_le _⟩) hS (fun q _ h => hFc q h) hFc (fun r2 u2 t H1 locs ht hvm hw hB hz1 hk1 hS => ?_)
              subst r2
              have hP := keepP hP hk1
              clear hFc hk1 hB
              generalize H1 = H at hP hS ⊢
              refine lv_lstore_n (lv' := [(2, .long w_7), (0, .ref (ad 0)), (1, .int v1)]) hx hb dX5_even_53 rfl hl (by decide) rfl (fun ls hl => ?_)
              refine lv_aload_n hx hb dX5_even_54 rfl (lv_at hl 1 rfl) ?_
              refine va_get (D := (dC, dI)) (ci := 5) (v := .long (gJ w_5 0)) (C := RX5) (T := TX5) (N := 36) hx hb hts iX5 hown hK hP 0 rfl rfl 23 (by decide) k_2 (fun _ h9 => h9) rfl dX5_even_55 ?_
              refine lv_lconst (v := 0) hx hb dX5_even_58 (by decide) ?_
              refine W.lcmp hx hb dX5_even_59 ?_
              refine lv_if_ne (tgt := 68) hx hb dX5_even_60 (by decide) (fun c_8 => ?_) (fun c_8 => ?_)
              · have c_8 := fun q => c_8 ((lg_cmp_eq (gJ w_5 0) (0 : Int64)).mpr q)
                have hf := (if_neg c_8).symm.trans hf
                refine lv_iload_n hx hb dX5_even_68 rfl (lv_at hl 2 rfl) ?_
                refine lv_if_ne (tgt := 79) hx hb dX5_even_69 (by decide) (fun c_9 => ?_) (fun c_9 => ?_)
                · have hf := (if_neg c_9).symm.trans hf
                  refine lv_aload_n hx hb dX5_even_79 rfl (lv_at hl 1 rfl) ?_
                  refine va_get (D := (dC, dI)) (ci := 5) (v := .long (gJ w_5 1)) (C := RX5) (T := TX5) (N := 36) hx hb hts iX5 hown hK hP 0 rfl rfl 24 (by decide) k_3 (fun _ h9 => h9) rfl dX5_even_80 ?_
                  refine lv_lload_n hx hb dX5_even_83 rfl (lv_at hl 0 rfl) ?_
                  obtain ⟨h_10, hf⟩ := nz_of hf
                  refine lv_ldiv hx hb dX5_even_84 h_10 ?_
                  have hf := Option.some.inj hf
                  exact W.lret (v := ((gJ w_5 1) / w_7)) hx hb hr (fun t ht hW => ⟨⟨((gJ w_5 1) / w_7), w_5, rfl, hf, ⟨by rw [ht]; exact hP, va_K.moved hW.alike hK, hD⟩⟩, hS.F ht⟩) hS.2.2 dX5_even_85
                · have hf := (if_pos c_9).symm.trans hf
                  refine lv_aload_n hx hb dX5_even_72 rfl (lv_at hl 1 rfl) ?_
                  refine va_get (D := (dC, dI)) (ci := 5) (v := .long (gJ w_5 0)) (C := RX5) (T := TX5) (N := 36) hx hb hts iX5 hown hK hP 0 rfl rfl 23 (by decide) k_2 (fun _ h9 => h9) rfl dX5_even_73 ?_
                  refine lv_goto (tgt := 83) hx hb dX5_even_76 (by decide) ?_
                  refine lv_lload_n hx hb dX5_even_83 rfl (lv_at hl 0 rfl) ?_
                  obtain ⟨h_11, hf⟩ := nz_of hf
                  refine lv_ldiv hx hb dX5_even_84 h_11 ?_
                  have hf := Option.some.inj hf
                  exact W.lret (v := ((gJ w_5 0) / w_7)) hx hb hr (fun t ht hW => ⟨⟨((gJ w_5 0) / w_7), w_5, rfl, hf, ⟨by rw [ht]; exact hP, va_K.moved hW.alike hK, hD⟩⟩, hS.F ht⟩) hS.2.2 dX5_even_85
              · have c_8 := (lg_cmp_eq (gJ w_5 0) (0 : Int64)).mp c_8
                have hf := (if_pos c_8).symm.trans hf
                refine lv_iload_n hx hb dX5_even_63 rfl (lv_at hl 2 rfl) ?_
                refine lv_i2l (v := v1.toInt64) hx hb dX5_even_64 rfl ?_
                refine lv_goto (tgt := 85) hx hb dX5_even_65 (by decide) ?_
                have hf := Option.some.inj hf
                exact W.lret (v := v1.toInt64) hx hb hr (fun t ht hW => ⟨⟨v1.toInt64, w_5, rfl, hf, ⟨by rw [ht]; exact hP, va_K.moved hW.alike hK, hD⟩⟩, hS.F ht⟩) hS.2.2 dX5_even_85
            · have hf := (if_pos c_6).symm.trans hf
              refine lv_ldc2 (v := -2) hx hb hown k_4 dX5_even_38 ?_
              have hf := Option.some.inj hf
              exact W.lret (v := (-2 : Int64)) hx hb hr (fun t ht hW => ⟨⟨(-2 : Int64), w_5, rfl, hf, ⟨by rw [ht]; exact hP, va_K.moved hW.alike hK, hD⟩⟩, hS.F ht⟩) hS.2.2 dX5_even_41
          · exact absurd c_4 (by decide)
  exact (key n) z1 u _ _ ls hf0 hP hD hS (lv_sub hl [0, 1] rfl)

def fX5_aim (n pc : Nat) (v1 : Int32) (v2 : Int32) (u : St) : Option (Int32 × St) := match n with
  | 0 => none
  | n + 1 => match pc with
    | 0 => ((FX5_isPoint n v1 u).bind fun w_1 => (if w_1.1 = 0 then some ((0 : Int32), sI w_1.2 0 (1 : Int32)) else ((FX5_isIn n v2 (0 : Int32) (1000000 : Int32)).bind fun w_4 => (if w_4 = 0 then some ((0 : Int32), sI w_1.2 0 (1 : Int32)) else (if ck v1 16 = true then some (((gA w_1.2 11) v1.toNatClampNeg), sA (sI w_1.2 0 (0 : Int32)) 11 (upd (gA w_1.2 11) v1.toNatClampNeg v2)) else none)))))
    | _ => none
theorem eX5_aim_0 (n : Nat) (v1 : Int32) (v2 : Int32) (u : St) : fX5_aim (n + 1) 0 v1 v2 u = ((FX5_isPoint n v1 u).bind fun w_1 => (if w_1.1 = 0 then some ((0 : Int32), sI w_1.2 0 (1 : Int32)) else ((FX5_isIn n v2 (0 : Int32) (1000000 : Int32)).bind fun w_4 => (if w_4 = 0 then some ((0 : Int32), sI w_1.2 0 (1 : Int32)) else (if ck v1 16 = true then some (((gA w_1.2 11) v1.toNatClampNeg), sA (sI w_1.2 0 (0 : Int32)) 11 (upd (gA w_1.2 11) v1.toNatClampNeg v2)) else none))))) := rfl
theorem vX5_aim_0 (v1 : Int32) (v2 : Int32) (u : St) (r : Int32 × St) : Ev (fun n => fX5_aim n 0 v1 v2 u) r ↔ Ev (fun n => ((FX5_isPoint n v1 u).bind fun w_1 => (if w_1.1 = 0 then some ((0 : Int32), sI w_1.2 0 (1 : Int32)) else ((FX5_isIn n v2 (0 : Int32) (1000000 : Int32)).bind fun w_4 => (if w_4 = 0 then some ((0 : Int32), sI w_1.2 0 (1 : Int32)) else (if ck v1 16 = true then some (((gA w_1.2 11) v1.toNatClampNeg), sA (sI w_1.2 0 (0 : Int32)) 11 (upd (gA w_1.2 11) v1.toNatClampNeg v2)) else none)))))) r := Ev_succ (fun n => fX5_aim n 0 v1 v2 u) r
def FX5_aim (n : Nat) (v1 : Int32) (v2 : Int32) (u : St) : Option (Int32 × St) := fX5_aim n 0 v1 v2 u
set_option maxHeartbeats 4000000 in
set_option maxRecDepth 100000 in
theorem mX5_aim (l : Launch) (dC : Nat → ClassId) (dI : Nat → Nat → Nat) (cI cL : ClassId) (ad : Nat → Nat) (sz : Nat) (u : St) (z1 : Int32) (z2 : Int32) (n : Nat) (r : Int32 × St) (hf0 : FX5_aim n z1 z2 u = some r) : Met l yX5_aim wsX5_aim ({ frames := 2, cells := 0, slots := 0, locals := 43 }) (va_Pc [.ref (ad 0), .int z1, .int z2] (wPre dC dI cI cL (mw ad cI cL u) sz)) (va_Qi (fun a t => (a, t) = r) (fun t => wPost dC dI cI cL (va_A (mw ad cI cL u) sz) (mw ad cI cL t)) (va_A (mw ad cI cL u) sz)) 0 0 (va_A (mw ad cI cL u) sz) := by
  refine Met.ofW (cc := cX5_aim) (maxL := 4) (ret := (some .int)) (by decide) rfl ?_
  intro p e s m args below meth c s₁ B hml hv
  obtain ⟨rfl, hsz, hP, hK, hD0, hZ⟩ := hv
  have hx := B.exec
  have hb := B.bytes
  have hr := B.returns
  have hts := atoms_spec (ws := wsX5_aim) B.pre
  have hown : s.vm.findClass RX5 = some m.cls := findClass_of_methodNamed B.named
  have hlocks := B.notSynchronized
  subst hsz
  have hD := hD0.self (sz := s.heap.size)
  generalize hAe : va_A (mw ad cI cL u) s.heap.size = A at hD ⊢
  have hA : ∀ q : Nat, s.heap.size ≤ q → A q := fun q h => by rw [← hAe]; exact Or.inr h
  have hS : va_S A s.heap s.heap [] := va_S.rf
  have iX5 : ∀ w ∈ u_ws RX5 TX5 36, w ∈ wsX5_aim := fun _ h => List.mem_cons_of_mem _ (List.mem_append_right _ h)
  have k_0 := hts (.fieldLink RX5 80 "LampChoiceModel" "code" "I") (by decide +kernel)
  have k_1 := hts (.constant RX5 155 (1000000)) (by decide +kernel)
  have k_2 := hts (.fieldLink RX5 43 "LampChoiceModel" "aims" "[I") (by decide +kernel)
  have hl := lv_entry ([.ref (ad 0), .int z1, .int z2]) (n := 4) (Nat.le_of_ble_eq_true rfl)
  rw [lg_entry_eq]
  generalize (lg_sl ([.ref (ad 0), .int z1, .int z2]) ++ List.replicate (4 - (lg_sl ([.ref (ad 0), .int z1, .int z2])).length) Slot.unset).toArray = ls at hl ⊢
  have hl : lv_has ls 4 [(0, .ref (ad 0)), (1, .int z1), (2, .int z2)] := hl
  have key : ∀ n : Nat, (∀ (v1 : Int32) (v2 : Int32) (u : St) (H : Heap) (locs : List Loc) (ls : Array Slot), fX5_aim n 0 v1 v2 u = some r → va_P (dC, dI) vwCl (mw ad cI cL u) H → va_D A (mw ad cI cL u) → va_S A s.heap H locs → lv_has ls 4 [(0, .ref (ad 0)), (1, .int v1), (2, .int v2)] → W p l e (headSpec wsX5_aim ({ frames := 2, cells := 0, slots := 0, locals := 43 })).room s m ([.ref (ad 0), .int z1, .int z2] : List Value).toArray below meth c H locs 0 0 (MQ below (va_Qi (fun a t => (a, t) = r) (fun t => wPost dC dI cI cL A (mw ad cI cL t)) A) ([.ref (ad 0), .int z1, .int z2] : List Value).toArray s 0 0 A) (F0 m 0 ls [])) := by
    intro n
    induction n with
    | zero => exact (fun _ _ _ _ _ _ hf => nomatch (show (none : Option (Int32 × St)) = some r from hf))
    | succ n ih =>
      have ih0 := ih
      · intro v1 v2 u H locs ls hf hP hD hS hl
        have hf := (eX5_aim_0 n v1 v2 u).symm.trans hf
        refine lv_aload_n hx hb dX5_aim_0 rfl (lv_at hl 0 rfl) ?_
        refine lv_aload_n hx hb dX5_aim_1 rfl (lv_at hl 0 rfl) ?_
        refine lv_iload_n hx hb dX5_aim_2 rfl (lv_at hl 1 rfl) ?_
        obtain ⟨w_1, hw_1, hf⟩ := ob hf
        have hFc := freeAll hD hS hA
        refine va_calli (va_runV (As := [.int v1]) (rest := [.ref (ad 0)]) ⟨hx, hb, hml, hown, hts⟩ (mX5_isPoint l dC dI cI cL ad H.size u v1 n w_1 hw_1) (cwV 1 hts gX5_aim_X5_isPoint rfl rfl rfl (by decide +kernel) ⟨Nat.le_of_ble_eq_true rfl, Nat.le_of_ble_eq_true rfl⟩) ⟨wPre_blind, va_recv hK hP (ci := 5) (q0 := 0) rfl rfl, wPre_of hP hK hD hZ⟩ rfl rfl hl.1 rfl (lv_room (Nat.le_of_ble_eq_true rfl)) dX5_aim_3 ⟨Nat.zero_le _, Nat.zero_le _⟩) hS (fun q _ h => hFc q h) hFc (fun r2 u2 t H1 locs ht hvm hw hB hz1 hk1 hS => ?_)
        obtain ⟨hP1, hK1, hD1⟩ := hB
        rw [ht] at hP1
        have e1 : r2 = w_1.1 := congrArg Prod.fst hw
        have e2 : u2 = w_1.2 := congrArg Prod.snd hw
        subst r2 u2
        have hP : va_P (dC, dI) vwCl (mw ad cI cL w_1.2) H1 := hP1
        have hD : va_D A (mw ad cI cL w_1.2) := hD1.weaken (fun _ _ _ h => hFc _ h)
        clear hP1 hD1 hK1 hFc hk1
        generalize H1 = H at hP hS ⊢
        refine lv_if_eq (tgt := 23) hx hb dX5_aim_6 (by decide) (fun c_2 => ?_) (fun c_2 => ?_)
        · have hf := (if_pos c_2).symm.trans hf
          refine lv_iconst (v := 1) hx hb dX5_aim_23 (by decide) ?_
          refine va_put (D := (dC, dI)) (ci := 5) (v := .int (1 : Int32)) (ty := .int) (C := RX5) (T := TX5) (N := 36) hx hb hts iX5 tyX5 tyX5_ok nmX5 hown hK hP hD hS 0 rfl rfl 0 (by decide) k_0 (fun _ h9 => h9) rfl (by decide +kernel) rfl rfl (Nat.le_of_ble_eq_true rfl) dX5_aim_24 (fun H locs hP hD hS => ?_)
          have hP : va_P (dC, dI) vwCl (mw ad cI cL (sI w_1.2 0 (1 : Int32))) H := hP
          have hD : va_D A (mw ad cI cL (sI w_1.2 0 (1 : Int32))) := hD
          refine lv_aload_n hx hb dX5_aim_27 rfl (lv_at hl 0 rfl) ?_
          refine va_get (D := (dC, dI)) (ci := 5) (v := .int ((1 : Int32))) (C := RX5) (T := TX5) (N := 36) hx hb hts iX5 hown hK hP 0 rfl rfl 0 (by decide) k_0 (fun _ h9 => h9) rfl dX5_aim_28 ?_
          refine lv_if_le (tgt := 36) hx hb dX5_aim_31 (by decide) (fun c_3 => ?_) (fun c_3 => ?_)
          · exact absurd c_3 (by decide)
          · refine lv_iconst (v := 0) hx hb dX5_aim_34 (by decide) ?_
            have hf := Option.some.inj hf
            exact W.iret (v := (0 : Int32)) hx hb hr (fun t ht hW => ⟨⟨(0 : Int32), (sI w_1.2 0 (1 : Int32)), rfl, hf, ⟨by rw [ht]; exact hP, va_K.moved hW.alike hK, hD⟩⟩, hS.F ht⟩) hS.2.2 dX5_aim_35
        · have hf := (if_neg c_2).symm.trans hf
          refine lv_iload_n hx hb dX5_aim_9 rfl (lv_at hl 2 rfl) ?_
          refine lv_iconst (v := 0) hx hb dX5_aim_10 (by decide) ?_
          refine lv_ldc (v := 1000000) hx hb hown k_1 dX5_aim_11 ?_
          obtain ⟨w_4, hw_4, hf⟩ := ob hf
          have hFc := freeNil hS hA
          refine va_calli (va_runS (As := [.int v2, .int (0 : Int32), .int (1000000 : Int32)]) (rest := [.ref (ad 0)]) ⟨hx, hb, hml, hown, hts⟩ (mX5_isIn l H.size v2 (0 : Int32) (1000000 : Int32) n w_4 hw_4) (va_cwS 3 hts gX5_aim_X5_isIn rfl rfl rfl (by decide +kernel) ⟨Nat.le_of_ble_eq_true rfl, Nat.le_of_ble_eq_true rfl⟩) ⟨nPre_blind, nPre_of⟩ rfl rfl hl.1 rfl (lv_room (Nat.le_of_ble_eq_true rfl)) dX5_aim_13 ⟨Nat.zero_le _, Nat.zero_le _⟩) hS (fun q _ h => hFc q h) hFc (fun r2 u2 t H1 locs ht hvm hw hB hz1 hk1 hS => ?_)
          subst r2
          have hP := keepP hP hk1
          clear hFc hk1 hB
          generalize H1 = H at hP hS ⊢
          refine lv_if_eq (tgt := 23) hx hb dX5_aim_16 (by decide) (fun c_5 => ?_) (fun c_5 => ?_)
          · have hf := (if_pos c_5).symm.trans hf
            refine lv_iconst (v := 1) hx hb dX5_aim_23 (by decide) ?_
            refine va_put (D := (dC, dI)) (ci := 5) (v := .int (1 : Int32)) (ty := .int) (C := RX5) (T := TX5) (N := 36) hx hb hts iX5 tyX5 tyX5_ok nmX5 hown hK hP hD hS 0 rfl rfl 0 (by decide) k_0 (fun _ h9 => h9) rfl (by decide +kernel) rfl rfl (Nat.le_of_ble_eq_true rfl) dX5_aim_24 (fun H locs hP hD hS => ?_)
            have hP : va_P (dC, dI) vwCl (mw ad cI cL (sI w_1.2 0 (1 : Int32))) H := hP
            have hD : va_D A (mw ad cI cL (sI w_1.2 0 (1 : Int32))) := hD
            refine lv_aload_n hx hb dX5_aim_27 rfl (lv_at hl 0 rfl) ?_
            refine va_get (D := (dC, dI)) (ci := 5) (v := .int ((1 : Int32))) (C := RX5) (T := TX5) (N := 36) hx hb hts iX5 hown hK hP 0 rfl rfl 0 (by decide) k_0 (fun _ h9 => h9) rfl dX5_aim_28 ?_
            refine lv_if_le (tgt := 36) hx hb dX5_aim_31 (by decide) (fun c_6 => ?_) (fun c_6 => ?_)
            · exact absurd c_6 (by decide)
            · refine lv_iconst (v := 0) hx hb dX5_aim_34 (by decide) ?_
              have hf := Option.some.inj hf
              exact W.iret (v := (0 : Int32)) hx hb hr (fun t ht hW => ⟨⟨(0 : Int32), (sI w_1.2 0 (1 : Int32)), rfl, hf, ⟨by rw [ht]; exact hP, va_K.moved hW.alike hK, hD⟩⟩, hS.F ht⟩) hS.2.2 dX5_aim_35
          · have hf := (if_neg c_5).symm.trans hf
            refine lv_iconst (v := 0) hx hb dX5_aim_19 (by decide) ?_
            refine lv_goto (tgt := 24) hx hb dX5_aim_20 (by decide) ?_
            refine va_put (D := (dC, dI)) (ci := 5) (v := .int (0 : Int32)) (ty := .int) (C := RX5) (T := TX5) (N := 36) hx hb hts iX5 tyX5 tyX5_ok nmX5 hown hK hP hD hS 0 rfl rfl 0 (by decide) k_0 (fun _ h9 => h9) rfl (by decide +kernel) rfl rfl (Nat.le_of_ble_eq_true rfl) dX5_aim_24 (fun H locs hP hD hS => ?_)
            have hP : va_P (dC, dI) vwCl (mw ad cI cL (sI w_1.2 0 (0 : Int32))) H := hP
            have hD : va_D A (mw ad cI cL (sI w_1.2 0 (0 : Int32))) := hD
            refine lv_aload_n hx hb dX5_aim_27 rfl (lv_at hl 0 rfl) ?_
            refine va_get (D := (dC, dI)) (ci := 5) (v := .int ((0 : Int32))) (C := RX5) (T := TX5) (N := 36) hx hb hts iX5 hown hK hP 0 rfl rfl 0 (by decide) k_0 (fun _ h9 => h9) rfl dX5_aim_28 ?_
            refine lv_if_le (tgt := 36) hx hb dX5_aim_31 (by decide) (fun c_7 => ?_) (fun c_7 => ?_)
            · refine lv_aload_n hx hb dX5_aim_36 rfl (lv_at hl 0 rfl) ?_
              refine va_get (D := (dC, dI)) (ci := 5) (v := .ref (ad 12)) (C := RX5) (T := TX5) (N := 36) hx hb hts iX5 hown hK hP 0 rfl rfl 15 (by decide) k_2 (fun _ h9 => h9) rfl dX5_aim_37 ?_
              refine lv_iload_n hx hb dX5_aim_40 rfl (lv_at hl 1 rfl) ?_
              obtain ⟨h_8, hf⟩ := ck_of hf
              refine va_iald (f := (gA w_1.2 11)) hx hb hK hP 12 0 rfl rfl h_8 dX5_aim_41 ?_
              refine lv_istore_n (lv' := [(3, .int ((gA w_1.2 11) v1.toNatClampNeg)), (0, .ref (ad 0)), (1, .int v1), (2, .int v2)]) hx hb dX5_aim_42 rfl hl (by decide) rfl (fun ls hl => ?_)
              refine lv_aload_n hx hb dX5_aim_43 rfl (lv_at hl 1 rfl) ?_
              refine va_get (D := (dC, dI)) (ci := 5) (v := .ref (ad 12)) (C := RX5) (T := TX5) (N := 36) hx hb hts iX5 hown hK hP 0 rfl rfl 15 (by decide) k_2 (fun _ h9 => h9) rfl dX5_aim_44 ?_
              refine lv_iload_n hx hb dX5_aim_47 rfl (lv_at hl 2 rfl) ?_
              refine lv_iload_n hx hb dX5_aim_48 rfl (lv_at hl 3 rfl) ?_
              refine va_iast (f := (gA w_1.2 11)) hx hb hK hP hD hS 12 0 rfl rfl h_8 dX5_aim_49 (fun H locs hP hD hS => ?_)
              have hP : va_P (dC, dI) vwCl (mw ad cI cL (sA (sI w_1.2 0 (0 : Int32)) 11 (upd (gA w_1.2 11) v1.toNatClampNeg v2))) H := hP
              have hD : va_D A (mw ad cI cL (sA (sI w_1.2 0 (0 : Int32)) 11 (upd (gA w_1.2 11) v1.toNatClampNeg v2))) := hD
              refine lv_iload_n hx hb dX5_aim_50 rfl (lv_at hl 0 rfl) ?_
              have hf := Option.some.inj hf
              exact W.iret (v := ((gA w_1.2 11) v1.toNatClampNeg)) hx hb hr (fun t ht hW => ⟨⟨((gA w_1.2 11) v1.toNatClampNeg), (sA (sI w_1.2 0 (0 : Int32)) 11 (upd (gA w_1.2 11) v1.toNatClampNeg v2)), rfl, hf, ⟨by rw [ht]; exact hP, va_K.moved hW.alike hK, hD⟩⟩, hS.F ht⟩) hS.2.2 dX5_aim_51
            · exact absurd c_7 (by decide)
  exact (key n) z1 z2 u _ _ ls hf0 hP hD hS (lv_sub hl [0, 1, 2] rfl)

def fX5_hasLamp (n pc : Nat) (v1 : Int32) (u : St) : Option (Int32 × St) := match n with
  | 0 => none
  | n + 1 => match pc with
    | 0 => (if (gI u 7) = 0 then some ((0 : Int32), u) else (if ck v1 7 = true then (if ((gA u 13) v1.toNatClampNeg) < 0 then some ((0 : Int32), u) else some ((1 : Int32), u)) else none))
    | _ => none
theorem eX5_hasLamp_0 (n : Nat) (v1 : Int32) (u : St) : fX5_hasLamp (n + 1) 0 v1 u = (if (gI u 7) = 0 then some ((0 : Int32), u) else (if ck v1 7 = true then (if ((gA u 13) v1.toNatClampNeg) < 0 then some ((0 : Int32), u) else some ((1 : Int32), u)) else none)) := rfl
theorem vX5_hasLamp_0 (v1 : Int32) (u : St) (r : Int32 × St) : Ev (fun n => fX5_hasLamp n 0 v1 u) r ↔ Ev (fun n => (if (gI u 7) = 0 then some ((0 : Int32), u) else (if ck v1 7 = true then (if ((gA u 13) v1.toNatClampNeg) < 0 then some ((0 : Int32), u) else some ((1 : Int32), u)) else none))) r := Ev_succ (fun n => fX5_hasLamp n 0 v1 u) r
def FX5_hasLamp (n : Nat) (v1 : Int32) (u : St) : Option (Int32 × St) := fX5_hasLamp n 0 v1 u
set_option maxHeartbeats 4000000 in
set_option maxRecDepth 100000 in
theorem mX5_hasLamp (l : Launch) (dC : Nat → ClassId) (dI : Nat → Nat → Nat) (cI cL : ClassId) (ad : Nat → Nat) (sz : Nat) (u : St) (z1 : Int32) (n : Nat) (r : Int32 × St) (hf0 : FX5_hasLamp n z1 u = some r) : Met l yX5_hasLamp wsX5_hasLamp ({ frames := 0, cells := 0, slots := 0, locals := 0 }) (va_Pc [.ref (ad 0), .int z1] (wPre dC dI cI cL (mw ad cI cL u) sz)) (va_Qi (fun a t => (a, t) = r) (fun t => wPost dC dI cI cL (va_A (mw ad cI cL u) sz) (mw ad cI cL t)) (va_A (mw ad cI cL u) sz)) 0 0 (va_A (mw ad cI cL u) sz) := by
  refine Met.ofW (cc := cX5_hasLamp) (maxL := 2) (ret := (some .boolean)) (by decide) rfl ?_
  intro p e s m args below meth c s₁ B hml hv
  obtain ⟨rfl, hsz, hP, hK, hD0, hZ⟩ := hv
  have hx := B.exec
  have hb := B.bytes
  have hr := B.returns
  have hts := atoms_spec (ws := wsX5_hasLamp) B.pre
  have hown : s.vm.findClass RX5 = some m.cls := findClass_of_methodNamed B.named
  have hlocks := B.notSynchronized
  subst hsz
  have hD := hD0.self (sz := s.heap.size)
  generalize hAe : va_A (mw ad cI cL u) s.heap.size = A at hD ⊢
  have hA : ∀ q : Nat, s.heap.size ≤ q → A q := fun q h => by rw [← hAe]; exact Or.inr h
  have hS : va_S A s.heap s.heap [] := va_S.rf
  have iX5 : ∀ w ∈ u_ws RX5 TX5 36, w ∈ wsX5_hasLamp := fun _ h => List.mem_cons_of_mem _ (List.mem_append_right _ h)
  have k_0 := hts (.fieldLink RX5 122 "LampChoiceModel" "found" "Z") (by decide +kernel)
  have k_1 := hts (.fieldLink RX5 56 "LampChoiceModel" "best" "[I") (by decide +kernel)
  have hl := lv_entry ([.ref (ad 0), .int z1]) (n := 2) (Nat.le_of_ble_eq_true rfl)
  rw [lg_entry_eq]
  generalize (lg_sl ([.ref (ad 0), .int z1]) ++ List.replicate (2 - (lg_sl ([.ref (ad 0), .int z1])).length) Slot.unset).toArray = ls at hl ⊢
  have hl : lv_has ls 2 [(0, .ref (ad 0)), (1, .int z1)] := hl
  have key : ∀ n : Nat, (∀ (v1 : Int32) (u : St) (H : Heap) (locs : List Loc) (ls : Array Slot), fX5_hasLamp n 0 v1 u = some r → va_P (dC, dI) vwCl (mw ad cI cL u) H → va_D A (mw ad cI cL u) → va_S A s.heap H locs → lv_has ls 2 [(0, .ref (ad 0)), (1, .int v1)] → W p l e (headSpec wsX5_hasLamp ({ frames := 0, cells := 0, slots := 0, locals := 0 })).room s m ([.ref (ad 0), .int z1] : List Value).toArray below meth c H locs 0 0 (MQ below (va_Qi (fun a t => (a, t) = r) (fun t => wPost dC dI cI cL A (mw ad cI cL t)) A) ([.ref (ad 0), .int z1] : List Value).toArray s 0 0 A) (F0 m 0 ls [])) := by
    intro n
    induction n with
    | zero => exact (fun _ _ _ _ _ hf => nomatch (show (none : Option (Int32 × St)) = some r from hf))
    | succ n ih =>
      have ih0 := ih
      · intro v1 u H locs ls hf hP hD hS hl
        have hf := (eX5_hasLamp_0 n v1 u).symm.trans hf
        refine lv_aload_n hx hb dX5_hasLamp_0 rfl (lv_at hl 0 rfl) ?_
        refine va_get (D := (dC, dI)) (ci := 5) (v := .int (gI u 7)) (C := RX5) (T := TX5) (N := 36) hx hb hts iX5 hown hK hP 0 rfl rfl 20 (by decide) k_0 (fun _ h9 => h9) rfl dX5_hasLamp_1 ?_
        refine lv_if_eq (tgt := 20) hx hb dX5_hasLamp_4 (by decide) (fun c_1 => ?_) (fun c_1 => ?_)
        · have hf := (if_pos c_1).symm.trans hf
          refine lv_iconst (v := 0) hx hb dX5_hasLamp_20 (by decide) ?_
          have hf := Option.some.inj hf
          exact W.zret (v := (0 : Int32)) hx hb hr rfl (fun t ht hW => ⟨⟨(0 : Int32), u, rfl, hf, ⟨by rw [ht]; exact hP, va_K.moved hW.alike hK, hD⟩⟩, hS.F ht⟩) hS.2.2 dX5_hasLamp_21
        · have hf := (if_neg c_1).symm.trans hf
          refine lv_aload_n hx hb dX5_hasLamp_7 rfl (lv_at hl 0 rfl) ?_
          refine va_get (D := (dC, dI)) (ci := 5) (v := .ref (ad 14)) (C := RX5) (T := TX5) (N := 36) hx hb hts iX5 hown hK hP 0 rfl rfl 21 (by decide) k_1 (fun _ h9 => h9) rfl dX5_hasLamp_8 ?_
          refine lv_iload_n hx hb dX5_hasLamp_11 rfl (lv_at hl 1 rfl) ?_
          obtain ⟨h_2, hf⟩ := ck_of hf
          refine va_iald (f := (gA u 13)) hx hb hK hP 14 0 rfl rfl h_2 dX5_hasLamp_12 ?_
          refine lv_if_lt (tgt := 20) hx hb dX5_hasLamp_13 (by decide) (fun c_3 => ?_) (fun c_3 => ?_)
          · have hf := (if_pos c_3).symm.trans hf
            refine lv_iconst (v := 0) hx hb dX5_hasLamp_20 (by decide) ?_
            have hf := Option.some.inj hf
            exact W.zret (v := (0 : Int32)) hx hb hr rfl (fun t ht hW => ⟨⟨(0 : Int32), u, rfl, hf, ⟨by rw [ht]; exact hP, va_K.moved hW.alike hK, hD⟩⟩, hS.F ht⟩) hS.2.2 dX5_hasLamp_21
          · have hf := (if_neg c_3).symm.trans hf
            refine lv_iconst (v := 1) hx hb dX5_hasLamp_16 (by decide) ?_
            refine lv_goto (tgt := 21) hx hb dX5_hasLamp_17 (by decide) ?_
            have hf := Option.some.inj hf
            exact W.zret (v := (1 : Int32)) hx hb hr rfl (fun t ht hW => ⟨⟨(1 : Int32), u, rfl, hf, ⟨by rw [ht]; exact hP, va_K.moved hW.alike hK, hD⟩⟩, hS.F ht⟩) hS.2.2 dX5_hasLamp_21
  exact (key n) z1 u _ _ ls hf0 hP hD hS (lv_sub hl [0, 1] rfl)

def fX2_lightOf (n pc : Nat) (v1 : Int32) (v2 : Int32) (v3 : Int32) (u : St) : Option (Int32 × St) := match n with
  | 0 => none
  | n + 1 => match pc with
    | 0 => (if ck v2 7 = true then (if ck v3 16 = true then (if ck v1 3 = true then ((FX4_quotient n ((1000 : Int64) * ((gA u 0) v1.toNatClampNeg).toInt64) (((((gI u 3) * (gI u 3)) + ((((gA u 4) v2.toNatClampNeg) - ((gA u 7) v3.toNatClampNeg)) * (((gA u 4) v2.toNatClampNeg) - ((gA u 7) v3.toNatClampNeg)))) + ((((gA u 5) v2.toNatClampNeg) - ((gA u 8) v3.toNatClampNeg)) * (((gA u 5) v2.toNatClampNeg) - ((gA u 8) v3.toNatClampNeg)))).toInt64)).bind fun w_4 => some (w_4.toInt32, u)) else none) else none) else none)
    | _ => none
theorem eX2_lightOf_0 (n : Nat) (v1 : Int32) (v2 : Int32) (v3 : Int32) (u : St) : fX2_lightOf (n + 1) 0 v1 v2 v3 u = (if ck v2 7 = true then (if ck v3 16 = true then (if ck v1 3 = true then ((FX4_quotient n ((1000 : Int64) * ((gA u 0) v1.toNatClampNeg).toInt64) (((((gI u 3) * (gI u 3)) + ((((gA u 4) v2.toNatClampNeg) - ((gA u 7) v3.toNatClampNeg)) * (((gA u 4) v2.toNatClampNeg) - ((gA u 7) v3.toNatClampNeg)))) + ((((gA u 5) v2.toNatClampNeg) - ((gA u 8) v3.toNatClampNeg)) * (((gA u 5) v2.toNatClampNeg) - ((gA u 8) v3.toNatClampNeg)))).toInt64)).bind fun w_4 => some (w_4.toInt32, u)) else none) else none) else none) := rfl
theorem vX2_lightOf_0 (v1 : Int32) (v2 : Int32) (v3 : Int32) (u : St) (r : Int32 × St) : Ev (fun n => fX2_lightOf n 0 v1 v2 v3 u) r ↔ Ev (fun n => (if ck v2 7 = true then (if ck v3 16 = true then (if ck v1 3 = true then ((FX4_quotient n ((1000 : Int64) * ((gA u 0) v1.toNatClampNeg).toInt64) (((((gI u 3) * (gI u 3)) + ((((gA u 4) v2.toNatClampNeg) - ((gA u 7) v3.toNatClampNeg)) * (((gA u 4) v2.toNatClampNeg) - ((gA u 7) v3.toNatClampNeg)))) + ((((gA u 5) v2.toNatClampNeg) - ((gA u 8) v3.toNatClampNeg)) * (((gA u 5) v2.toNatClampNeg) - ((gA u 8) v3.toNatClampNeg)))).toInt64)).bind fun w_4 => some (w_4.toInt32, u)) else none) else none) else none)) r := Ev_succ (fun n => fX2_lightOf n 0 v1 v2 v3 u) r
def FX2_lightOf (n : Nat) (v1 : Int32) (v2 : Int32) (v3 : Int32) (u : St) : Option (Int32 × St) := fX2_lightOf n 0 v1 v2 v3 u
set_option maxHeartbeats 4000000 in
set_option maxRecDepth 100000 in
theorem mX2_lightOf (l : Launch) (dC : Nat → ClassId) (dI : Nat → Nat → Nat) (cI cL : ClassId) (ad : Nat → Nat) (sz : Nat) (u : St) (z1 : Int32) (z2 : Int32) (z3 : Int32) (n : Nat) (r : Int32 × St) (hf0 : FX2_lightOf n z1 z2 z3 u = some r) : Met l yX2_lightOf wsX2_lightOf ({ frames := 1, cells := 0, slots := 0, locals := 23 }) (va_Pc [.ref (ad 1), .int z1, .int z2, .int z3] (wPre dC dI cI cL (cw ad cI cL u) sz)) (va_Qi (fun a t => (a, t) = r) (fun t => wPost dC dI cI cL (va_A (cw ad cI cL u) sz) (cw ad cI cL t)) (va_A (cw ad cI cL u) sz)) 0 0 (va_A (cw ad cI cL u) sz) := by
  refine Met.ofW (cc := cX2_lightOf) (maxL := 6) (ret := (some .int)) (by decide) rfl ?_
  intro p e s m args below meth c s₁ B hml hv
  obtain ⟨rfl, hsz, hP, hK, hD0, hZ⟩ := hv
  have hx := B.exec
  have hb := B.bytes
  have hr := B.returns
  have hts := atoms_spec (ws := wsX2_lightOf) B.pre
  have hown : s.vm.findClass RX2 = some m.cls := findClass_of_methodNamed B.named
  have hlocks := B.notSynchronized
  subst hsz
  have hD := hD0.self (sz := s.heap.size)
  generalize hAe : va_A (cw ad cI cL u) s.heap.size = A at hD ⊢
  have hA : ∀ q : Nat, s.heap.size ≤ q → A q := fun q h => by rw [← hAe]; exact Or.inr h
  have hS : va_S A s.heap s.heap [] := va_S.rf
  have iX2 : ∀ w ∈ u_ws RX2 TX2 14, w ∈ wsX2_lightOf := fun _ h => List.mem_cons_of_mem _ (List.mem_append_right _ h)
  have k_0 := hts (.fieldLink RX2 24 "LampChoice$Room" "placeX" "[I") (by decide +kernel)
  have k_1 := hts (.fieldLink RX2 33 "LampChoice$Room" "pointX" "[I") (by decide +kernel)
  have k_2 := hts (.fieldLink RX2 27 "LampChoice$Room" "placeY" "[I") (by decide +kernel)
  have k_3 := hts (.fieldLink RX2 36 "LampChoice$Room" "pointY" "[I") (by decide +kernel)
  have k_4 := hts (.constantLong RX2 55 (1000)) (by decide +kernel)
  have k_5 := hts (.fieldLink RX2 9 "LampChoice$Room" "strengths" "[I") (by decide +kernel)
  have k_6 := hts (.fieldLink RX2 42 "LampChoice$Room" "height" "I") (by decide +kernel)
  have k_7 := hts (.initialized RX4) (by decide +kernel)
  have k_8 := hts (.static yX4_quotient) (by decide +kernel)
  have hl := lv_entry ([.ref (ad 1), .int z1, .int z2, .int z3]) (n := 6) (Nat.le_of_ble_eq_true rfl)
  rw [lg_entry_eq]
  generalize (lg_sl ([.ref (ad 1), .int z1, .int z2, .int z3]) ++ List.replicate (6 - (lg_sl ([.ref (ad 1), .int z1, .int z2, .int z3])).length) Slot.unset).toArray = ls at hl ⊢
  have hl : lv_has ls 6 [(0, .ref (ad 1)), (1, .int z1), (2, .int z2), (3, .int z3)] := hl
  have key : ∀ n : Nat, (∀ (v1 : Int32) (v2 : Int32) (v3 : Int32) (u : St) (H : Heap) (locs : List Loc) (ls : Array Slot), fX2_lightOf n 0 v1 v2 v3 u = some r → va_P (dC, dI) vwCl (cw ad cI cL u) H → va_D A (cw ad cI cL u) → va_S A s.heap H locs → lv_has ls 6 [(0, .ref (ad 1)), (1, .int v1), (2, .int v2), (3, .int v3)] → W p l e (headSpec wsX2_lightOf ({ frames := 1, cells := 0, slots := 0, locals := 23 })).room s m ([.ref (ad 1), .int z1, .int z2, .int z3] : List Value).toArray below meth c H locs 0 0 (MQ below (va_Qi (fun a t => (a, t) = r) (fun t => wPost dC dI cI cL A (cw ad cI cL t)) A) ([.ref (ad 1), .int z1, .int z2, .int z3] : List Value).toArray s 0 0 A) (F0 m 0 ls [])) := by
    intro n
    induction n with
    | zero => exact (fun _ _ _ _ _ _ _ hf => nomatch (show (none : Option (Int32 × St)) = some r from hf))
    | succ n ih =>
      have ih0 := ih
      · intro v1 v2 v3 u H locs ls hf hP hD hS hl
        have hf := (eX2_lightOf_0 n v1 v2 v3 u).symm.trans hf
        refine lv_aload_n hx hb dX2_lightOf_0 rfl (lv_at hl 0 rfl) ?_
        refine va_get (D := (dC, dI)) (ci := 2) (v := .ref (ad 9)) (C := RX2) (T := TX2) (N := 14) hx hb hts iX2 hown hK hP 1 rfl rfl 4 (by decide) k_0 (fun _ h9 => h9) rfl dX2_lightOf_1 ?_
        refine lv_iload_n hx hb dX2_lightOf_4 rfl (lv_at hl 2 rfl) ?_
        obtain ⟨h_1, hf⟩ := ck_of hf
        refine va_iald (f := (gA u 4)) hx hb hK hP 9 0 rfl rfl h_1 dX2_lightOf_5 ?_
        refine lv_aload_n hx hb dX2_lightOf_6 rfl (lv_at hl 0 rfl) ?_
        refine va_get (D := (dC, dI)) (ci := 2) (v := .ref (ad 12)) (C := RX2) (T := TX2) (N := 14) hx hb hts iX2 hown hK hP 1 rfl rfl 7 (by decide) k_1 (fun _ h9 => h9) rfl dX2_lightOf_7 ?_
        refine lv_iload_n hx hb dX2_lightOf_10 rfl (lv_at hl 3 rfl) ?_
        obtain ⟨h_2, hf⟩ := ck_of hf
        refine va_iald (f := (gA u 7)) hx hb hK hP 12 0 rfl rfl h_2 dX2_lightOf_11 ?_
        refine lv_isub hx hb dX2_lightOf_12 ?_
        refine lv_istore (lv' := [(4, .int (((gA u 4) v2.toNatClampNeg) - ((gA u 7) v3.toNatClampNeg))), (0, .ref (ad 1)), (1, .int v1), (2, .int v2), (3, .int v3)]) hx hb dX2_lightOf_13 hl (by decide) rfl (fun ls hl => ?_)
        refine lv_aload_n hx hb dX2_lightOf_15 rfl (lv_at hl 1 rfl) ?_
        refine va_get (D := (dC, dI)) (ci := 2) (v := .ref (ad 10)) (C := RX2) (T := TX2) (N := 14) hx hb hts iX2 hown hK hP 1 rfl rfl 5 (by decide) k_2 (fun _ h9 => h9) rfl dX2_lightOf_16 ?_
        refine lv_iload_n hx hb dX2_lightOf_19 rfl (lv_at hl 3 rfl) ?_
        refine va_iald (f := (gA u 5)) hx hb hK hP 10 0 rfl rfl h_1 dX2_lightOf_20 ?_
        refine lv_aload_n hx hb dX2_lightOf_21 rfl (lv_at hl 1 rfl) ?_
        refine va_get (D := (dC, dI)) (ci := 2) (v := .ref (ad 13)) (C := RX2) (T := TX2) (N := 14) hx hb hts iX2 hown hK hP 1 rfl rfl 8 (by decide) k_3 (fun _ h9 => h9) rfl dX2_lightOf_22 ?_
        refine lv_iload_n hx hb dX2_lightOf_25 rfl (lv_at hl 4 rfl) ?_
        refine va_iald (f := (gA u 8)) hx hb hK hP 13 0 rfl rfl h_2 dX2_lightOf_26 ?_
        refine lv_isub hx hb dX2_lightOf_27 ?_
        refine lv_istore (lv' := [(5, .int (((gA u 5) v2.toNatClampNeg) - ((gA u 8) v3.toNatClampNeg))), (4, .int (((gA u 4) v2.toNatClampNeg) - ((gA u 7) v3.toNatClampNeg))), (0, .ref (ad 1)), (1, .int v1), (2, .int v2), (3, .int v3)]) hx hb dX2_lightOf_28 hl (by decide) rfl (fun ls hl => ?_)
        refine lv_ldc2 (v := 1000) hx hb hown k_4 dX2_lightOf_30 ?_
        refine lv_aload_n hx hb dX2_lightOf_33 rfl (lv_at hl 2 rfl) ?_
        refine va_get (D := (dC, dI)) (ci := 2) (v := .ref (ad 5)) (C := RX2) (T := TX2) (N := 14) hx hb hts iX2 hown hK hP 1 rfl rfl 0 (by decide) k_5 (fun _ h9 => h9) rfl dX2_lightOf_34 ?_
        refine lv_iload_n hx hb dX2_lightOf_37 rfl (lv_at hl 3 rfl) ?_
        obtain ⟨h_3, hf⟩ := ck_of hf
        refine va_iald (f := (gA u 0)) hx hb hK hP 5 0 rfl rfl h_3 dX2_lightOf_38 ?_
        refine lv_i2l (v := ((gA u 0) v1.toNatClampNeg).toInt64) hx hb dX2_lightOf_39 rfl ?_
        refine lv_lmul hx hb dX2_lightOf_40 ?_
        refine lv_aload_n hx hb dX2_lightOf_41 rfl (lv_at hl 2 rfl) ?_
        refine va_get (D := (dC, dI)) (ci := 2) (v := .int (gI u 3)) (C := RX2) (T := TX2) (N := 14) hx hb hts iX2 hown hK hP 1 rfl rfl 13 (by decide) k_6 (fun _ h9 => h9) rfl dX2_lightOf_42 ?_
        refine lv_aload_n hx hb dX2_lightOf_45 rfl (lv_at hl 2 rfl) ?_
        refine va_get (D := (dC, dI)) (ci := 2) (v := .int (gI u 3)) (C := RX2) (T := TX2) (N := 14) hx hb hts iX2 hown hK hP 1 rfl rfl 13 (by decide) k_6 (fun _ h9 => h9) rfl dX2_lightOf_46 ?_
        refine lv_imul hx hb dX2_lightOf_49 ?_
        refine lv_iload hx hb dX2_lightOf_50 (lv_at hl 1 rfl) ?_
        refine lv_iload hx hb dX2_lightOf_52 (lv_at hl 1 rfl) ?_
        refine lv_imul hx hb dX2_lightOf_54 ?_
        refine lv_iadd hx hb dX2_lightOf_55 ?_
        refine lv_iload hx hb dX2_lightOf_56 (lv_at hl 0 rfl) ?_
        refine lv_iload hx hb dX2_lightOf_58 (lv_at hl 0 rfl) ?_
        refine lv_imul hx hb dX2_lightOf_60 ?_
        refine lv_iadd hx hb dX2_lightOf_61 ?_
        refine lv_i2l (v := ((((gI u 3) * (gI u 3)) + ((((gA u 4) v2.toNatClampNeg) - ((gA u 7) v3.toNatClampNeg)) * (((gA u 4) v2.toNatClampNeg) - ((gA u 7) v3.toNatClampNeg)))) + ((((gA u 5) v2.toNatClampNeg) - ((gA u 8) v3.toNatClampNeg)) * (((gA u 5) v2.toNatClampNeg) - ((gA u 8) v3.toNatClampNeg)))).toInt64) hx hb dX2_lightOf_62 rfl ?_
        obtain ⟨w_4, hw_4, hf⟩ := ob hf
        have hFc := freeNil hS hA
        refine va_calll (va_runSN (As := [.long ((1000 : Int64) * ((gA u 0) v1.toNatClampNeg).toInt64), .long (((((gI u 3) * (gI u 3)) + ((((gA u 4) v2.toNatClampNeg) - ((gA u 7) v3.toNatClampNeg)) * (((gA u 4) v2.toNatClampNeg) - ((gA u 7) v3.toNatClampNeg)))) + ((((gA u 5) v2.toNatClampNeg) - ((gA u 8) v3.toNatClampNeg)) * (((gA u 5) v2.toNatClampNeg) - ((gA u 8) v3.toNatClampNeg)))).toInt64)]) (rest := []) ⟨hx, hb, hml, hown, hts⟩ (mX4_quotient l H.size ((1000 : Int64) * ((gA u 0) v1.toNatClampNeg).toInt64) (((((gI u 3) * (gI u 3)) + ((((gA u 4) v2.toNatClampNeg) - ((gA u 7) v3.toNatClampNeg)) * (((gA u 4) v2.toNatClampNeg) - ((gA u 7) v3.toNatClampNeg)))) + ((((gA u 5) v2.toNatClampNeg) - ((gA u 8) v3.toNatClampNeg)) * (((gA u 5) v2.toNatClampNeg) - ((gA u 8) v3.toNatClampNeg)))).toInt64) n w_4 hw_4) ⟨va_cnB 2 hts ggX2_lightOf_X4_quotient rfl rfl rfl hZ.2.2.1 k_7 (by decide +kernel) ⟨Nat.le_of_ble_eq_true rfl, Nat.le_of_ble_eq_true rfl⟩, k_8, trivial⟩ ⟨nPre_blind, nPre_of⟩ rfl rfl hl.1 rfl (lv_room (Nat.le_of_ble_eq_true rfl)) dX2_lightOf_63 ⟨Nat.zero_le _, Nat.zero_le _⟩) hS (fun q _ h => hFc q h) hFc (fun r2 u2 t H1 locs ht hvm hw hB hz1 hk1 hS => ?_)
        subst r2
        have hP := keepP hP hk1
        clear hFc hk1 hB
        generalize H1 = H at hP hS ⊢
        refine lv_l2i (v := w_4.toInt32) hx hb dX2_lightOf_66 rfl ?_
        have hf := Option.some.inj hf
        exact W.iret (v := w_4.toInt32) hx hb hr (fun t ht hW => ⟨⟨w_4.toInt32, u, rfl, hf, ⟨by rw [ht]; exact hP, va_K.moved hW.alike hK, hD⟩⟩, hS.F ht⟩) hS.2.2 dX2_lightOf_67
  exact (key n) z1 z2 z3 u _ _ ls hf0 hP hD hS (lv_sub hl [0, 1, 2, 3] rfl)

def fX2_mayHave (n pc : Nat) (v1 : Int32) (v2 : Int32) (u : St) : Option (Int32 × St) := match n with
  | 0 => none
  | n + 1 => match pc with
    | 0 => (if ck v1 7 = true then (if ((gA u 6) v1.toNatClampNeg) = (-2 : Int32) then some ((1 : Int32), u) else (if ((gA u 6) v1.toNatClampNeg) = v2 then some ((1 : Int32), u) else some ((0 : Int32), u))) else none)
    | _ => none
theorem eX2_mayHave_0 (n : Nat) (v1 : Int32) (v2 : Int32) (u : St) : fX2_mayHave (n + 1) 0 v1 v2 u = (if ck v1 7 = true then (if ((gA u 6) v1.toNatClampNeg) = (-2 : Int32) then some ((1 : Int32), u) else (if ((gA u 6) v1.toNatClampNeg) = v2 then some ((1 : Int32), u) else some ((0 : Int32), u))) else none) := rfl
theorem vX2_mayHave_0 (v1 : Int32) (v2 : Int32) (u : St) (r : Int32 × St) : Ev (fun n => fX2_mayHave n 0 v1 v2 u) r ↔ Ev (fun n => (if ck v1 7 = true then (if ((gA u 6) v1.toNatClampNeg) = (-2 : Int32) then some ((1 : Int32), u) else (if ((gA u 6) v1.toNatClampNeg) = v2 then some ((1 : Int32), u) else some ((0 : Int32), u))) else none)) r := Ev_succ (fun n => fX2_mayHave n 0 v1 v2 u) r
def FX2_mayHave (n : Nat) (v1 : Int32) (v2 : Int32) (u : St) : Option (Int32 × St) := fX2_mayHave n 0 v1 v2 u
set_option maxHeartbeats 4000000 in
set_option maxRecDepth 100000 in
theorem mX2_mayHave (l : Launch) (dC : Nat → ClassId) (dI : Nat → Nat → Nat) (cI cL : ClassId) (ad : Nat → Nat) (sz : Nat) (u : St) (z1 : Int32) (z2 : Int32) (n : Nat) (r : Int32 × St) (hf0 : FX2_mayHave n z1 z2 u = some r) : Met l yX2_mayHave wsX2_mayHave ({ frames := 0, cells := 0, slots := 0, locals := 0 }) (va_Pc [.ref (ad 1), .int z1, .int z2] (wPre dC dI cI cL (cw ad cI cL u) sz)) (va_Qi (fun a t => (a, t) = r) (fun t => wPost dC dI cI cL (va_A (cw ad cI cL u) sz) (cw ad cI cL t)) (va_A (cw ad cI cL u) sz)) 0 0 (va_A (cw ad cI cL u) sz) := by
  refine Met.ofW (cc := cX2_mayHave) (maxL := 3) (ret := (some .boolean)) (by decide) rfl ?_
  intro p e s m args below meth c s₁ B hml hv
  obtain ⟨rfl, hsz, hP, hK, hD0, hZ⟩ := hv
  have hx := B.exec
  have hb := B.bytes
  have hr := B.returns
  have hts := atoms_spec (ws := wsX2_mayHave) B.pre
  have hown : s.vm.findClass RX2 = some m.cls := findClass_of_methodNamed B.named
  have hlocks := B.notSynchronized
  subst hsz
  have hD := hD0.self (sz := s.heap.size)
  generalize hAe : va_A (cw ad cI cL u) s.heap.size = A at hD ⊢
  have hA : ∀ q : Nat, s.heap.size ≤ q → A q := fun q h => by rw [← hAe]; exact Or.inr h
  have hS : va_S A s.heap s.heap [] := va_S.rf
  have iX2 : ∀ w ∈ u_ws RX2 TX2 14, w ∈ wsX2_mayHave := fun _ h => List.mem_cons_of_mem _ (List.mem_append_right _ h)
  have k_0 := hts (.fieldLink RX2 30 "LampChoice$Room" "held" "[I") (by decide +kernel)
  have hl := lv_entry ([.ref (ad 1), .int z1, .int z2]) (n := 3) (Nat.le_of_ble_eq_true rfl)
  rw [lg_entry_eq]
  generalize (lg_sl ([.ref (ad 1), .int z1, .int z2]) ++ List.replicate (3 - (lg_sl ([.ref (ad 1), .int z1, .int z2])).length) Slot.unset).toArray = ls at hl ⊢
  have hl : lv_has ls 3 [(0, .ref (ad 1)), (1, .int z1), (2, .int z2)] := hl
  have key : ∀ n : Nat, (∀ (v1 : Int32) (v2 : Int32) (u : St) (H : Heap) (locs : List Loc) (ls : Array Slot), fX2_mayHave n 0 v1 v2 u = some r → va_P (dC, dI) vwCl (cw ad cI cL u) H → va_D A (cw ad cI cL u) → va_S A s.heap H locs → lv_has ls 3 [(0, .ref (ad 1)), (1, .int v1), (2, .int v2)] → W p l e (headSpec wsX2_mayHave ({ frames := 0, cells := 0, slots := 0, locals := 0 })).room s m ([.ref (ad 1), .int z1, .int z2] : List Value).toArray below meth c H locs 0 0 (MQ below (va_Qi (fun a t => (a, t) = r) (fun t => wPost dC dI cI cL A (cw ad cI cL t)) A) ([.ref (ad 1), .int z1, .int z2] : List Value).toArray s 0 0 A) (F0 m 0 ls [])) := by
    intro n
    induction n with
    | zero => exact (fun _ _ _ _ _ _ hf => nomatch (show (none : Option (Int32 × St)) = some r from hf))
    | succ n ih =>
      have ih0 := ih
      · intro v1 v2 u H locs ls hf hP hD hS hl
        have hf := (eX2_mayHave_0 n v1 v2 u).symm.trans hf
        refine lv_aload_n hx hb dX2_mayHave_0 rfl (lv_at hl 0 rfl) ?_
        refine va_get (D := (dC, dI)) (ci := 2) (v := .ref (ad 11)) (C := RX2) (T := TX2) (N := 14) hx hb hts iX2 hown hK hP 1 rfl rfl 6 (by decide) k_0 (fun _ h9 => h9) rfl dX2_mayHave_1 ?_
        refine lv_iload_n hx hb dX2_mayHave_4 rfl (lv_at hl 1 rfl) ?_
        obtain ⟨h_1, hf⟩ := ck_of hf
        refine va_iald (f := (gA u 6)) hx hb hK hP 11 0 rfl rfl h_1 dX2_mayHave_5 ?_
        refine lv_bipush (v := -2) hx hb dX2_mayHave_6 (by decide) ?_
        refine lv_icmp_eq (tgt := 21) hx hb dX2_mayHave_8 (by decide) (fun c_2 => ?_) (fun c_2 => ?_)
        · have hf := (if_pos c_2).symm.trans hf
          refine lv_iconst (v := 1) hx hb dX2_mayHave_21 (by decide) ?_
          refine lv_goto (tgt := 26) hx hb dX2_mayHave_22 (by decide) ?_
          have hf := Option.some.inj hf
          exact W.zret (v := (1 : Int32)) hx hb hr rfl (fun t ht hW => ⟨⟨(1 : Int32), u, rfl, hf, ⟨by rw [ht]; exact hP, va_K.moved hW.alike hK, hD⟩⟩, hS.F ht⟩) hS.2.2 dX2_mayHave_26
        · have hf := (if_neg c_2).symm.trans hf
          refine lv_aload_n hx hb dX2_mayHave_11 rfl (lv_at hl 0 rfl) ?_
          refine va_get (D := (dC, dI)) (ci := 2) (v := .ref (ad 11)) (C := RX2) (T := TX2) (N := 14) hx hb hts iX2 hown hK hP 1 rfl rfl 6 (by decide) k_0 (fun _ h9 => h9) rfl dX2_mayHave_12 ?_
          refine lv_iload_n hx hb dX2_mayHave_15 rfl (lv_at hl 1 rfl) ?_
          refine va_iald (f := (gA u 6)) hx hb hK hP 11 0 rfl rfl h_1 dX2_mayHave_16 ?_
          refine lv_iload_n hx hb dX2_mayHave_17 rfl (lv_at hl 2 rfl) ?_
          refine lv_icmp_ne (tgt := 25) hx hb dX2_mayHave_18 (by decide) (fun c_3 => ?_) (fun c_3 => ?_)
          · have hf := (if_neg c_3).symm.trans hf
            refine lv_iconst (v := 0) hx hb dX2_mayHave_25 (by decide) ?_
            have hf := Option.some.inj hf
            exact W.zret (v := (0 : Int32)) hx hb hr rfl (fun t ht hW => ⟨⟨(0 : Int32), u, rfl, hf, ⟨by rw [ht]; exact hP, va_K.moved hW.alike hK, hD⟩⟩, hS.F ht⟩) hS.2.2 dX2_mayHave_26
          · have hf := (if_pos c_3).symm.trans hf
            refine lv_iconst (v := 1) hx hb dX2_mayHave_21 (by decide) ?_
            refine lv_goto (tgt := 26) hx hb dX2_mayHave_22 (by decide) ?_
            have hf := Option.some.inj hf
            exact W.zret (v := (1 : Int32)) hx hb hr rfl (fun t ht hW => ⟨⟨(1 : Int32), u, rfl, hf, ⟨by rw [ht]; exact hP, va_K.moved hW.alike hK, hD⟩⟩, hS.F ht⟩) hS.2.2 dX2_mayHave_26
  exact (key n) z1 z2 u _ _ ls hf0 hP hD hS (lv_sub hl [0, 1, 2] rfl)

def fX2_wattsOf (n pc : Nat) (v1 : Int32) (u : St) : Option (Int32 × St) := match n with
  | 0 => none
  | n + 1 => match pc with
    | 0 => (if v1 < 0 then some ((0 : Int32), u) else (if ck v1 3 = true then some (((gA u 1) v1.toNatClampNeg), u) else none))
    | _ => none
theorem eX2_wattsOf_0 (n : Nat) (v1 : Int32) (u : St) : fX2_wattsOf (n + 1) 0 v1 u = (if v1 < 0 then some ((0 : Int32), u) else (if ck v1 3 = true then some (((gA u 1) v1.toNatClampNeg), u) else none)) := rfl
theorem vX2_wattsOf_0 (v1 : Int32) (u : St) (r : Int32 × St) : Ev (fun n => fX2_wattsOf n 0 v1 u) r ↔ Ev (fun n => (if v1 < 0 then some ((0 : Int32), u) else (if ck v1 3 = true then some (((gA u 1) v1.toNatClampNeg), u) else none))) r := Ev_succ (fun n => fX2_wattsOf n 0 v1 u) r
def FX2_wattsOf (n : Nat) (v1 : Int32) (u : St) : Option (Int32 × St) := fX2_wattsOf n 0 v1 u
set_option maxHeartbeats 4000000 in
set_option maxRecDepth 100000 in
theorem mX2_wattsOf (l : Launch) (dC : Nat → ClassId) (dI : Nat → Nat → Nat) (cI cL : ClassId) (ad : Nat → Nat) (sz : Nat) (u : St) (z1 : Int32) (n : Nat) (r : Int32 × St) (hf0 : FX2_wattsOf n z1 u = some r) : Met l yX2_wattsOf wsX2_wattsOf ({ frames := 0, cells := 0, slots := 0, locals := 0 }) (va_Pc [.ref (ad 1), .int z1] (wPre dC dI cI cL (cw ad cI cL u) sz)) (va_Qi (fun a t => (a, t) = r) (fun t => wPost dC dI cI cL (va_A (cw ad cI cL u) sz) (cw ad cI cL t)) (va_A (cw ad cI cL u) sz)) 0 0 (va_A (cw ad cI cL u) sz) := by
  refine Met.ofW (cc := cX2_wattsOf) (maxL := 2) (ret := (some .int)) (by decide) rfl ?_
  intro p e s m args below meth c s₁ B hml hv
  obtain ⟨rfl, hsz, hP, hK, hD0, hZ⟩ := hv
  have hx := B.exec
  have hb := B.bytes
  have hr := B.returns
  have hts := atoms_spec (ws := wsX2_wattsOf) B.pre
  have hown : s.vm.findClass RX2 = some m.cls := findClass_of_methodNamed B.named
  have hlocks := B.notSynchronized
  subst hsz
  have hD := hD0.self (sz := s.heap.size)
  generalize hAe : va_A (cw ad cI cL u) s.heap.size = A at hD ⊢
  have hA : ∀ q : Nat, s.heap.size ≤ q → A q := fun q h => by rw [← hAe]; exact Or.inr h
  have hS : va_S A s.heap s.heap [] := va_S.rf
  have iX2 : ∀ w ∈ u_ws RX2 TX2 14, w ∈ wsX2_wattsOf := fun _ h => List.mem_cons_of_mem _ (List.mem_append_right _ h)
  have k_0 := hts (.fieldLink RX2 15 "LampChoice$Room" "watts" "[I") (by decide +kernel)
  have hl := lv_entry ([.ref (ad 1), .int z1]) (n := 2) (Nat.le_of_ble_eq_true rfl)
  rw [lg_entry_eq]
  generalize (lg_sl ([.ref (ad 1), .int z1]) ++ List.replicate (2 - (lg_sl ([.ref (ad 1), .int z1])).length) Slot.unset).toArray = ls at hl ⊢
  have hl : lv_has ls 2 [(0, .ref (ad 1)), (1, .int z1)] := hl
  have key : ∀ n : Nat, (∀ (v1 : Int32) (u : St) (H : Heap) (locs : List Loc) (ls : Array Slot), fX2_wattsOf n 0 v1 u = some r → va_P (dC, dI) vwCl (cw ad cI cL u) H → va_D A (cw ad cI cL u) → va_S A s.heap H locs → lv_has ls 2 [(0, .ref (ad 1)), (1, .int v1)] → W p l e (headSpec wsX2_wattsOf ({ frames := 0, cells := 0, slots := 0, locals := 0 })).room s m ([.ref (ad 1), .int z1] : List Value).toArray below meth c H locs 0 0 (MQ below (va_Qi (fun a t => (a, t) = r) (fun t => wPost dC dI cI cL A (cw ad cI cL t)) A) ([.ref (ad 1), .int z1] : List Value).toArray s 0 0 A) (F0 m 0 ls [])) := by
    intro n
    induction n with
    | zero => exact (fun _ _ _ _ _ hf => nomatch (show (none : Option (Int32 × St)) = some r from hf))
    | succ n ih =>
      have ih0 := ih
      · intro v1 u H locs ls hf hP hD hS hl
        have hf := (eX2_wattsOf_0 n v1 u).symm.trans hf
        refine lv_iload_n hx hb dX2_wattsOf_0 rfl (lv_at hl 1 rfl) ?_
        refine lv_if_lt (tgt := 13) hx hb dX2_wattsOf_1 (by decide) (fun c_1 => ?_) (fun c_1 => ?_)
        · have hf := (if_pos c_1).symm.trans hf
          refine lv_iconst (v := 0) hx hb dX2_wattsOf_13 (by decide) ?_
          have hf := Option.some.inj hf
          exact W.iret (v := (0 : Int32)) hx hb hr (fun t ht hW => ⟨⟨(0 : Int32), u, rfl, hf, ⟨by rw [ht]; exact hP, va_K.moved hW.alike hK, hD⟩⟩, hS.F ht⟩) hS.2.2 dX2_wattsOf_14
        · have hf := (if_neg c_1).symm.trans hf
          refine lv_aload_n hx hb dX2_wattsOf_4 rfl (lv_at hl 0 rfl) ?_
          refine va_get (D := (dC, dI)) (ci := 2) (v := .ref (ad 6)) (C := RX2) (T := TX2) (N := 14) hx hb hts iX2 hown hK hP 1 rfl rfl 1 (by decide) k_0 (fun _ h9 => h9) rfl dX2_wattsOf_5 ?_
          refine lv_iload_n hx hb dX2_wattsOf_8 rfl (lv_at hl 1 rfl) ?_
          obtain ⟨h_2, hf⟩ := ck_of hf
          refine va_iald (f := (gA u 1)) hx hb hK hP 6 0 rfl rfl h_2 dX2_wattsOf_9 ?_
          refine lv_goto (tgt := 14) hx hb dX2_wattsOf_10 (by decide) ?_
          have hf := Option.some.inj hf
          exact W.iret (v := ((gA u 1) v1.toNatClampNeg)) hx hb hr (fun t ht hW => ⟨⟨((gA u 1) v1.toNatClampNeg), u, rfl, hf, ⟨by rw [ht]; exact hP, va_K.moved hW.alike hK, hD⟩⟩, hS.F ht⟩) hS.2.2 dX2_wattsOf_14
  exact (key n) z1 u _ _ ls hf0 hP hD hS (lv_sub hl [0, 1] rfl)

def fX2_addKind (n pc : Nat) (v1 : Int32) (v2 : Int32) (v3 : Int32) (v4 : Int32) (u : St) : Option (Int32 × St) := match n with
  | 0 => none
  | n + 1 => match pc with
    | 0 => (if ck (gI u 0) 3 = true then some ((gI u 0), sI (sA (sA (sA (sA u 0 (upd (gA u 0) (gI u 0).toNatClampNeg v1)) 1 (upd (gA u 1) (gI u 0).toNatClampNeg v2)) 2 (upd (gA u 2) (gI u 0).toNatClampNeg v3)) 3 (upd (gA u 3) (gI u 0).toNatClampNeg v4)) 0 ((gI u 0) + (1 : Int32))) else none)
    | _ => none
theorem eX2_addKind_0 (n : Nat) (v1 : Int32) (v2 : Int32) (v3 : Int32) (v4 : Int32) (u : St) : fX2_addKind (n + 1) 0 v1 v2 v3 v4 u = (if ck (gI u 0) 3 = true then some ((gI u 0), sI (sA (sA (sA (sA u 0 (upd (gA u 0) (gI u 0).toNatClampNeg v1)) 1 (upd (gA u 1) (gI u 0).toNatClampNeg v2)) 2 (upd (gA u 2) (gI u 0).toNatClampNeg v3)) 3 (upd (gA u 3) (gI u 0).toNatClampNeg v4)) 0 ((gI u 0) + (1 : Int32))) else none) := rfl
theorem vX2_addKind_0 (v1 : Int32) (v2 : Int32) (v3 : Int32) (v4 : Int32) (u : St) (r : Int32 × St) : Ev (fun n => fX2_addKind n 0 v1 v2 v3 v4 u) r ↔ Ev (fun n => (if ck (gI u 0) 3 = true then some ((gI u 0), sI (sA (sA (sA (sA u 0 (upd (gA u 0) (gI u 0).toNatClampNeg v1)) 1 (upd (gA u 1) (gI u 0).toNatClampNeg v2)) 2 (upd (gA u 2) (gI u 0).toNatClampNeg v3)) 3 (upd (gA u 3) (gI u 0).toNatClampNeg v4)) 0 ((gI u 0) + (1 : Int32))) else none)) r := Ev_succ (fun n => fX2_addKind n 0 v1 v2 v3 v4 u) r
def FX2_addKind (n : Nat) (v1 : Int32) (v2 : Int32) (v3 : Int32) (v4 : Int32) (u : St) : Option (Int32 × St) := fX2_addKind n 0 v1 v2 v3 v4 u
set_option maxHeartbeats 4000000 in
set_option maxRecDepth 100000 in
theorem mX2_addKind (l : Launch) (dC : Nat → ClassId) (dI : Nat → Nat → Nat) (cI cL : ClassId) (ad : Nat → Nat) (sz : Nat) (u : St) (z1 : Int32) (z2 : Int32) (z3 : Int32) (z4 : Int32) (n : Nat) (r : Int32 × St) (hf0 : FX2_addKind n z1 z2 z3 z4 u = some r) : Met l yX2_addKind wsX2_addKind ({ frames := 0, cells := 0, slots := 0, locals := 0 }) (va_Pc [.ref (ad 1), .int z1, .int z2, .int z3, .int z4] (wPre dC dI cI cL (cw ad cI cL u) sz)) (va_Qi (fun a t => (a, t) = r) (fun t => wPost dC dI cI cL (va_A (cw ad cI cL u) sz) (cw ad cI cL t)) (va_A (cw ad cI cL u) sz)) 0 0 (va_A (cw ad cI cL u) sz) := by
  refine Met.ofW (cc := cX2_addKind) (maxL := 6) (ret := (some .int)) (by decide) rfl ?_
  intro p e s m args below meth c s₁ B hml hv
  obtain ⟨rfl, hsz, hP, hK, hD0, hZ⟩ := hv
  have hx := B.exec
  have hb := B.bytes
  have hr := B.returns
  have hts := atoms_spec (ws := wsX2_addKind) B.pre
  have hown : s.vm.findClass RX2 = some m.cls := findClass_of_methodNamed B.named
  have hlocks := B.notSynchronized
  subst hsz
  have hD := hD0.self (sz := s.heap.size)
  generalize hAe : va_A (cw ad cI cL u) s.heap.size = A at hD ⊢
  have hA : ∀ q : Nat, s.heap.size ≤ q → A q := fun q h => by rw [← hAe]; exact Or.inr h
  have hS : va_S A s.heap s.heap [] := va_S.rf
  have iX2 : ∀ w ∈ u_ws RX2 TX2 14, w ∈ wsX2_addKind := fun _ h => List.mem_cons_of_mem _ (List.mem_append_right _ h)
  have k_0 := hts (.fieldLink RX2 46 "LampChoice$Room" "kinds" "I") (by decide +kernel)
  have k_1 := hts (.fieldLink RX2 9 "LampChoice$Room" "strengths" "[I") (by decide +kernel)
  have k_2 := hts (.fieldLink RX2 15 "LampChoice$Room" "watts" "[I") (by decide +kernel)
  have k_3 := hts (.fieldLink RX2 18 "LampChoice$Room" "lives" "[I") (by decide +kernel)
  have k_4 := hts (.fieldLink RX2 21 "LampChoice$Room" "cents" "[I") (by decide +kernel)
  have hl := lv_entry ([.ref (ad 1), .int z1, .int z2, .int z3, .int z4]) (n := 6) (Nat.le_of_ble_eq_true rfl)
  rw [lg_entry_eq]
  generalize (lg_sl ([.ref (ad 1), .int z1, .int z2, .int z3, .int z4]) ++ List.replicate (6 - (lg_sl ([.ref (ad 1), .int z1, .int z2, .int z3, .int z4])).length) Slot.unset).toArray = ls at hl ⊢
  have hl : lv_has ls 6 [(0, .ref (ad 1)), (1, .int z1), (2, .int z2), (3, .int z3), (4, .int z4)] := hl
  have key : ∀ n : Nat, (∀ (v1 : Int32) (v2 : Int32) (v3 : Int32) (v4 : Int32) (u : St) (H : Heap) (locs : List Loc) (ls : Array Slot), fX2_addKind n 0 v1 v2 v3 v4 u = some r → va_P (dC, dI) vwCl (cw ad cI cL u) H → va_D A (cw ad cI cL u) → va_S A s.heap H locs → lv_has ls 6 [(0, .ref (ad 1)), (1, .int v1), (2, .int v2), (3, .int v3), (4, .int v4)] → W p l e (headSpec wsX2_addKind ({ frames := 0, cells := 0, slots := 0, locals := 0 })).room s m ([.ref (ad 1), .int z1, .int z2, .int z3, .int z4] : List Value).toArray below meth c H locs 0 0 (MQ below (va_Qi (fun a t => (a, t) = r) (fun t => wPost dC dI cI cL A (cw ad cI cL t)) A) ([.ref (ad 1), .int z1, .int z2, .int z3, .int z4] : List Value).toArray s 0 0 A) (F0 m 0 ls [])) := by
    intro n
    induction n with
    | zero => exact (fun _ _ _ _ _ _ _ _ hf => nomatch (show (none : Option (Int32 × St)) = some r from hf))
    | succ n ih =>
      have ih0 := ih
      · intro v1 v2 v3 v4 u H locs ls hf hP hD hS hl
        have hf := (eX2_addKind_0 n v1 v2 v3 v4 u).symm.trans hf
        refine lv_aload_n hx hb dX2_addKind_0 rfl (lv_at hl 0 rfl) ?_
        refine va_get (D := (dC, dI)) (ci := 2) (v := .int (gI u 0)) (C := RX2) (T := TX2) (N := 14) hx hb hts iX2 hown hK hP 1 rfl rfl 10 (by decide) k_0 (fun _ h9 => h9) rfl dX2_addKind_1 ?_
        refine lv_istore (lv' := [(5, .int (gI u 0)), (0, .ref (ad 1)), (1, .int v1), (2, .int v2), (3, .int v3), (4, .int v4)]) hx hb dX2_addKind_4 hl (by decide) rfl (fun ls hl => ?_)
        refine lv_aload_n hx hb dX2_addKind_6 rfl (lv_at hl 1 rfl) ?_
        refine va_get (D := (dC, dI)) (ci := 2) (v := .ref (ad 5)) (C := RX2) (T := TX2) (N := 14) hx hb hts iX2 hown hK hP 1 rfl rfl 0 (by decide) k_1 (fun _ h9 => h9) rfl dX2_addKind_7 ?_
        refine lv_iload hx hb dX2_addKind_10 (lv_at hl 0 rfl) ?_
        refine lv_iload_n hx hb dX2_addKind_12 rfl (lv_at hl 2 rfl) ?_
        obtain ⟨h_1, hf⟩ := ck_of hf
        refine va_iast (f := (gA u 0)) hx hb hK hP hD hS 5 0 rfl rfl h_1 dX2_addKind_13 (fun H locs hP hD hS => ?_)
        have hP : va_P (dC, dI) vwCl (cw ad cI cL (sA u 0 (upd (gA u 0) (gI u 0).toNatClampNeg v1))) H := hP
        have hD : va_D A (cw ad cI cL (sA u 0 (upd (gA u 0) (gI u 0).toNatClampNeg v1))) := hD
        refine lv_aload_n hx hb dX2_addKind_14 rfl (lv_at hl 1 rfl) ?_
        refine va_get (D := (dC, dI)) (ci := 2) (v := .ref (ad 6)) (C := RX2) (T := TX2) (N := 14) hx hb hts iX2 hown hK hP 1 rfl rfl 1 (by decide) k_2 (fun _ h9 => h9) rfl dX2_addKind_15 ?_
        refine lv_iload hx hb dX2_addKind_18 (lv_at hl 0 rfl) ?_
        refine lv_iload_n hx hb dX2_addKind_20 rfl (lv_at hl 3 rfl) ?_
        refine va_iast (f := (gA u 1)) hx hb hK hP hD hS 6 0 rfl rfl h_1 dX2_addKind_21 (fun H locs hP hD hS => ?_)
        have hP : va_P (dC, dI) vwCl (cw ad cI cL (sA (sA u 0 (upd (gA u 0) (gI u 0).toNatClampNeg v1)) 1 (upd (gA u 1) (gI u 0).toNatClampNeg v2))) H := hP
        have hD : va_D A (cw ad cI cL (sA (sA u 0 (upd (gA u 0) (gI u 0).toNatClampNeg v1)) 1 (upd (gA u 1) (gI u 0).toNatClampNeg v2))) := hD
        refine lv_aload_n hx hb dX2_addKind_22 rfl (lv_at hl 1 rfl) ?_
        refine va_get (D := (dC, dI)) (ci := 2) (v := .ref (ad 7)) (C := RX2) (T := TX2) (N := 14) hx hb hts iX2 hown hK hP 1 rfl rfl 2 (by decide) k_3 (fun _ h9 => h9) rfl dX2_addKind_23 ?_
        refine lv_iload hx hb dX2_addKind_26 (lv_at hl 0 rfl) ?_
        refine lv_iload_n hx hb dX2_addKind_28 rfl (lv_at hl 4 rfl) ?_
        refine va_iast (f := (gA u 2)) hx hb hK hP hD hS 7 0 rfl rfl h_1 dX2_addKind_29 (fun H locs hP hD hS => ?_)
        have hP : va_P (dC, dI) vwCl (cw ad cI cL (sA (sA (sA u 0 (upd (gA u 0) (gI u 0).toNatClampNeg v1)) 1 (upd (gA u 1) (gI u 0).toNatClampNeg v2)) 2 (upd (gA u 2) (gI u 0).toNatClampNeg v3))) H := hP
        have hD : va_D A (cw ad cI cL (sA (sA (sA u 0 (upd (gA u 0) (gI u 0).toNatClampNeg v1)) 1 (upd (gA u 1) (gI u 0).toNatClampNeg v2)) 2 (upd (gA u 2) (gI u 0).toNatClampNeg v3))) := hD
        refine lv_aload_n hx hb dX2_addKind_30 rfl (lv_at hl 1 rfl) ?_
        refine va_get (D := (dC, dI)) (ci := 2) (v := .ref (ad 8)) (C := RX2) (T := TX2) (N := 14) hx hb hts iX2 hown hK hP 1 rfl rfl 3 (by decide) k_4 (fun _ h9 => h9) rfl dX2_addKind_31 ?_
        refine lv_iload hx hb dX2_addKind_34 (lv_at hl 0 rfl) ?_
        refine lv_iload hx hb dX2_addKind_36 (lv_at hl 5 rfl) ?_
        refine va_iast (f := (gA u 3)) hx hb hK hP hD hS 8 0 rfl rfl h_1 dX2_addKind_38 (fun H locs hP hD hS => ?_)
        have hP : va_P (dC, dI) vwCl (cw ad cI cL (sA (sA (sA (sA u 0 (upd (gA u 0) (gI u 0).toNatClampNeg v1)) 1 (upd (gA u 1) (gI u 0).toNatClampNeg v2)) 2 (upd (gA u 2) (gI u 0).toNatClampNeg v3)) 3 (upd (gA u 3) (gI u 0).toNatClampNeg v4))) H := hP
        have hD : va_D A (cw ad cI cL (sA (sA (sA (sA u 0 (upd (gA u 0) (gI u 0).toNatClampNeg v1)) 1 (upd (gA u 1) (gI u 0).toNatClampNeg v2)) 2 (upd (gA u 2) (gI u 0).toNatClampNeg v3)) 3 (upd (gA u 3) (gI u 0).toNatClampNeg v4))) := hD
        refine lv_aload_n hx hb dX2_addKind_39 rfl (lv_at hl 1 rfl) ?_
        refine lv_dup hx hb dX2_addKind_40 rfl ?_
        refine va_get (D := (dC, dI)) (ci := 2) (v := .int (gI u 0)) (C := RX2) (T := TX2) (N := 14) hx hb hts iX2 hown hK hP 1 rfl rfl 10 (by decide) k_0 (fun _ h9 => h9) rfl dX2_addKind_41 ?_
        refine lv_iconst (v := 1) hx hb dX2_addKind_44 (by decide) ?_
        refine lv_iadd hx hb dX2_addKind_45 ?_
        refine va_put (D := (dC, dI)) (ci := 2) (v := .int ((gI u 0) + (1 : Int32))) (ty := .int) (C := RX2) (T := TX2) (N := 14) hx hb hts iX2 tyX2 tyX2_ok nmX2 hown hK hP hD hS 1 rfl rfl 10 (by decide) k_0 (fun _ h9 => h9) rfl (by decide +kernel) rfl rfl (Nat.le_of_ble_eq_true rfl) dX2_addKind_46 (fun H locs hP hD hS => ?_)
        have hP : va_P (dC, dI) vwCl (cw ad cI cL (sI (sA (sA (sA (sA u 0 (upd (gA u 0) (gI u 0).toNatClampNeg v1)) 1 (upd (gA u 1) (gI u 0).toNatClampNeg v2)) 2 (upd (gA u 2) (gI u 0).toNatClampNeg v3)) 3 (upd (gA u 3) (gI u 0).toNatClampNeg v4)) 0 ((gI u 0) + (1 : Int32)))) H := hP
        have hD : va_D A (cw ad cI cL (sI (sA (sA (sA (sA u 0 (upd (gA u 0) (gI u 0).toNatClampNeg v1)) 1 (upd (gA u 1) (gI u 0).toNatClampNeg v2)) 2 (upd (gA u 2) (gI u 0).toNatClampNeg v3)) 3 (upd (gA u 3) (gI u 0).toNatClampNeg v4)) 0 ((gI u 0) + (1 : Int32)))) := hD
        refine lv_iload hx hb dX2_addKind_49 (lv_at hl 0 rfl) ?_
        have hf := Option.some.inj hf
        exact W.iret (v := (gI u 0)) hx hb hr (fun t ht hW => ⟨⟨(gI u 0), (sI (sA (sA (sA (sA u 0 (upd (gA u 0) (gI u 0).toNatClampNeg v1)) 1 (upd (gA u 1) (gI u 0).toNatClampNeg v2)) 2 (upd (gA u 2) (gI u 0).toNatClampNeg v3)) 3 (upd (gA u 3) (gI u 0).toNatClampNeg v4)) 0 ((gI u 0) + (1 : Int32))), rfl, hf, ⟨by rw [ht]; exact hP, va_K.moved hW.alike hK, hD⟩⟩, hS.F ht⟩) hS.2.2 dX2_addKind_51
  exact (key n) z1 z2 z3 z4 u _ _ ls hf0 hP hD hS (lv_sub hl [0, 1, 2, 3, 4] rfl)

def fX2_addPlace (n pc : Nat) (v1 : Int32) (v2 : Int32) (u : St) : Option (Int32 × St) := match n with
  | 0 => none
  | n + 1 => match pc with
    | 0 => (if ck (gI u 1) 7 = true then some ((gI u 1), sI (sA (sA u 4 (upd (gA u 4) (gI u 1).toNatClampNeg v1)) 5 (upd (gA u 5) (gI u 1).toNatClampNeg v2)) 1 ((gI u 1) + (1 : Int32))) else none)
    | _ => none
theorem eX2_addPlace_0 (n : Nat) (v1 : Int32) (v2 : Int32) (u : St) : fX2_addPlace (n + 1) 0 v1 v2 u = (if ck (gI u 1) 7 = true then some ((gI u 1), sI (sA (sA u 4 (upd (gA u 4) (gI u 1).toNatClampNeg v1)) 5 (upd (gA u 5) (gI u 1).toNatClampNeg v2)) 1 ((gI u 1) + (1 : Int32))) else none) := rfl
theorem vX2_addPlace_0 (v1 : Int32) (v2 : Int32) (u : St) (r : Int32 × St) : Ev (fun n => fX2_addPlace n 0 v1 v2 u) r ↔ Ev (fun n => (if ck (gI u 1) 7 = true then some ((gI u 1), sI (sA (sA u 4 (upd (gA u 4) (gI u 1).toNatClampNeg v1)) 5 (upd (gA u 5) (gI u 1).toNatClampNeg v2)) 1 ((gI u 1) + (1 : Int32))) else none)) r := Ev_succ (fun n => fX2_addPlace n 0 v1 v2 u) r
def FX2_addPlace (n : Nat) (v1 : Int32) (v2 : Int32) (u : St) : Option (Int32 × St) := fX2_addPlace n 0 v1 v2 u
set_option maxHeartbeats 4000000 in
set_option maxRecDepth 100000 in
theorem mX2_addPlace (l : Launch) (dC : Nat → ClassId) (dI : Nat → Nat → Nat) (cI cL : ClassId) (ad : Nat → Nat) (sz : Nat) (u : St) (z1 : Int32) (z2 : Int32) (n : Nat) (r : Int32 × St) (hf0 : FX2_addPlace n z1 z2 u = some r) : Met l yX2_addPlace wsX2_addPlace ({ frames := 0, cells := 0, slots := 0, locals := 0 }) (va_Pc [.ref (ad 1), .int z1, .int z2] (wPre dC dI cI cL (cw ad cI cL u) sz)) (va_Qi (fun a t => (a, t) = r) (fun t => wPost dC dI cI cL (va_A (cw ad cI cL u) sz) (cw ad cI cL t)) (va_A (cw ad cI cL u) sz)) 0 0 (va_A (cw ad cI cL u) sz) := by
  refine Met.ofW (cc := cX2_addPlace) (maxL := 4) (ret := (some .int)) (by decide) rfl ?_
  intro p e s m args below meth c s₁ B hml hv
  obtain ⟨rfl, hsz, hP, hK, hD0, hZ⟩ := hv
  have hx := B.exec
  have hb := B.bytes
  have hr := B.returns
  have hts := atoms_spec (ws := wsX2_addPlace) B.pre
  have hown : s.vm.findClass RX2 = some m.cls := findClass_of_methodNamed B.named
  have hlocks := B.notSynchronized
  subst hsz
  have hD := hD0.self (sz := s.heap.size)
  generalize hAe : va_A (cw ad cI cL u) s.heap.size = A at hD ⊢
  have hA : ∀ q : Nat, s.heap.size ≤ q → A q := fun q h => by rw [← hAe]; exact Or.inr h
  have hS : va_S A s.heap s.heap [] := va_S.rf
  have iX2 : ∀ w ∈ u_ws RX2 TX2 14, w ∈ wsX2_addPlace := fun _ h => List.mem_cons_of_mem _ (List.mem_append_right _ h)
  have k_0 := hts (.fieldLink RX2 49 "LampChoice$Room" "places" "I") (by decide +kernel)
  have k_1 := hts (.fieldLink RX2 24 "LampChoice$Room" "placeX" "[I") (by decide +kernel)
  have k_2 := hts (.fieldLink RX2 27 "LampChoice$Room" "placeY" "[I") (by decide +kernel)
  have hl := lv_entry ([.ref (ad 1), .int z1, .int z2]) (n := 4) (Nat.le_of_ble_eq_true rfl)
  rw [lg_entry_eq]
  generalize (lg_sl ([.ref (ad 1), .int z1, .int z2]) ++ List.replicate (4 - (lg_sl ([.ref (ad 1), .int z1, .int z2])).length) Slot.unset).toArray = ls at hl ⊢
  have hl : lv_has ls 4 [(0, .ref (ad 1)), (1, .int z1), (2, .int z2)] := hl
  have key : ∀ n : Nat, (∀ (v1 : Int32) (v2 : Int32) (u : St) (H : Heap) (locs : List Loc) (ls : Array Slot), fX2_addPlace n 0 v1 v2 u = some r → va_P (dC, dI) vwCl (cw ad cI cL u) H → va_D A (cw ad cI cL u) → va_S A s.heap H locs → lv_has ls 4 [(0, .ref (ad 1)), (1, .int v1), (2, .int v2)] → W p l e (headSpec wsX2_addPlace ({ frames := 0, cells := 0, slots := 0, locals := 0 })).room s m ([.ref (ad 1), .int z1, .int z2] : List Value).toArray below meth c H locs 0 0 (MQ below (va_Qi (fun a t => (a, t) = r) (fun t => wPost dC dI cI cL A (cw ad cI cL t)) A) ([.ref (ad 1), .int z1, .int z2] : List Value).toArray s 0 0 A) (F0 m 0 ls [])) := by
    intro n
    induction n with
    | zero => exact (fun _ _ _ _ _ _ hf => nomatch (show (none : Option (Int32 × St)) = some r from hf))
    | succ n ih =>
      have ih0 := ih
      · intro v1 v2 u H locs ls hf hP hD hS hl
        have hf := (eX2_addPlace_0 n v1 v2 u).symm.trans hf
        refine lv_aload_n hx hb dX2_addPlace_0 rfl (lv_at hl 0 rfl) ?_
        refine va_get (D := (dC, dI)) (ci := 2) (v := .int (gI u 1)) (C := RX2) (T := TX2) (N := 14) hx hb hts iX2 hown hK hP 1 rfl rfl 11 (by decide) k_0 (fun _ h9 => h9) rfl dX2_addPlace_1 ?_
        refine lv_istore_n (lv' := [(3, .int (gI u 1)), (0, .ref (ad 1)), (1, .int v1), (2, .int v2)]) hx hb dX2_addPlace_4 rfl hl (by decide) rfl (fun ls hl => ?_)
        refine lv_aload_n hx hb dX2_addPlace_5 rfl (lv_at hl 1 rfl) ?_
        refine va_get (D := (dC, dI)) (ci := 2) (v := .ref (ad 9)) (C := RX2) (T := TX2) (N := 14) hx hb hts iX2 hown hK hP 1 rfl rfl 4 (by decide) k_1 (fun _ h9 => h9) rfl dX2_addPlace_6 ?_
        refine lv_iload_n hx hb dX2_addPlace_9 rfl (lv_at hl 0 rfl) ?_
        refine lv_iload_n hx hb dX2_addPlace_10 rfl (lv_at hl 2 rfl) ?_
        obtain ⟨h_1, hf⟩ := ck_of hf
        refine va_iast (f := (gA u 4)) hx hb hK hP hD hS 9 0 rfl rfl h_1 dX2_addPlace_11 (fun H locs hP hD hS => ?_)
        have hP : va_P (dC, dI) vwCl (cw ad cI cL (sA u 4 (upd (gA u 4) (gI u 1).toNatClampNeg v1))) H := hP
        have hD : va_D A (cw ad cI cL (sA u 4 (upd (gA u 4) (gI u 1).toNatClampNeg v1))) := hD
        refine lv_aload_n hx hb dX2_addPlace_12 rfl (lv_at hl 1 rfl) ?_
        refine va_get (D := (dC, dI)) (ci := 2) (v := .ref (ad 10)) (C := RX2) (T := TX2) (N := 14) hx hb hts iX2 hown hK hP 1 rfl rfl 5 (by decide) k_2 (fun _ h9 => h9) rfl dX2_addPlace_13 ?_
        refine lv_iload_n hx hb dX2_addPlace_16 rfl (lv_at hl 0 rfl) ?_
        refine lv_iload_n hx hb dX2_addPlace_17 rfl (lv_at hl 3 rfl) ?_
        refine va_iast (f := (gA u 5)) hx hb hK hP hD hS 10 0 rfl rfl h_1 dX2_addPlace_18 (fun H locs hP hD hS => ?_)
        have hP : va_P (dC, dI) vwCl (cw ad cI cL (sA (sA u 4 (upd (gA u 4) (gI u 1).toNatClampNeg v1)) 5 (upd (gA u 5) (gI u 1).toNatClampNeg v2))) H := hP
        have hD : va_D A (cw ad cI cL (sA (sA u 4 (upd (gA u 4) (gI u 1).toNatClampNeg v1)) 5 (upd (gA u 5) (gI u 1).toNatClampNeg v2))) := hD
        refine lv_aload_n hx hb dX2_addPlace_19 rfl (lv_at hl 1 rfl) ?_
        refine lv_dup hx hb dX2_addPlace_20 rfl ?_
        refine va_get (D := (dC, dI)) (ci := 2) (v := .int (gI u 1)) (C := RX2) (T := TX2) (N := 14) hx hb hts iX2 hown hK hP 1 rfl rfl 11 (by decide) k_0 (fun _ h9 => h9) rfl dX2_addPlace_21 ?_
        refine lv_iconst (v := 1) hx hb dX2_addPlace_24 (by decide) ?_
        refine lv_iadd hx hb dX2_addPlace_25 ?_
        refine va_put (D := (dC, dI)) (ci := 2) (v := .int ((gI u 1) + (1 : Int32))) (ty := .int) (C := RX2) (T := TX2) (N := 14) hx hb hts iX2 tyX2 tyX2_ok nmX2 hown hK hP hD hS 1 rfl rfl 11 (by decide) k_0 (fun _ h9 => h9) rfl (by decide +kernel) rfl rfl (Nat.le_of_ble_eq_true rfl) dX2_addPlace_26 (fun H locs hP hD hS => ?_)
        have hP : va_P (dC, dI) vwCl (cw ad cI cL (sI (sA (sA u 4 (upd (gA u 4) (gI u 1).toNatClampNeg v1)) 5 (upd (gA u 5) (gI u 1).toNatClampNeg v2)) 1 ((gI u 1) + (1 : Int32)))) H := hP
        have hD : va_D A (cw ad cI cL (sI (sA (sA u 4 (upd (gA u 4) (gI u 1).toNatClampNeg v1)) 5 (upd (gA u 5) (gI u 1).toNatClampNeg v2)) 1 ((gI u 1) + (1 : Int32)))) := hD
        refine lv_iload_n hx hb dX2_addPlace_29 rfl (lv_at hl 0 rfl) ?_
        have hf := Option.some.inj hf
        exact W.iret (v := (gI u 1)) hx hb hr (fun t ht hW => ⟨⟨(gI u 1), (sI (sA (sA u 4 (upd (gA u 4) (gI u 1).toNatClampNeg v1)) 5 (upd (gA u 5) (gI u 1).toNatClampNeg v2)) 1 ((gI u 1) + (1 : Int32))), rfl, hf, ⟨by rw [ht]; exact hP, va_K.moved hW.alike hK, hD⟩⟩, hS.F ht⟩) hS.2.2 dX2_addPlace_30
  exact (key n) z1 z2 u _ _ ls hf0 hP hD hS (lv_sub hl [0, 1, 2] rfl)

def fX2_addPoint (n pc : Nat) (v1 : Int32) (v2 : Int32) (v3 : Int32) (u : St) : Option (Int32 × St) := match n with
  | 0 => none
  | n + 1 => match pc with
    | 0 => (if ck (gI u 2) 16 = true then some ((gI u 2), sI (sA (sA (sA u 7 (upd (gA u 7) (gI u 2).toNatClampNeg v1)) 8 (upd (gA u 8) (gI u 2).toNatClampNeg v2)) 9 (upd (gA u 9) (gI u 2).toNatClampNeg v3)) 2 ((gI u 2) + (1 : Int32))) else none)
    | _ => none
theorem eX2_addPoint_0 (n : Nat) (v1 : Int32) (v2 : Int32) (v3 : Int32) (u : St) : fX2_addPoint (n + 1) 0 v1 v2 v3 u = (if ck (gI u 2) 16 = true then some ((gI u 2), sI (sA (sA (sA u 7 (upd (gA u 7) (gI u 2).toNatClampNeg v1)) 8 (upd (gA u 8) (gI u 2).toNatClampNeg v2)) 9 (upd (gA u 9) (gI u 2).toNatClampNeg v3)) 2 ((gI u 2) + (1 : Int32))) else none) := rfl
theorem vX2_addPoint_0 (v1 : Int32) (v2 : Int32) (v3 : Int32) (u : St) (r : Int32 × St) : Ev (fun n => fX2_addPoint n 0 v1 v2 v3 u) r ↔ Ev (fun n => (if ck (gI u 2) 16 = true then some ((gI u 2), sI (sA (sA (sA u 7 (upd (gA u 7) (gI u 2).toNatClampNeg v1)) 8 (upd (gA u 8) (gI u 2).toNatClampNeg v2)) 9 (upd (gA u 9) (gI u 2).toNatClampNeg v3)) 2 ((gI u 2) + (1 : Int32))) else none)) r := Ev_succ (fun n => fX2_addPoint n 0 v1 v2 v3 u) r
def FX2_addPoint (n : Nat) (v1 : Int32) (v2 : Int32) (v3 : Int32) (u : St) : Option (Int32 × St) := fX2_addPoint n 0 v1 v2 v3 u
set_option maxHeartbeats 4000000 in
set_option maxRecDepth 100000 in
theorem mX2_addPoint (l : Launch) (dC : Nat → ClassId) (dI : Nat → Nat → Nat) (cI cL : ClassId) (ad : Nat → Nat) (sz : Nat) (u : St) (z1 : Int32) (z2 : Int32) (z3 : Int32) (n : Nat) (r : Int32 × St) (hf0 : FX2_addPoint n z1 z2 z3 u = some r) : Met l yX2_addPoint wsX2_addPoint ({ frames := 0, cells := 0, slots := 0, locals := 0 }) (va_Pc [.ref (ad 1), .int z1, .int z2, .int z3] (wPre dC dI cI cL (cw ad cI cL u) sz)) (va_Qi (fun a t => (a, t) = r) (fun t => wPost dC dI cI cL (va_A (cw ad cI cL u) sz) (cw ad cI cL t)) (va_A (cw ad cI cL u) sz)) 0 0 (va_A (cw ad cI cL u) sz) := by
  refine Met.ofW (cc := cX2_addPoint) (maxL := 5) (ret := (some .int)) (by decide) rfl ?_
  intro p e s m args below meth c s₁ B hml hv
  obtain ⟨rfl, hsz, hP, hK, hD0, hZ⟩ := hv
  have hx := B.exec
  have hb := B.bytes
  have hr := B.returns
  have hts := atoms_spec (ws := wsX2_addPoint) B.pre
  have hown : s.vm.findClass RX2 = some m.cls := findClass_of_methodNamed B.named
  have hlocks := B.notSynchronized
  subst hsz
  have hD := hD0.self (sz := s.heap.size)
  generalize hAe : va_A (cw ad cI cL u) s.heap.size = A at hD ⊢
  have hA : ∀ q : Nat, s.heap.size ≤ q → A q := fun q h => by rw [← hAe]; exact Or.inr h
  have hS : va_S A s.heap s.heap [] := va_S.rf
  have iX2 : ∀ w ∈ u_ws RX2 TX2 14, w ∈ wsX2_addPoint := fun _ h => List.mem_cons_of_mem _ (List.mem_append_right _ h)
  have k_0 := hts (.fieldLink RX2 52 "LampChoice$Room" "points" "I") (by decide +kernel)
  have k_1 := hts (.fieldLink RX2 33 "LampChoice$Room" "pointX" "[I") (by decide +kernel)
  have k_2 := hts (.fieldLink RX2 36 "LampChoice$Room" "pointY" "[I") (by decide +kernel)
  have k_3 := hts (.fieldLink RX2 39 "LampChoice$Room" "wanted" "[I") (by decide +kernel)
  have hl := lv_entry ([.ref (ad 1), .int z1, .int z2, .int z3]) (n := 5) (Nat.le_of_ble_eq_true rfl)
  rw [lg_entry_eq]
  generalize (lg_sl ([.ref (ad 1), .int z1, .int z2, .int z3]) ++ List.replicate (5 - (lg_sl ([.ref (ad 1), .int z1, .int z2, .int z3])).length) Slot.unset).toArray = ls at hl ⊢
  have hl : lv_has ls 5 [(0, .ref (ad 1)), (1, .int z1), (2, .int z2), (3, .int z3)] := hl
  have key : ∀ n : Nat, (∀ (v1 : Int32) (v2 : Int32) (v3 : Int32) (u : St) (H : Heap) (locs : List Loc) (ls : Array Slot), fX2_addPoint n 0 v1 v2 v3 u = some r → va_P (dC, dI) vwCl (cw ad cI cL u) H → va_D A (cw ad cI cL u) → va_S A s.heap H locs → lv_has ls 5 [(0, .ref (ad 1)), (1, .int v1), (2, .int v2), (3, .int v3)] → W p l e (headSpec wsX2_addPoint ({ frames := 0, cells := 0, slots := 0, locals := 0 })).room s m ([.ref (ad 1), .int z1, .int z2, .int z3] : List Value).toArray below meth c H locs 0 0 (MQ below (va_Qi (fun a t => (a, t) = r) (fun t => wPost dC dI cI cL A (cw ad cI cL t)) A) ([.ref (ad 1), .int z1, .int z2, .int z3] : List Value).toArray s 0 0 A) (F0 m 0 ls [])) := by
    intro n
    induction n with
    | zero => exact (fun _ _ _ _ _ _ _ hf => nomatch (show (none : Option (Int32 × St)) = some r from hf))
    | succ n ih =>
      have ih0 := ih
      · intro v1 v2 v3 u H locs ls hf hP hD hS hl
        have hf := (eX2_addPoint_0 n v1 v2 v3 u).symm.trans hf
        refine lv_aload_n hx hb dX2_addPoint_0 rfl (lv_at hl 0 rfl) ?_
        refine va_get (D := (dC, dI)) (ci := 2) (v := .int (gI u 2)) (C := RX2) (T := TX2) (N := 14) hx hb hts iX2 hown hK hP 1 rfl rfl 12 (by decide) k_0 (fun _ h9 => h9) rfl dX2_addPoint_1 ?_
        refine lv_istore (lv' := [(4, .int (gI u 2)), (0, .ref (ad 1)), (1, .int v1), (2, .int v2), (3, .int v3)]) hx hb dX2_addPoint_4 hl (by decide) rfl (fun ls hl => ?_)
        refine lv_aload_n hx hb dX2_addPoint_6 rfl (lv_at hl 1 rfl) ?_
        refine va_get (D := (dC, dI)) (ci := 2) (v := .ref (ad 12)) (C := RX2) (T := TX2) (N := 14) hx hb hts iX2 hown hK hP 1 rfl rfl 7 (by decide) k_1 (fun _ h9 => h9) rfl dX2_addPoint_7 ?_
        refine lv_iload hx hb dX2_addPoint_10 (lv_at hl 0 rfl) ?_
        refine lv_iload_n hx hb dX2_addPoint_12 rfl (lv_at hl 2 rfl) ?_
        obtain ⟨h_1, hf⟩ := ck_of hf
        refine va_iast (f := (gA u 7)) hx hb hK hP hD hS 12 0 rfl rfl h_1 dX2_addPoint_13 (fun H locs hP hD hS => ?_)
        have hP : va_P (dC, dI) vwCl (cw ad cI cL (sA u 7 (upd (gA u 7) (gI u 2).toNatClampNeg v1))) H := hP
        have hD : va_D A (cw ad cI cL (sA u 7 (upd (gA u 7) (gI u 2).toNatClampNeg v1))) := hD
        refine lv_aload_n hx hb dX2_addPoint_14 rfl (lv_at hl 1 rfl) ?_
        refine va_get (D := (dC, dI)) (ci := 2) (v := .ref (ad 13)) (C := RX2) (T := TX2) (N := 14) hx hb hts iX2 hown hK hP 1 rfl rfl 8 (by decide) k_2 (fun _ h9 => h9) rfl dX2_addPoint_15 ?_
        refine lv_iload hx hb dX2_addPoint_18 (lv_at hl 0 rfl) ?_
        refine lv_iload_n hx hb dX2_addPoint_20 rfl (lv_at hl 3 rfl) ?_
        refine va_iast (f := (gA u 8)) hx hb hK hP hD hS 13 0 rfl rfl h_1 dX2_addPoint_21 (fun H locs hP hD hS => ?_)
        have hP : va_P (dC, dI) vwCl (cw ad cI cL (sA (sA u 7 (upd (gA u 7) (gI u 2).toNatClampNeg v1)) 8 (upd (gA u 8) (gI u 2).toNatClampNeg v2))) H := hP
        have hD : va_D A (cw ad cI cL (sA (sA u 7 (upd (gA u 7) (gI u 2).toNatClampNeg v1)) 8 (upd (gA u 8) (gI u 2).toNatClampNeg v2))) := hD
        refine lv_aload_n hx hb dX2_addPoint_22 rfl (lv_at hl 1 rfl) ?_
        refine va_get (D := (dC, dI)) (ci := 2) (v := .ref (ad 14)) (C := RX2) (T := TX2) (N := 14) hx hb hts iX2 hown hK hP 1 rfl rfl 9 (by decide) k_3 (fun _ h9 => h9) rfl dX2_addPoint_23 ?_
        refine lv_iload hx hb dX2_addPoint_26 (lv_at hl 0 rfl) ?_
        refine lv_iload_n hx hb dX2_addPoint_28 rfl (lv_at hl 4 rfl) ?_
        refine va_iast (f := (gA u 9)) hx hb hK hP hD hS 14 0 rfl rfl h_1 dX2_addPoint_29 (fun H locs hP hD hS => ?_)
        have hP : va_P (dC, dI) vwCl (cw ad cI cL (sA (sA (sA u 7 (upd (gA u 7) (gI u 2).toNatClampNeg v1)) 8 (upd (gA u 8) (gI u 2).toNatClampNeg v2)) 9 (upd (gA u 9) (gI u 2).toNatClampNeg v3))) H := hP
        have hD : va_D A (cw ad cI cL (sA (sA (sA u 7 (upd (gA u 7) (gI u 2).toNatClampNeg v1)) 8 (upd (gA u 8) (gI u 2).toNatClampNeg v2)) 9 (upd (gA u 9) (gI u 2).toNatClampNeg v3))) := hD
        refine lv_aload_n hx hb dX2_addPoint_30 rfl (lv_at hl 1 rfl) ?_
        refine lv_dup hx hb dX2_addPoint_31 rfl ?_
        refine va_get (D := (dC, dI)) (ci := 2) (v := .int (gI u 2)) (C := RX2) (T := TX2) (N := 14) hx hb hts iX2 hown hK hP 1 rfl rfl 12 (by decide) k_0 (fun _ h9 => h9) rfl dX2_addPoint_32 ?_
        refine lv_iconst (v := 1) hx hb dX2_addPoint_35 (by decide) ?_
        refine lv_iadd hx hb dX2_addPoint_36 ?_
        refine va_put (D := (dC, dI)) (ci := 2) (v := .int ((gI u 2) + (1 : Int32))) (ty := .int) (C := RX2) (T := TX2) (N := 14) hx hb hts iX2 tyX2 tyX2_ok nmX2 hown hK hP hD hS 1 rfl rfl 12 (by decide) k_0 (fun _ h9 => h9) rfl (by decide +kernel) rfl rfl (Nat.le_of_ble_eq_true rfl) dX2_addPoint_37 (fun H locs hP hD hS => ?_)
        have hP : va_P (dC, dI) vwCl (cw ad cI cL (sI (sA (sA (sA u 7 (upd (gA u 7) (gI u 2).toNatClampNeg v1)) 8 (upd (gA u 8) (gI u 2).toNatClampNeg v2)) 9 (upd (gA u 9) (gI u 2).toNatClampNeg v3)) 2 ((gI u 2) + (1 : Int32)))) H := hP
        have hD : va_D A (cw ad cI cL (sI (sA (sA (sA u 7 (upd (gA u 7) (gI u 2).toNatClampNeg v1)) 8 (upd (gA u 8) (gI u 2).toNatClampNeg v2)) 9 (upd (gA u 9) (gI u 2).toNatClampNeg v3)) 2 ((gI u 2) + (1 : Int32)))) := hD
        refine lv_iload hx hb dX2_addPoint_40 (lv_at hl 0 rfl) ?_
        have hf := Option.some.inj hf
        exact W.iret (v := (gI u 2)) hx hb hr (fun t ht hW => ⟨⟨(gI u 2), (sI (sA (sA (sA u 7 (upd (gA u 7) (gI u 2).toNatClampNeg v1)) 8 (upd (gA u 8) (gI u 2).toNatClampNeg v2)) 9 (upd (gA u 9) (gI u 2).toNatClampNeg v3)) 2 ((gI u 2) + (1 : Int32))), rfl, hf, ⟨by rw [ht]; exact hP, va_K.moved hW.alike hK, hD⟩⟩, hS.F ht⟩) hS.2.2 dX2_addPoint_42
  exact (key n) z1 z2 z3 u _ _ ls hf0 hP hD hS (lv_sub hl [0, 1, 2, 3] rfl)

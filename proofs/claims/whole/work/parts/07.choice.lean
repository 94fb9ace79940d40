def fX0_lampLight (n pc : Nat) (v1 : Int32) (v2 : Int32) (u : St) : Option (Int32 × St) := match n with
  | 0 => none
  | n + 1 => match pc with
    | 0 => (if ck v1 7 = true then (if ((gA u 14) v1.toNatClampNeg) < 0 then some ((0 : Int32), u) else ((FX0_lightRow n v1 ((gA u 14) v1.toNatClampNeg)).bind fun w_3 => (if ck (w_3 + v2) 336 = true then some (((gA u 10) (w_3 + v2).toNatClampNeg), u) else none))) else none)
    | _ => none
theorem eX0_lampLight_0 (n : Nat) (v1 : Int32) (v2 : Int32) (u : St) : fX0_lampLight (n + 1) 0 v1 v2 u = (if ck v1 7 = true then (if ((gA u 14) v1.toNatClampNeg) < 0 then some ((0 : Int32), u) else ((FX0_lightRow n v1 ((gA u 14) v1.toNatClampNeg)).bind fun w_3 => (if ck (w_3 + v2) 336 = true then some (((gA u 10) (w_3 + v2).toNatClampNeg), u) else none))) else none) := rfl
theorem vX0_lampLight_0 (v1 : Int32) (v2 : Int32) (u : St) (r : Int32 × St) : Ev (fun n => fX0_lampLight n 0 v1 v2 u) r ↔ Ev (fun n => (if ck v1 7 = true then (if ((gA u 14) v1.toNatClampNeg) < 0 then some ((0 : Int32), u) else ((FX0_lightRow n v1 ((gA u 14) v1.toNatClampNeg)).bind fun w_3 => (if ck (w_3 + v2) 336 = true then some (((gA u 10) (w_3 + v2).toNatClampNeg), u) else none))) else none)) r := Ev_succ (fun n => fX0_lampLight n 0 v1 v2 u) r
def FX0_lampLight (n : Nat) (v1 : Int32) (v2 : Int32) (u : St) : Option (Int32 × St) := fX0_lampLight n 0 v1 v2 u
set_option maxHeartbeats 4000000 in
set_option maxRecDepth 100000 in
theorem mX0_lampLight (l : Launch) (dC : Nat → ClassId) (dI : Nat → Nat → Nat) (cI cL : ClassId) (ad : Nat → Nat) (sz : Nat) (u : St) (z1 : Int32) (z2 : Int32) (n : Nat) (r : Int32 × St) (hf0 : FX0_lampLight n z1 z2 u = some r) : Met l yX0_lampLight wsX0_lampLight ({ frames := 1, cells := 0, slots := 0, locals := 21 }) (va_Pc [.ref (ad 2), .int z1, .int z2] (wPre dC dI cI cL (cw ad cI cL u) sz)) (va_Qi (fun a t => (a, t) = r) (fun t => wPost dC dI cI cL (va_A (cw ad cI cL u) sz) (cw ad cI cL t)) (va_A (cw ad cI cL u) sz)) 0 0 (va_A (cw ad cI cL u) sz) := by
  refine Met.ofW (cc := cX0_lampLight) (maxL := 4) (ret := (some .int)) (by decide) rfl ?_
  intro p e s m args below meth c s₁ B hml hv
  obtain ⟨rfl, hsz, hP, hK, hD0, hZ⟩ := hv
  have hx := B.exec
  have hb := B.bytes
  have hr := B.returns
  have hts := atoms_spec (ws := wsX0_lampLight) B.pre
  have hown : s.vm.findClass RX0 = some m.cls := findClass_of_methodNamed B.named
  have hlocks := B.notSynchronized
  subst hsz
  have hD := hD0.self (sz := s.heap.size)
  generalize hAe : va_A (cw ad cI cL u) s.heap.size = A at hD ⊢
  have hA : ∀ q : Nat, s.heap.size ≤ q → A q := fun q h => by rw [← hAe]; exact Or.inr h
  have hS : va_S A s.heap s.heap [] := va_S.rf
  have iX0 : ∀ w ∈ u_ws RX0 TX0 12, w ∈ wsX0_lampLight := fun _ h => List.mem_cons_of_mem _ (List.mem_append_right _ h)
  have k_0 := hts (.fieldLink RX0 24 "LampChoice$Choice" "lamps" "[I") (by decide +kernel)
  have k_1 := hts (.fieldLink RX0 9 "LampChoice$Choice" "lights" "[I") (by decide +kernel)
  have hl := lv_entry ([.ref (ad 2), .int z1, .int z2]) (n := 4) (Nat.le_of_ble_eq_true rfl)
  rw [lg_entry_eq]
  generalize (lg_sl ([.ref (ad 2), .int z1, .int z2]) ++ List.replicate (4 - (lg_sl ([.ref (ad 2), .int z1, .int z2])).length) Slot.unset).toArray = ls at hl ⊢
  have hl : lv_has ls 4 [(0, .ref (ad 2)), (1, .int z1), (2, .int z2)] := hl
  have key : ∀ n : Nat, (∀ (v1 : Int32) (v2 : Int32) (u : St) (H : Heap) (locs : List Loc) (ls : Array Slot), fX0_lampLight n 0 v1 v2 u = some r → va_P (dC, dI) vwCl (cw ad cI cL u) H → va_D A (cw ad cI cL u) → va_S A s.heap H locs → lv_has ls 4 [(0, .ref (ad 2)), (1, .int v1), (2, .int v2)] → W p l e (headSpec wsX0_lampLight ({ frames := 1, cells := 0, slots := 0, locals := 21 })).room s m ([.ref (ad 2), .int z1, .int z2] : List Value).toArray below meth c H locs 0 0 (MQ below (va_Qi (fun a t => (a, t) = r) (fun t => wPost dC dI cI cL A (cw ad cI cL t)) A) ([.ref (ad 2), .int z1, .int z2] : List Value).toArray s 0 0 A) (F0 m 0 ls [])) := by
    intro n
    induction n with
    | zero => exact (fun _ _ _ _ _ _ hf => nomatch (show (none : Option (Int32 × St)) = some r from hf))
    | succ n ih =>
      have ih0 := ih
      · intro v1 v2 u H locs ls hf hP hD hS hl
        have hf := (eX0_lampLight_0 n v1 v2 u).symm.trans hf
        refine lv_aload_n hx hb dX0_lampLight_0 rfl (lv_at hl 0 rfl) ?_
        refine va_get (D := (dC, dI)) (ci := 0) (v := .ref (ad 19)) (C := RX0) (T := TX0) (N := 12) hx hb hts iX0 hown hK hP 2 rfl rfl 7 (by decide) k_0 (fun _ h9 => h9) rfl dX0_lampLight_1 ?_
        refine lv_iload_n hx hb dX0_lampLight_4 rfl (lv_at hl 1 rfl) ?_
        obtain ⟨h_1, hf⟩ := ck_of hf
        refine va_iald (f := (gA u 14)) hx hb hK hP 19 0 rfl rfl h_1 dX0_lampLight_5 ?_
        refine lv_istore_n (lv' := [(3, .int ((gA u 14) v1.toNatClampNeg)), (0, .ref (ad 2)), (1, .int v1), (2, .int v2)]) hx hb dX0_lampLight_6 rfl hl (by decide) rfl (fun ls hl => ?_)
        refine lv_iload_n hx hb dX0_lampLight_7 rfl (lv_at hl 0 rfl) ?_
        refine lv_if_lt (tgt := 26) hx hb dX0_lampLight_8 (by decide) (fun c_2 => ?_) (fun c_2 => ?_)
        · have hf := (if_pos c_2).symm.trans hf
          refine lv_iconst (v := 0) hx hb dX0_lampLight_26 (by decide) ?_
          have hf := Option.some.inj hf
          exact W.iret (v := (0 : Int32)) hx hb hr (fun t ht hW => ⟨⟨(0 : Int32), u, rfl, hf, ⟨by rw [ht]; exact hP, va_K.moved hW.alike hK, hD⟩⟩, hS.F ht⟩) hS.2.2 dX0_lampLight_27
        · have hf := (if_neg c_2).symm.trans hf
          refine lv_aload_n hx hb dX0_lampLight_11 rfl (lv_at hl 1 rfl) ?_
          refine va_get (D := (dC, dI)) (ci := 0) (v := .ref (ad 15)) (C := RX0) (T := TX0) (N := 12) hx hb hts iX0 hown hK hP 2 rfl rfl 1 (by decide) k_1 (fun _ h9 => h9) rfl dX0_lampLight_12 ?_
          refine lv_iload_n hx hb dX0_lampLight_15 rfl (lv_at hl 2 rfl) ?_
          refine lv_iload_n hx hb dX0_lampLight_16 rfl (lv_at hl 0 rfl) ?_
          obtain ⟨w_3, hw_3, hf⟩ := ob hf
          have hFc := freeNil hS hA
          refine va_calli (va_runS (As := [.int v1, .int ((gA u 14) v1.toNatClampNeg)]) (rest := [.ref (ad 15)]) ⟨hx, hb, hml, hown, hts⟩ (mX0_lightRow l H.size v1 ((gA u 14) v1.toNatClampNeg) n w_3 hw_3) (va_cwS 2 hts gX0_lampLight_X0_lightRow rfl rfl rfl (by decide +kernel) ⟨Nat.le_of_ble_eq_true rfl, Nat.le_of_ble_eq_true rfl⟩) ⟨nPre_blind, nPre_of⟩ rfl rfl hl.1 rfl (lv_room (Nat.le_of_ble_eq_true rfl)) dX0_lampLight_17 ⟨Nat.zero_le _, Nat.zero_le _⟩) hS (fun q _ h => hFc q h) hFc (fun r2 u2 t H1 locs ht hvm hw hB hz1 hk1 hS => ?_)
          subst r2
          have hP := keepP hP hk1
          clear hFc hk1 hB
          generalize H1 = H at hP hS ⊢
          refine lv_iload_n hx hb dX0_lampLight_20 rfl (lv_at hl 3 rfl) ?_
          refine lv_iadd hx hb dX0_lampLight_21 ?_
          obtain ⟨h_4, hf⟩ := ck_of hf
          refine va_iald (f := (gA u 10)) hx hb hK hP 15 0 rfl rfl h_4 dX0_lampLight_22 ?_
          refine lv_goto (tgt := 27) hx hb dX0_lampLight_23 (by decide) ?_
          have hf := Option.some.inj hf
          exact W.iret (v := ((gA u 10) (w_3 + v2).toNatClampNeg)) hx hb hr (fun t ht hW => ⟨⟨((gA u 10) (w_3 + v2).toNatClampNeg), u, rfl, hf, ⟨by rw [ht]; exact hP, va_K.moved hW.alike hK, hD⟩⟩, hS.F ht⟩) hS.2.2 dX0_lampLight_27
  exact (key n) z1 z2 u _ _ ls hf0 hP hD hS (lv_sub hl [0, 1, 2] rfl)

def fX0_hasLamps (n pc : Nat) (v1 : Int32) (u : St) : Option (Int32 × St) := match n with
  | 0 => none
  | n + 1 => match pc with
    | 0 => fX0_hasLamps n 2 (0 : Int32) u
    | 2 => (if (gI u 1) ≤ v1 then some ((0 : Int32), u) else (if ck v1 7 = true then (if ((gA u 14) v1.toNatClampNeg) = (-1 : Int32) then fX0_hasLamps n 2 (v1 + 1) u else some ((1 : Int32), u)) else none))
    | _ => none
theorem eX0_hasLamps_0 (n : Nat) (v1 : Int32) (u : St) : fX0_hasLamps (n + 1) 0 v1 u = fX0_hasLamps n 2 (0 : Int32) u := rfl
theorem eX0_hasLamps_2 (n : Nat) (v1 : Int32) (u : St) : fX0_hasLamps (n + 1) 2 v1 u = (if (gI u 1) ≤ v1 then some ((0 : Int32), u) else (if ck v1 7 = true then (if ((gA u 14) v1.toNatClampNeg) = (-1 : Int32) then fX0_hasLamps n 2 (v1 + 1) u else some ((1 : Int32), u)) else none)) := rfl
theorem vX0_hasLamps_0 (v1 : Int32) (u : St) (r : Int32 × St) : Ev (fun n => fX0_hasLamps n 0 v1 u) r ↔ Ev (fun n => fX0_hasLamps n 2 (0 : Int32) u) r := Ev_succ (fun n => fX0_hasLamps n 0 v1 u) r
theorem vX0_hasLamps_2 (v1 : Int32) (u : St) (r : Int32 × St) : Ev (fun n => fX0_hasLamps n 2 v1 u) r ↔ Ev (fun n => (if (gI u 1) ≤ v1 then some ((0 : Int32), u) else (if ck v1 7 = true then (if ((gA u 14) v1.toNatClampNeg) = (-1 : Int32) then fX0_hasLamps n 2 (v1 + 1) u else some ((1 : Int32), u)) else none))) r := Ev_succ (fun n => fX0_hasLamps n 2 v1 u) r
def FX0_hasLamps (n : Nat) (u : St) : Option (Int32 × St) := fX0_hasLamps n 0 0 u
set_option maxHeartbeats 4000000 in
set_option maxRecDepth 100000 in
theorem mX0_hasLamps (l : Launch) (dC : Nat → ClassId) (dI : Nat → Nat → Nat) (cI cL : ClassId) (ad : Nat → Nat) (sz : Nat) (u : St) (n : Nat) (r : Int32 × St) (hf0 : FX0_hasLamps n  u = some r) : Met l yX0_hasLamps wsX0_hasLamps ({ frames := 0, cells := 0, slots := 0, locals := 0 }) (va_Pc [.ref (ad 2)] (wPre dC dI cI cL (cw ad cI cL u) sz)) (va_Qi (fun a t => (a, t) = r) (fun t => wPost dC dI cI cL (va_A (cw ad cI cL u) sz) (cw ad cI cL t)) (va_A (cw ad cI cL u) sz)) 0 0 (va_A (cw ad cI cL u) sz) := by
  refine Met.ofW (cc := cX0_hasLamps) (maxL := 2) (ret := (some .boolean)) (by decide) rfl ?_
  intro p e s m args below meth c s₁ B hml hv
  obtain ⟨rfl, hsz, hP, hK, hD0, hZ⟩ := hv
  have hx := B.exec
  have hb := B.bytes
  have hr := B.returns
  have hts := atoms_spec (ws := wsX0_hasLamps) B.pre
  have hown : s.vm.findClass RX0 = some m.cls := findClass_of_methodNamed B.named
  have hlocks := B.notSynchronized
  subst hsz
  have hD := hD0.self (sz := s.heap.size)
  generalize hAe : va_A (cw ad cI cL u) s.heap.size = A at hD ⊢
  have hA : ∀ q : Nat, s.heap.size ≤ q → A q := fun q h => by rw [← hAe]; exact Or.inr h
  have hS : va_S A s.heap s.heap [] := va_S.rf
  have iX0 : ∀ w ∈ u_ws RX0 TX0 12, w ∈ wsX0_hasLamps := fun _ h => List.mem_cons_of_mem _ (List.mem_append_left _ (List.mem_append_right _ h))
  have iX2 : ∀ w ∈ u_ws RX2 TX2 14, w ∈ wsX0_hasLamps := fun _ h => List.mem_cons_of_mem _ (List.mem_append_right _ h)
  have k_0 := hts (.fieldLink RX0 30 "LampChoice$Choice" "room" "LLampChoice$Room;") (by decide +kernel)
  have k_1 := hts (.fieldLink RX0 65 "LampChoice$Room" "places" "I") (by decide +kernel)
  have k_2 := hts (.fieldLink RX0 24 "LampChoice$Choice" "lamps" "[I") (by decide +kernel)
  have hl := lv_entry ([.ref (ad 2)]) (n := 2) (Nat.le_of_ble_eq_true rfl)
  rw [lg_entry_eq]
  generalize (lg_sl ([.ref (ad 2)]) ++ List.replicate (2 - (lg_sl ([.ref (ad 2)])).length) Slot.unset).toArray = ls at hl ⊢
  have hl : lv_has ls 2 [(0, .ref (ad 2))] := hl
  have key : ∀ n : Nat, (∀ (v1 : Int32) (u : St) (H : Heap) (locs : List Loc) (ls : Array Slot), fX0_hasLamps n 0 v1 u = some r → va_P (dC, dI) vwCl (cw ad cI cL u) H → va_D A (cw ad cI cL u) → va_S A s.heap H locs → lv_has ls 2 [(0, .ref (ad 2))] → W p l e (headSpec wsX0_hasLamps ({ frames := 0, cells := 0, slots := 0, locals := 0 })).room s m ([.ref (ad 2)] : List Value).toArray below meth c H locs 0 0 (MQ below (va_Qi (fun a t => (a, t) = r) (fun t => wPost dC dI cI cL A (cw ad cI cL t)) A) ([.ref (ad 2)] : List Value).toArray s 0 0 A) (F0 m 0 ls [])) ∧ (∀ (v1 : Int32) (u : St) (H : Heap) (locs : List Loc) (ls : Array Slot), fX0_hasLamps n 2 v1 u = some r → va_P (dC, dI) vwCl (cw ad cI cL u) H → va_D A (cw ad cI cL u) → va_S A s.heap H locs → lv_has ls 2 [(0, .ref (ad 2)), (1, .int v1)] → W p l e (headSpec wsX0_hasLamps ({ frames := 0, cells := 0, slots := 0, locals := 0 })).room s m ([.ref (ad 2)] : List Value).toArray below meth c H locs 0 0 (MQ below (va_Qi (fun a t => (a, t) = r) (fun t => wPost dC dI cI cL A (cw ad cI cL t)) A) ([.ref (ad 2)] : List Value).toArray s 0 0 A) (F0 m 2 ls [])) := by
    intro n
    induction n with
    | zero => exact ⟨(fun _ _ _ _ _ hf => nomatch (show (none : Option (Int32 × St)) = some r from hf)), (fun _ _ _ _ _ hf => nomatch (show (none : Option (Int32 × St)) = some r from hf))⟩
    | succ n ih =>
      obtain ⟨ih0, ih1⟩ := ih
      refine ⟨?_, ?_⟩
      · intro v1 u H locs ls hf hP hD hS hl
        have hf := (eX0_hasLamps_0 n v1 u).symm.trans hf
        refine lv_iconst (v := 0) hx hb dX0_hasLamps_0 (by decide) ?_
        refine lv_istore_n (lv' := [(1, .int (0 : Int32)), (0, .ref (ad 2))]) hx hb dX0_hasLamps_1 rfl hl (by decide) rfl (fun ls hl => ?_)
        exact ih1 (0 : Int32) u H locs ls hf hP hD hS (lv_sub hl [1, 0] rfl)
      · intro v1 u H locs ls hf hP hD hS hl
        have hf := (eX0_hasLamps_2 n v1 u).symm.trans hf
        refine lv_iload_n hx hb dX0_hasLamps_2 rfl (lv_at hl 1 rfl) ?_
        refine lv_aload_n hx hb dX0_hasLamps_3 rfl (lv_at hl 0 rfl) ?_
        refine va_get (D := (dC, dI)) (ci := 0) (v := .ref (ad 1)) (C := RX0) (T := TX0) (N := 12) hx hb hts iX0 hown hK hP 2 rfl rfl 0 (by decide) k_0 (fun _ h9 => h9) rfl dX0_hasLamps_4 ?_
        refine va_get (D := (dC, dI)) (ci := 2) (v := .int (gI u 1)) (C := RX2) (T := TX2) (N := 14) hx hb hts iX2 hown hK hP 1 rfl rfl 11 (by decide) k_1 (fun _ h9 => h9) rfl dX0_hasLamps_7 ?_
        refine lv_icmp_ge (tgt := 31) hx hb dX0_hasLamps_10 (by decide) (fun c_1 => ?_) (fun c_1 => ?_)
        · have hf := (if_pos c_1).symm.trans hf
          refine lv_iconst (v := 0) hx hb dX0_hasLamps_31 (by decide) ?_
          have hf := Option.some.inj hf
          exact W.zret (v := (0 : Int32)) hx hb hr rfl (fun t ht hW => ⟨⟨(0 : Int32), u, rfl, hf, ⟨by rw [ht]; exact hP, va_K.moved hW.alike hK, hD⟩⟩, hS.F ht⟩) hS.2.2 dX0_hasLamps_32
        · have hf := (if_neg c_1).symm.trans hf
          refine lv_aload_n hx hb dX0_hasLamps_13 rfl (lv_at hl 0 rfl) ?_
          refine va_get (D := (dC, dI)) (ci := 0) (v := .ref (ad 19)) (C := RX0) (T := TX0) (N := 12) hx hb hts iX0 hown hK hP 2 rfl rfl 7 (by decide) k_2 (fun _ h9 => h9) rfl dX0_hasLamps_14 ?_
          refine lv_iload_n hx hb dX0_hasLamps_17 rfl (lv_at hl 1 rfl) ?_
          obtain ⟨h_2, hf⟩ := ck_of hf
          refine va_iald (f := (gA u 14)) hx hb hK hP 19 0 rfl rfl h_2 dX0_hasLamps_18 ?_
          refine lv_iconst (v := -1) hx hb dX0_hasLamps_19 (by decide) ?_
          refine lv_icmp_eq (tgt := 25) hx hb dX0_hasLamps_20 (by decide) (fun c_3 => ?_) (fun c_3 => ?_)
          · have hf := (if_pos c_3).symm.trans hf
            refine lv_iinc (v := (v1 + 1)) (lv' := [(1, .int (v1 + 1)), (0, .ref (ad 2))]) hx hb dX0_hasLamps_25 hl (k := 1) rfl rfl (by decide) rfl (fun ls hl => ?_)
            refine lv_goto (tgt := 2) hx hb dX0_hasLamps_28 (by decide) ?_
            exact ih1 (v1 + 1) u H locs ls hf hP hD hS (lv_sub hl [1, 0] rfl)
          · have hf := (if_neg c_3).symm.trans hf
            refine lv_iconst (v := 1) hx hb dX0_hasLamps_23 (by decide) ?_
            have hf := Option.some.inj hf
            exact W.zret (v := (1 : Int32)) hx hb hr rfl (fun t ht hW => ⟨⟨(1 : Int32), u, rfl, hf, ⟨by rw [ht]; exact hP, va_K.moved hW.alike hK, hD⟩⟩, hS.F ht⟩) hS.2.2 dX0_hasLamps_24
  exact (key n).1 0 u _ _ ls hf0 hP hD hS (lv_sub hl [0] rfl)

def fX0_evennessAbove (n pc : Nat) (u : St) : Option (Int64 × St) := match n with
  | 0 => none
  | n + 1 => match pc with
    | 0 => ((FX0_commonDivisor n ((gJ u 0) * (gI u 2).toInt64) (gJ u 1)).bind fun w_1 => ((FX4_quotient n ((gJ u 0) * (gI u 2).toInt64) w_1).bind fun w_2 => some (w_2, u)))
    | _ => none
theorem eX0_evennessAbove_0 (n : Nat) (u : St) : fX0_evennessAbove (n + 1) 0  u = ((FX0_commonDivisor n ((gJ u 0) * (gI u 2).toInt64) (gJ u 1)).bind fun w_1 => ((FX4_quotient n ((gJ u 0) * (gI u 2).toInt64) w_1).bind fun w_2 => some (w_2, u))) := rfl
theorem vX0_evennessAbove_0 (u : St) (r : Int64 × St) : Ev (fun n => fX0_evennessAbove n 0  u) r ↔ Ev (fun n => ((FX0_commonDivisor n ((gJ u 0) * (gI u 2).toInt64) (gJ u 1)).bind fun w_1 => ((FX4_quotient n ((gJ u 0) * (gI u 2).toInt64) w_1).bind fun w_2 => some (w_2, u)))) r := Ev_succ (fun n => fX0_evennessAbove n 0  u) r
def FX0_evennessAbove (n : Nat) (u : St) : Option (Int64 × St) := fX0_evennessAbove n 0  u
set_option maxHeartbeats 4000000 in
set_option maxRecDepth 100000 in
theorem mX0_evennessAbove (l : Launch) (dC : Nat → ClassId) (dI : Nat → Nat → Nat) (cI cL : ClassId) (ad : Nat → Nat) (sz : Nat) (u : St) (n : Nat) (r : Int64 × St) (hf0 : FX0_evennessAbove n  u = some r) : Met l yX0_evennessAbove wsX0_evennessAbove ({ frames := 1, cells := 0, slots := 0, locals := 30 }) (va_Pc [.ref (ad 2)] (wPre dC dI cI cL (cw ad cI cL u) sz)) (va_Ql (fun a t => (a, t) = r) (fun t => wPost dC dI cI cL (va_A (cw ad cI cL u) sz) (cw ad cI cL t)) (va_A (cw ad cI cL u) sz)) 0 0 (va_A (cw ad cI cL u) sz) := by
  refine Met.ofW (cc := cX0_evennessAbove) (maxL := 3) (ret := (some .long)) (by decide) rfl ?_
  intro p e s m args below meth c s₁ B hml hv
  obtain ⟨rfl, hsz, hP, hK, hD0, hZ⟩ := hv
  have hx := B.exec
  have hb := B.bytes
  have hr := B.returns
  have hts := atoms_spec (ws := wsX0_evennessAbove) B.pre
  have hown : s.vm.findClass RX0 = some m.cls := findClass_of_methodNamed B.named
  have hlocks := B.notSynchronized
  subst hsz
  have hD := hD0.self (sz := s.heap.size)
  generalize hAe : va_A (cw ad cI cL u) s.heap.size = A at hD ⊢
  have hA : ∀ q : Nat, s.heap.size ≤ q → A q := fun q h => by rw [← hAe]; exact Or.inr h
  have hS : va_S A s.heap s.heap [] := va_S.rf
  have iX0 : ∀ w ∈ u_ws RX0 TX0 12, w ∈ wsX0_evennessAbove := fun _ h => List.mem_cons_of_mem _ (List.mem_append_left _ (List.mem_append_right _ h))
  have iX2 : ∀ w ∈ u_ws RX2 TX2 14, w ∈ wsX0_evennessAbove := fun _ h => List.mem_cons_of_mem _ (List.mem_append_right _ h)
  have k_0 := hts (.fieldLink RX0 71 "LampChoice$Choice" "leastLevel" "J") (by decide +kernel)
  have k_1 := hts (.fieldLink RX0 30 "LampChoice$Choice" "room" "LLampChoice$Room;") (by decide +kernel)
  have k_2 := hts (.fieldLink RX0 75 "LampChoice$Room" "points" "I") (by decide +kernel)
  have k_3 := hts (.fieldLink RX0 78 "LampChoice$Choice" "sumOfLevels" "J") (by decide +kernel)
  have k_4 := hts (.initialized RX4) (by decide +kernel)
  have k_5 := hts (.static yX4_quotient) (by decide +kernel)
  have hl := lv_entry ([.ref (ad 2)]) (n := 3) (Nat.le_of_ble_eq_true rfl)
  rw [lg_entry_eq]
  generalize (lg_sl ([.ref (ad 2)]) ++ List.replicate (3 - (lg_sl ([.ref (ad 2)])).length) Slot.unset).toArray = ls at hl ⊢
  have hl : lv_has ls 3 [(0, .ref (ad 2))] := hl
  have key : ∀ n : Nat, (∀ (u : St) (H : Heap) (locs : List Loc) (ls : Array Slot), fX0_evennessAbove n 0  u = some r → va_P (dC, dI) vwCl (cw ad cI cL u) H → va_D A (cw ad cI cL u) → va_S A s.heap H locs → lv_has ls 3 [(0, .ref (ad 2))] → W p l e (headSpec wsX0_evennessAbove ({ frames := 1, cells := 0, slots := 0, locals := 30 })).room s m ([.ref (ad 2)] : List Value).toArray below meth c H locs 0 0 (MQ below (va_Ql (fun a t => (a, t) = r) (fun t => wPost dC dI cI cL A (cw ad cI cL t)) A) ([.ref (ad 2)] : List Value).toArray s 0 0 A) (F0 m 0 ls [])) := by
    intro n
    induction n with
    | zero => exact (fun _ _ _ _ hf => nomatch (show (none : Option (Int64 × St)) = some r from hf))
    | succ n ih =>
      have ih0 := ih
      · intro  u H locs ls hf hP hD hS hl
        have hf := (eX0_evennessAbove_0 n  u).symm.trans hf
        refine lv_aload_n hx hb dX0_evennessAbove_0 rfl (lv_at hl 0 rfl) ?_
        refine va_get (D := (dC, dI)) (ci := 0) (v := .long (gJ u 0)) (C := RX0) (T := TX0) (N := 12) hx hb hts iX0 hown hK hP 2 rfl rfl 5 (by decide) k_0 (fun _ h9 => h9) rfl dX0_evennessAbove_1 ?_
        refine lv_aload_n hx hb dX0_evennessAbove_4 rfl (lv_at hl 0 rfl) ?_
        refine va_get (D := (dC, dI)) (ci := 0) (v := .ref (ad 1)) (C := RX0) (T := TX0) (N := 12) hx hb hts iX0 hown hK hP 2 rfl rfl 0 (by decide) k_1 (fun _ h9 => h9) rfl dX0_evennessAbove_5 ?_
        refine va_get (D := (dC, dI)) (ci := 2) (v := .int (gI u 2)) (C := RX2) (T := TX2) (N := 14) hx hb hts iX2 hown hK hP 1 rfl rfl 12 (by decide) k_2 (fun _ h9 => h9) rfl dX0_evennessAbove_8 ?_
        refine lv_i2l (v := (gI u 2).toInt64) hx hb dX0_evennessAbove_11 rfl ?_
        refine lv_lmul hx hb dX0_evennessAbove_12 ?_
        refine lv_lstore_n (lv' := [(1, .long ((gJ u 0) * (gI u 2).toInt64)), (0, .ref (ad 2))]) hx hb dX0_evennessAbove_13 rfl hl (by decide) rfl (fun ls hl => ?_)
        refine lv_lload_n hx hb dX0_evennessAbove_14 rfl (lv_at hl 0 rfl) ?_
        refine lv_lload_n hx hb dX0_evennessAbove_15 rfl (lv_at hl 0 rfl) ?_
        refine lv_aload_n hx hb dX0_evennessAbove_16 rfl (lv_at hl 1 rfl) ?_
        refine va_get (D := (dC, dI)) (ci := 0) (v := .long (gJ u 1)) (C := RX0) (T := TX0) (N := 12) hx hb hts iX0 hown hK hP 2 rfl rfl 6 (by decide) k_3 (fun _ h9 => h9) rfl dX0_evennessAbove_17 ?_
        obtain ⟨w_1, hw_1, hf⟩ := ob hf
        have hFc := freeNil hS hA
        refine va_calll (va_runS (As := [.long ((gJ u 0) * (gI u 2).toInt64), .long (gJ u 1)]) (rest := [.long ((gJ u 0) * (gI u 2).toInt64)]) ⟨hx, hb, hml, hown, hts⟩ (mX0_commonDivisor l H.size ((gJ u 0) * (gI u 2).toInt64) (gJ u 1) n w_1 hw_1) (va_cwS 2 hts gX0_evennessAbove_X0_commonDivisor rfl rfl rfl (by decide +kernel) ⟨Nat.le_of_ble_eq_true rfl, Nat.le_of_ble_eq_true rfl⟩) ⟨nPre_blind, nPre_of⟩ rfl rfl hl.1 rfl (lv_room (Nat.le_of_ble_eq_true rfl)) dX0_evennessAbove_20 ⟨Nat.zero_le _, Nat.zero_le _⟩) hS (fun q _ h => hFc q h) hFc (fun r2 u2 t H1 locs ht hvm hw hB hz1 hk1 hS => ?_)
        subst r2
        have hP := keepP hP hk1
        clear hFc hk1 hB
        generalize H1 = H at hP hS ⊢
        obtain ⟨w_2, hw_2, hf⟩ := ob hf
        have hFc := freeNil hS hA
        refine va_calll (va_runSN (As := [.long ((gJ u 0) * (gI u 2).toInt64), .long w_1]) (rest := []) ⟨hx, hb, hml, hown, hts⟩ (mX4_quotient l H.size ((gJ u 0) * (gI u 2).toInt64) w_1 n w_2 hw_2) ⟨va_cnB 2 hts ggX0_evennessAbove_X4_quotient rfl rfl rfl hZ.1 k_4 (by decide +kernel) ⟨Nat.le_of_ble_eq_true rfl, Nat.le_of_ble_eq_true rfl⟩, k_5, trivial⟩ ⟨nPre_blind, nPre_of⟩ rfl rfl hl.1 rfl (lv_room (Nat.le_of_ble_eq_true rfl)) dX0_evennessAbove_23 ⟨Nat.zero_le _, Nat.zero_le _⟩) hS (fun q _ h => hFc q h) hFc (fun r2 u2 t H1 locs ht hvm hw hB hz1 hk1 hS => ?_)
        subst r2
        have hP := keepP hP hk1
        clear hFc hk1 hB
        generalize H1 = H at hP hS ⊢
        have hf := Option.some.inj hf
        exact W.lret (v := w_2) hx hb hr (fun t ht hW => ⟨⟨w_2, u, rfl, hf, ⟨by rw [ht]; exact hP, va_K.moved hW.alike hK, hD⟩⟩, hS.F ht⟩) hS.2.2 dX0_evennessAbove_26
  exact (key n)  u _ _ ls hf0 hP hD hS (lv_sub hl [0] rfl)

def fX0_evennessBelow (n pc : Nat) (u : St) : Option (Int64 × St) := match n with
  | 0 => none
  | n + 1 => match pc with
    | 0 => ((FX0_commonDivisor n ((gJ u 0) * (gI u 2).toInt64) (gJ u 1)).bind fun w_1 => ((FX4_quotient n (gJ u 1) w_1).bind fun w_2 => some (w_2, u)))
    | _ => none
theorem eX0_evennessBelow_0 (n : Nat) (u : St) : fX0_evennessBelow (n + 1) 0  u = ((FX0_commonDivisor n ((gJ u 0) * (gI u 2).toInt64) (gJ u 1)).bind fun w_1 => ((FX4_quotient n (gJ u 1) w_1).bind fun w_2 => some (w_2, u))) := rfl
theorem vX0_evennessBelow_0 (u : St) (r : Int64 × St) : Ev (fun n => fX0_evennessBelow n 0  u) r ↔ Ev (fun n => ((FX0_commonDivisor n ((gJ u 0) * (gI u 2).toInt64) (gJ u 1)).bind fun w_1 => ((FX4_quotient n (gJ u 1) w_1).bind fun w_2 => some (w_2, u)))) r := Ev_succ (fun n => fX0_evennessBelow n 0  u) r
def FX0_evennessBelow (n : Nat) (u : St) : Option (Int64 × St) := fX0_evennessBelow n 0  u
set_option maxHeartbeats 4000000 in
set_option maxRecDepth 100000 in
theorem mX0_evennessBelow (l : Launch) (dC : Nat → ClassId) (dI : Nat → Nat → Nat) (cI cL : ClassId) (ad : Nat → Nat) (sz : Nat) (u : St) (n : Nat) (r : Int64 × St) (hf0 : FX0_evennessBelow n  u = some r) : Met l yX0_evennessBelow wsX0_evennessBelow ({ frames := 1, cells := 0, slots := 0, locals := 30 }) (va_Pc [.ref (ad 2)] (wPre dC dI cI cL (cw ad cI cL u) sz)) (va_Ql (fun a t => (a, t) = r) (fun t => wPost dC dI cI cL (va_A (cw ad cI cL u) sz) (cw ad cI cL t)) (va_A (cw ad cI cL u) sz)) 0 0 (va_A (cw ad cI cL u) sz) := by
  refine Met.ofW (cc := cX0_evennessBelow) (maxL := 1) (ret := (some .long)) (by decide) rfl ?_
  intro p e s m args below meth c s₁ B hml hv
  obtain ⟨rfl, hsz, hP, hK, hD0, hZ⟩ := hv
  have hx := B.exec
  have hb := B.bytes
  have hr := B.returns
  have hts := atoms_spec (ws := wsX0_evennessBelow) B.pre
  have hown : s.vm.findClass RX0 = some m.cls := findClass_of_methodNamed B.named
  have hlocks := B.notSynchronized
  subst hsz
  have hD := hD0.self (sz := s.heap.size)
  generalize hAe : va_A (cw ad cI cL u) s.heap.size = A at hD ⊢
  have hA : ∀ q : Nat, s.heap.size ≤ q → A q := fun q h => by rw [← hAe]; exact Or.inr h
  have hS : va_S A s.heap s.heap [] := va_S.rf
  have iX0 : ∀ w ∈ u_ws RX0 TX0 12, w ∈ wsX0_evennessBelow := fun _ h => List.mem_cons_of_mem _ (List.mem_append_left _ (List.mem_append_right _ h))
  have iX2 : ∀ w ∈ u_ws RX2 TX2 14, w ∈ wsX0_evennessBelow := fun _ h => List.mem_cons_of_mem _ (List.mem_append_right _ h)
  have k_0 := hts (.fieldLink RX0 78 "LampChoice$Choice" "sumOfLevels" "J") (by decide +kernel)
  have k_1 := hts (.fieldLink RX0 71 "LampChoice$Choice" "leastLevel" "J") (by decide +kernel)
  have k_2 := hts (.fieldLink RX0 30 "LampChoice$Choice" "room" "LLampChoice$Room;") (by decide +kernel)
  have k_3 := hts (.fieldLink RX0 75 "LampChoice$Room" "points" "I") (by decide +kernel)
  have k_4 := hts (.initialized RX4) (by decide +kernel)
  have k_5 := hts (.static yX4_quotient) (by decide +kernel)
  have hl := lv_entry ([.ref (ad 2)]) (n := 1) (Nat.le_of_ble_eq_true rfl)
  rw [lg_entry_eq]
  generalize (lg_sl ([.ref (ad 2)]) ++ List.replicate (1 - (lg_sl ([.ref (ad 2)])).length) Slot.unset).toArray = ls at hl ⊢
  have hl : lv_has ls 1 [(0, .ref (ad 2))] := hl
  have key : ∀ n : Nat, (∀ (u : St) (H : Heap) (locs : List Loc) (ls : Array Slot), fX0_evennessBelow n 0  u = some r → va_P (dC, dI) vwCl (cw ad cI cL u) H → va_D A (cw ad cI cL u) → va_S A s.heap H locs → lv_has ls 1 [(0, .ref (ad 2))] → W p l e (headSpec wsX0_evennessBelow ({ frames := 1, cells := 0, slots := 0, locals := 30 })).room s m ([.ref (ad 2)] : List Value).toArray below meth c H locs 0 0 (MQ below (va_Ql (fun a t => (a, t) = r) (fun t => wPost dC dI cI cL A (cw ad cI cL t)) A) ([.ref (ad 2)] : List Value).toArray s 0 0 A) (F0 m 0 ls [])) := by
    intro n
    induction n with
    | zero => exact (fun _ _ _ _ hf => nomatch (show (none : Option (Int64 × St)) = some r from hf))
    | succ n ih =>
      have ih0 := ih
      · intro  u H locs ls hf hP hD hS hl
        have hf := (eX0_evennessBelow_0 n  u).symm.trans hf
        refine lv_aload_n hx hb dX0_evennessBelow_0 rfl (lv_at hl 0 rfl) ?_
        refine va_get (D := (dC, dI)) (ci := 0) (v := .long (gJ u 1)) (C := RX0) (T := TX0) (N := 12) hx hb hts iX0 hown hK hP 2 rfl rfl 6 (by decide) k_0 (fun _ h9 => h9) rfl dX0_evennessBelow_1 ?_
        refine lv_aload_n hx hb dX0_evennessBelow_4 rfl (lv_at hl 0 rfl) ?_
        refine va_get (D := (dC, dI)) (ci := 0) (v := .long (gJ u 0)) (C := RX0) (T := TX0) (N := 12) hx hb hts iX0 hown hK hP 2 rfl rfl 5 (by decide) k_1 (fun _ h9 => h9) rfl dX0_evennessBelow_5 ?_
        refine lv_aload_n hx hb dX0_evennessBelow_8 rfl (lv_at hl 0 rfl) ?_
        refine va_get (D := (dC, dI)) (ci := 0) (v := .ref (ad 1)) (C := RX0) (T := TX0) (N := 12) hx hb hts iX0 hown hK hP 2 rfl rfl 0 (by decide) k_2 (fun _ h9 => h9) rfl dX0_evennessBelow_9 ?_
        refine va_get (D := (dC, dI)) (ci := 2) (v := .int (gI u 2)) (C := RX2) (T := TX2) (N := 14) hx hb hts iX2 hown hK hP 1 rfl rfl 12 (by decide) k_3 (fun _ h9 => h9) rfl dX0_evennessBelow_12 ?_
        refine lv_i2l (v := (gI u 2).toInt64) hx hb dX0_evennessBelow_15 rfl ?_
        refine lv_lmul hx hb dX0_evennessBelow_16 ?_
        refine lv_aload_n hx hb dX0_evennessBelow_17 rfl (lv_at hl 0 rfl) ?_
        refine va_get (D := (dC, dI)) (ci := 0) (v := .long (gJ u 1)) (C := RX0) (T := TX0) (N := 12) hx hb hts iX0 hown hK hP 2 rfl rfl 6 (by decide) k_0 (fun _ h9 => h9) rfl dX0_evennessBelow_18 ?_
        obtain ⟨w_1, hw_1, hf⟩ := ob hf
        have hFc := freeNil hS hA
        refine va_calll (va_runS (As := [.long ((gJ u 0) * (gI u 2).toInt64), .long (gJ u 1)]) (rest := [.long (gJ u 1)]) ⟨hx, hb, hml, hown, hts⟩ (mX0_commonDivisor l H.size ((gJ u 0) * (gI u 2).toInt64) (gJ u 1) n w_1 hw_1) (va_cwS 2 hts gX0_evennessBelow_X0_commonDivisor rfl rfl rfl (by decide +kernel) ⟨Nat.le_of_ble_eq_true rfl, Nat.le_of_ble_eq_true rfl⟩) ⟨nPre_blind, nPre_of⟩ rfl rfl hl.1 rfl (lv_room (Nat.le_of_ble_eq_true rfl)) dX0_evennessBelow_21 ⟨Nat.zero_le _, Nat.zero_le _⟩) hS (fun q _ h => hFc q h) hFc (fun r2 u2 t H1 locs ht hvm hw hB hz1 hk1 hS => ?_)
        subst r2
        have hP := keepP hP hk1
        clear hFc hk1 hB
        generalize H1 = H at hP hS ⊢
        obtain ⟨w_2, hw_2, hf⟩ := ob hf
        have hFc := freeNil hS hA
        refine va_calll (va_runSN (As := [.long (gJ u 1), .long w_1]) (rest := []) ⟨hx, hb, hml, hown, hts⟩ (mX4_quotient l H.size (gJ u 1) w_1 n w_2 hw_2) ⟨va_cnB 2 hts ggX0_evennessBelow_X4_quotient rfl rfl rfl hZ.1 k_4 (by decide +kernel) ⟨Nat.le_of_ble_eq_true rfl, Nat.le_of_ble_eq_true rfl⟩, k_5, trivial⟩ ⟨nPre_blind, nPre_of⟩ rfl rfl hl.1 rfl (lv_room (Nat.le_of_ble_eq_true rfl)) dX0_evennessBelow_24 ⟨Nat.zero_le _, Nat.zero_le _⟩) hS (fun q _ h => hFc q h) hFc (fun r2 u2 t H1 locs ht hvm hw hB hz1 hk1 hS => ?_)
        subst r2
        have hP := keepP hP hk1
        clear hFc hk1 hB
        generalize H1 = H at hP hS ⊢
        have hf := Option.some.inj hf
        exact W.lret (v := w_2) hx hb hr (fun t ht hW => ⟨⟨w_2, u, rfl, hf, ⟨by rw [ht]; exact hP, va_K.moved hW.alike hK, hD⟩⟩, hS.F ht⟩) hS.2.2 dX0_evennessBelow_27
  exact (key n)  u _ _ ls hf0 hP hD hS (lv_sub hl [0] rfl)

def fX0_fillLights (n pc : Nat) (v1 : Int32) (v2 : Int32) (v3 : Int32) (v4 : Int32) (u : St) : Option (St) := match n with
  | 0 => none
  | n + 1 => match pc with
    | 0 => fX0_fillLights n 2 (0 : Int32) 0 0 0 u
    | 2 => (if (gI u 1) ≤ v1 then some u else fX0_fillLights n 15 v1 (0 : Int32) 0 0 u)
    | 15 => (if (gI u 0) ≤ v2 then fX0_fillLights n 2 (v1 + 1) 0 0 0 u else ((FX0_lightRow n v1 v2).bind fun w_3 => fX0_fillLights n 35 v1 v2 w_3 (0 : Int32) u))
    | 35 => (if (gI u 2) ≤ v4 then fX0_fillLights n 15 v1 (v2 + 1) 0 0 u else ((FX2_lightOf n v2 v1 v4 u).bind fun w_5 => (if ck (v3 + v4) 336 = true then fX0_fillLights n 35 v1 v2 v3 (v4 + 1) (sA w_5.2 10 (upd (gA w_5.2 10) (v3 + v4).toNatClampNeg w_5.1)) else none)))
    | _ => none
theorem eX0_fillLights_0 (n : Nat) (v1 : Int32) (v2 : Int32) (v3 : Int32) (v4 : Int32) (u : St) : fX0_fillLights (n + 1) 0 v1 v2 v3 v4 u = fX0_fillLights n 2 (0 : Int32) 0 0 0 u := rfl
theorem eX0_fillLights_2 (n : Nat) (v1 : Int32) (v2 : Int32) (v3 : Int32) (v4 : Int32) (u : St) : fX0_fillLights (n + 1) 2 v1 v2 v3 v4 u = (if (gI u 1) ≤ v1 then some u else fX0_fillLights n 15 v1 (0 : Int32) 0 0 u) := rfl
theorem eX0_fillLights_15 (n : Nat) (v1 : Int32) (v2 : Int32) (v3 : Int32) (v4 : Int32) (u : St) : fX0_fillLights (n + 1) 15 v1 v2 v3 v4 u = (if (gI u 0) ≤ v2 then fX0_fillLights n 2 (v1 + 1) 0 0 0 u else ((FX0_lightRow n v1 v2).bind fun w_3 => fX0_fillLights n 35 v1 v2 w_3 (0 : Int32) u)) := rfl
theorem eX0_fillLights_35 (n : Nat) (v1 : Int32) (v2 : Int32) (v3 : Int32) (v4 : Int32) (u : St) : fX0_fillLights (n + 1) 35 v1 v2 v3 v4 u = (if (gI u 2) ≤ v4 then fX0_fillLights n 15 v1 (v2 + 1) 0 0 u else ((FX2_lightOf n v2 v1 v4 u).bind fun w_5 => (if ck (v3 + v4) 336 = true then fX0_fillLights n 35 v1 v2 v3 (v4 + 1) (sA w_5.2 10 (upd (gA w_5.2 10) (v3 + v4).toNatClampNeg w_5.1)) else none))) := rfl
theorem vX0_fillLights_0 (v1 : Int32) (v2 : Int32) (v3 : Int32) (v4 : Int32) (u : St) (r : St) : Ev (fun n => fX0_fillLights n 0 v1 v2 v3 v4 u) r ↔ Ev (fun n => fX0_fillLights n 2 (0 : Int32) 0 0 0 u) r := Ev_succ (fun n => fX0_fillLights n 0 v1 v2 v3 v4 u) r
theorem vX0_fillLights_2 (v1 : Int32) (v2 : Int32) (v3 : Int32) (v4 : Int32) (u : St) (r : St) : Ev (fun n => fX0_fillLights n 2 v1 v2 v3 v4 u) r ↔ Ev (fun n => (if (gI u 1) ≤ v1 then some u else fX0_fillLights n 15 v1 (0 : Int32) 0 0 u)) r := Ev_succ (fun n => fX0_fillLights n 2 v1 v2 v3 v4 u) r
theorem vX0_fillLights_15 (v1 : Int32) (v2 : Int32) (v3 : Int32) (v4 : Int32) (u : St) (r : St) : Ev (fun n => fX0_fillLights n 15 v1 v2 v3 v4 u) r ↔ Ev (fun n => (if (gI u 0) ≤ v2 then fX0_fillLights n 2 (v1 + 1) 0 0 0 u else ((FX0_lightRow n v1 v2).bind fun w_3 => fX0_fillLights n 35 v1 v2 w_3 (0 : Int32) u))) r := Ev_succ (fun n => fX0_fillLights n 15 v1 v2 v3 v4 u) r
theorem vX0_fillLights_35 (v1 : Int32) (v2 : Int32) (v3 : Int32) (v4 : Int32) (u : St) (r : St) : Ev (fun n => fX0_fillLights n 35 v1 v2 v3 v4 u) r ↔ Ev (fun n => (if (gI u 2) ≤ v4 then fX0_fillLights n 15 v1 (v2 + 1) 0 0 u else ((FX2_lightOf n v2 v1 v4 u).bind fun w_5 => (if ck (v3 + v4) 336 = true then fX0_fillLights n 35 v1 v2 v3 (v4 + 1) (sA w_5.2 10 (upd (gA w_5.2 10) (v3 + v4).toNatClampNeg w_5.1)) else none)))) r := Ev_succ (fun n => fX0_fillLights n 35 v1 v2 v3 v4 u) r
def FX0_fillLights (n : Nat) (u : St) : Option (St) := fX0_fillLights n 0 0 0 0 0 u
set_option maxHeartbeats 4000000 in
set_option maxRecDepth 100000 in
theorem mX0_fillLights (l : Launch) (dC : Nat → ClassId) (dI : Nat → Nat → Nat) (cI cL : ClassId) (ad : Nat → Nat) (sz : Nat) (u : St) (n : Nat) (r : St) (hf0 : FX0_fillLights n  u = some r) : Met l yX0_fillLights wsX0_fillLights ({ frames := 2, cells := 0, slots := 0, locals := 48 }) (va_Pc [.ref (ad 2)] (wPre dC dI cI cL (cw ad cI cL u) sz)) (va_Qv (fun t => t = r) (fun t => wPost dC dI cI cL (va_A (cw ad cI cL u) sz) (cw ad cI cL t)) (va_A (cw ad cI cL u) sz)) 0 0 (va_A (cw ad cI cL u) sz) := by
  refine Met.ofW (cc := cX0_fillLights) (maxL := 5) (ret := none) (by decide) rfl ?_
  intro p e s m args below meth c s₁ B hml hv
  obtain ⟨rfl, hsz, hP, hK, hD0, hZ⟩ := hv
  have hx := B.exec
  have hb := B.bytes
  have hr := B.returns
  have hts := atoms_spec (ws := wsX0_fillLights) B.pre
  have hown : s.vm.findClass RX0 = some m.cls := findClass_of_methodNamed B.named
  have hlocks := B.notSynchronized
  subst hsz
  have hD := hD0.self (sz := s.heap.size)
  generalize hAe : va_A (cw ad cI cL u) s.heap.size = A at hD ⊢
  have hA : ∀ q : Nat, s.heap.size ≤ q → A q := fun q h => by rw [← hAe]; exact Or.inr h
  have hS : va_S A s.heap s.heap [] := va_S.rf
  have iX0 : ∀ w ∈ u_ws RX0 TX0 12, w ∈ wsX0_fillLights := fun _ h => List.mem_cons_of_mem _ (List.mem_append_left _ (List.mem_append_right _ h))
  have iX2 : ∀ w ∈ u_ws RX2 TX2 14, w ∈ wsX0_fillLights := fun _ h => List.mem_cons_of_mem _ (List.mem_append_right _ h)
  have k_0 := hts (.fieldLink RX0 30 "LampChoice$Choice" "room" "LLampChoice$Room;") (by decide +kernel)
  have k_1 := hts (.fieldLink RX0 65 "LampChoice$Room" "places" "I") (by decide +kernel)
  have k_2 := hts (.fieldLink RX0 88 "LampChoice$Room" "kinds" "I") (by decide +kernel)
  have k_3 := hts (.fieldLink RX0 75 "LampChoice$Room" "points" "I") (by decide +kernel)
  have k_4 := hts (.fieldLink RX0 9 "LampChoice$Choice" "lights" "[I") (by decide +kernel)
  have hl := lv_entry ([.ref (ad 2)]) (n := 5) (Nat.le_of_ble_eq_true rfl)
  rw [lg_entry_eq]
  generalize (lg_sl ([.ref (ad 2)]) ++ List.replicate (5 - (lg_sl ([.ref (ad 2)])).length) Slot.unset).toArray = ls at hl ⊢
  have hl : lv_has ls 5 [(0, .ref (ad 2))] := hl
  have key : ∀ n : Nat, (∀ (v1 : Int32) (v2 : Int32) (v3 : Int32) (v4 : Int32) (u : St) (H : Heap) (locs : List Loc) (ls : Array Slot), fX0_fillLights n 0 v1 v2 v3 v4 u = some r → va_P (dC, dI) vwCl (cw ad cI cL u) H → va_D A (cw ad cI cL u) → va_S A s.heap H locs → lv_has ls 5 [(0, .ref (ad 2))] → W p l e (headSpec wsX0_fillLights ({ frames := 2, cells := 0, slots := 0, locals := 48 })).room s m ([.ref (ad 2)] : List Value).toArray below meth c H locs 0 0 (MQ below (va_Qv (fun t => t = r) (fun t => wPost dC dI cI cL A (cw ad cI cL t)) A) ([.ref (ad 2)] : List Value).toArray s 0 0 A) (F0 m 0 ls [])) ∧ (∀ (v1 : Int32) (v2 : Int32) (v3 : Int32) (v4 : Int32) (u : St) (H : Heap) (locs : List Loc) (ls : Array Slot), fX0_fillLights n 2 v1 v2 v3 v4 u = some r → va_P (dC, dI) vwCl (cw ad cI cL u) H → va_D A (cw ad cI cL u) → va_S A s.heap H locs → lv_has ls 5 [(0, .ref (ad 2)), (1, .int v1)] → W p l e (headSpec wsX0_fillLights ({ frames := 2, cells := 0, slots := 0, locals := 48 })).room s m ([.ref (ad 2)] : List Value).toArray below meth c H locs 0 0 (MQ below (va_Qv (fun t => t = r) (fun t => wPost dC dI cI cL A (cw ad cI cL t)) A) ([.ref (ad 2)] : List Value).toArray s 0 0 A) (F0 m 2 ls [])) ∧ (∀ (v1 : Int32) (v2 : Int32) (v3 : Int32) (v4 : Int32) (u : St) (H : Heap) (locs : List Loc) (ls : Array Slot), fX0_fillLights n 15 v1 v2 v3 v4 u = some r → va_P (dC, dI) vwCl (cw ad cI cL u) H → va_D A (cw ad cI cL u) → va_S A s.heap H locs → lv_has ls 5 [(0, .ref (ad 2)), (1, .int v1), (2, .int v2)] → W p l e (headSpec wsX0_fillLights ({ frames := 2, cells := 0, slots := 0, locals := 48 })).room s m ([.ref (ad 2)] : List Value).toArray below meth c H locs 0 0 (MQ below (va_Qv (fun t => t = r) (fun t => wPost dC dI cI cL A (cw ad cI cL t)) A) ([.ref (ad 2)] : List Value).toArray s 0 0 A) (F0 m 15 ls [])) ∧ (∀ (v1 : Int32) (v2 : Int32) (v3 : Int32) (v4 : Int32) (u : St) (H : Heap) (locs : List Loc) (ls : Array Slot), fX0_fillLights n 35 v1 v2 v3 v4 u = some r → va_P (dC, dI) vwCl (cw ad cI cL u) H → va_D A (cw ad cI cL u) → va_S A s.heap H locs → lv_has ls 5 [(0, .ref (ad 2)), (1, .int v1), (2, .int v2), (3, .int v3), (4, .int v4)] → W p l e (headSpec wsX0_fillLights ({ frames := 2, cells := 0, slots := 0, locals := 48 })).room s m ([.ref (ad 2)] : List Value).toArray below meth c H locs 0 0 (MQ below (va_Qv (fun t => t = r) (fun t => wPost dC dI cI cL A (cw ad cI cL t)) A) ([.ref (ad 2)] : List Value).toArray s 0 0 A) (F0 m 35 ls [])) := by
    intro n
    induction n with
    | zero => exact ⟨(fun _ _ _ _ _ _ _ _ hf => nomatch (show (none : Option (St)) = some r from hf)), (fun _ _ _ _ _ _ _ _ hf => nomatch (show (none : Option (St)) = some r from hf)), (fun _ _ _ _ _ _ _ _ hf => nomatch (show (none : Option (St)) = some r from hf)), (fun _ _ _ _ _ _ _ _ hf => nomatch (show (none : Option (St)) = some r from hf))⟩
    | succ n ih =>
      obtain ⟨ih0, ih1, ih2, ih3⟩ := ih
      refine ⟨?_, ?_, ?_, ?_⟩
      · intro v1 v2 v3 v4 u H locs ls hf hP hD hS hl
        have hf := (eX0_fillLights_0 n v1 v2 v3 v4 u).symm.trans hf
        refine lv_iconst (v := 0) hx hb dX0_fillLights_0 (by decide) ?_
        refine lv_istore_n (lv' := [(1, .int (0 : Int32)), (0, .ref (ad 2))]) hx hb dX0_fillLights_1 rfl hl (by decide) rfl (fun ls hl => ?_)
        exact ih1 (0 : Int32) 0 0 0 u H locs ls hf hP hD hS (lv_sub hl [1, 0] rfl)
      · intro v1 v2 v3 v4 u H locs ls hf hP hD hS hl
        have hf := (eX0_fillLights_2 n v1 v2 v3 v4 u).symm.trans hf
        refine lv_iload_n hx hb dX0_fillLights_2 rfl (lv_at hl 1 rfl) ?_
        refine lv_aload_n hx hb dX0_fillLights_3 rfl (lv_at hl 0 rfl) ?_
        refine va_get (D := (dC, dI)) (ci := 0) (v := .ref (ad 1)) (C := RX0) (T := TX0) (N := 12) hx hb hts iX0 hown hK hP 2 rfl rfl 0 (by decide) k_0 (fun _ h9 => h9) rfl dX0_fillLights_4 ?_
        refine va_get (D := (dC, dI)) (ci := 2) (v := .int (gI u 1)) (C := RX2) (T := TX2) (N := 14) hx hb hts iX2 hown hK hP 1 rfl rfl 11 (by decide) k_1 (fun _ h9 => h9) rfl dX0_fillLights_7 ?_
        refine lv_icmp_ge (tgt := 85) hx hb dX0_fillLights_10 (by decide) (fun c_1 => ?_) (fun c_1 => ?_)
        · have hf := (if_pos c_1).symm.trans hf
          have hf := Option.some.inj hf
          exact W.vret hx hb hr (fun t ht hW => ⟨⟨u, rfl, hf, ⟨by rw [ht]; exact hP, va_K.moved hW.alike hK, hD⟩⟩, hS.F ht⟩) hS.2.2 dX0_fillLights_85
        · have hf := (if_neg c_1).symm.trans hf
          refine lv_iconst (v := 0) hx hb dX0_fillLights_13 (by decide) ?_
          refine lv_istore_n (lv' := [(2, .int (0 : Int32)), (0, .ref (ad 2)), (1, .int v1)]) hx hb dX0_fillLights_14 rfl hl (by decide) rfl (fun ls hl => ?_)
          exact ih2 v1 (0 : Int32) 0 0 u H locs ls hf hP hD hS (lv_sub hl [1, 2, 0] rfl)
      · intro v1 v2 v3 v4 u H locs ls hf hP hD hS hl
        have hf := (eX0_fillLights_15 n v1 v2 v3 v4 u).symm.trans hf
        refine lv_iload_n hx hb dX0_fillLights_15 rfl (lv_at hl 2 rfl) ?_
        refine lv_aload_n hx hb dX0_fillLights_16 rfl (lv_at hl 0 rfl) ?_
        refine va_get (D := (dC, dI)) (ci := 0) (v := .ref (ad 1)) (C := RX0) (T := TX0) (N := 12) hx hb hts iX0 hown hK hP 2 rfl rfl 0 (by decide) k_0 (fun _ h9 => h9) rfl dX0_fillLights_17 ?_
        refine va_get (D := (dC, dI)) (ci := 2) (v := .int (gI u 0)) (C := RX2) (T := TX2) (N := 14) hx hb hts iX2 hown hK hP 1 rfl rfl 10 (by decide) k_2 (fun _ h9 => h9) rfl dX0_fillLights_20 ?_
        refine lv_icmp_ge (tgt := 79) hx hb dX0_fillLights_23 (by decide) (fun c_2 => ?_) (fun c_2 => ?_)
        · have hf := (if_pos c_2).symm.trans hf
          refine lv_iinc (v := (v1 + 1)) (lv' := [(1, .int (v1 + 1)), (0, .ref (ad 2)), (2, .int v2)]) hx hb dX0_fillLights_79 hl (k := 1) rfl rfl (by decide) rfl (fun ls hl => ?_)
          refine lv_goto (tgt := 2) hx hb dX0_fillLights_82 (by decide) ?_
          exact ih1 (v1 + 1) 0 0 0 u H locs ls hf hP hD hS (lv_sub hl [1, 0] rfl)
        · have hf := (if_neg c_2).symm.trans hf
          refine lv_iload_n hx hb dX0_fillLights_26 rfl (lv_at hl 1 rfl) ?_
          refine lv_iload_n hx hb dX0_fillLights_27 rfl (lv_at hl 2 rfl) ?_
          obtain ⟨w_3, hw_3, hf⟩ := ob hf
          have hFc := freeNil hS hA
          refine va_calli (va_runS (As := [.int v1, .int v2]) (rest := []) ⟨hx, hb, hml, hown, hts⟩ (mX0_lightRow l H.size v1 v2 n w_3 hw_3) (va_cwS 2 hts gX0_fillLights_X0_lightRow rfl rfl rfl (by decide +kernel) ⟨Nat.le_of_ble_eq_true rfl, Nat.le_of_ble_eq_true rfl⟩) ⟨nPre_blind, nPre_of⟩ rfl rfl hl.1 rfl (lv_room (Nat.le_of_ble_eq_true rfl)) dX0_fillLights_28 ⟨Nat.zero_le _, Nat.zero_le _⟩) hS (fun q _ h => hFc q h) hFc (fun r2 u2 t H1 locs ht hvm hw hB hz1 hk1 hS => ?_)
          subst r2
          have hP := keepP hP hk1
          clear hFc hk1 hB
          generalize H1 = H at hP hS ⊢
          refine lv_istore_n (lv' := [(3, .int w_3), (0, .ref (ad 2)), (1, .int v1), (2, .int v2)]) hx hb dX0_fillLights_31 rfl hl (by decide) rfl (fun ls hl => ?_)
          refine lv_iconst (v := 0) hx hb dX0_fillLights_32 (by decide) ?_
          refine lv_istore (lv' := [(4, .int (0 : Int32)), (3, .int w_3), (0, .ref (ad 2)), (1, .int v1), (2, .int v2)]) hx hb dX0_fillLights_33 hl (by decide) rfl (fun ls hl => ?_)
          exact ih3 v1 v2 w_3 (0 : Int32) u H locs ls hf hP hD hS (lv_sub hl [2, 3, 4, 1, 0] rfl)
      · intro v1 v2 v3 v4 u H locs ls hf hP hD hS hl
        have hf := (eX0_fillLights_35 n v1 v2 v3 v4 u).symm.trans hf
        refine lv_iload hx hb dX0_fillLights_35 (lv_at hl 4 rfl) ?_
        refine lv_aload_n hx hb dX0_fillLights_37 rfl (lv_at hl 0 rfl) ?_
        refine va_get (D := (dC, dI)) (ci := 0) (v := .ref (ad 1)) (C := RX0) (T := TX0) (N := 12) hx hb hts iX0 hown hK hP 2 rfl rfl 0 (by decide) k_0 (fun _ h9 => h9) rfl dX0_fillLights_38 ?_
        refine va_get (D := (dC, dI)) (ci := 2) (v := .int (gI u 2)) (C := RX2) (T := TX2) (N := 14) hx hb hts iX2 hown hK hP 1 rfl rfl 12 (by decide) k_3 (fun _ h9 => h9) rfl dX0_fillLights_41 ?_
        refine lv_icmp_ge (tgt := 73) hx hb dX0_fillLights_44 (by decide) (fun c_4 => ?_) (fun c_4 => ?_)
        · have hf := (if_pos c_4).symm.trans hf
          refine lv_iinc (v := (v2 + 1)) (lv' := [(2, .int (v2 + 1)), (0, .ref (ad 2)), (1, .int v1), (3, .int v3), (4, .int v4)]) hx hb dX0_fillLights_73 hl (k := 2) rfl rfl (by decide) rfl (fun ls hl => ?_)
          refine lv_goto (tgt := 15) hx hb dX0_fillLights_76 (by decide) ?_
          exact ih2 v1 (v2 + 1) 0 0 u H locs ls hf hP hD hS (lv_sub hl [1, 2, 0] rfl)
        · have hf := (if_neg c_4).symm.trans hf
          refine lv_aload_n hx hb dX0_fillLights_47 rfl (lv_at hl 0 rfl) ?_
          refine va_get (D := (dC, dI)) (ci := 0) (v := .ref (ad 15)) (C := RX0) (T := TX0) (N := 12) hx hb hts iX0 hown hK hP 2 rfl rfl 1 (by decide) k_4 (fun _ h9 => h9) rfl dX0_fillLights_48 ?_
          refine lv_iload_n hx hb dX0_fillLights_51 rfl (lv_at hl 3 rfl) ?_
          refine lv_iload hx hb dX0_fillLights_52 (lv_at hl 4 rfl) ?_
          refine lv_iadd hx hb dX0_fillLights_54 ?_
          refine lv_aload_n hx hb dX0_fillLights_55 rfl (lv_at hl 0 rfl) ?_
          refine va_get (D := (dC, dI)) (ci := 0) (v := .ref (ad 1)) (C := RX0) (T := TX0) (N := 12) hx hb hts iX0 hown hK hP 2 rfl rfl 0 (by decide) k_0 (fun _ h9 => h9) rfl dX0_fillLights_56 ?_
          refine lv_iload_n hx hb dX0_fillLights_59 rfl (lv_at hl 2 rfl) ?_
          refine lv_iload_n hx hb dX0_fillLights_60 rfl (lv_at hl 1 rfl) ?_
          refine lv_iload hx hb dX0_fillLights_61 (lv_at hl 4 rfl) ?_
          obtain ⟨w_5, hw_5, hf⟩ := ob hf
          have hFc := freeAll hD hS hA
          refine va_calli (va_runV (As := [.int v2, .int v1, .int v4]) (rest := [.int (v3 + v4), .ref (ad 15)]) ⟨hx, hb, hml, hown, hts⟩ (mX2_lightOf l dC dI cI cL ad H.size u v2 v1 v4 n w_5 hw_5) (cwV 3 hts gX0_fillLights_X2_lightOf rfl rfl rfl (by decide +kernel) ⟨Nat.le_of_ble_eq_true rfl, Nat.le_of_ble_eq_true rfl⟩) ⟨wPre_blind, va_recv hK hP (ci := 2) (q0 := 1) rfl rfl, wPre_of hP hK hD hZ⟩ rfl rfl hl.1 rfl (lv_room (Nat.le_of_ble_eq_true rfl)) dX0_fillLights_63 ⟨Nat.zero_le _, Nat.zero_le _⟩) hS (fun q _ h => hFc q h) hFc (fun r2 u2 t H1 locs ht hvm hw hB hz1 hk1 hS => ?_)
          obtain ⟨hP1, hK1, hD1⟩ := hB
          rw [ht] at hP1
          have e1 : r2 = w_5.1 := congrArg Prod.fst hw
          have e2 : u2 = w_5.2 := congrArg Prod.snd hw
          subst r2 u2
          have hP : va_P (dC, dI) vwCl (cw ad cI cL w_5.2) H1 := hP1
          have hD : va_D A (cw ad cI cL w_5.2) := hD1.weaken (fun _ _ _ h => hFc _ h)
          clear hP1 hD1 hK1 hFc hk1
          generalize H1 = H at hP hS ⊢
          obtain ⟨h_6, hf⟩ := ck_of hf
          refine va_iast (f := (gA w_5.2 10)) hx hb hK hP hD hS 15 0 rfl rfl h_6 dX0_fillLights_66 (fun H locs hP hD hS => ?_)
          have hP : va_P (dC, dI) vwCl (cw ad cI cL (sA w_5.2 10 (upd (gA w_5.2 10) (v3 + v4).toNatClampNeg w_5.1))) H := hP
          have hD : va_D A (cw ad cI cL (sA w_5.2 10 (upd (gA w_5.2 10) (v3 + v4).toNatClampNeg w_5.1))) := hD
          refine lv_iinc (v := (v4 + 1)) (lv' := [(4, .int (v4 + 1)), (0, .ref (ad 2)), (1, .int v1), (2, .int v2), (3, .int v3)]) hx hb dX0_fillLights_67 hl (k := 4) rfl rfl (by decide) rfl (fun ls hl => ?_)
          refine lv_goto (tgt := 35) hx hb dX0_fillLights_70 (by decide) ?_
          exact ih3 v1 v2 v3 (v4 + 1) (sA w_5.2 10 (upd (gA w_5.2 10) (v3 + v4).toNatClampNeg w_5.1)) H locs ls hf hP hD hS (lv_sub hl [1, 2, 3, 4, 0] rfl)
  exact (key n).1 0 0 0 0 u _ _ ls hf0 hP hD hS (lv_sub hl [0] rfl)

def fX0_mostLight (n pc : Nat) (v1 : Int32) (v2 : Int32) (v3 : Int32) (v4 : Int32) (u : St) : Option (Int32 × St) := match n with
  | 0 => none
  | n + 1 => match pc with
    | 0 => fX0_mostLight n 5 v1 v2 (0 : Int32) (0 : Int32) u
    | 5 => (if (gI u 0) ≤ v4 then some (v3, u) else ((FX2_mayHave n v1 v4 u).bind fun w_2 => (if w_2.1 = 0 then fX0_mostLight n 5 v1 v2 v3 (v4 + 1) w_2.2 else ((FX0_lightRow n v1 v4).bind fun w_4 => (if ck (w_4 + v2) 336 = true then fX0_mostLight n 5 v1 v2 (if v3 < ((gA w_2.2 10) (w_4 + v2).toNatClampNeg) then ((gA w_2.2 10) (w_4 + v2).toNatClampNeg) else v3) (v4 + 1) w_2.2 else none)))))
    | _ => none
theorem eX0_mostLight_0 (n : Nat) (v1 : Int32) (v2 : Int32) (v3 : Int32) (v4 : Int32) (u : St) : fX0_mostLight (n + 1) 0 v1 v2 v3 v4 u = fX0_mostLight n 5 v1 v2 (0 : Int32) (0 : Int32) u := rfl
theorem eX0_mostLight_5 (n : Nat) (v1 : Int32) (v2 : Int32) (v3 : Int32) (v4 : Int32) (u : St) : fX0_mostLight (n + 1) 5 v1 v2 v3 v4 u = (if (gI u 0) ≤ v4 then some (v3, u) else ((FX2_mayHave n v1 v4 u).bind fun w_2 => (if w_2.1 = 0 then fX0_mostLight n 5 v1 v2 v3 (v4 + 1) w_2.2 else ((FX0_lightRow n v1 v4).bind fun w_4 => (if ck (w_4 + v2) 336 = true then fX0_mostLight n 5 v1 v2 (if v3 < ((gA w_2.2 10) (w_4 + v2).toNatClampNeg) then ((gA w_2.2 10) (w_4 + v2).toNatClampNeg) else v3) (v4 + 1) w_2.2 else none))))) := rfl
theorem vX0_mostLight_0 (v1 : Int32) (v2 : Int32) (v3 : Int32) (v4 : Int32) (u : St) (r : Int32 × St) : Ev (fun n => fX0_mostLight n 0 v1 v2 v3 v4 u) r ↔ Ev (fun n => fX0_mostLight n 5 v1 v2 (0 : Int32) (0 : Int32) u) r := Ev_succ (fun n => fX0_mostLight n 0 v1 v2 v3 v4 u) r
theorem vX0_mostLight_5 (v1 : Int32) (v2 : Int32) (v3 : Int32) (v4 : Int32) (u : St) (r : Int32 × St) : Ev (fun n => fX0_mostLight n 5 v1 v2 v3 v4 u) r ↔ Ev (fun n => (if (gI u 0) ≤ v4 then some (v3, u) else ((FX2_mayHave n v1 v4 u).bind fun w_2 => (if w_2.1 = 0 then fX0_mostLight n 5 v1 v2 v3 (v4 + 1) w_2.2 else ((FX0_lightRow n v1 v4).bind fun w_4 => (if ck (w_4 + v2) 336 = true then fX0_mostLight n 5 v1 v2 (if v3 < ((gA w_2.2 10) (w_4 + v2).toNatClampNeg) then ((gA w_2.2 10) (w_4 + v2).toNatClampNeg) else v3) (v4 + 1) w_2.2 else none)))))) r := Ev_succ (fun n => fX0_mostLight n 5 v1 v2 v3 v4 u) r
def FX0_mostLight (n : Nat) (v1 : Int32) (v2 : Int32) (u : St) : Option (Int32 × St) := fX0_mostLight n 0 v1 v2 0 0 u
set_option maxHeartbeats 4000000 in
set_option maxRecDepth 100000 in
theorem mX0_mostLight (l : Launch) (dC : Nat → ClassId) (dI : Nat → Nat → Nat) (cI cL : ClassId) (ad : Nat → Nat) (sz : Nat) (u : St) (z1 : Int32) (z2 : Int32) (n : Nat) (r : Int32 × St) (hf0 : FX0_mostLight n z1 z2 u = some r) : Met l yX0_mostLight wsX0_mostLight ({ frames := 1, cells := 0, slots := 0, locals := 22 }) (va_Pc [.ref (ad 2), .int z1, .int z2] (wPre dC dI cI cL (cw ad cI cL u) sz)) (va_Qi (fun a t => (a, t) = r) (fun t => wPost dC dI cI cL (va_A (cw ad cI cL u) sz) (cw ad cI cL t)) (va_A (cw ad cI cL u) sz)) 0 0 (va_A (cw ad cI cL u) sz) := by
  refine Met.ofW (cc := cX0_mostLight) (maxL := 5) (ret := (some .int)) (by decide) rfl ?_
  intro p e s m args below meth c s₁ B hml hv
  obtain ⟨rfl, hsz, hP, hK, hD0, hZ⟩ := hv
  have hx := B.exec
  have hb := B.bytes
  have hr := B.returns
  have hts := atoms_spec (ws := wsX0_mostLight) B.pre
  have hown : s.vm.findClass RX0 = some m.cls := findClass_of_methodNamed B.named
  have hlocks := B.notSynchronized
  subst hsz
  have hD := hD0.self (sz := s.heap.size)
  generalize hAe : va_A (cw ad cI cL u) s.heap.size = A at hD ⊢
  have hA : ∀ q : Nat, s.heap.size ≤ q → A q := fun q h => by rw [← hAe]; exact Or.inr h
  have hS : va_S A s.heap s.heap [] := va_S.rf
  have iX0 : ∀ w ∈ u_ws RX0 TX0 12, w ∈ wsX0_mostLight := fun _ h => List.mem_cons_of_mem _ (List.mem_append_left _ (List.mem_append_right _ h))
  have iX2 : ∀ w ∈ u_ws RX2 TX2 14, w ∈ wsX0_mostLight := fun _ h => List.mem_cons_of_mem _ (List.mem_append_right _ h)
  have k_0 := hts (.fieldLink RX0 30 "LampChoice$Choice" "room" "LLampChoice$Room;") (by decide +kernel)
  have k_1 := hts (.fieldLink RX0 88 "LampChoice$Room" "kinds" "I") (by decide +kernel)
  have k_2 := hts (.fieldLink RX0 9 "LampChoice$Choice" "lights" "[I") (by decide +kernel)
  have k_3 := hts (.methodLink RX0 102 Lib.Math.max.name) (by decide +kernel)
  have k_4 := hts (.static Lib.Math.max.name) (by decide +kernel)
  have k_5 := hts (.initialized "java/lang/Math") (by decide +kernel)
  have k_6 := hts (.code Lib.Math.max.name Lib.Math.max.code 2 (some .int)) (by decide +kernel)
  have hl := lv_entry ([.ref (ad 2), .int z1, .int z2]) (n := 5) (Nat.le_of_ble_eq_true rfl)
  rw [lg_entry_eq]
  generalize (lg_sl ([.ref (ad 2), .int z1, .int z2]) ++ List.replicate (5 - (lg_sl ([.ref (ad 2), .int z1, .int z2])).length) Slot.unset).toArray = ls at hl ⊢
  have hl : lv_has ls 5 [(0, .ref (ad 2)), (1, .int z1), (2, .int z2)] := hl
  have key : ∀ n : Nat, (∀ (v1 : Int32) (v2 : Int32) (v3 : Int32) (v4 : Int32) (u : St) (H : Heap) (locs : List Loc) (ls : Array Slot), fX0_mostLight n 0 v1 v2 v3 v4 u = some r → va_P (dC, dI) vwCl (cw ad cI cL u) H → va_D A (cw ad cI cL u) → va_S A s.heap H locs → lv_has ls 5 [(0, .ref (ad 2)), (1, .int v1), (2, .int v2)] → W p l e (headSpec wsX0_mostLight ({ frames := 1, cells := 0, slots := 0, locals := 22 })).room s m ([.ref (ad 2), .int z1, .int z2] : List Value).toArray below meth c H locs 0 0 (MQ below (va_Qi (fun a t => (a, t) = r) (fun t => wPost dC dI cI cL A (cw ad cI cL t)) A) ([.ref (ad 2), .int z1, .int z2] : List Value).toArray s 0 0 A) (F0 m 0 ls [])) ∧ (∀ (v1 : Int32) (v2 : Int32) (v3 : Int32) (v4 : Int32) (u : St) (H : Heap) (locs : List Loc) (ls : Array Slot), fX0_mostLight n 5 v1 v2 v3 v4 u = some r → va_P (dC, dI) vwCl (cw ad cI cL u) H → va_D A (cw ad cI cL u) → va_S A s.heap H locs → lv_has ls 5 [(0, .ref (ad 2)), (1, .int v1), (2, .int v2), (3, .int v3), (4, .int v4)] → W p l e (headSpec wsX0_mostLight ({ frames := 1, cells := 0, slots := 0, locals := 22 })).room s m ([.ref (ad 2), .int z1, .int z2] : List Value).toArray below meth c H locs 0 0 (MQ below (va_Qi (fun a t => (a, t) = r) (fun t => wPost dC dI cI cL A (cw ad cI cL t)) A) ([.ref (ad 2), .int z1, .int z2] : List Value).toArray s 0 0 A) (F0 m 5 ls [])) := by
    intro n
    induction n with
    | zero => exact ⟨(fun _ _ _ _ _ _ _ _ hf => nomatch (show (none : Option (Int32 × St)) = some r from hf)), (fun _ _ _ _ _ _ _ _ hf => nomatch (show (none : Option (Int32 × St)) = some r from hf))⟩
    | succ n ih =>
      obtain ⟨ih0, ih1⟩ := ih
      refine ⟨?_, ?_⟩
      · intro v1 v2 v3 v4 u H locs ls hf hP hD hS hl
        have hf := (eX0_mostLight_0 n v1 v2 v3 v4 u).symm.trans hf
        refine lv_iconst (v := 0) hx hb dX0_mostLight_0 (by decide) ?_
        refine lv_istore_n (lv' := [(3, .int (0 : Int32)), (0, .ref (ad 2)), (1, .int v1), (2, .int v2)]) hx hb dX0_mostLight_1 rfl hl (by decide) rfl (fun ls hl => ?_)
        refine lv_iconst (v := 0) hx hb dX0_mostLight_2 (by decide) ?_
        refine lv_istore (lv' := [(4, .int (0 : Int32)), (3, .int (0 : Int32)), (0, .ref (ad 2)), (1, .int v1), (2, .int v2)]) hx hb dX0_mostLight_3 hl (by decide) rfl (fun ls hl => ?_)
        exact ih1 v1 v2 (0 : Int32) (0 : Int32) u H locs ls hf hP hD hS (lv_sub hl [2, 3, 4, 1, 0] rfl)
      · intro v1 v2 v3 v4 u H locs ls hf hP hD hS hl
        have hf := (eX0_mostLight_5 n v1 v2 v3 v4 u).symm.trans hf
        refine lv_iload hx hb dX0_mostLight_5 (lv_at hl 4 rfl) ?_
        refine lv_aload_n hx hb dX0_mostLight_7 rfl (lv_at hl 0 rfl) ?_
        refine va_get (D := (dC, dI)) (ci := 0) (v := .ref (ad 1)) (C := RX0) (T := TX0) (N := 12) hx hb hts iX0 hown hK hP 2 rfl rfl 0 (by decide) k_0 (fun _ h9 => h9) rfl dX0_mostLight_8 ?_
        refine va_get (D := (dC, dI)) (ci := 2) (v := .int (gI u 0)) (C := RX2) (T := TX2) (N := 14) hx hb hts iX2 hown hK hP 1 rfl rfl 10 (by decide) k_1 (fun _ h9 => h9) rfl dX0_mostLight_11 ?_
        refine lv_icmp_ge (tgt := 54) hx hb dX0_mostLight_14 (by decide) (fun c_1 => ?_) (fun c_1 => ?_)
        · have hf := (if_pos c_1).symm.trans hf
          refine lv_iload_n hx hb dX0_mostLight_54 rfl (lv_at hl 3 rfl) ?_
          have hf := Option.some.inj hf
          exact W.iret (v := v3) hx hb hr (fun t ht hW => ⟨⟨v3, u, rfl, hf, ⟨by rw [ht]; exact hP, va_K.moved hW.alike hK, hD⟩⟩, hS.F ht⟩) hS.2.2 dX0_mostLight_55
        · have hf := (if_neg c_1).symm.trans hf
          refine lv_aload_n hx hb dX0_mostLight_17 rfl (lv_at hl 0 rfl) ?_
          refine va_get (D := (dC, dI)) (ci := 0) (v := .ref (ad 1)) (C := RX0) (T := TX0) (N := 12) hx hb hts iX0 hown hK hP 2 rfl rfl 0 (by decide) k_0 (fun _ h9 => h9) rfl dX0_mostLight_18 ?_
          refine lv_iload_n hx hb dX0_mostLight_21 rfl (lv_at hl 1 rfl) ?_
          refine lv_iload hx hb dX0_mostLight_22 (lv_at hl 4 rfl) ?_
          obtain ⟨w_2, hw_2, hf⟩ := ob hf
          have hFc := freeAll hD hS hA
          refine va_calli (va_runV (As := [.int v1, .int v4]) (rest := []) ⟨hx, hb, hml, hown, hts⟩ (mX2_mayHave l dC dI cI cL ad H.size u v1 v4 n w_2 hw_2) (cwV 2 hts gX0_mostLight_X2_mayHave rfl rfl rfl (by decide +kernel) ⟨Nat.le_of_ble_eq_true rfl, Nat.le_of_ble_eq_true rfl⟩) ⟨wPre_blind, va_recv hK hP (ci := 2) (q0 := 1) rfl rfl, wPre_of hP hK hD hZ⟩ rfl rfl hl.1 rfl (lv_room (Nat.le_of_ble_eq_true rfl)) dX0_mostLight_24 ⟨Nat.zero_le _, Nat.zero_le _⟩) hS (fun q _ h => hFc q h) hFc (fun r2 u2 t H1 locs ht hvm hw hB hz1 hk1 hS => ?_)
          obtain ⟨hP1, hK1, hD1⟩ := hB
          rw [ht] at hP1
          have e1 : r2 = w_2.1 := congrArg Prod.fst hw
          have e2 : u2 = w_2.2 := congrArg Prod.snd hw
          subst r2 u2
          have hP : va_P (dC, dI) vwCl (cw ad cI cL w_2.2) H1 := hP1
          have hD : va_D A (cw ad cI cL w_2.2) := hD1.weaken (fun _ _ _ h => hFc _ h)
          clear hP1 hD1 hK1 hFc hk1
          generalize H1 = H at hP hS ⊢
          refine lv_if_eq (tgt := 48) hx hb dX0_mostLight_27 (by decide) (fun c_3 => ?_) (fun c_3 => ?_)
          · have hf := (if_pos c_3).symm.trans hf
            refine lv_iinc (v := (v4 + 1)) (lv' := [(4, .int (v4 + 1)), (0, .ref (ad 2)), (1, .int v1), (2, .int v2), (3, .int v3)]) hx hb dX0_mostLight_48 hl (k := 4) rfl rfl (by decide) rfl (fun ls hl => ?_)
            refine lv_goto (tgt := 5) hx hb dX0_mostLight_51 (by decide) ?_
            exact ih1 v1 v2 v3 (v4 + 1) w_2.2 H locs ls hf hP hD hS (lv_sub hl [1, 2, 3, 4, 0] rfl)
          · have hf := (if_neg c_3).symm.trans hf
            refine lv_iload_n hx hb dX0_mostLight_30 rfl (lv_at hl 3 rfl) ?_
            refine lv_aload_n hx hb dX0_mostLight_31 rfl (lv_at hl 0 rfl) ?_
            refine va_get (D := (dC, dI)) (ci := 0) (v := .ref (ad 15)) (C := RX0) (T := TX0) (N := 12) hx hb hts iX0 hown hK hP 2 rfl rfl 1 (by decide) k_2 (fun _ h9 => h9) rfl dX0_mostLight_32 ?_
            refine lv_iload_n hx hb dX0_mostLight_35 rfl (lv_at hl 1 rfl) ?_
            refine lv_iload hx hb dX0_mostLight_36 (lv_at hl 4 rfl) ?_
            obtain ⟨w_4, hw_4, hf⟩ := ob hf
            have hFc := freeNil hS hA
            refine va_calli (va_runS (As := [.int v1, .int v4]) (rest := [.ref (ad 15), .int v3]) ⟨hx, hb, hml, hown, hts⟩ (mX0_lightRow l H.size v1 v4 n w_4 hw_4) (va_cwS 2 hts gX0_mostLight_X0_lightRow rfl rfl rfl (by decide +kernel) ⟨Nat.le_of_ble_eq_true rfl, Nat.le_of_ble_eq_true rfl⟩) ⟨nPre_blind, nPre_of⟩ rfl rfl hl.1 rfl (lv_room (Nat.le_of_ble_eq_true rfl)) dX0_mostLight_38 ⟨Nat.zero_le _, Nat.zero_le _⟩) hS (fun q _ h => hFc q h) hFc (fun r2 u2 t H1 locs ht hvm hw hB hz1 hk1 hS => ?_)
            subst r2
            have hP := keepP hP hk1
            clear hFc hk1 hB
            generalize H1 = H at hP hS ⊢
            refine lv_iload_n hx hb dX0_mostLight_41 rfl (lv_at hl 2 rfl) ?_
            refine lv_iadd hx hb dX0_mostLight_42 ?_
            obtain ⟨h_5, hf⟩ := ck_of hf
            refine va_iald (f := (gA w_2.2 10)) hx hb hK hP 15 0 rfl rfl h_5 dX0_mostLight_43 ?_
            refine va_mmax hx hb (by rw [hml]; exact hl.1.symm) hown k_3 k_4 k_5 k_6 (Nat.le_of_ble_eq_true rfl) (Nat.le_of_ble_eq_true rfl) (Nat.zero_le _) (Nat.zero_le _) dX0_mostLight_44 ?_
            refine lv_istore_n (lv' := [(3, .int (if v3 < ((gA w_2.2 10) (w_4 + v2).toNatClampNeg) then ((gA w_2.2 10) (w_4 + v2).toNatClampNeg) else v3)), (0, .ref (ad 2)), (1, .int v1), (2, .int v2), (4, .int v4)]) hx hb dX0_mostLight_47 rfl hl (by decide) rfl (fun ls hl => ?_)
            refine lv_iinc (v := (v4 + 1)) (lv' := [(4, .int (v4 + 1)), (3, .int (if v3 < ((gA w_2.2 10) (w_4 + v2).toNatClampNeg) then ((gA w_2.2 10) (w_4 + v2).toNatClampNeg) else v3)), (0, .ref (ad 2)), (1, .int v1), (2, .int v2)]) hx hb dX0_mostLight_48 hl (k := 4) rfl rfl (by decide) rfl (fun ls hl => ?_)
            refine lv_goto (tgt := 5) hx hb dX0_mostLight_51 (by decide) ?_
            exact ih1 v1 v2 (if v3 < ((gA w_2.2 10) (w_4 + v2).toNatClampNeg) then ((gA w_2.2 10) (w_4 + v2).toNatClampNeg) else v3) (v4 + 1) w_2.2 H locs ls hf hP hD hS (lv_sub hl [2, 3, 4, 1, 0] rfl)
  exact (key n).1 z1 z2 0 0 u _ _ ls hf0 hP hD hS (lv_sub hl [0, 1, 2] rfl)

def fX0_fillReach (n pc : Nat) (v1 : Int32) (v2 : Int32) (u : St) : Option (St) := match n with
  | 0 => none
  | n + 1 => match pc with
    | 0 => fX0_fillReach n 10 ((gI u 1) - (1 : Int32)) 0 u
    | 10 => (if v1 < 0 then some u else fX0_fillReach n 16 v1 (0 : Int32) u)
    | 16 => (if (gI u 2) ≤ v2 then fX0_fillReach n 10 (v1 + (-1)) 0 u else (if ck (((v1 * (16 : Int32)) + v2) + (16 : Int32)) 128 = true then ((FX0_mostLight n v1 v2 u).bind fun w_4 => (if ck ((v1 * (16 : Int32)) + v2) 128 = true then fX0_fillReach n 16 v1 (v2 + 1) (sA w_4.2 11 (upd (gA w_4.2 11) ((v1 * (16 : Int32)) + v2).toNatClampNeg (((gA u 11) (((v1 * (16 : Int32)) + v2) + (16 : Int32)).toNatClampNeg) + w_4.1))) else none)) else none))
    | _ => none
theorem eX0_fillReach_0 (n : Nat) (v1 : Int32) (v2 : Int32) (u : St) : fX0_fillReach (n + 1) 0 v1 v2 u = fX0_fillReach n 10 ((gI u 1) - (1 : Int32)) 0 u := rfl
theorem eX0_fillReach_10 (n : Nat) (v1 : Int32) (v2 : Int32) (u : St) : fX0_fillReach (n + 1) 10 v1 v2 u = (if v1 < 0 then some u else fX0_fillReach n 16 v1 (0 : Int32) u) := rfl
theorem eX0_fillReach_16 (n : Nat) (v1 : Int32) (v2 : Int32) (u : St) : fX0_fillReach (n + 1) 16 v1 v2 u = (if (gI u 2) ≤ v2 then fX0_fillReach n 10 (v1 + (-1)) 0 u else (if ck (((v1 * (16 : Int32)) + v2) + (16 : Int32)) 128 = true then ((FX0_mostLight n v1 v2 u).bind fun w_4 => (if ck ((v1 * (16 : Int32)) + v2) 128 = true then fX0_fillReach n 16 v1 (v2 + 1) (sA w_4.2 11 (upd (gA w_4.2 11) ((v1 * (16 : Int32)) + v2).toNatClampNeg (((gA u 11) (((v1 * (16 : Int32)) + v2) + (16 : Int32)).toNatClampNeg) + w_4.1))) else none)) else none)) := rfl
theorem vX0_fillReach_0 (v1 : Int32) (v2 : Int32) (u : St) (r : St) : Ev (fun n => fX0_fillReach n 0 v1 v2 u) r ↔ Ev (fun n => fX0_fillReach n 10 ((gI u 1) - (1 : Int32)) 0 u) r := Ev_succ (fun n => fX0_fillReach n 0 v1 v2 u) r
theorem vX0_fillReach_10 (v1 : Int32) (v2 : Int32) (u : St) (r : St) : Ev (fun n => fX0_fillReach n 10 v1 v2 u) r ↔ Ev (fun n => (if v1 < 0 then some u else fX0_fillReach n 16 v1 (0 : Int32) u)) r := Ev_succ (fun n => fX0_fillReach n 10 v1 v2 u) r
theorem vX0_fillReach_16 (v1 : Int32) (v2 : Int32) (u : St) (r : St) : Ev (fun n => fX0_fillReach n 16 v1 v2 u) r ↔ Ev (fun n => (if (gI u 2) ≤ v2 then fX0_fillReach n 10 (v1 + (-1)) 0 u else (if ck (((v1 * (16 : Int32)) + v2) + (16 : Int32)) 128 = true then ((FX0_mostLight n v1 v2 u).bind fun w_4 => (if ck ((v1 * (16 : Int32)) + v2) 128 = true then fX0_fillReach n 16 v1 (v2 + 1) (sA w_4.2 11 (upd (gA w_4.2 11) ((v1 * (16 : Int32)) + v2).toNatClampNeg (((gA u 11) (((v1 * (16 : Int32)) + v2) + (16 : Int32)).toNatClampNeg) + w_4.1))) else none)) else none))) r := Ev_succ (fun n => fX0_fillReach n 16 v1 v2 u) r
def FX0_fillReach (n : Nat) (u : St) : Option (St) := fX0_fillReach n 0 0 0 u
set_option maxHeartbeats 4000000 in
set_option maxRecDepth 100000 in
theorem mX0_fillReach (l : Launch) (dC : Nat → ClassId) (dI : Nat → Nat → Nat) (cI cL : ClassId) (ad : Nat → Nat) (sz : Nat) (u : St) (n : Nat) (r : St) (hf0 : FX0_fillReach n  u = some r) : Met l yX0_fillReach wsX0_fillReach ({ frames := 2, cells := 0, slots := 0, locals := 46 }) (va_Pc [.ref (ad 2)] (wPre dC dI cI cL (cw ad cI cL u) sz)) (va_Qv (fun t => t = r) (fun t => wPost dC dI cI cL (va_A (cw ad cI cL u) sz) (cw ad cI cL t)) (va_A (cw ad cI cL u) sz)) 0 0 (va_A (cw ad cI cL u) sz) := by
  refine Met.ofW (cc := cX0_fillReach) (maxL := 4) (ret := none) (by decide) rfl ?_
  intro p e s m args below meth c s₁ B hml hv
  obtain ⟨rfl, hsz, hP, hK, hD0, hZ⟩ := hv
  have hx := B.exec
  have hb := B.bytes
  have hr := B.returns
  have hts := atoms_spec (ws := wsX0_fillReach) B.pre
  have hown : s.vm.findClass RX0 = some m.cls := findClass_of_methodNamed B.named
  have hlocks := B.notSynchronized
  subst hsz
  have hD := hD0.self (sz := s.heap.size)
  generalize hAe : va_A (cw ad cI cL u) s.heap.size = A at hD ⊢
  have hA : ∀ q : Nat, s.heap.size ≤ q → A q := fun q h => by rw [← hAe]; exact Or.inr h
  have hS : va_S A s.heap s.heap [] := va_S.rf
  have iX0 : ∀ w ∈ u_ws RX0 TX0 12, w ∈ wsX0_fillReach := fun _ h => List.mem_cons_of_mem _ (List.mem_append_left _ (List.mem_append_right _ h))
  have iX2 : ∀ w ∈ u_ws RX2 TX2 14, w ∈ wsX0_fillReach := fun _ h => List.mem_cons_of_mem _ (List.mem_append_right _ h)
  have k_0 := hts (.fieldLink RX0 30 "LampChoice$Choice" "room" "LLampChoice$Room;") (by decide +kernel)
  have k_1 := hts (.fieldLink RX0 65 "LampChoice$Room" "places" "I") (by decide +kernel)
  have k_2 := hts (.fieldLink RX0 75 "LampChoice$Room" "points" "I") (by decide +kernel)
  have k_3 := hts (.fieldLink RX0 15 "LampChoice$Choice" "reach" "[I") (by decide +kernel)
  have hl := lv_entry ([.ref (ad 2)]) (n := 4) (Nat.le_of_ble_eq_true rfl)
  rw [lg_entry_eq]
  generalize (lg_sl ([.ref (ad 2)]) ++ List.replicate (4 - (lg_sl ([.ref (ad 2)])).length) Slot.unset).toArray = ls at hl ⊢
  have hl : lv_has ls 4 [(0, .ref (ad 2))] := hl
  have key : ∀ n : Nat, (∀ (v1 : Int32) (v2 : Int32) (u : St) (H : Heap) (locs : List Loc) (ls : Array Slot), fX0_fillReach n 0 v1 v2 u = some r → va_P (dC, dI) vwCl (cw ad cI cL u) H → va_D A (cw ad cI cL u) → va_S A s.heap H locs → lv_has ls 4 [(0, .ref (ad 2))] → W p l e (headSpec wsX0_fillReach ({ frames := 2, cells := 0, slots := 0, locals := 46 })).room s m ([.ref (ad 2)] : List Value).toArray below meth c H locs 0 0 (MQ below (va_Qv (fun t => t = r) (fun t => wPost dC dI cI cL A (cw ad cI cL t)) A) ([.ref (ad 2)] : List Value).toArray s 0 0 A) (F0 m 0 ls [])) ∧ (∀ (v1 : Int32) (v2 : Int32) (u : St) (H : Heap) (locs : List Loc) (ls : Array Slot), fX0_fillReach n 10 v1 v2 u = some r → va_P (dC, dI) vwCl (cw ad cI cL u) H → va_D A (cw ad cI cL u) → va_S A s.heap H locs → lv_has ls 4 [(0, .ref (ad 2)), (1, .int v1)] → W p l e (headSpec wsX0_fillReach ({ frames := 2, cells := 0, slots := 0, locals := 46 })).room s m ([.ref (ad 2)] : List Value).toArray below meth c H locs 0 0 (MQ below (va_Qv (fun t => t = r) (fun t => wPost dC dI cI cL A (cw ad cI cL t)) A) ([.ref (ad 2)] : List Value).toArray s 0 0 A) (F0 m 10 ls [])) ∧ (∀ (v1 : Int32) (v2 : Int32) (u : St) (H : Heap) (locs : List Loc) (ls : Array Slot), fX0_fillReach n 16 v1 v2 u = some r → va_P (dC, dI) vwCl (cw ad cI cL u) H → va_D A (cw ad cI cL u) → va_S A s.heap H locs → lv_has ls 4 [(0, .ref (ad 2)), (1, .int v1), (2, .int v2)] → W p l e (headSpec wsX0_fillReach ({ frames := 2, cells := 0, slots := 0, locals := 46 })).room s m ([.ref (ad 2)] : List Value).toArray below meth c H locs 0 0 (MQ below (va_Qv (fun t => t = r) (fun t => wPost dC dI cI cL A (cw ad cI cL t)) A) ([.ref (ad 2)] : List Value).toArray s 0 0 A) (F0 m 16 ls [])) := by
    intro n
    induction n with
    | zero => exact ⟨(fun _ _ _ _ _ _ hf => nomatch (show (none : Option (St)) = some r from hf)), (fun _ _ _ _ _ _ hf => nomatch (show (none : Option (St)) = some r from hf)), (fun _ _ _ _ _ _ hf => nomatch (show (none : Option (St)) = some r from hf))⟩
    | succ n ih =>
      obtain ⟨ih0, ih1, ih2⟩ := ih
      refine ⟨?_, ?_, ?_⟩
      · intro v1 v2 u H locs ls hf hP hD hS hl
        have hf := (eX0_fillReach_0 n v1 v2 u).symm.trans hf
        refine lv_aload_n hx hb dX0_fillReach_0 rfl (lv_at hl 0 rfl) ?_
        refine va_get (D := (dC, dI)) (ci := 0) (v := .ref (ad 1)) (C := RX0) (T := TX0) (N := 12) hx hb hts iX0 hown hK hP 2 rfl rfl 0 (by decide) k_0 (fun _ h9 => h9) rfl dX0_fillReach_1 ?_
        refine va_get (D := (dC, dI)) (ci := 2) (v := .int (gI u 1)) (C := RX2) (T := TX2) (N := 14) hx hb hts iX2 hown hK hP 1 rfl rfl 11 (by decide) k_1 (fun _ h9 => h9) rfl dX0_fillReach_4 ?_
        refine lv_iconst (v := 1) hx hb dX0_fillReach_7 (by decide) ?_
        refine lv_isub hx hb dX0_fillReach_8 ?_
        refine lv_istore_n (lv' := [(1, .int ((gI u 1) - (1 : Int32))), (0, .ref (ad 2))]) hx hb dX0_fillReach_9 rfl hl (by decide) rfl (fun ls hl => ?_)
        exact ih1 ((gI u 1) - (1 : Int32)) 0 u H locs ls hf hP hD hS (lv_sub hl [1, 0] rfl)
      · intro v1 v2 u H locs ls hf hP hD hS hl
        have hf := (eX0_fillReach_10 n v1 v2 u).symm.trans hf
        refine lv_iload_n hx hb dX0_fillReach_10 rfl (lv_at hl 1 rfl) ?_
        refine lv_if_lt (tgt := 68) hx hb dX0_fillReach_11 (by decide) (fun c_1 => ?_) (fun c_1 => ?_)
        · have hf := (if_pos c_1).symm.trans hf
          have hf := Option.some.inj hf
          exact W.vret hx hb hr (fun t ht hW => ⟨⟨u, rfl, hf, ⟨by rw [ht]; exact hP, va_K.moved hW.alike hK, hD⟩⟩, hS.F ht⟩) hS.2.2 dX0_fillReach_68
        · have hf := (if_neg c_1).symm.trans hf
          refine lv_iconst (v := 0) hx hb dX0_fillReach_14 (by decide) ?_
          refine lv_istore_n (lv' := [(2, .int (0 : Int32)), (0, .ref (ad 2)), (1, .int v1)]) hx hb dX0_fillReach_15 rfl hl (by decide) rfl (fun ls hl => ?_)
          exact ih2 v1 (0 : Int32) u H locs ls hf hP hD hS (lv_sub hl [1, 2, 0] rfl)
      · intro v1 v2 u H locs ls hf hP hD hS hl
        have hf := (eX0_fillReach_16 n v1 v2 u).symm.trans hf
        refine lv_iload_n hx hb dX0_fillReach_16 rfl (lv_at hl 2 rfl) ?_
        refine lv_aload_n hx hb dX0_fillReach_17 rfl (lv_at hl 0 rfl) ?_
        refine va_get (D := (dC, dI)) (ci := 0) (v := .ref (ad 1)) (C := RX0) (T := TX0) (N := 12) hx hb hts iX0 hown hK hP 2 rfl rfl 0 (by decide) k_0 (fun _ h9 => h9) rfl dX0_fillReach_18 ?_
        refine va_get (D := (dC, dI)) (ci := 2) (v := .int (gI u 2)) (C := RX2) (T := TX2) (N := 14) hx hb hts iX2 hown hK hP 1 rfl rfl 12 (by decide) k_2 (fun _ h9 => h9) rfl dX0_fillReach_21 ?_
        refine lv_icmp_ge (tgt := 62) hx hb dX0_fillReach_24 (by decide) (fun c_2 => ?_) (fun c_2 => ?_)
        · have hf := (if_pos c_2).symm.trans hf
          refine lv_iinc (v := (v1 + (-1))) (lv' := [(1, .int (v1 + (-1))), (0, .ref (ad 2)), (2, .int v2)]) hx hb dX0_fillReach_62 hl (k := 1) rfl rfl (by decide) rfl (fun ls hl => ?_)
          refine lv_goto (tgt := 10) hx hb dX0_fillReach_65 (by decide) ?_
          exact ih1 (v1 + (-1)) 0 u H locs ls hf hP hD hS (lv_sub hl [1, 0] rfl)
        · have hf := (if_neg c_2).symm.trans hf
          refine lv_iload_n hx hb dX0_fillReach_27 rfl (lv_at hl 1 rfl) ?_
          refine lv_bipush (v := 16) hx hb dX0_fillReach_28 (by decide) ?_
          refine lv_imul hx hb dX0_fillReach_30 ?_
          refine lv_iload_n hx hb dX0_fillReach_31 rfl (lv_at hl 2 rfl) ?_
          refine lv_iadd hx hb dX0_fillReach_32 ?_
          refine lv_istore_n (lv' := [(3, .int ((v1 * (16 : Int32)) + v2)), (0, .ref (ad 2)), (1, .int v1), (2, .int v2)]) hx hb dX0_fillReach_33 rfl hl (by decide) rfl (fun ls hl => ?_)
          refine lv_aload_n hx hb dX0_fillReach_34 rfl (lv_at hl 1 rfl) ?_
          refine va_get (D := (dC, dI)) (ci := 0) (v := .ref (ad 16)) (C := RX0) (T := TX0) (N := 12) hx hb hts iX0 hown hK hP 2 rfl rfl 2 (by decide) k_3 (fun _ h9 => h9) rfl dX0_fillReach_35 ?_
          refine lv_iload_n hx hb dX0_fillReach_38 rfl (lv_at hl 0 rfl) ?_
          refine lv_aload_n hx hb dX0_fillReach_39 rfl (lv_at hl 1 rfl) ?_
          refine va_get (D := (dC, dI)) (ci := 0) (v := .ref (ad 16)) (C := RX0) (T := TX0) (N := 12) hx hb hts iX0 hown hK hP 2 rfl rfl 2 (by decide) k_3 (fun _ h9 => h9) rfl dX0_fillReach_40 ?_
          refine lv_iload_n hx hb dX0_fillReach_43 rfl (lv_at hl 0 rfl) ?_
          refine lv_bipush (v := 16) hx hb dX0_fillReach_44 (by decide) ?_
          refine lv_iadd hx hb dX0_fillReach_46 ?_
          obtain ⟨h_3, hf⟩ := ck_of hf
          refine va_iald (f := (gA u 11)) hx hb hK hP 16 0 rfl rfl h_3 dX0_fillReach_47 ?_
          refine lv_aload_n hx hb dX0_fillReach_48 rfl (lv_at hl 1 rfl) ?_
          refine lv_iload_n hx hb dX0_fillReach_49 rfl (lv_at hl 2 rfl) ?_
          refine lv_iload_n hx hb dX0_fillReach_50 rfl (lv_at hl 3 rfl) ?_
          obtain ⟨w_4, hw_4, hf⟩ := ob hf
          have hFc := freeAll hD hS hA
          refine va_calli (va_runV (As := [.int v1, .int v2]) (rest := [.int ((gA u 11) (((v1 * (16 : Int32)) + v2) + (16 : Int32)).toNatClampNeg), .int ((v1 * (16 : Int32)) + v2), .ref (ad 16)]) ⟨hx, hb, hml, hown, hts⟩ (mX0_mostLight l dC dI cI cL ad H.size u v1 v2 n w_4 hw_4) (cwV 2 hts gX0_fillReach_X0_mostLight rfl rfl rfl (by decide +kernel) ⟨Nat.le_of_ble_eq_true rfl, Nat.le_of_ble_eq_true rfl⟩) ⟨wPre_blind, va_recv hK hP (ci := 0) (q0 := 2) rfl rfl, wPre_of hP hK hD hZ⟩ rfl rfl hl.1 rfl (lv_room (Nat.le_of_ble_eq_true rfl)) dX0_fillReach_51 ⟨Nat.zero_le _, Nat.zero_le _⟩) hS (fun q _ h => hFc q h) hFc (fun r2 u2 t H1 locs ht hvm hw hB hz1 hk1 hS => ?_)
          obtain ⟨hP1, hK1, hD1⟩ := hB
          rw [ht] at hP1
          have e1 : r2 = w_4.1 := congrArg Prod.fst hw
          have e2 : u2 = w_4.2 := congrArg Prod.snd hw
          subst r2 u2
          have hP : va_P (dC, dI) vwCl (cw ad cI cL w_4.2) H1 := hP1
          have hD : va_D A (cw ad cI cL w_4.2) := hD1.weaken (fun _ _ _ h => hFc _ h)
          clear hP1 hD1 hK1 hFc hk1
          generalize H1 = H at hP hS ⊢
          refine lv_iadd hx hb dX0_fillReach_54 ?_
          obtain ⟨h_5, hf⟩ := ck_of hf
          refine va_iast (f := (gA w_4.2 11)) hx hb hK hP hD hS 16 0 rfl rfl h_5 dX0_fillReach_55 (fun H locs hP hD hS => ?_)
          have hP : va_P (dC, dI) vwCl (cw ad cI cL (sA w_4.2 11 (upd (gA w_4.2 11) ((v1 * (16 : Int32)) + v2).toNatClampNeg (((gA u 11) (((v1 * (16 : Int32)) + v2) + (16 : Int32)).toNatClampNeg) + w_4.1)))) H := hP
          have hD : va_D A (cw ad cI cL (sA w_4.2 11 (upd (gA w_4.2 11) ((v1 * (16 : Int32)) + v2).toNatClampNeg (((gA u 11) (((v1 * (16 : Int32)) + v2) + (16 : Int32)).toNatClampNeg) + w_4.1)))) := hD
          refine lv_iinc (v := (v2 + 1)) (lv' := [(2, .int (v2 + 1)), (3, .int ((v1 * (16 : Int32)) + v2)), (0, .ref (ad 2)), (1, .int v1)]) hx hb dX0_fillReach_56 hl (k := 3) rfl rfl (by decide) rfl (fun ls hl => ?_)
          refine lv_goto (tgt := 16) hx hb dX0_fillReach_59 (by decide) ?_
          exact ih2 v1 (v2 + 1) (sA w_4.2 11 (upd (gA w_4.2 11) ((v1 * (16 : Int32)) + v2).toNatClampNeg (((gA u 11) (((v1 * (16 : Int32)) + v2) + (16 : Int32)).toNatClampNeg) + w_4.1))) H locs ls hf hP hD hS (lv_sub hl [2, 3, 0] rfl)
  exact (key n).1 0 0 u _ _ ls hf0 hP hD hS (lv_sub hl [0] rfl)

def fX0_gather (n pc : Nat) (v1 : Int32) (v2 : Int32) (v3 : Int32) (v4 : Int32) (v5 : Int32) (v6 : Int32) (u : St) : Option (St) := match n with
  | 0 => none
  | n + 1 => match pc with
    | 0 => (if 0 ≤ v2 then ((FX0_lightRow n v1 v2).bind fun w_2 => fX0_gather n 47 0 0 (v1 * (16 : Int32)) ((v1 * (16 : Int32)) + (16 : Int32)) w_2 (0 : Int32) u) else (if ckc (v1 * (16 : Int32)) ((v1 * (16 : Int32)) + (16 : Int32)) (gI u 2) 128 128 = true then some (sA u 12 (va_cpy (gA u 12) (gA u 12) (v1 * (16 : Int32)).toNatClampNeg ((v1 * (16 : Int32)) + (16 : Int32)).toNatClampNeg (gI u 2).toNatClampNeg)) else none))
    | 47 => (if (gI u 2) ≤ v6 then some u else (if ck (v3 + v6) 128 = true then (if ck (v5 + v6) 336 = true then (if ck (v4 + v6) 128 = true then fX0_gather n 47 0 0 v3 v4 v5 (v6 + 1) (sA u 12 (upd (gA u 12) (v4 + v6).toNatClampNeg (((gA u 12) (v3 + v6).toNatClampNeg) + ((gA u 10) (v5 + v6).toNatClampNeg)))) else none) else none) else none))
    | _ => none
theorem eX0_gather_0 (n : Nat) (v1 : Int32) (v2 : Int32) (v3 : Int32) (v4 : Int32) (v5 : Int32) (v6 : Int32) (u : St) : fX0_gather (n + 1) 0 v1 v2 v3 v4 v5 v6 u = (if 0 ≤ v2 then ((FX0_lightRow n v1 v2).bind fun w_2 => fX0_gather n 47 0 0 (v1 * (16 : Int32)) ((v1 * (16 : Int32)) + (16 : Int32)) w_2 (0 : Int32) u) else (if ckc (v1 * (16 : Int32)) ((v1 * (16 : Int32)) + (16 : Int32)) (gI u 2) 128 128 = true then some (sA u 12 (va_cpy (gA u 12) (gA u 12) (v1 * (16 : Int32)).toNatClampNeg ((v1 * (16 : Int32)) + (16 : Int32)).toNatClampNeg (gI u 2).toNatClampNeg)) else none)) := rfl
theorem eX0_gather_47 (n : Nat) (v1 : Int32) (v2 : Int32) (v3 : Int32) (v4 : Int32) (v5 : Int32) (v6 : Int32) (u : St) : fX0_gather (n + 1) 47 v1 v2 v3 v4 v5 v6 u = (if (gI u 2) ≤ v6 then some u else (if ck (v3 + v6) 128 = true then (if ck (v5 + v6) 336 = true then (if ck (v4 + v6) 128 = true then fX0_gather n 47 0 0 v3 v4 v5 (v6 + 1) (sA u 12 (upd (gA u 12) (v4 + v6).toNatClampNeg (((gA u 12) (v3 + v6).toNatClampNeg) + ((gA u 10) (v5 + v6).toNatClampNeg)))) else none) else none) else none)) := rfl
theorem vX0_gather_0 (v1 : Int32) (v2 : Int32) (v3 : Int32) (v4 : Int32) (v5 : Int32) (v6 : Int32) (u : St) (r : St) : Ev (fun n => fX0_gather n 0 v1 v2 v3 v4 v5 v6 u) r ↔ Ev (fun n => (if 0 ≤ v2 then ((FX0_lightRow n v1 v2).bind fun w_2 => fX0_gather n 47 0 0 (v1 * (16 : Int32)) ((v1 * (16 : Int32)) + (16 : Int32)) w_2 (0 : Int32) u) else (if ckc (v1 * (16 : Int32)) ((v1 * (16 : Int32)) + (16 : Int32)) (gI u 2) 128 128 = true then some (sA u 12 (va_cpy (gA u 12) (gA u 12) (v1 * (16 : Int32)).toNatClampNeg ((v1 * (16 : Int32)) + (16 : Int32)).toNatClampNeg (gI u 2).toNatClampNeg)) else none))) r := Ev_succ (fun n => fX0_gather n 0 v1 v2 v3 v4 v5 v6 u) r
theorem vX0_gather_47 (v1 : Int32) (v2 : Int32) (v3 : Int32) (v4 : Int32) (v5 : Int32) (v6 : Int32) (u : St) (r : St) : Ev (fun n => fX0_gather n 47 v1 v2 v3 v4 v5 v6 u) r ↔ Ev (fun n => (if (gI u 2) ≤ v6 then some u else (if ck (v3 + v6) 128 = true then (if ck (v5 + v6) 336 = true then (if ck (v4 + v6) 128 = true then fX0_gather n 47 0 0 v3 v4 v5 (v6 + 1) (sA u 12 (upd (gA u 12) (v4 + v6).toNatClampNeg (((gA u 12) (v3 + v6).toNatClampNeg) + ((gA u 10) (v5 + v6).toNatClampNeg)))) else none) else none) else none))) r := Ev_succ (fun n => fX0_gather n 47 v1 v2 v3 v4 v5 v6 u) r
def FX0_gather (n : Nat) (v1 : Int32) (v2 : Int32) (u : St) : Option (St) := fX0_gather n 0 v1 v2 0 0 0 0 u
set_option maxHeartbeats 4000000 in
set_option maxRecDepth 100000 in
theorem mX0_gather (l : Launch) (dC : Nat → ClassId) (dI : Nat → Nat → Nat) (cI cL : ClassId) (ad : Nat → Nat) (sz : Nat) (u : St) (z1 : Int32) (z2 : Int32) (n : Nat) (r : St) (hf0 : FX0_gather n z1 z2 u = some r) : Met l yX0_gather wsX0_gather ({ frames := 1, cells := 0, slots := 0, locals := 60 }) (va_Pc [.ref (ad 2), .int z1, .int z2] (wPre dC dI cI cL (cw ad cI cL u) sz)) (va_Qv (fun t => t = r) (fun t => wPost dC dI cI cL (va_A (cw ad cI cL u) sz) (cw ad cI cL t)) (va_A (cw ad cI cL u) sz)) 0 0 (va_A (cw ad cI cL u) sz) := by
  refine Met.ofW (cc := cX0_gather) (maxL := 7) (ret := none) (by decide) rfl ?_
  intro p e s m args below meth c s₁ B hml hv
  obtain ⟨rfl, hsz, hP, hK, hD0, hZ⟩ := hv
  have hx := B.exec
  have hb := B.bytes
  have hr := B.returns
  have hts := atoms_spec (ws := wsX0_gather) B.pre
  have hown : s.vm.findClass RX0 = some m.cls := findClass_of_methodNamed B.named
  have hlocks := B.notSynchronized
  subst hsz
  have hD := hD0.self (sz := s.heap.size)
  generalize hAe : va_A (cw ad cI cL u) s.heap.size = A at hD ⊢
  have hA : ∀ q : Nat, s.heap.size ≤ q → A q := fun q h => by rw [← hAe]; exact Or.inr h
  have hS : va_S A s.heap s.heap [] := va_S.rf
  have iX0 : ∀ w ∈ u_ws RX0 TX0 12, w ∈ wsX0_gather := fun _ h => List.mem_cons_of_mem _ (List.mem_append_left _ (List.mem_append_right _ h))
  have iX2 : ∀ w ∈ u_ws RX2 TX2 14, w ∈ wsX0_gather := fun _ h => List.mem_cons_of_mem _ (List.mem_append_right _ h)
  have k_0 := hts (.fieldLink RX0 18 "LampChoice$Choice" "gathered" "[I") (by decide +kernel)
  have k_1 := hts (.fieldLink RX0 30 "LampChoice$Choice" "room" "LLampChoice$Room;") (by decide +kernel)
  have k_2 := hts (.fieldLink RX0 75 "LampChoice$Room" "points" "I") (by decide +kernel)
  have k_3 := hts (.methodLink RX0 121 arraycopyName) (by decide +kernel)
  have k_4 := hts (.native arraycopyName) (by decide +kernel)
  have k_5 := hts (.static arraycopyName) (by decide +kernel)
  have k_6 := hts (.initialized "java/lang/System") (by decide +kernel)
  have k_7 := hts (.fieldLink RX0 9 "LampChoice$Choice" "lights" "[I") (by decide +kernel)
  have hl := lv_entry ([.ref (ad 2), .int z1, .int z2]) (n := 7) (Nat.le_of_ble_eq_true rfl)
  rw [lg_entry_eq]
  generalize (lg_sl ([.ref (ad 2), .int z1, .int z2]) ++ List.replicate (7 - (lg_sl ([.ref (ad 2), .int z1, .int z2])).length) Slot.unset).toArray = ls at hl ⊢
  have hl : lv_has ls 7 [(0, .ref (ad 2)), (1, .int z1), (2, .int z2)] := hl
  have key : ∀ n : Nat, (∀ (v1 : Int32) (v2 : Int32) (v3 : Int32) (v4 : Int32) (v5 : Int32) (v6 : Int32) (u : St) (H : Heap) (locs : List Loc) (ls : Array Slot), fX0_gather n 0 v1 v2 v3 v4 v5 v6 u = some r → va_P (dC, dI) vwCl (cw ad cI cL u) H → va_D A (cw ad cI cL u) → va_S A s.heap H locs → lv_has ls 7 [(0, .ref (ad 2)), (1, .int v1), (2, .int v2)] → W p l e (headSpec wsX0_gather ({ frames := 1, cells := 0, slots := 0, locals := 60 })).room s m ([.ref (ad 2), .int z1, .int z2] : List Value).toArray below meth c H locs 0 0 (MQ below (va_Qv (fun t => t = r) (fun t => wPost dC dI cI cL A (cw ad cI cL t)) A) ([.ref (ad 2), .int z1, .int z2] : List Value).toArray s 0 0 A) (F0 m 0 ls [])) ∧ (∀ (v1 : Int32) (v2 : Int32) (v3 : Int32) (v4 : Int32) (v5 : Int32) (v6 : Int32) (u : St) (H : Heap) (locs : List Loc) (ls : Array Slot), fX0_gather n 47 v1 v2 v3 v4 v5 v6 u = some r → va_P (dC, dI) vwCl (cw ad cI cL u) H → va_D A (cw ad cI cL u) → va_S A s.heap H locs → lv_has ls 7 [(0, .ref (ad 2)), (3, .int v3), (4, .int v4), (5, .int v5), (6, .int v6)] → W p l e (headSpec wsX0_gather ({ frames := 1, cells := 0, slots := 0, locals := 60 })).room s m ([.ref (ad 2), .int z1, .int z2] : List Value).toArray below meth c H locs 0 0 (MQ below (va_Qv (fun t => t = r) (fun t => wPost dC dI cI cL A (cw ad cI cL t)) A) ([.ref (ad 2), .int z1, .int z2] : List Value).toArray s 0 0 A) (F0 m 47 ls [])) := by
    intro n
    induction n with
    | zero => exact ⟨(fun _ _ _ _ _ _ _ _ _ _ hf => nomatch (show (none : Option (St)) = some r from hf)), (fun _ _ _ _ _ _ _ _ _ _ hf => nomatch (show (none : Option (St)) = some r from hf))⟩
    | succ n ih =>
      obtain ⟨ih0, ih1⟩ := ih
      refine ⟨?_, ?_⟩
      · intro v1 v2 v3 v4 v5 v6 u H locs ls hf hP hD hS hl
        have hf := (eX0_gather_0 n v1 v2 v3 v4 v5 v6 u).symm.trans hf
        refine lv_iload_n hx hb dX0_gather_0 rfl (lv_at hl 1 rfl) ?_
        refine lv_bipush (v := 16) hx hb dX0_gather_1 (by decide) ?_
        refine lv_imul hx hb dX0_gather_3 ?_
        refine lv_istore_n (lv' := [(3, .int (v1 * (16 : Int32))), (0, .ref (ad 2)), (1, .int v1), (2, .int v2)]) hx hb dX0_gather_4 rfl hl (by decide) rfl (fun ls hl => ?_)
        refine lv_iload_n hx hb dX0_gather_5 rfl (lv_at hl 0 rfl) ?_
        refine lv_bipush (v := 16) hx hb dX0_gather_6 (by decide) ?_
        refine lv_iadd hx hb dX0_gather_8 ?_
        refine lv_istore (lv' := [(4, .int ((v1 * (16 : Int32)) + (16 : Int32))), (3, .int (v1 * (16 : Int32))), (0, .ref (ad 2)), (1, .int v1), (2, .int v2)]) hx hb dX0_gather_9 hl (by decide) rfl (fun ls hl => ?_)
        refine lv_iload_n hx hb dX0_gather_11 rfl (lv_at hl 4 rfl) ?_
        refine lv_if_ge (tgt := 37) hx hb dX0_gather_12 (by decide) (fun c_1 => ?_) (fun c_1 => ?_)
        · have hf := (if_pos c_1).symm.trans hf
          refine lv_iload_n hx hb dX0_gather_37 rfl (lv_at hl 3 rfl) ?_
          refine lv_iload_n hx hb dX0_gather_38 rfl (lv_at hl 4 rfl) ?_
          obtain ⟨w_2, hw_2, hf⟩ := ob hf
          have hFc := freeNil hS hA
          refine va_calli (va_runS (As := [.int v1, .int v2]) (rest := []) ⟨hx, hb, hml, hown, hts⟩ (mX0_lightRow l H.size v1 v2 n w_2 hw_2) (va_cwS 2 hts gX0_gather_X0_lightRow rfl rfl rfl (by decide +kernel) ⟨Nat.le_of_ble_eq_true rfl, Nat.le_of_ble_eq_true rfl⟩) ⟨nPre_blind, nPre_of⟩ rfl rfl hl.1 rfl (lv_room (Nat.le_of_ble_eq_true rfl)) dX0_gather_39 ⟨Nat.zero_le _, Nat.zero_le _⟩) hS (fun q _ h => hFc q h) hFc (fun r2 u2 t H1 locs ht hvm hw hB hz1 hk1 hS => ?_)
          subst r2
          have hP := keepP hP hk1
          clear hFc hk1 hB
          generalize H1 = H at hP hS ⊢
          refine lv_istore (lv' := [(5, .int w_2), (4, .int ((v1 * (16 : Int32)) + (16 : Int32))), (3, .int (v1 * (16 : Int32))), (0, .ref (ad 2)), (1, .int v1), (2, .int v2)]) hx hb dX0_gather_42 hl (by decide) rfl (fun ls hl => ?_)
          refine lv_iconst (v := 0) hx hb dX0_gather_44 (by decide) ?_
          refine lv_istore (lv' := [(6, .int (0 : Int32)), (5, .int w_2), (4, .int ((v1 * (16 : Int32)) + (16 : Int32))), (3, .int (v1 * (16 : Int32))), (0, .ref (ad 2)), (1, .int v1), (2, .int v2)]) hx hb dX0_gather_45 hl (by decide) rfl (fun ls hl => ?_)
          exact ih1 0 0 (v1 * (16 : Int32)) ((v1 * (16 : Int32)) + (16 : Int32)) w_2 (0 : Int32) u H locs ls hf hP hD hS (lv_sub hl [4, 3, 2, 1, 0] rfl)
        · have hf := (if_neg c_1).symm.trans hf
          refine lv_aload_n hx hb dX0_gather_15 rfl (lv_at hl 2 rfl) ?_
          refine va_get (D := (dC, dI)) (ci := 0) (v := .ref (ad 17)) (C := RX0) (T := TX0) (N := 12) hx hb hts iX0 hown hK hP 2 rfl rfl 3 (by decide) k_0 (fun _ h9 => h9) rfl dX0_gather_16 ?_
          refine lv_iload_n hx hb dX0_gather_19 rfl (lv_at hl 1 rfl) ?_
          refine lv_aload_n hx hb dX0_gather_20 rfl (lv_at hl 2 rfl) ?_
          refine va_get (D := (dC, dI)) (ci := 0) (v := .ref (ad 17)) (C := RX0) (T := TX0) (N := 12) hx hb hts iX0 hown hK hP 2 rfl rfl 3 (by decide) k_0 (fun _ h9 => h9) rfl dX0_gather_21 ?_
          refine lv_iload hx hb dX0_gather_24 (lv_at hl 0 rfl) ?_
          refine lv_aload_n hx hb dX0_gather_26 rfl (lv_at hl 2 rfl) ?_
          refine va_get (D := (dC, dI)) (ci := 0) (v := .ref (ad 1)) (C := RX0) (T := TX0) (N := 12) hx hb hts iX0 hown hK hP 2 rfl rfl 0 (by decide) k_1 (fun _ h9 => h9) rfl dX0_gather_27 ?_
          refine va_get (D := (dC, dI)) (ci := 2) (v := .int (gI u 2)) (C := RX2) (T := TX2) (N := 14) hx hb hts iX2 hown hK hP 1 rfl rfl 12 (by decide) k_2 (fun _ h9 => h9) rfl dX0_gather_30 ?_
          obtain ⟨⟨h_3a, h_3b, h_3c, h_3d, h_3e⟩, hf⟩ := ckc_of hf
          refine va_copyi (f := (gA u 12)) (g := (gA u 12)) hx hb (by rw [hml]; exact hl.1.symm) hown k_3 k_4 k_5 k_6 hK hP hD hS 17 17 0 0 rfl rfl rfl rfl rfl h_3a h_3b h_3c h_3d h_3e (fun _ _ => rfl) (Nat.le_of_ble_eq_true rfl) (by decide) dX0_gather_33 (fun H locs hP hD hS => ?_)
          have hP : va_P (dC, dI) vwCl (cw ad cI cL (sA u 12 (va_cpy (gA u 12) (gA u 12) (v1 * (16 : Int32)).toNatClampNeg ((v1 * (16 : Int32)) + (16 : Int32)).toNatClampNeg (gI u 2).toNatClampNeg))) H := hP
          have hD : va_D A (cw ad cI cL (sA u 12 (va_cpy (gA u 12) (gA u 12) (v1 * (16 : Int32)).toNatClampNeg ((v1 * (16 : Int32)) + (16 : Int32)).toNatClampNeg (gI u 2).toNatClampNeg))) := hD
          have hf := Option.some.inj hf
          exact W.vret hx hb hr (fun t ht hW => ⟨⟨(sA u 12 (va_cpy (gA u 12) (gA u 12) (v1 * (16 : Int32)).toNatClampNeg ((v1 * (16 : Int32)) + (16 : Int32)).toNatClampNeg (gI u 2).toNatClampNeg)), rfl, hf, ⟨by rw [ht]; exact hP, va_K.moved hW.alike hK, hD⟩⟩, hS.F ht⟩) hS.2.2 dX0_gather_36
      · intro v1 v2 v3 v4 v5 v6 u H locs ls hf hP hD hS hl
        have hf := (eX0_gather_47 n v1 v2 v3 v4 v5 v6 u).symm.trans hf
        refine lv_iload hx hb dX0_gather_47 (lv_at hl 4 rfl) ?_
        refine lv_aload_n hx hb dX0_gather_49 rfl (lv_at hl 0 rfl) ?_
        refine va_get (D := (dC, dI)) (ci := 0) (v := .ref (ad 1)) (C := RX0) (T := TX0) (N := 12) hx hb hts iX0 hown hK hP 2 rfl rfl 0 (by decide) k_1 (fun _ h9 => h9) rfl dX0_gather_50 ?_
        refine va_get (D := (dC, dI)) (ci := 2) (v := .int (gI u 2)) (C := RX2) (T := TX2) (N := 14) hx hb hts iX2 hown hK hP 1 rfl rfl 12 (by decide) k_2 (fun _ h9 => h9) rfl dX0_gather_53 ?_
        refine lv_icmp_ge (tgt := 95) hx hb dX0_gather_56 (by decide) (fun c_4 => ?_) (fun c_4 => ?_)
        · have hf := (if_pos c_4).symm.trans hf
          have hf := Option.some.inj hf
          exact W.vret hx hb hr (fun t ht hW => ⟨⟨u, rfl, hf, ⟨by rw [ht]; exact hP, va_K.moved hW.alike hK, hD⟩⟩, hS.F ht⟩) hS.2.2 dX0_gather_95
        · have hf := (if_neg c_4).symm.trans hf
          refine lv_aload_n hx hb dX0_gather_59 rfl (lv_at hl 0 rfl) ?_
          refine va_get (D := (dC, dI)) (ci := 0) (v := .ref (ad 17)) (C := RX0) (T := TX0) (N := 12) hx hb hts iX0 hown hK hP 2 rfl rfl 3 (by decide) k_0 (fun _ h9 => h9) rfl dX0_gather_60 ?_
          refine lv_iload hx hb dX0_gather_63 (lv_at hl 2 rfl) ?_
          refine lv_iload hx hb dX0_gather_65 (lv_at hl 4 rfl) ?_
          refine lv_iadd hx hb dX0_gather_67 ?_
          refine lv_aload_n hx hb dX0_gather_68 rfl (lv_at hl 0 rfl) ?_
          refine va_get (D := (dC, dI)) (ci := 0) (v := .ref (ad 17)) (C := RX0) (T := TX0) (N := 12) hx hb hts iX0 hown hK hP 2 rfl rfl 3 (by decide) k_0 (fun _ h9 => h9) rfl dX0_gather_69 ?_
          refine lv_iload_n hx hb dX0_gather_72 rfl (lv_at hl 1 rfl) ?_
          refine lv_iload hx hb dX0_gather_73 (lv_at hl 4 rfl) ?_
          refine lv_iadd hx hb dX0_gather_75 ?_
          obtain ⟨h_5, hf⟩ := ck_of hf
          refine va_iald (f := (gA u 12)) hx hb hK hP 17 0 rfl rfl h_5 dX0_gather_76 ?_
          refine lv_aload_n hx hb dX0_gather_77 rfl (lv_at hl 0 rfl) ?_
          refine va_get (D := (dC, dI)) (ci := 0) (v := .ref (ad 15)) (C := RX0) (T := TX0) (N := 12) hx hb hts iX0 hown hK hP 2 rfl rfl 1 (by decide) k_7 (fun _ h9 => h9) rfl dX0_gather_78 ?_
          refine lv_iload hx hb dX0_gather_81 (lv_at hl 3 rfl) ?_
          refine lv_iload hx hb dX0_gather_83 (lv_at hl 4 rfl) ?_
          refine lv_iadd hx hb dX0_gather_85 ?_
          obtain ⟨h_6, hf⟩ := ck_of hf
          refine va_iald (f := (gA u 10)) hx hb hK hP 15 0 rfl rfl h_6 dX0_gather_86 ?_
          refine lv_iadd hx hb dX0_gather_87 ?_
          obtain ⟨h_7, hf⟩ := ck_of hf
          refine va_iast (f := (gA u 12)) hx hb hK hP hD hS 17 0 rfl rfl h_7 dX0_gather_88 (fun H locs hP hD hS => ?_)
          have hP : va_P (dC, dI) vwCl (cw ad cI cL (sA u 12 (upd (gA u 12) (v4 + v6).toNatClampNeg (((gA u 12) (v3 + v6).toNatClampNeg) + ((gA u 10) (v5 + v6).toNatClampNeg))))) H := hP
          have hD : va_D A (cw ad cI cL (sA u 12 (upd (gA u 12) (v4 + v6).toNatClampNeg (((gA u 12) (v3 + v6).toNatClampNeg) + ((gA u 10) (v5 + v6).toNatClampNeg))))) := hD
          refine lv_iinc (v := (v6 + 1)) (lv' := [(6, .int (v6 + 1)), (0, .ref (ad 2)), (3, .int v3), (4, .int v4), (5, .int v5)]) hx hb dX0_gather_89 hl (k := 4) rfl rfl (by decide) rfl (fun ls hl => ?_)
          refine lv_goto (tgt := 47) hx hb dX0_gather_92 (by decide) ?_
          exact ih1 0 0 v3 v4 v5 (v6 + 1) (sA u 12 (upd (gA u 12) (v4 + v6).toNatClampNeg (((gA u 12) (v3 + v6).toNatClampNeg) + ((gA u 10) (v5 + v6).toNatClampNeg)))) H locs ls hf hP hD hS (lv_sub hl [1, 2, 3, 4, 0] rfl)
  exact (key n).1 z1 z2 0 0 0 0 u _ _ ls hf0 hP hD hS (lv_sub hl [0, 1, 2] rfl)

def fX0_canBecomeEnough (n pc : Nat) (v1 : Int32) (v2 : Int32) (v3 : Int32) (u : St) : Option (Int32 × St) := match n with
  | 0 => none
  | n + 1 => match pc with
    | 0 => fX0_canBecomeEnough n 7 0 (v1 * (16 : Int32)) (0 : Int32) u
    | 7 => (if (gI u 2) ≤ v3 then some ((1 : Int32), u) else (if ck (v2 + v3) 128 = true then (if ck v3 16 = true then (if ((gA u 9) v3.toNatClampNeg) ≤ (((gA u 12) (v2 + v3).toNatClampNeg) + ((gA u 11) (v2 + v3).toNatClampNeg)) then fX0_canBecomeEnough n 7 0 v2 (v3 + 1) u else some ((0 : Int32), u)) else none) else none))
    | _ => none
theorem eX0_canBecomeEnough_0 (n : Nat) (v1 : Int32) (v2 : Int32) (v3 : Int32) (u : St) : fX0_canBecomeEnough (n + 1) 0 v1 v2 v3 u = fX0_canBecomeEnough n 7 0 (v1 * (16 : Int32)) (0 : Int32) u := rfl
theorem eX0_canBecomeEnough_7 (n : Nat) (v1 : Int32) (v2 : Int32) (v3 : Int32) (u : St) : fX0_canBecomeEnough (n + 1) 7 v1 v2 v3 u = (if (gI u 2) ≤ v3 then some ((1 : Int32), u) else (if ck (v2 + v3) 128 = true then (if ck v3 16 = true then (if ((gA u 9) v3.toNatClampNeg) ≤ (((gA u 12) (v2 + v3).toNatClampNeg) + ((gA u 11) (v2 + v3).toNatClampNeg)) then fX0_canBecomeEnough n 7 0 v2 (v3 + 1) u else some ((0 : Int32), u)) else none) else none)) := rfl
theorem vX0_canBecomeEnough_0 (v1 : Int32) (v2 : Int32) (v3 : Int32) (u : St) (r : Int32 × St) : Ev (fun n => fX0_canBecomeEnough n 0 v1 v2 v3 u) r ↔ Ev (fun n => fX0_canBecomeEnough n 7 0 (v1 * (16 : Int32)) (0 : Int32) u) r := Ev_succ (fun n => fX0_canBecomeEnough n 0 v1 v2 v3 u) r
theorem vX0_canBecomeEnough_7 (v1 : Int32) (v2 : Int32) (v3 : Int32) (u : St) (r : Int32 × St) : Ev (fun n => fX0_canBecomeEnough n 7 v1 v2 v3 u) r ↔ Ev (fun n => (if (gI u 2) ≤ v3 then some ((1 : Int32), u) else (if ck (v2 + v3) 128 = true then (if ck v3 16 = true then (if ((gA u 9) v3.toNatClampNeg) ≤ (((gA u 12) (v2 + v3).toNatClampNeg) + ((gA u 11) (v2 + v3).toNatClampNeg)) then fX0_canBecomeEnough n 7 0 v2 (v3 + 1) u else some ((0 : Int32), u)) else none) else none))) r := Ev_succ (fun n => fX0_canBecomeEnough n 7 v1 v2 v3 u) r
def FX0_canBecomeEnough (n : Nat) (v1 : Int32) (u : St) : Option (Int32 × St) := fX0_canBecomeEnough n 0 v1 0 0 u
set_option maxHeartbeats 4000000 in
set_option maxRecDepth 100000 in
theorem mX0_canBecomeEnough (l : Launch) (dC : Nat → ClassId) (dI : Nat → Nat → Nat) (cI cL : ClassId) (ad : Nat → Nat) (sz : Nat) (u : St) (z1 : Int32) (n : Nat) (r : Int32 × St) (hf0 : FX0_canBecomeEnough n z1 u = some r) : Met l yX0_canBecomeEnough wsX0_canBecomeEnough ({ frames := 0, cells := 0, slots := 0, locals := 0 }) (va_Pc [.ref (ad 2), .int z1] (wPre dC dI cI cL (cw ad cI cL u) sz)) (va_Qi (fun a t => (a, t) = r) (fun t => wPost dC dI cI cL (va_A (cw ad cI cL u) sz) (cw ad cI cL t)) (va_A (cw ad cI cL u) sz)) 0 0 (va_A (cw ad cI cL u) sz) := by
  refine Met.ofW (cc := cX0_canBecomeEnough) (maxL := 4) (ret := (some .boolean)) (by decide) rfl ?_
  intro p e s m args below meth c s₁ B hml hv
  obtain ⟨rfl, hsz, hP, hK, hD0, hZ⟩ := hv
  have hx := B.exec
  have hb := B.bytes
  have hr := B.returns
  have hts := atoms_spec (ws := wsX0_canBecomeEnough) B.pre
  have hown : s.vm.findClass RX0 = some m.cls := findClass_of_methodNamed B.named
  have hlocks := B.notSynchronized
  subst hsz
  have hD := hD0.self (sz := s.heap.size)
  generalize hAe : va_A (cw ad cI cL u) s.heap.size = A at hD ⊢
  have hA : ∀ q : Nat, s.heap.size ≤ q → A q := fun q h => by rw [← hAe]; exact Or.inr h
  have hS : va_S A s.heap s.heap [] := va_S.rf
  have iX0 : ∀ w ∈ u_ws RX0 TX0 12, w ∈ wsX0_canBecomeEnough := fun _ h => List.mem_cons_of_mem _ (List.mem_append_left _ (List.mem_append_right _ h))
  have iX2 : ∀ w ∈ u_ws RX2 TX2 14, w ∈ wsX0_canBecomeEnough := fun _ h => List.mem_cons_of_mem _ (List.mem_append_right _ h)
  have k_0 := hts (.fieldLink RX0 30 "LampChoice$Choice" "room" "LLampChoice$Room;") (by decide +kernel)
  have k_1 := hts (.fieldLink RX0 75 "LampChoice$Room" "points" "I") (by decide +kernel)
  have k_2 := hts (.fieldLink RX0 18 "LampChoice$Choice" "gathered" "[I") (by decide +kernel)
  have k_3 := hts (.fieldLink RX0 15 "LampChoice$Choice" "reach" "[I") (by decide +kernel)
  have k_4 := hts (.fieldLink RX0 127 "LampChoice$Room" "wanted" "[I") (by decide +kernel)
  have hl := lv_entry ([.ref (ad 2), .int z1]) (n := 4) (Nat.le_of_ble_eq_true rfl)
  rw [lg_entry_eq]
  generalize (lg_sl ([.ref (ad 2), .int z1]) ++ List.replicate (4 - (lg_sl ([.ref (ad 2), .int z1])).length) Slot.unset).toArray = ls at hl ⊢
  have hl : lv_has ls 4 [(0, .ref (ad 2)), (1, .int z1)] := hl
  have key : ∀ n : Nat, (∀ (v1 : Int32) (v2 : Int32) (v3 : Int32) (u : St) (H : Heap) (locs : List Loc) (ls : Array Slot), fX0_canBecomeEnough n 0 v1 v2 v3 u = some r → va_P (dC, dI) vwCl (cw ad cI cL u) H → va_D A (cw ad cI cL u) → va_S A s.heap H locs → lv_has ls 4 [(0, .ref (ad 2)), (1, .int v1)] → W p l e (headSpec wsX0_canBecomeEnough ({ frames := 0, cells := 0, slots := 0, locals := 0 })).room s m ([.ref (ad 2), .int z1] : List Value).toArray below meth c H locs 0 0 (MQ below (va_Qi (fun a t => (a, t) = r) (fun t => wPost dC dI cI cL A (cw ad cI cL t)) A) ([.ref (ad 2), .int z1] : List Value).toArray s 0 0 A) (F0 m 0 ls [])) ∧ (∀ (v1 : Int32) (v2 : Int32) (v3 : Int32) (u : St) (H : Heap) (locs : List Loc) (ls : Array Slot), fX0_canBecomeEnough n 7 v1 v2 v3 u = some r → va_P (dC, dI) vwCl (cw ad cI cL u) H → va_D A (cw ad cI cL u) → va_S A s.heap H locs → lv_has ls 4 [(0, .ref (ad 2)), (2, .int v2), (3, .int v3)] → W p l e (headSpec wsX0_canBecomeEnough ({ frames := 0, cells := 0, slots := 0, locals := 0 })).room s m ([.ref (ad 2), .int z1] : List Value).toArray below meth c H locs 0 0 (MQ below (va_Qi (fun a t => (a, t) = r) (fun t => wPost dC dI cI cL A (cw ad cI cL t)) A) ([.ref (ad 2), .int z1] : List Value).toArray s 0 0 A) (F0 m 7 ls [])) := by
    intro n
    induction n with
    | zero => exact ⟨(fun _ _ _ _ _ _ _ hf => nomatch (show (none : Option (Int32 × St)) = some r from hf)), (fun _ _ _ _ _ _ _ hf => nomatch (show (none : Option (Int32 × St)) = some r from hf))⟩
    | succ n ih =>
      obtain ⟨ih0, ih1⟩ := ih
      refine ⟨?_, ?_⟩
      · intro v1 v2 v3 u H locs ls hf hP hD hS hl
        have hf := (eX0_canBecomeEnough_0 n v1 v2 v3 u).symm.trans hf
        refine lv_iload_n hx hb dX0_canBecomeEnough_0 rfl (lv_at hl 1 rfl) ?_
        refine lv_bipush (v := 16) hx hb dX0_canBecomeEnough_1 (by decide) ?_
        refine lv_imul hx hb dX0_canBecomeEnough_3 ?_
        refine lv_istore_n (lv' := [(2, .int (v1 * (16 : Int32))), (0, .ref (ad 2)), (1, .int v1)]) hx hb dX0_canBecomeEnough_4 rfl hl (by decide) rfl (fun ls hl => ?_)
        refine lv_iconst (v := 0) hx hb dX0_canBecomeEnough_5 (by decide) ?_
        refine lv_istore_n (lv' := [(3, .int (0 : Int32)), (2, .int (v1 * (16 : Int32))), (0, .ref (ad 2)), (1, .int v1)]) hx hb dX0_canBecomeEnough_6 rfl hl (by decide) rfl (fun ls hl => ?_)
        exact ih1 0 (v1 * (16 : Int32)) (0 : Int32) u H locs ls hf hP hD hS (lv_sub hl [2, 1, 0] rfl)
      · intro v1 v2 v3 u H locs ls hf hP hD hS hl
        have hf := (eX0_canBecomeEnough_7 n v1 v2 v3 u).symm.trans hf
        refine lv_iload_n hx hb dX0_canBecomeEnough_7 rfl (lv_at hl 2 rfl) ?_
        refine lv_aload_n hx hb dX0_canBecomeEnough_8 rfl (lv_at hl 0 rfl) ?_
        refine va_get (D := (dC, dI)) (ci := 0) (v := .ref (ad 1)) (C := RX0) (T := TX0) (N := 12) hx hb hts iX0 hown hK hP 2 rfl rfl 0 (by decide) k_0 (fun _ h9 => h9) rfl dX0_canBecomeEnough_9 ?_
        refine va_get (D := (dC, dI)) (ci := 2) (v := .int (gI u 2)) (C := RX2) (T := TX2) (N := 14) hx hb hts iX2 hown hK hP 1 rfl rfl 12 (by decide) k_1 (fun _ h9 => h9) rfl dX0_canBecomeEnough_12 ?_
        refine lv_icmp_ge (tgt := 55) hx hb dX0_canBecomeEnough_15 (by decide) (fun c_1 => ?_) (fun c_1 => ?_)
        · have hf := (if_pos c_1).symm.trans hf
          refine lv_iconst (v := 1) hx hb dX0_canBecomeEnough_55 (by decide) ?_
          have hf := Option.some.inj hf
          exact W.zret (v := (1 : Int32)) hx hb hr rfl (fun t ht hW => ⟨⟨(1 : Int32), u, rfl, hf, ⟨by rw [ht]; exact hP, va_K.moved hW.alike hK, hD⟩⟩, hS.F ht⟩) hS.2.2 dX0_canBecomeEnough_56
        · have hf := (if_neg c_1).symm.trans hf
          refine lv_aload_n hx hb dX0_canBecomeEnough_18 rfl (lv_at hl 0 rfl) ?_
          refine va_get (D := (dC, dI)) (ci := 0) (v := .ref (ad 17)) (C := RX0) (T := TX0) (N := 12) hx hb hts iX0 hown hK hP 2 rfl rfl 3 (by decide) k_2 (fun _ h9 => h9) rfl dX0_canBecomeEnough_19 ?_
          refine lv_iload_n hx hb dX0_canBecomeEnough_22 rfl (lv_at hl 1 rfl) ?_
          refine lv_iload_n hx hb dX0_canBecomeEnough_23 rfl (lv_at hl 2 rfl) ?_
          refine lv_iadd hx hb dX0_canBecomeEnough_24 ?_
          obtain ⟨h_2, hf⟩ := ck_of hf
          refine va_iald (f := (gA u 12)) hx hb hK hP 17 0 rfl rfl h_2 dX0_canBecomeEnough_25 ?_
          refine lv_aload_n hx hb dX0_canBecomeEnough_26 rfl (lv_at hl 0 rfl) ?_
          refine va_get (D := (dC, dI)) (ci := 0) (v := .ref (ad 16)) (C := RX0) (T := TX0) (N := 12) hx hb hts iX0 hown hK hP 2 rfl rfl 2 (by decide) k_3 (fun _ h9 => h9) rfl dX0_canBecomeEnough_27 ?_
          refine lv_iload_n hx hb dX0_canBecomeEnough_30 rfl (lv_at hl 1 rfl) ?_
          refine lv_iload_n hx hb dX0_canBecomeEnough_31 rfl (lv_at hl 2 rfl) ?_
          refine lv_iadd hx hb dX0_canBecomeEnough_32 ?_
          refine va_iald (f := (gA u 11)) hx hb hK hP 16 0 rfl rfl h_2 dX0_canBecomeEnough_33 ?_
          refine lv_iadd hx hb dX0_canBecomeEnough_34 ?_
          refine lv_aload_n hx hb dX0_canBecomeEnough_35 rfl (lv_at hl 0 rfl) ?_
          refine va_get (D := (dC, dI)) (ci := 0) (v := .ref (ad 1)) (C := RX0) (T := TX0) (N := 12) hx hb hts iX0 hown hK hP 2 rfl rfl 0 (by decide) k_0 (fun _ h9 => h9) rfl dX0_canBecomeEnough_36 ?_
          refine va_get (D := (dC, dI)) (ci := 2) (v := .ref (ad 14)) (C := RX2) (T := TX2) (N := 14) hx hb hts iX2 hown hK hP 1 rfl rfl 9 (by decide) k_4 (fun _ h9 => h9) rfl dX0_canBecomeEnough_39 ?_
          refine lv_iload_n hx hb dX0_canBecomeEnough_42 rfl (lv_at hl 2 rfl) ?_
          obtain ⟨h_3, hf⟩ := ck_of hf
          refine va_iald (f := (gA u 9)) hx hb hK hP 14 0 rfl rfl h_3 dX0_canBecomeEnough_43 ?_
          refine lv_icmp_ge (tgt := 49) hx hb dX0_canBecomeEnough_44 (by decide) (fun c_4 => ?_) (fun c_4 => ?_)
          · have hf := (if_pos c_4).symm.trans hf
            refine lv_iinc (v := (v3 + 1)) (lv' := [(3, .int (v3 + 1)), (0, .ref (ad 2)), (2, .int v2)]) hx hb dX0_canBecomeEnough_49 hl (k := 2) rfl rfl (by decide) rfl (fun ls hl => ?_)
            refine lv_goto (tgt := 7) hx hb dX0_canBecomeEnough_52 (by decide) ?_
            exact ih1 0 v2 (v3 + 1) u H locs ls hf hP hD hS (lv_sub hl [1, 2, 0] rfl)
          · have hf := (if_neg c_4).symm.trans hf
            refine lv_iconst (v := 0) hx hb dX0_canBecomeEnough_47 (by decide) ?_
            have hf := Option.some.inj hf
            exact W.zret (v := (0 : Int32)) hx hb hr rfl (fun t ht hW => ⟨⟨(0 : Int32), u, rfl, hf, ⟨by rw [ht]; exact hP, va_K.moved hW.alike hK, hD⟩⟩, hS.F ht⟩) hS.2.2 dX0_canBecomeEnough_48
  exact (key n).1 z1 0 0 u _ _ ls hf0 hP hD hS (lv_sub hl [0, 1] rfl)

def fX3_changeAim (n pc : Nat) (v1 : Int32) (v2 : Int32) (u : St) : Option (Int32 × St) := match n with
  | 0 => none
  | n + 1 => match pc with
    | 0 => (if ck v1 16 = true then some (((gA u 16) v1.toNatClampNeg), sI (sA u 16 (upd (gA u 16) v1.toNatClampNeg v2)) 8 (0 : Int32)) else none)
    | _ => none
theorem eX3_changeAim_0 (n : Nat) (v1 : Int32) (v2 : Int32) (u : St) : fX3_changeAim (n + 1) 0 v1 v2 u = (if ck v1 16 = true then some (((gA u 16) v1.toNatClampNeg), sI (sA u 16 (upd (gA u 16) v1.toNatClampNeg v2)) 8 (0 : Int32)) else none) := rfl
theorem vX3_changeAim_0 (v1 : Int32) (v2 : Int32) (u : St) (r : Int32 × St) : Ev (fun n => fX3_changeAim n 0 v1 v2 u) r ↔ Ev (fun n => (if ck v1 16 = true then some (((gA u 16) v1.toNatClampNeg), sI (sA u 16 (upd (gA u 16) v1.toNatClampNeg v2)) 8 (0 : Int32)) else none)) r := Ev_succ (fun n => fX3_changeAim n 0 v1 v2 u) r
def FX3_changeAim (n : Nat) (v1 : Int32) (v2 : Int32) (u : St) : Option (Int32 × St) := fX3_changeAim n 0 v1 v2 u
set_option maxHeartbeats 4000000 in
set_option maxRecDepth 100000 in
theorem mX3_changeAim (l : Launch) (dC : Nat → ClassId) (dI : Nat → Nat → Nat) (cI cL : ClassId) (ad : Nat → Nat) (sz : Nat) (u : St) (z1 : Int32) (z2 : Int32) (n : Nat) (r : Int32 × St) (hf0 : FX3_changeAim n z1 z2 u = some r) : Met l yX3_changeAim wsX3_changeAim ({ frames := 0, cells := 0, slots := 0, locals := 0 }) (va_Pc [.ref (ad 3), .int z1, .int z2] (wPre dC dI cI cL (cw ad cI cL u) sz)) (va_Qi (fun a t => (a, t) = r) (fun t => wPost dC dI cI cL (va_A (cw ad cI cL u) sz) (cw ad cI cL t)) (va_A (cw ad cI cL u) sz)) 0 0 (va_A (cw ad cI cL u) sz) := by
  refine Met.ofW (cc := cX3_changeAim) (maxL := 4) (ret := (some .int)) (by decide) rfl ?_
  intro p e s m args below meth c s₁ B hml hv
  obtain ⟨rfl, hsz, hP, hK, hD0, hZ⟩ := hv
  have hx := B.exec
  have hb := B.bytes
  have hr := B.returns
  have hts := atoms_spec (ws := wsX3_changeAim) B.pre
  have hown : s.vm.findClass RX3 = some m.cls := findClass_of_methodNamed B.named
  have hlocks := B.notSynchronized
  subst hsz
  have hD := hD0.self (sz := s.heap.size)
  generalize hAe : va_A (cw ad cI cL u) s.heap.size = A at hD ⊢
  have hA : ∀ q : Nat, s.heap.size ≤ q → A q := fun q h => by rw [← hAe]; exact Or.inr h
  have hS : va_S A s.heap s.heap [] := va_S.rf
  have iX3 : ∀ w ∈ u_ws RX3 TX3 7, w ∈ wsX3_changeAim := fun _ h => List.mem_cons_of_mem _ (List.mem_append_right _ h)
  have k_0 := hts (.fieldLink RX3 9 "LampChoice$Scenes" "aims" "[I") (by decide +kernel)
  have k_1 := hts (.fieldLink RX3 30 "LampChoice$Scenes" "known" "Z") (by decide +kernel)
  have hl := lv_entry ([.ref (ad 3), .int z1, .int z2]) (n := 4) (Nat.le_of_ble_eq_true rfl)
  rw [lg_entry_eq]
  generalize (lg_sl ([.ref (ad 3), .int z1, .int z2]) ++ List.replicate (4 - (lg_sl ([.ref (ad 3), .int z1, .int z2])).length) Slot.unset).toArray = ls at hl ⊢
  have hl : lv_has ls 4 [(0, .ref (ad 3)), (1, .int z1), (2, .int z2)] := hl
  have key : ∀ n : Nat, (∀ (v1 : Int32) (v2 : Int32) (u : St) (H : Heap) (locs : List Loc) (ls : Array Slot), fX3_changeAim n 0 v1 v2 u = some r → va_P (dC, dI) vwCl (cw ad cI cL u) H → va_D A (cw ad cI cL u) → va_S A s.heap H locs → lv_has ls 4 [(0, .ref (ad 3)), (1, .int v1), (2, .int v2)] → W p l e (headSpec wsX3_changeAim ({ frames := 0, cells := 0, slots := 0, locals := 0 })).room s m ([.ref (ad 3), .int z1, .int z2] : List Value).toArray below meth c H locs 0 0 (MQ below (va_Qi (fun a t => (a, t) = r) (fun t => wPost dC dI cI cL A (cw ad cI cL t)) A) ([.ref (ad 3), .int z1, .int z2] : List Value).toArray s 0 0 A) (F0 m 0 ls [])) := by
    intro n
    induction n with
    | zero => exact (fun _ _ _ _ _ _ hf => nomatch (show (none : Option (Int32 × St)) = some r from hf))
    | succ n ih =>
      have ih0 := ih
      · intro v1 v2 u H locs ls hf hP hD hS hl
        have hf := (eX3_changeAim_0 n v1 v2 u).symm.trans hf
        refine lv_aload_n hx hb dX3_changeAim_0 rfl (lv_at hl 0 rfl) ?_
        refine va_get (D := (dC, dI)) (ci := 3) (v := .ref (ad 21)) (C := RX3) (T := TX3) (N := 7) hx hb hts iX3 hown hK hP 3 rfl rfl 2 (by decide) k_0 (fun _ h9 => h9) rfl dX3_changeAim_1 ?_
        refine lv_iload_n hx hb dX3_changeAim_4 rfl (lv_at hl 1 rfl) ?_
        obtain ⟨h_1, hf⟩ := ck_of hf
        refine va_iald (f := (gA u 16)) hx hb hK hP 21 0 rfl rfl h_1 dX3_changeAim_5 ?_
        refine lv_istore_n (lv' := [(3, .int ((gA u 16) v1.toNatClampNeg)), (0, .ref (ad 3)), (1, .int v1), (2, .int v2)]) hx hb dX3_changeAim_6 rfl hl (by decide) rfl (fun ls hl => ?_)
        refine lv_aload_n hx hb dX3_changeAim_7 rfl (lv_at hl 1 rfl) ?_
        refine va_get (D := (dC, dI)) (ci := 3) (v := .ref (ad 21)) (C := RX3) (T := TX3) (N := 7) hx hb hts iX3 hown hK hP 3 rfl rfl 2 (by decide) k_0 (fun _ h9 => h9) rfl dX3_changeAim_8 ?_
        refine lv_iload_n hx hb dX3_changeAim_11 rfl (lv_at hl 2 rfl) ?_
        refine lv_iload_n hx hb dX3_changeAim_12 rfl (lv_at hl 3 rfl) ?_
        refine va_iast (f := (gA u 16)) hx hb hK hP hD hS 21 0 rfl rfl h_1 dX3_changeAim_13 (fun H locs hP hD hS => ?_)
        have hP : va_P (dC, dI) vwCl (cw ad cI cL (sA u 16 (upd (gA u 16) v1.toNatClampNeg v2))) H := hP
        have hD : va_D A (cw ad cI cL (sA u 16 (upd (gA u 16) v1.toNatClampNeg v2))) := hD
        refine lv_aload_n hx hb dX3_changeAim_14 rfl (lv_at hl 1 rfl) ?_
        refine lv_iconst (v := 0) hx hb dX3_changeAim_15 (by decide) ?_
        refine va_put (D := (dC, dI)) (ci := 3) (v := .int (0 : Int32)) (ty := .boolean) (C := RX3) (T := TX3) (N := 7) hx hb hts iX3 tyX3 tyX3_ok nmX3 hown hK hP hD hS 3 rfl rfl 6 (by decide) k_1 (fun _ h9 => h9) rfl (by decide +kernel) rfl rfl (Nat.le_of_ble_eq_true rfl) dX3_changeAim_16 (fun H locs hP hD hS => ?_)
        have hP : va_P (dC, dI) vwCl (cw ad cI cL (sI (sA u 16 (upd (gA u 16) v1.toNatClampNeg v2)) 8 (0 : Int32))) H := hP
        have hD : va_D A (cw ad cI cL (sI (sA u 16 (upd (gA u 16) v1.toNatClampNeg v2)) 8 (0 : Int32))) := hD
        refine lv_iload_n hx hb dX3_changeAim_19 rfl (lv_at hl 0 rfl) ?_
        have hf := Option.some.inj hf
        exact W.iret (v := ((gA u 16) v1.toNatClampNeg)) hx hb hr (fun t ht hW => ⟨⟨((gA u 16) v1.toNatClampNeg), (sI (sA u 16 (upd (gA u 16) v1.toNatClampNeg v2)) 8 (0 : Int32)), rfl, hf, ⟨by rw [ht]; exact hP, va_K.moved hW.alike hK, hD⟩⟩, hS.F ht⟩) hS.2.2 dX3_changeAim_20
  exact (key n) z1 z2 u _ _ ls hf0 hP hD hS (lv_sub hl [0, 1, 2] rfl)

def fX3_fittingDim (n pc : Nat) (v1 : Int32) (w2 : Int64) (w4 : Int64) (v6 : Int32) (u : St) : Option (Int32 × St) := match n with
  | 0 => none
  | n + 1 => match pc with
    | 0 => fX3_fittingDim n 8 v1 (0 : Int64) (0 : Int64) (0 : Int32) u
    | 8 => (if (gI u 2) ≤ v6 then (if (0 : Int64) < (((2 : Int64) * w4) - w2) then ((FX4_quotient n (((((2 : Int64) * w4) - w2) + ((2 : Int64) * w2)) - (1 : Int64)) ((2 : Int64) * w2)).bind fun w_3 => some ((if w_3 < (100 : Int64) then w_3 else (100 : Int64)).toInt32, u)) else some ((0 : Int32), u)) else ((FX0_lampLight n v1 v6 u).bind fun w_4 => (if ck v6 16 = true then (if ck v1 7 = true then fX3_fittingDim n 8 v1 (w2 + (w_4.1.toInt64 * w_4.1.toInt64)) (w4 + (w_4.1.toInt64 * (((gL w_4.2 0) v6.toNatClampNeg) + (w_4.1.toInt64 * ((gA w_4.2 17) v1.toNatClampNeg).toInt64)))) (v6 + 1) w_4.2 else none) else none)))
    | _ => none
theorem eX3_fittingDim_0 (n : Nat) (v1 : Int32) (w2 : Int64) (w4 : Int64) (v6 : Int32) (u : St) : fX3_fittingDim (n + 1) 0 v1 w2 w4 v6 u = fX3_fittingDim n 8 v1 (0 : Int64) (0 : Int64) (0 : Int32) u := rfl
theorem eX3_fittingDim_8 (n : Nat) (v1 : Int32) (w2 : Int64) (w4 : Int64) (v6 : Int32) (u : St) : fX3_fittingDim (n + 1) 8 v1 w2 w4 v6 u = (if (gI u 2) ≤ v6 then (if (0 : Int64) < (((2 : Int64) * w4) - w2) then ((FX4_quotient n (((((2 : Int64) * w4) - w2) + ((2 : Int64) * w2)) - (1 : Int64)) ((2 : Int64) * w2)).bind fun w_3 => some ((if w_3 < (100 : Int64) then w_3 else (100 : Int64)).toInt32, u)) else some ((0 : Int32), u)) else ((FX0_lampLight n v1 v6 u).bind fun w_4 => (if ck v6 16 = true then (if ck v1 7 = true then fX3_fittingDim n 8 v1 (w2 + (w_4.1.toInt64 * w_4.1.toInt64)) (w4 + (w_4.1.toInt64 * (((gL w_4.2 0) v6.toNatClampNeg) + (w_4.1.toInt64 * ((gA w_4.2 17) v1.toNatClampNeg).toInt64)))) (v6 + 1) w_4.2 else none) else none))) := rfl
theorem vX3_fittingDim_0 (v1 : Int32) (w2 : Int64) (w4 : Int64) (v6 : Int32) (u : St) (r : Int32 × St) : Ev (fun n => fX3_fittingDim n 0 v1 w2 w4 v6 u) r ↔ Ev (fun n => fX3_fittingDim n 8 v1 (0 : Int64) (0 : Int64) (0 : Int32) u) r := Ev_succ (fun n => fX3_fittingDim n 0 v1 w2 w4 v6 u) r
theorem vX3_fittingDim_8 (v1 : Int32) (w2 : Int64) (w4 : Int64) (v6 : Int32) (u : St) (r : Int32 × St) : Ev (fun n => fX3_fittingDim n 8 v1 w2 w4 v6 u) r ↔ Ev (fun n => (if (gI u 2) ≤ v6 then (if (0 : Int64) < (((2 : Int64) * w4) - w2) then ((FX4_quotient n (((((2 : Int64) * w4) - w2) + ((2 : Int64) * w2)) - (1 : Int64)) ((2 : Int64) * w2)).bind fun w_3 => some ((if w_3 < (100 : Int64) then w_3 else (100 : Int64)).toInt32, u)) else some ((0 : Int32), u)) else ((FX0_lampLight n v1 v6 u).bind fun w_4 => (if ck v6 16 = true then (if ck v1 7 = true then fX3_fittingDim n 8 v1 (w2 + (w_4.1.toInt64 * w_4.1.toInt64)) (w4 + (w_4.1.toInt64 * (((gL w_4.2 0) v6.toNatClampNeg) + (w_4.1.toInt64 * ((gA w_4.2 17) v1.toNatClampNeg).toInt64)))) (v6 + 1) w_4.2 else none) else none)))) r := Ev_succ (fun n => fX3_fittingDim n 8 v1 w2 w4 v6 u) r
def FX3_fittingDim (n : Nat) (v1 : Int32) (u : St) : Option (Int32 × St) := fX3_fittingDim n 0 v1 0 0 0 u
set_option maxHeartbeats 4000000 in
set_option maxRecDepth 100000 in
theorem mX3_fittingDim (l : Launch) (dC : Nat → ClassId) (dI : Nat → Nat → Nat) (cI cL : ClassId) (ad : Nat → Nat) (sz : Nat) (u : St) (z1 : Int32) (n : Nat) (r : Int32 × St) (hf0 : FX3_fittingDim n z1 u = some r) : Met l yX3_fittingDim wsX3_fittingDim ({ frames := 2, cells := 0, slots := 0, locals := 44 }) (va_Pc [.ref (ad 3), .int z1] (wPre dC dI cI cL (cw ad cI cL u) sz)) (va_Qi (fun a t => (a, t) = r) (fun t => wPost dC dI cI cL (va_A (cw ad cI cL u) sz) (cw ad cI cL t)) (va_A (cw ad cI cL u) sz)) 0 0 (va_A (cw ad cI cL u) sz) := by
  refine Met.ofW (cc := cX3_fittingDim) (maxL := 9) (ret := (some .int)) (by decide) rfl ?_
  intro p e s m args below meth c s₁ B hml hv
  obtain ⟨rfl, hsz, hP, hK, hD0, hZ⟩ := hv
  have hx := B.exec
  have hb := B.bytes
  have hr := B.returns
  have hts := atoms_spec (ws := wsX3_fittingDim) B.pre
  have hown : s.vm.findClass RX3 = some m.cls := findClass_of_methodNamed B.named
  have hlocks := B.notSynchronized
  subst hsz
  have hD := hD0.self (sz := s.heap.size)
  generalize hAe : va_A (cw ad cI cL u) s.heap.size = A at hD ⊢
  have hA : ∀ q : Nat, s.heap.size ≤ q → A q := fun q h => by rw [← hAe]; exact Or.inr h
  have hS : va_S A s.heap s.heap [] := va_S.rf
  have iX2 : ∀ w ∈ u_ws RX2 TX2 14, w ∈ wsX3_fittingDim := fun _ h => List.mem_cons_of_mem _ (List.mem_append_left _ (List.mem_append_right _ h))
  have iX3 : ∀ w ∈ u_ws RX3 TX3 7, w ∈ wsX3_fittingDim := fun _ h => List.mem_cons_of_mem _ (List.mem_append_left _ (List.mem_append_left _ (List.mem_append_right _ h)))
  have k_0 := hts (.fieldLink RX3 22 "LampChoice$Scenes" "room" "LLampChoice$Room;") (by decide +kernel)
  have k_1 := hts (.fieldLink RX3 40 "LampChoice$Room" "points" "I") (by decide +kernel)
  have k_2 := hts (.constantLong RX3 78 (2)) (by decide +kernel)
  have k_3 := hts (.constantLong RX3 46 (100)) (by decide +kernel)
  have k_4 := hts (.initialized RX4) (by decide +kernel)
  have k_5 := hts (.static yX4_quotient) (by decide +kernel)
  have k_6 := hts (.methodLink RX3 84 Lib.MathLoose.min_long.x) (by decide +kernel)
  have k_7 := hts (.static Lib.MathLoose.min_long.x) (by decide +kernel)
  have k_8 := hts (.initialized "java/lang/Math") (by decide +kernel)
  have k_9 := hts (.code Lib.MathLoose.min_long.x Lib.MathLoose.min_long.code 4 (some .long)) (by decide +kernel)
  have k_10 := hts (.fieldLink RX3 26 "LampChoice$Scenes" "choice" "LLampChoice$Choice;") (by decide +kernel)
  have k_11 := hts (.fieldLink RX3 18 "LampChoice$Scenes" "misses" "[J") (by decide +kernel)
  have k_12 := hts (.fieldLink RX3 15 "LampChoice$Scenes" "dims" "[I") (by decide +kernel)
  have hl := lv_entry ([.ref (ad 3), .int z1]) (n := 9) (Nat.le_of_ble_eq_true rfl)
  rw [lg_entry_eq]
  generalize (lg_sl ([.ref (ad 3), .int z1]) ++ List.replicate (9 - (lg_sl ([.ref (ad 3), .int z1])).length) Slot.unset).toArray = ls at hl ⊢
  have hl : lv_has ls 9 [(0, .ref (ad 3)), (1, .int z1)] := hl
  have key : ∀ n : Nat, (∀ (v1 : Int32) (w2 : Int64) (w4 : Int64) (v6 : Int32) (u : St) (H : Heap) (locs : List Loc) (ls : Array Slot), fX3_fittingDim n 0 v1 w2 w4 v6 u = some r → va_P (dC, dI) vwCl (cw ad cI cL u) H → va_D A (cw ad cI cL u) → va_S A s.heap H locs → lv_has ls 9 [(0, .ref (ad 3)), (1, .int v1)] → W p l e (headSpec wsX3_fittingDim ({ frames := 2, cells := 0, slots := 0, locals := 44 })).room s m ([.ref (ad 3), .int z1] : List Value).toArray below meth c H locs 0 0 (MQ below (va_Qi (fun a t => (a, t) = r) (fun t => wPost dC dI cI cL A (cw ad cI cL t)) A) ([.ref (ad 3), .int z1] : List Value).toArray s 0 0 A) (F0 m 0 ls [])) ∧ (∀ (v1 : Int32) (w2 : Int64) (w4 : Int64) (v6 : Int32) (u : St) (H : Heap) (locs : List Loc) (ls : Array Slot), fX3_fittingDim n 8 v1 w2 w4 v6 u = some r → va_P (dC, dI) vwCl (cw ad cI cL u) H → va_D A (cw ad cI cL u) → va_S A s.heap H locs → lv_has ls 9 [(0, .ref (ad 3)), (1, .int v1), (2, .long w2), (4, .long w4), (6, .int v6)] → W p l e (headSpec wsX3_fittingDim ({ frames := 2, cells := 0, slots := 0, locals := 44 })).room s m ([.ref (ad 3), .int z1] : List Value).toArray below meth c H locs 0 0 (MQ below (va_Qi (fun a t => (a, t) = r) (fun t => wPost dC dI cI cL A (cw ad cI cL t)) A) ([.ref (ad 3), .int z1] : List Value).toArray s 0 0 A) (F0 m 8 ls [])) := by
    intro n
    induction n with
    | zero => exact ⟨(fun _ _ _ _ _ _ _ _ hf => nomatch (show (none : Option (Int32 × St)) = some r from hf)), (fun _ _ _ _ _ _ _ _ hf => nomatch (show (none : Option (Int32 × St)) = some r from hf))⟩
    | succ n ih =>
      obtain ⟨ih0, ih1⟩ := ih
      refine ⟨?_, ?_⟩
      · intro v1 w2 w4 v6 u H locs ls hf hP hD hS hl
        have hf := (eX3_fittingDim_0 n v1 w2 w4 v6 u).symm.trans hf
        refine lv_lconst (v := 0) hx hb dX3_fittingDim_0 (by decide) ?_
        refine lv_lstore_n (lv' := [(2, .long (0 : Int64)), (0, .ref (ad 3)), (1, .int v1)]) hx hb dX3_fittingDim_1 rfl hl (by decide) rfl (fun ls hl => ?_)
        refine lv_lconst (v := 0) hx hb dX3_fittingDim_2 (by decide) ?_
        refine lv_lstore (lv' := [(4, .long (0 : Int64)), (2, .long (0 : Int64)), (0, .ref (ad 3)), (1, .int v1)]) hx hb dX3_fittingDim_3 hl (by decide) rfl (fun ls hl => ?_)
        refine lv_iconst (v := 0) hx hb dX3_fittingDim_5 (by decide) ?_
        refine lv_istore (lv' := [(6, .int (0 : Int32)), (4, .long (0 : Int64)), (2, .long (0 : Int64)), (0, .ref (ad 3)), (1, .int v1)]) hx hb dX3_fittingDim_6 hl (by decide) rfl (fun ls hl => ?_)
        exact ih1 v1 (0 : Int64) (0 : Int64) (0 : Int32) u H locs ls hf hP hD hS (lv_sub hl [3, 4, 2, 1, 0] rfl)
      · intro v1 w2 w4 v6 u H locs ls hf hP hD hS hl
        have hf := (eX3_fittingDim_8 n v1 w2 w4 v6 u).symm.trans hf
        refine lv_iload hx hb dX3_fittingDim_8 (lv_at hl 4 rfl) ?_
        refine lv_aload_n hx hb dX3_fittingDim_10 rfl (lv_at hl 0 rfl) ?_
        refine va_get (D := (dC, dI)) (ci := 3) (v := .ref (ad 1)) (C := RX3) (T := TX3) (N := 7) hx hb hts iX3 hown hK hP 3 rfl rfl 0 (by decide) k_0 (fun _ h9 => h9) rfl dX3_fittingDim_11 ?_
        refine va_get (D := (dC, dI)) (ci := 2) (v := .int (gI u 2)) (C := RX2) (T := TX2) (N := 14) hx hb hts iX2 hown hK hP 1 rfl rfl 12 (by decide) k_1 (fun _ h9 => h9) rfl dX3_fittingDim_14 ?_
        refine lv_icmp_ge (tgt := 73) hx hb dX3_fittingDim_17 (by decide) (fun c_1 => ?_) (fun c_1 => ?_)
        · have hf := (if_pos c_1).symm.trans hf
          refine lv_ldc2 (v := 2) hx hb hown k_2 dX3_fittingDim_73 ?_
          refine lv_lload hx hb dX3_fittingDim_76 (lv_at hl 3 rfl) ?_
          refine lv_lmul hx hb dX3_fittingDim_78 ?_
          refine lv_lload_n hx hb dX3_fittingDim_79 rfl (lv_at hl 2 rfl) ?_
          refine lv_lsub hx hb dX3_fittingDim_80 ?_
          refine lv_lstore (lv' := [(6, .long (((2 : Int64) * w4) - w2)), (0, .ref (ad 3)), (1, .int v1), (2, .long w2), (4, .long w4)]) hx hb dX3_fittingDim_81 hl (by decide) rfl (fun ls hl => ?_)
          refine lv_lload hx hb dX3_fittingDim_83 (lv_at hl 0 rfl) ?_
          refine lv_lconst (v := 0) hx hb dX3_fittingDim_85 (by decide) ?_
          refine W.lcmp hx hb dX3_fittingDim_86 ?_
          refine lv_if_gt (tgt := 92) hx hb dX3_fittingDim_87 (by decide) (fun c_2 => ?_) (fun c_2 => ?_)
          · have c_2 := (lg_cmp_gt (((2 : Int64) * w4) - w2) (0 : Int64)).mp c_2
            have hf := (if_pos c_2).symm.trans hf
            refine lv_ldc2 (v := 100) hx hb hown k_3 dX3_fittingDim_92 ?_
            refine lv_lload hx hb dX3_fittingDim_95 (lv_at hl 0 rfl) ?_
            refine lv_ldc2 (v := 2) hx hb hown k_2 dX3_fittingDim_97 ?_
            refine lv_lload_n hx hb dX3_fittingDim_100 rfl (lv_at hl 3 rfl) ?_
            refine lv_lmul hx hb dX3_fittingDim_101 ?_
            refine lv_ladd hx hb dX3_fittingDim_102 ?_
            refine lv_lconst (v := 1) hx hb dX3_fittingDim_103 (by decide) ?_
            refine lv_lsub hx hb dX3_fittingDim_104 ?_
            refine lv_ldc2 (v := 2) hx hb hown k_2 dX3_fittingDim_105 ?_
            refine lv_lload_n hx hb dX3_fittingDim_108 rfl (lv_at hl 3 rfl) ?_
            refine lv_lmul hx hb dX3_fittingDim_109 ?_
            obtain ⟨w_3, hw_3, hf⟩ := ob hf
            have hFc := freeNil hS hA
            refine va_calll (va_runSN (As := [.long (((((2 : Int64) * w4) - w2) + ((2 : Int64) * w2)) - (1 : Int64)), .long ((2 : Int64) * w2)]) (rest := [.long (100 : Int64)]) ⟨hx, hb, hml, hown, hts⟩ (mX4_quotient l H.size (((((2 : Int64) * w4) - w2) + ((2 : Int64) * w2)) - (1 : Int64)) ((2 : Int64) * w2) n w_3 hw_3) ⟨va_cnB 2 hts ggX3_fittingDim_X4_quotient rfl rfl rfl hZ.2.2.2 k_4 (by decide +kernel) ⟨Nat.le_of_ble_eq_true rfl, Nat.le_of_ble_eq_true rfl⟩, k_5, trivial⟩ ⟨nPre_blind, nPre_of⟩ rfl rfl hl.1 rfl (lv_room (Nat.le_of_ble_eq_true rfl)) dX3_fittingDim_110 ⟨Nat.zero_le _, Nat.zero_le _⟩) hS (fun q _ h => hFc q h) hFc (fun r2 u2 t H1 locs ht hvm hw hB hz1 hk1 hS => ?_)
            subst r2
            have hP := keepP hP hk1
            clear hFc hk1 hB
            generalize H1 = H at hP hS ⊢
            refine va_mmin_long hx hb (by rw [hml]; exact hl.1.symm) hown k_6 k_7 k_8 k_9 (Nat.le_of_ble_eq_true rfl) (Nat.le_of_ble_eq_true rfl) (Nat.zero_le _) (Nat.zero_le _) dX3_fittingDim_113 ?_
            refine lv_l2i (v := (if w_3 < (100 : Int64) then w_3 else (100 : Int64)).toInt32) hx hb dX3_fittingDim_116 rfl ?_
            have hf := Option.some.inj hf
            exact W.iret (v := (if w_3 < (100 : Int64) then w_3 else (100 : Int64)).toInt32) hx hb hr (fun t ht hW => ⟨⟨(if w_3 < (100 : Int64) then w_3 else (100 : Int64)).toInt32, u, rfl, hf, ⟨by rw [ht]; exact hP, va_K.moved hW.alike hK, hD⟩⟩, hS.F ht⟩) hS.2.2 dX3_fittingDim_117
          · have c_2 := fun q => c_2 ((lg_cmp_gt (((2 : Int64) * w4) - w2) (0 : Int64)).mpr q)
            have hf := (if_neg c_2).symm.trans hf
            refine lv_iconst (v := 0) hx hb dX3_fittingDim_90 (by decide) ?_
            have hf := Option.some.inj hf
            exact W.iret (v := (0 : Int32)) hx hb hr (fun t ht hW => ⟨⟨(0 : Int32), u, rfl, hf, ⟨by rw [ht]; exact hP, va_K.moved hW.alike hK, hD⟩⟩, hS.F ht⟩) hS.2.2 dX3_fittingDim_91
        · have hf := (if_neg c_1).symm.trans hf
          refine lv_aload_n hx hb dX3_fittingDim_20 rfl (lv_at hl 0 rfl) ?_
          refine va_get (D := (dC, dI)) (ci := 3) (v := .ref (ad 2)) (C := RX3) (T := TX3) (N := 7) hx hb hts iX3 hown hK hP 3 rfl rfl 1 (by decide) k_10 (fun _ h9 => h9) rfl dX3_fittingDim_21 ?_
          refine lv_iload_n hx hb dX3_fittingDim_24 rfl (lv_at hl 1 rfl) ?_
          refine lv_iload hx hb dX3_fittingDim_25 (lv_at hl 4 rfl) ?_
          obtain ⟨w_4, hw_4, hf⟩ := ob hf
          have hFc := freeAll hD hS hA
          refine va_calli (va_runV (As := [.int v1, .int v6]) (rest := []) ⟨hx, hb, hml, hown, hts⟩ (mX0_lampLight l dC dI cI cL ad H.size u v1 v6 n w_4 hw_4) (cwV 2 hts gX3_fittingDim_X0_lampLight rfl rfl rfl (by decide +kernel) ⟨Nat.le_of_ble_eq_true rfl, Nat.le_of_ble_eq_true rfl⟩) ⟨wPre_blind, va_recv hK hP (ci := 0) (q0 := 2) rfl rfl, wPre_of hP hK hD hZ⟩ rfl rfl hl.1 rfl (lv_room (Nat.le_of_ble_eq_true rfl)) dX3_fittingDim_27 ⟨Nat.zero_le _, Nat.zero_le _⟩) hS (fun q _ h => hFc q h) hFc (fun r2 u2 t H1 locs ht hvm hw hB hz1 hk1 hS => ?_)
          obtain ⟨hP1, hK1, hD1⟩ := hB
          rw [ht] at hP1
          have e1 : r2 = w_4.1 := congrArg Prod.fst hw
          have e2 : u2 = w_4.2 := congrArg Prod.snd hw
          subst r2 u2
          have hP : va_P (dC, dI) vwCl (cw ad cI cL w_4.2) H1 := hP1
          have hD : va_D A (cw ad cI cL w_4.2) := hD1.weaken (fun _ _ _ h => hFc _ h)
          clear hP1 hD1 hK1 hFc hk1
          generalize H1 = H at hP hS ⊢
          refine lv_i2l (v := w_4.1.toInt64) hx hb dX3_fittingDim_30 rfl ?_
          refine lv_lstore (lv' := [(7, .long w_4.1.toInt64), (0, .ref (ad 3)), (1, .int v1), (2, .long w2), (4, .long w4), (6, .int v6)]) hx hb dX3_fittingDim_31 hl (by decide) rfl (fun ls hl => ?_)
          refine lv_lload_n hx hb dX3_fittingDim_33 rfl (lv_at hl 3 rfl) ?_
          refine lv_lload hx hb dX3_fittingDim_34 (lv_at hl 0 rfl) ?_
          refine lv_lload hx hb dX3_fittingDim_36 (lv_at hl 0 rfl) ?_
          refine lv_lmul hx hb dX3_fittingDim_38 ?_
          refine lv_ladd hx hb dX3_fittingDim_39 ?_
          refine lv_lstore_n (lv' := [(2, .long (w2 + (w_4.1.toInt64 * w_4.1.toInt64))), (7, .long w_4.1.toInt64), (0, .ref (ad 3)), (1, .int v1), (4, .long w4), (6, .int v6)]) hx hb dX3_fittingDim_40 rfl hl (by decide) rfl (fun ls hl => ?_)
          refine lv_lload hx hb dX3_fittingDim_41 (lv_at hl 4 rfl) ?_
          refine lv_lload hx hb dX3_fittingDim_43 (lv_at hl 1 rfl) ?_
          refine lv_aload_n hx hb dX3_fittingDim_45 rfl (lv_at hl 2 rfl) ?_
          refine va_get (D := (dC, dI)) (ci := 3) (v := .ref (ad 23)) (C := RX3) (T := TX3) (N := 7) hx hb hts iX3 hown hK hP 3 rfl rfl 4 (by decide) k_11 (fun _ h9 => h9) rfl dX3_fittingDim_46 ?_
          refine lv_iload hx hb dX3_fittingDim_49 (lv_at hl 5 rfl) ?_
          obtain ⟨h_5, hf⟩ := ck_of hf
          refine va_lald (f := (gL w_4.2 0)) hx hb hK hP 23 1 rfl rfl h_5 dX3_fittingDim_51 ?_
          refine lv_lload hx hb dX3_fittingDim_52 (lv_at hl 1 rfl) ?_
          refine lv_aload_n hx hb dX3_fittingDim_54 rfl (lv_at hl 2 rfl) ?_
          refine va_get (D := (dC, dI)) (ci := 3) (v := .ref (ad 22)) (C := RX3) (T := TX3) (N := 7) hx hb hts iX3 hown hK hP 3 rfl rfl 3 (by decide) k_12 (fun _ h9 => h9) rfl dX3_fittingDim_55 ?_
          refine lv_iload_n hx hb dX3_fittingDim_58 rfl (lv_at hl 3 rfl) ?_
          obtain ⟨h_6, hf⟩ := ck_of hf
          refine va_iald (f := (gA w_4.2 17)) hx hb hK hP 22 0 rfl rfl h_6 dX3_fittingDim_59 ?_
          refine lv_i2l (v := ((gA w_4.2 17) v1.toNatClampNeg).toInt64) hx hb dX3_fittingDim_60 rfl ?_
          refine lv_lmul hx hb dX3_fittingDim_61 ?_
          refine lv_ladd hx hb dX3_fittingDim_62 ?_
          refine lv_lmul hx hb dX3_fittingDim_63 ?_
          refine lv_ladd hx hb dX3_fittingDim_64 ?_
          refine lv_lstore (lv' := [(4, .long (w4 + (w_4.1.toInt64 * (((gL w_4.2 0) v6.toNatClampNeg) + (w_4.1.toInt64 * ((gA w_4.2 17) v1.toNatClampNeg).toInt64))))), (2, .long (w2 + (w_4.1.toInt64 * w_4.1.toInt64))), (7, .long w_4.1.toInt64), (0, .ref (ad 3)), (1, .int v1), (6, .int v6)]) hx hb dX3_fittingDim_65 hl (by decide) rfl (fun ls hl => ?_)
          refine lv_iinc (v := (v6 + 1)) (lv' := [(6, .int (v6 + 1)), (4, .long (w4 + (w_4.1.toInt64 * (((gL w_4.2 0) v6.toNatClampNeg) + (w_4.1.toInt64 * ((gA w_4.2 17) v1.toNatClampNeg).toInt64))))), (2, .long (w2 + (w_4.1.toInt64 * w_4.1.toInt64))), (7, .long w_4.1.toInt64), (0, .ref (ad 3)), (1, .int v1)]) hx hb dX3_fittingDim_67 hl (k := 5) rfl rfl (by decide) rfl (fun ls hl => ?_)
          refine lv_goto (tgt := 8) hx hb dX3_fittingDim_70 (by decide) ?_
          exact ih1 v1 (w2 + (w_4.1.toInt64 * w_4.1.toInt64)) (w4 + (w_4.1.toInt64 * (((gL w_4.2 0) v6.toNatClampNeg) + (w_4.1.toInt64 * ((gA w_4.2 17) v1.toNatClampNeg).toInt64)))) (v6 + 1) w_4.2 H locs ls hf hP hD hS (lv_sub hl [4, 5, 2, 1, 0] rfl)
  exact (key n).1 z1 0 0 0 u _ _ ls hf0 hP hD hS (lv_sub hl [0, 1] rfl)

def fX3_moveTo (n pc : Nat) (v1 : Int32) (v2 : Int32) (w3 : Int64) (v5 : Int32) (u : St) : Option (St) := match n with
  | 0 => none
  | n + 1 => match pc with
    | 0 => (if ck v1 7 = true then fX3_moveTo n 13 v1 v2 ((v2 - ((gA u 17) v1.toNatClampNeg)).toInt64) (0 : Int32) u else none)
    | 13 => (if (gI u 2) ≤ v5 then (if ck v1 7 = true then some (sA u 17 (upd (gA u 17) v1.toNatClampNeg v2)) else none) else (if ck v5 16 = true then ((FX0_lampLight n v1 v5 u).bind fun w_5 => fX3_moveTo n 13 v1 v2 w3 (v5 + 1) (sL w_5.2 0 (vp_updL (gL w_5.2 0) v5.toNatClampNeg (((gL u 0) v5.toNatClampNeg) - (w3 * w_5.1.toInt64))))) else none))
    | _ => none
theorem eX3_moveTo_0 (n : Nat) (v1 : Int32) (v2 : Int32) (w3 : Int64) (v5 : Int32) (u : St) : fX3_moveTo (n + 1) 0 v1 v2 w3 v5 u = (if ck v1 7 = true then fX3_moveTo n 13 v1 v2 ((v2 - ((gA u 17) v1.toNatClampNeg)).toInt64) (0 : Int32) u else none) := rfl
theorem eX3_moveTo_13 (n : Nat) (v1 : Int32) (v2 : Int32) (w3 : Int64) (v5 : Int32) (u : St) : fX3_moveTo (n + 1) 13 v1 v2 w3 v5 u = (if (gI u 2) ≤ v5 then (if ck v1 7 = true then some (sA u 17 (upd (gA u 17) v1.toNatClampNeg v2)) else none) else (if ck v5 16 = true then ((FX0_lampLight n v1 v5 u).bind fun w_5 => fX3_moveTo n 13 v1 v2 w3 (v5 + 1) (sL w_5.2 0 (vp_updL (gL w_5.2 0) v5.toNatClampNeg (((gL u 0) v5.toNatClampNeg) - (w3 * w_5.1.toInt64))))) else none)) := rfl
theorem vX3_moveTo_0 (v1 : Int32) (v2 : Int32) (w3 : Int64) (v5 : Int32) (u : St) (r : St) : Ev (fun n => fX3_moveTo n 0 v1 v2 w3 v5 u) r ↔ Ev (fun n => (if ck v1 7 = true then fX3_moveTo n 13 v1 v2 ((v2 - ((gA u 17) v1.toNatClampNeg)).toInt64) (0 : Int32) u else none)) r := Ev_succ (fun n => fX3_moveTo n 0 v1 v2 w3 v5 u) r
theorem vX3_moveTo_13 (v1 : Int32) (v2 : Int32) (w3 : Int64) (v5 : Int32) (u : St) (r : St) : Ev (fun n => fX3_moveTo n 13 v1 v2 w3 v5 u) r ↔ Ev (fun n => (if (gI u 2) ≤ v5 then (if ck v1 7 = true then some (sA u 17 (upd (gA u 17) v1.toNatClampNeg v2)) else none) else (if ck v5 16 = true then ((FX0_lampLight n v1 v5 u).bind fun w_5 => fX3_moveTo n 13 v1 v2 w3 (v5 + 1) (sL w_5.2 0 (vp_updL (gL w_5.2 0) v5.toNatClampNeg (((gL u 0) v5.toNatClampNeg) - (w3 * w_5.1.toInt64))))) else none))) r := Ev_succ (fun n => fX3_moveTo n 13 v1 v2 w3 v5 u) r
def FX3_moveTo (n : Nat) (v1 : Int32) (v2 : Int32) (u : St) : Option (St) := fX3_moveTo n 0 v1 v2 0 0 u
set_option maxHeartbeats 4000000 in
set_option maxRecDepth 100000 in
theorem mX3_moveTo (l : Launch) (dC : Nat → ClassId) (dI : Nat → Nat → Nat) (cI cL : ClassId) (ad : Nat → Nat) (sz : Nat) (u : St) (z1 : Int32) (z2 : Int32) (n : Nat) (r : St) (hf0 : FX3_moveTo n z1 z2 u = some r) : Met l yX3_moveTo wsX3_moveTo ({ frames := 2, cells := 0, slots := 0, locals := 44 }) (va_Pc [.ref (ad 3), .int z1, .int z2] (wPre dC dI cI cL (cw ad cI cL u) sz)) (va_Qv (fun t => t = r) (fun t => wPost dC dI cI cL (va_A (cw ad cI cL u) sz) (cw ad cI cL t)) (va_A (cw ad cI cL u) sz)) 0 0 (va_A (cw ad cI cL u) sz) := by
  refine Met.ofW (cc := cX3_moveTo) (maxL := 6) (ret := none) (by decide) rfl ?_
  intro p e s m args below meth c s₁ B hml hv
  obtain ⟨rfl, hsz, hP, hK, hD0, hZ⟩ := hv
  have hx := B.exec
  have hb := B.bytes
  have hr := B.returns
  have hts := atoms_spec (ws := wsX3_moveTo) B.pre
  have hown : s.vm.findClass RX3 = some m.cls := findClass_of_methodNamed B.named
  have hlocks := B.notSynchronized
  subst hsz
  have hD := hD0.self (sz := s.heap.size)
  generalize hAe : va_A (cw ad cI cL u) s.heap.size = A at hD ⊢
  have hA : ∀ q : Nat, s.heap.size ≤ q → A q := fun q h => by rw [← hAe]; exact Or.inr h
  have hS : va_S A s.heap s.heap [] := va_S.rf
  have iX2 : ∀ w ∈ u_ws RX2 TX2 14, w ∈ wsX3_moveTo := fun _ h => List.mem_cons_of_mem _ (List.mem_append_left _ (List.mem_append_right _ h))
  have iX3 : ∀ w ∈ u_ws RX3 TX3 7, w ∈ wsX3_moveTo := fun _ h => List.mem_cons_of_mem _ (List.mem_append_left _ (List.mem_append_left _ (List.mem_append_right _ h)))
  have k_0 := hts (.fieldLink RX3 15 "LampChoice$Scenes" "dims" "[I") (by decide +kernel)
  have k_1 := hts (.fieldLink RX3 22 "LampChoice$Scenes" "room" "LLampChoice$Room;") (by decide +kernel)
  have k_2 := hts (.fieldLink RX3 40 "LampChoice$Room" "points" "I") (by decide +kernel)
  have k_3 := hts (.fieldLink RX3 18 "LampChoice$Scenes" "misses" "[J") (by decide +kernel)
  have k_4 := hts (.fieldLink RX3 26 "LampChoice$Scenes" "choice" "LLampChoice$Choice;") (by decide +kernel)
  have hl := lv_entry ([.ref (ad 3), .int z1, .int z2]) (n := 6) (Nat.le_of_ble_eq_true rfl)
  rw [lg_entry_eq]
  generalize (lg_sl ([.ref (ad 3), .int z1, .int z2]) ++ List.replicate (6 - (lg_sl ([.ref (ad 3), .int z1, .int z2])).length) Slot.unset).toArray = ls at hl ⊢
  have hl : lv_has ls 6 [(0, .ref (ad 3)), (1, .int z1), (2, .int z2)] := hl
  have key : ∀ n : Nat, (∀ (v1 : Int32) (v2 : Int32) (w3 : Int64) (v5 : Int32) (u : St) (H : Heap) (locs : List Loc) (ls : Array Slot), fX3_moveTo n 0 v1 v2 w3 v5 u = some r → va_P (dC, dI) vwCl (cw ad cI cL u) H → va_D A (cw ad cI cL u) → va_S A s.heap H locs → lv_has ls 6 [(0, .ref (ad 3)), (1, .int v1), (2, .int v2)] → W p l e (headSpec wsX3_moveTo ({ frames := 2, cells := 0, slots := 0, locals := 44 })).room s m ([.ref (ad 3), .int z1, .int z2] : List Value).toArray below meth c H locs 0 0 (MQ below (va_Qv (fun t => t = r) (fun t => wPost dC dI cI cL A (cw ad cI cL t)) A) ([.ref (ad 3), .int z1, .int z2] : List Value).toArray s 0 0 A) (F0 m 0 ls [])) ∧ (∀ (v1 : Int32) (v2 : Int32) (w3 : Int64) (v5 : Int32) (u : St) (H : Heap) (locs : List Loc) (ls : Array Slot), fX3_moveTo n 13 v1 v2 w3 v5 u = some r → va_P (dC, dI) vwCl (cw ad cI cL u) H → va_D A (cw ad cI cL u) → va_S A s.heap H locs → lv_has ls 6 [(0, .ref (ad 3)), (1, .int v1), (2, .int v2), (3, .long w3), (5, .int v5)] → W p l e (headSpec wsX3_moveTo ({ frames := 2, cells := 0, slots := 0, locals := 44 })).room s m ([.ref (ad 3), .int z1, .int z2] : List Value).toArray below meth c H locs 0 0 (MQ below (va_Qv (fun t => t = r) (fun t => wPost dC dI cI cL A (cw ad cI cL t)) A) ([.ref (ad 3), .int z1, .int z2] : List Value).toArray s 0 0 A) (F0 m 13 ls [])) := by
    intro n
    induction n with
    | zero => exact ⟨(fun _ _ _ _ _ _ _ _ hf => nomatch (show (none : Option (St)) = some r from hf)), (fun _ _ _ _ _ _ _ _ hf => nomatch (show (none : Option (St)) = some r from hf))⟩
    | succ n ih =>
      obtain ⟨ih0, ih1⟩ := ih
      refine ⟨?_, ?_⟩
      · intro v1 v2 w3 v5 u H locs ls hf hP hD hS hl
        have hf := (eX3_moveTo_0 n v1 v2 w3 v5 u).symm.trans hf
        refine lv_iload_n hx hb dX3_moveTo_0 rfl (lv_at hl 2 rfl) ?_
        refine lv_aload_n hx hb dX3_moveTo_1 rfl (lv_at hl 0 rfl) ?_
        refine va_get (D := (dC, dI)) (ci := 3) (v := .ref (ad 22)) (C := RX3) (T := TX3) (N := 7) hx hb hts iX3 hown hK hP 3 rfl rfl 3 (by decide) k_0 (fun _ h9 => h9) rfl dX3_moveTo_2 ?_
        refine lv_iload_n hx hb dX3_moveTo_5 rfl (lv_at hl 1 rfl) ?_
        obtain ⟨h_1, hf⟩ := ck_of hf
        refine va_iald (f := (gA u 17)) hx hb hK hP 22 0 rfl rfl h_1 dX3_moveTo_6 ?_
        refine lv_isub hx hb dX3_moveTo_7 ?_
        refine lv_i2l (v := (v2 - ((gA u 17) v1.toNatClampNeg)).toInt64) hx hb dX3_moveTo_8 rfl ?_
        refine lv_lstore_n (lv' := [(3, .long ((v2 - ((gA u 17) v1.toNatClampNeg)).toInt64)), (0, .ref (ad 3)), (1, .int v1), (2, .int v2)]) hx hb dX3_moveTo_9 rfl hl (by decide) rfl (fun ls hl => ?_)
        refine lv_iconst (v := 0) hx hb dX3_moveTo_10 (by decide) ?_
        refine lv_istore (lv' := [(5, .int (0 : Int32)), (3, .long ((v2 - ((gA u 17) v1.toNatClampNeg)).toInt64)), (0, .ref (ad 3)), (1, .int v1), (2, .int v2)]) hx hb dX3_moveTo_11 hl (by decide) rfl (fun ls hl => ?_)
        exact ih1 v1 v2 ((v2 - ((gA u 17) v1.toNatClampNeg)).toInt64) (0 : Int32) u H locs ls hf hP hD hS (lv_sub hl [2, 3, 4, 1, 0] rfl)
      · intro v1 v2 w3 v5 u H locs ls hf hP hD hS hl
        have hf := (eX3_moveTo_13 n v1 v2 w3 v5 u).symm.trans hf
        refine lv_iload hx hb dX3_moveTo_13 (lv_at hl 4 rfl) ?_
        refine lv_aload_n hx hb dX3_moveTo_15 rfl (lv_at hl 0 rfl) ?_
        refine va_get (D := (dC, dI)) (ci := 3) (v := .ref (ad 1)) (C := RX3) (T := TX3) (N := 7) hx hb hts iX3 hown hK hP 3 rfl rfl 0 (by decide) k_1 (fun _ h9 => h9) rfl dX3_moveTo_16 ?_
        refine va_get (D := (dC, dI)) (ci := 2) (v := .int (gI u 2)) (C := RX2) (T := TX2) (N := 14) hx hb hts iX2 hown hK hP 1 rfl rfl 12 (by decide) k_2 (fun _ h9 => h9) rfl dX3_moveTo_19 ?_
        refine lv_icmp_ge (tgt := 54) hx hb dX3_moveTo_22 (by decide) (fun c_2 => ?_) (fun c_2 => ?_)
        · have hf := (if_pos c_2).symm.trans hf
          refine lv_aload_n hx hb dX3_moveTo_54 rfl (lv_at hl 0 rfl) ?_
          refine va_get (D := (dC, dI)) (ci := 3) (v := .ref (ad 22)) (C := RX3) (T := TX3) (N := 7) hx hb hts iX3 hown hK hP 3 rfl rfl 3 (by decide) k_0 (fun _ h9 => h9) rfl dX3_moveTo_55 ?_
          refine lv_iload_n hx hb dX3_moveTo_58 rfl (lv_at hl 1 rfl) ?_
          refine lv_iload_n hx hb dX3_moveTo_59 rfl (lv_at hl 2 rfl) ?_
          obtain ⟨h_3, hf⟩ := ck_of hf
          refine va_iast (f := (gA u 17)) hx hb hK hP hD hS 22 0 rfl rfl h_3 dX3_moveTo_60 (fun H locs hP hD hS => ?_)
          have hP : va_P (dC, dI) vwCl (cw ad cI cL (sA u 17 (upd (gA u 17) v1.toNatClampNeg v2))) H := hP
          have hD : va_D A (cw ad cI cL (sA u 17 (upd (gA u 17) v1.toNatClampNeg v2))) := hD
          have hf := Option.some.inj hf
          exact W.vret hx hb hr (fun t ht hW => ⟨⟨(sA u 17 (upd (gA u 17) v1.toNatClampNeg v2)), rfl, hf, ⟨by rw [ht]; exact hP, va_K.moved hW.alike hK, hD⟩⟩, hS.F ht⟩) hS.2.2 dX3_moveTo_61
        · have hf := (if_neg c_2).symm.trans hf
          refine lv_aload_n hx hb dX3_moveTo_25 rfl (lv_at hl 0 rfl) ?_
          refine va_get (D := (dC, dI)) (ci := 3) (v := .ref (ad 23)) (C := RX3) (T := TX3) (N := 7) hx hb hts iX3 hown hK hP 3 rfl rfl 4 (by decide) k_3 (fun _ h9 => h9) rfl dX3_moveTo_26 ?_
          refine lv_iload hx hb dX3_moveTo_29 (lv_at hl 4 rfl) ?_
          refine lv_dup2_11 hx hb dX3_moveTo_31 rfl rfl ?_
          obtain ⟨h_4, hf⟩ := ck_of hf
          refine va_lald (f := (gL u 0)) hx hb hK hP 23 1 rfl rfl h_4 dX3_moveTo_32 ?_
          refine lv_lload_n hx hb dX3_moveTo_33 rfl (lv_at hl 3 rfl) ?_
          refine lv_aload_n hx hb dX3_moveTo_34 rfl (lv_at hl 0 rfl) ?_
          refine va_get (D := (dC, dI)) (ci := 3) (v := .ref (ad 2)) (C := RX3) (T := TX3) (N := 7) hx hb hts iX3 hown hK hP 3 rfl rfl 1 (by decide) k_4 (fun _ h9 => h9) rfl dX3_moveTo_35 ?_
          refine lv_iload_n hx hb dX3_moveTo_38 rfl (lv_at hl 1 rfl) ?_
          refine lv_iload hx hb dX3_moveTo_39 (lv_at hl 4 rfl) ?_
          obtain ⟨w_5, hw_5, hf⟩ := ob hf
          have hFc := freeAll hD hS hA
          refine va_calli (va_runV (As := [.int v1, .int v5]) (rest := [.long w3, .long ((gL u 0) v5.toNatClampNeg), .int v5, .ref (ad 23)]) ⟨hx, hb, hml, hown, hts⟩ (mX0_lampLight l dC dI cI cL ad H.size u v1 v5 n w_5 hw_5) (cwV 2 hts gX3_moveTo_X0_lampLight rfl rfl rfl (by decide +kernel) ⟨Nat.le_of_ble_eq_true rfl, Nat.le_of_ble_eq_true rfl⟩) ⟨wPre_blind, va_recv hK hP (ci := 0) (q0 := 2) rfl rfl, wPre_of hP hK hD hZ⟩ rfl rfl hl.1 rfl (lv_room (Nat.le_of_ble_eq_true rfl)) dX3_moveTo_41 ⟨Nat.zero_le _, Nat.zero_le _⟩) hS (fun q _ h => hFc q h) hFc (fun r2 u2 t H1 locs ht hvm hw hB hz1 hk1 hS => ?_)
          obtain ⟨hP1, hK1, hD1⟩ := hB
          rw [ht] at hP1
          have e1 : r2 = w_5.1 := congrArg Prod.fst hw
          have e2 : u2 = w_5.2 := congrArg Prod.snd hw
          subst r2 u2
          have hP : va_P (dC, dI) vwCl (cw ad cI cL w_5.2) H1 := hP1
          have hD : va_D A (cw ad cI cL w_5.2) := hD1.weaken (fun _ _ _ h => hFc _ h)
          clear hP1 hD1 hK1 hFc hk1
          generalize H1 = H at hP hS ⊢
          refine lv_i2l (v := w_5.1.toInt64) hx hb dX3_moveTo_44 rfl ?_
          refine lv_lmul hx hb dX3_moveTo_45 ?_
          refine lv_lsub hx hb dX3_moveTo_46 ?_
          refine va_last (f := (gL w_5.2 0)) hx hb hK hP hD hS 23 1 rfl rfl h_4 dX3_moveTo_47 (fun H locs hP hD hS => ?_)
          have hP : va_P (dC, dI) vwCl (cw ad cI cL (sL w_5.2 0 (vp_updL (gL w_5.2 0) v5.toNatClampNeg (((gL u 0) v5.toNatClampNeg) - (w3 * w_5.1.toInt64))))) H := hP
          have hD : va_D A (cw ad cI cL (sL w_5.2 0 (vp_updL (gL w_5.2 0) v5.toNatClampNeg (((gL u 0) v5.toNatClampNeg) - (w3 * w_5.1.toInt64))))) := hD
          refine lv_iinc (v := (v5 + 1)) (lv' := [(5, .int (v5 + 1)), (0, .ref (ad 3)), (1, .int v1), (2, .int v2), (3, .long w3)]) hx hb dX3_moveTo_48 hl (k := 4) rfl rfl (by decide) rfl (fun ls hl => ?_)
          refine lv_goto (tgt := 13) hx hb dX3_moveTo_51 (by decide) ?_
          exact ih1 v1 v2 w3 (v5 + 1) (sL w_5.2 0 (vp_updL (gL w_5.2 0) v5.toNatClampNeg (((gL u 0) v5.toNatClampNeg) - (w3 * w_5.1.toInt64)))) H locs ls hf hP hD hS (lv_sub hl [1, 2, 3, 4, 0] rfl)
  exact (key n).1 z1 z2 0 0 u _ _ ls hf0 hP hD hS (lv_sub hl [0, 1, 2] rfl)

def fX3_sweep (n pc : Nat) (v1 : Int32) (v2 : Int32) (u : St) : Option (Int32 × St) := match n with
  | 0 => none
  | n + 1 => match pc with
    | 0 => fX3_sweep n 4 (0 : Int32) (0 : Int32) u
    | 4 => (if (gI u 1) ≤ v2 then (if v1 = 0 ∨ v1 = 1 then some (v1, u) else none) else (if ck v2 7 = true then (if ((gA u 14) v2.toNatClampNeg) = (-1 : Int32) then fX3_sweep n 4 v1 (v2 + 1) u else ((FX3_fittingDim n v2 u).bind fun w_5 => (if w_5.1 = ((gA w_5.2 17) v2.toNatClampNeg) then fX3_sweep n 4 v1 (v2 + 1) w_5.2 else ((FX3_moveTo n v2 w_5.1 w_5.2).bind fun w_7 => fX3_sweep n 4 (1 : Int32) (v2 + 1) w_7)))) else none))
    | _ => none
theorem eX3_sweep_0 (n : Nat) (v1 : Int32) (v2 : Int32) (u : St) : fX3_sweep (n + 1) 0 v1 v2 u = fX3_sweep n 4 (0 : Int32) (0 : Int32) u := rfl
theorem eX3_sweep_4 (n : Nat) (v1 : Int32) (v2 : Int32) (u : St) : fX3_sweep (n + 1) 4 v1 v2 u = (if (gI u 1) ≤ v2 then (if v1 = 0 ∨ v1 = 1 then some (v1, u) else none) else (if ck v2 7 = true then (if ((gA u 14) v2.toNatClampNeg) = (-1 : Int32) then fX3_sweep n 4 v1 (v2 + 1) u else ((FX3_fittingDim n v2 u).bind fun w_5 => (if w_5.1 = ((gA w_5.2 17) v2.toNatClampNeg) then fX3_sweep n 4 v1 (v2 + 1) w_5.2 else ((FX3_moveTo n v2 w_5.1 w_5.2).bind fun w_7 => fX3_sweep n 4 (1 : Int32) (v2 + 1) w_7)))) else none)) := rfl
theorem vX3_sweep_0 (v1 : Int32) (v2 : Int32) (u : St) (r : Int32 × St) : Ev (fun n => fX3_sweep n 0 v1 v2 u) r ↔ Ev (fun n => fX3_sweep n 4 (0 : Int32) (0 : Int32) u) r := Ev_succ (fun n => fX3_sweep n 0 v1 v2 u) r
theorem vX3_sweep_4 (v1 : Int32) (v2 : Int32) (u : St) (r : Int32 × St) : Ev (fun n => fX3_sweep n 4 v1 v2 u) r ↔ Ev (fun n => (if (gI u 1) ≤ v2 then (if v1 = 0 ∨ v1 = 1 then some (v1, u) else none) else (if ck v2 7 = true then (if ((gA u 14) v2.toNatClampNeg) = (-1 : Int32) then fX3_sweep n 4 v1 (v2 + 1) u else ((FX3_fittingDim n v2 u).bind fun w_5 => (if w_5.1 = ((gA w_5.2 17) v2.toNatClampNeg) then fX3_sweep n 4 v1 (v2 + 1) w_5.2 else ((FX3_moveTo n v2 w_5.1 w_5.2).bind fun w_7 => fX3_sweep n 4 (1 : Int32) (v2 + 1) w_7)))) else none))) r := Ev_succ (fun n => fX3_sweep n 4 v1 v2 u) r
def FX3_sweep (n : Nat) (u : St) : Option (Int32 × St) := fX3_sweep n 0 0 0 u
set_option maxHeartbeats 4000000 in
set_option maxRecDepth 100000 in
theorem mX3_sweep (l : Launch) (dC : Nat → ClassId) (dI : Nat → Nat → Nat) (cI cL : ClassId) (ad : Nat → Nat) (sz : Nat) (u : St) (n : Nat) (r : Int32 × St) (hf0 : FX3_sweep n  u = some r) : Met l yX3_sweep wsX3_sweep ({ frames := 3, cells := 0, slots := 0, locals := 72 }) (va_Pc [.ref (ad 3)] (wPre dC dI cI cL (cw ad cI cL u) sz)) (va_Qi (fun a t => (a, t) = r) (fun t => wPost dC dI cI cL (va_A (cw ad cI cL u) sz) (cw ad cI cL t)) (va_A (cw ad cI cL u) sz)) 0 0 (va_A (cw ad cI cL u) sz) := by
  refine Met.ofW (cc := cX3_sweep) (maxL := 4) (ret := (some .boolean)) (by decide) rfl ?_
  intro p e s m args below meth c s₁ B hml hv
  obtain ⟨rfl, hsz, hP, hK, hD0, hZ⟩ := hv
  have hx := B.exec
  have hb := B.bytes
  have hr := B.returns
  have hts := atoms_spec (ws := wsX3_sweep) B.pre
  have hown : s.vm.findClass RX3 = some m.cls := findClass_of_methodNamed B.named
  have hlocks := B.notSynchronized
  subst hsz
  have hD := hD0.self (sz := s.heap.size)
  generalize hAe : va_A (cw ad cI cL u) s.heap.size = A at hD ⊢
  have hA : ∀ q : Nat, s.heap.size ≤ q → A q := fun q h => by rw [← hAe]; exact Or.inr h
  have hS : va_S A s.heap s.heap [] := va_S.rf
  have iX0 : ∀ w ∈ u_ws RX0 TX0 12, w ∈ wsX3_sweep := fun _ h => List.mem_cons_of_mem _ (List.mem_append_right _ h)
  have iX2 : ∀ w ∈ u_ws RX2 TX2 14, w ∈ wsX3_sweep := fun _ h => List.mem_cons_of_mem _ (List.mem_append_left _ (List.mem_append_right _ h))
  have iX3 : ∀ w ∈ u_ws RX3 TX3 7, w ∈ wsX3_sweep := fun _ h => List.mem_cons_of_mem _ (List.mem_append_left _ (List.mem_append_left _ (List.mem_append_right _ h)))
  have k_0 := hts (.fieldLink RX3 22 "LampChoice$Scenes" "room" "LLampChoice$Room;") (by decide +kernel)
  have k_1 := hts (.fieldLink RX3 60 "LampChoice$Room" "places" "I") (by decide +kernel)
  have k_2 := hts (.fieldLink RX3 26 "LampChoice$Scenes" "choice" "LLampChoice$Choice;") (by decide +kernel)
  have k_3 := hts (.fieldLink RX3 63 "LampChoice$Choice" "lamps" "[I") (by decide +kernel)
  have k_4 := hts (.fieldLink RX3 15 "LampChoice$Scenes" "dims" "[I") (by decide +kernel)
  have hl := lv_entry ([.ref (ad 3)]) (n := 4) (Nat.le_of_ble_eq_true rfl)
  rw [lg_entry_eq]
  generalize (lg_sl ([.ref (ad 3)]) ++ List.replicate (4 - (lg_sl ([.ref (ad 3)])).length) Slot.unset).toArray = ls at hl ⊢
  have hl : lv_has ls 4 [(0, .ref (ad 3))] := hl
  have key : ∀ n : Nat, (∀ (v1 : Int32) (v2 : Int32) (u : St) (H : Heap) (locs : List Loc) (ls : Array Slot), fX3_sweep n 0 v1 v2 u = some r → va_P (dC, dI) vwCl (cw ad cI cL u) H → va_D A (cw ad cI cL u) → va_S A s.heap H locs → lv_has ls 4 [(0, .ref (ad 3))] → W p l e (headSpec wsX3_sweep ({ frames := 3, cells := 0, slots := 0, locals := 72 })).room s m ([.ref (ad 3)] : List Value).toArray below meth c H locs 0 0 (MQ below (va_Qi (fun a t => (a, t) = r) (fun t => wPost dC dI cI cL A (cw ad cI cL t)) A) ([.ref (ad 3)] : List Value).toArray s 0 0 A) (F0 m 0 ls [])) ∧ (∀ (v1 : Int32) (v2 : Int32) (u : St) (H : Heap) (locs : List Loc) (ls : Array Slot), fX3_sweep n 4 v1 v2 u = some r → va_P (dC, dI) vwCl (cw ad cI cL u) H → va_D A (cw ad cI cL u) → va_S A s.heap H locs → lv_has ls 4 [(0, .ref (ad 3)), (1, .int v1), (2, .int v2)] → W p l e (headSpec wsX3_sweep ({ frames := 3, cells := 0, slots := 0, locals := 72 })).room s m ([.ref (ad 3)] : List Value).toArray below meth c H locs 0 0 (MQ below (va_Qi (fun a t => (a, t) = r) (fun t => wPost dC dI cI cL A (cw ad cI cL t)) A) ([.ref (ad 3)] : List Value).toArray s 0 0 A) (F0 m 4 ls [])) := by
    intro n
    induction n with
    | zero => exact ⟨(fun _ _ _ _ _ _ hf => nomatch (show (none : Option (Int32 × St)) = some r from hf)), (fun _ _ _ _ _ _ hf => nomatch (show (none : Option (Int32 × St)) = some r from hf))⟩
    | succ n ih =>
      obtain ⟨ih0, ih1⟩ := ih
      refine ⟨?_, ?_⟩
      · intro v1 v2 u H locs ls hf hP hD hS hl
        have hf := (eX3_sweep_0 n v1 v2 u).symm.trans hf
        refine lv_iconst (v := 0) hx hb dX3_sweep_0 (by decide) ?_
        refine lv_istore_n (lv' := [(1, .int (0 : Int32)), (0, .ref (ad 3))]) hx hb dX3_sweep_1 rfl hl (by decide) rfl (fun ls hl => ?_)
        refine lv_iconst (v := 0) hx hb dX3_sweep_2 (by decide) ?_
        refine lv_istore_n (lv' := [(2, .int (0 : Int32)), (1, .int (0 : Int32)), (0, .ref (ad 3))]) hx hb dX3_sweep_3 rfl hl (by decide) rfl (fun ls hl => ?_)
        exact ih1 (0 : Int32) (0 : Int32) u H locs ls hf hP hD hS (lv_sub hl [2, 1, 0] rfl)
      · intro v1 v2 u H locs ls hf hP hD hS hl
        have hf := (eX3_sweep_4 n v1 v2 u).symm.trans hf
        refine lv_iload_n hx hb dX3_sweep_4 rfl (lv_at hl 2 rfl) ?_
        refine lv_aload_n hx hb dX3_sweep_5 rfl (lv_at hl 0 rfl) ?_
        refine va_get (D := (dC, dI)) (ci := 3) (v := .ref (ad 1)) (C := RX3) (T := TX3) (N := 7) hx hb hts iX3 hown hK hP 3 rfl rfl 0 (by decide) k_0 (fun _ h9 => h9) rfl dX3_sweep_6 ?_
        refine va_get (D := (dC, dI)) (ci := 2) (v := .int (gI u 1)) (C := RX2) (T := TX2) (N := 14) hx hb hts iX2 hown hK hP 1 rfl rfl 11 (by decide) k_1 (fun _ h9 => h9) rfl dX3_sweep_9 ?_
        refine lv_icmp_ge (tgt := 67) hx hb dX3_sweep_12 (by decide) (fun c_1 => ?_) (fun c_1 => ?_)
        · have hf := (if_pos c_1).symm.trans hf
          refine lv_iload_n hx hb dX3_sweep_67 rfl (lv_at hl 1 rfl) ?_
          obtain ⟨h_2, hf⟩ := ps_of hf
          have hf := Option.some.inj hf
          exact W.zret (v := v1) hx hb hr (nar_bool h_2) (fun t ht hW => ⟨⟨v1, u, rfl, hf, ⟨by rw [ht]; exact hP, va_K.moved hW.alike hK, hD⟩⟩, hS.F ht⟩) hS.2.2 dX3_sweep_68
        · have hf := (if_neg c_1).symm.trans hf
          refine lv_aload_n hx hb dX3_sweep_15 rfl (lv_at hl 0 rfl) ?_
          refine va_get (D := (dC, dI)) (ci := 3) (v := .ref (ad 2)) (C := RX3) (T := TX3) (N := 7) hx hb hts iX3 hown hK hP 3 rfl rfl 1 (by decide) k_2 (fun _ h9 => h9) rfl dX3_sweep_16 ?_
          refine va_get (D := (dC, dI)) (ci := 0) (v := .ref (ad 19)) (C := RX0) (T := TX0) (N := 12) hx hb hts iX0 hown hK hP 2 rfl rfl 7 (by decide) k_3 (fun _ h9 => h9) rfl dX3_sweep_19 ?_
          refine lv_iload_n hx hb dX3_sweep_22 rfl (lv_at hl 2 rfl) ?_
          obtain ⟨h_3, hf⟩ := ck_of hf
          refine va_iald (f := (gA u 14)) hx hb hK hP 19 0 rfl rfl h_3 dX3_sweep_23 ?_
          refine lv_iconst (v := -1) hx hb dX3_sweep_24 (by decide) ?_
          refine lv_icmp_ne (tgt := 37) hx hb dX3_sweep_25 (by decide) (fun c_4 => ?_) (fun c_4 => ?_)
          · have hf := (if_neg c_4).symm.trans hf
            refine lv_aload_n hx hb dX3_sweep_37 rfl (lv_at hl 0 rfl) ?_
            refine lv_iload_n hx hb dX3_sweep_38 rfl (lv_at hl 2 rfl) ?_
            obtain ⟨w_5, hw_5, hf⟩ := ob hf
            have hFc := freeAll hD hS hA
            refine va_calli (va_runV (As := [.int v2]) (rest := []) ⟨hx, hb, hml, hown, hts⟩ (mX3_fittingDim l dC dI cI cL ad H.size u v2 n w_5 hw_5) (cwV 1 hts gX3_sweep_X3_fittingDim rfl rfl rfl (by decide +kernel) ⟨Nat.le_of_ble_eq_true rfl, Nat.le_of_ble_eq_true rfl⟩) ⟨wPre_blind, va_recv hK hP (ci := 3) (q0 := 3) rfl rfl, wPre_of hP hK hD hZ⟩ rfl rfl hl.1 rfl (lv_room (Nat.le_of_ble_eq_true rfl)) dX3_sweep_39 ⟨Nat.zero_le _, Nat.zero_le _⟩) hS (fun q _ h => hFc q h) hFc (fun r2 u2 t H1 locs ht hvm hw hB hz1 hk1 hS => ?_)
            obtain ⟨hP1, hK1, hD1⟩ := hB
            rw [ht] at hP1
            have e1 : r2 = w_5.1 := congrArg Prod.fst hw
            have e2 : u2 = w_5.2 := congrArg Prod.snd hw
            subst r2 u2
            have hP : va_P (dC, dI) vwCl (cw ad cI cL w_5.2) H1 := hP1
            have hD : va_D A (cw ad cI cL w_5.2) := hD1.weaken (fun _ _ _ h => hFc _ h)
            clear hP1 hD1 hK1 hFc hk1
            generalize H1 = H at hP hS ⊢
            refine lv_istore_n (lv' := [(3, .int w_5.1), (0, .ref (ad 3)), (1, .int v1), (2, .int v2)]) hx hb dX3_sweep_42 rfl hl (by decide) rfl (fun ls hl => ?_)
            refine lv_iload_n hx hb dX3_sweep_43 rfl (lv_at hl 0 rfl) ?_
            refine lv_aload_n hx hb dX3_sweep_44 rfl (lv_at hl 1 rfl) ?_
            refine va_get (D := (dC, dI)) (ci := 3) (v := .ref (ad 22)) (C := RX3) (T := TX3) (N := 7) hx hb hts iX3 hown hK hP 3 rfl rfl 3 (by decide) k_4 (fun _ h9 => h9) rfl dX3_sweep_45 ?_
            refine lv_iload_n hx hb dX3_sweep_48 rfl (lv_at hl 3 rfl) ?_
            refine va_iald (f := (gA w_5.2 17)) hx hb hK hP 22 0 rfl rfl h_3 dX3_sweep_49 ?_
            refine lv_icmp_eq (tgt := 61) hx hb dX3_sweep_50 (by decide) (fun c_6 => ?_) (fun c_6 => ?_)
            · have hf := (if_pos c_6).symm.trans hf
              refine lv_iinc (v := (v2 + 1)) (lv' := [(2, .int (v2 + 1)), (3, .int w_5.1), (0, .ref (ad 3)), (1, .int v1)]) hx hb dX3_sweep_61 hl (k := 3) rfl rfl (by decide) rfl (fun ls hl => ?_)
              refine lv_goto (tgt := 4) hx hb dX3_sweep_64 (by decide) ?_
              exact ih1 v1 (v2 + 1) w_5.2 H locs ls hf hP hD hS (lv_sub hl [2, 3, 0] rfl)
            · have hf := (if_neg c_6).symm.trans hf
              refine lv_aload_n hx hb dX3_sweep_53 rfl (lv_at hl 1 rfl) ?_
              refine lv_iload_n hx hb dX3_sweep_54 rfl (lv_at hl 3 rfl) ?_
              refine lv_iload_n hx hb dX3_sweep_55 rfl (lv_at hl 0 rfl) ?_
              obtain ⟨w_7, hw_7, hf⟩ := ob hf
              have hFc := freeAll hD hS hA
              refine va_callv (va_runV (As := [.int v2, .int w_5.1]) (rest := []) ⟨hx, hb, hml, hown, hts⟩ (mX3_moveTo l dC dI cI cL ad H.size w_5.2 v2 w_5.1 n w_7 hw_7) (cwV 2 hts gX3_sweep_X3_moveTo rfl rfl rfl (by decide +kernel) ⟨Nat.le_of_ble_eq_true rfl, Nat.le_of_ble_eq_true rfl⟩) ⟨wPre_blind, va_recv hK hP (ci := 3) (q0 := 3) rfl rfl, wPre_of hP hK hD hZ⟩ rfl rfl hl.1 rfl (lv_room (Nat.le_of_ble_eq_true rfl)) dX3_sweep_56 ⟨Nat.zero_le _, Nat.zero_le _⟩) hS (fun q _ h => hFc q h) hFc (fun u2 t H1 locs ht hvm hw hB hz1 hk1 hS => ?_)
              obtain ⟨hP1, hK1, hD1⟩ := hB
              rw [ht] at hP1
              subst u2
              have hP : va_P (dC, dI) vwCl (cw ad cI cL w_7) H1 := hP1
              have hD : va_D A (cw ad cI cL w_7) := hD1.weaken (fun _ _ _ h => hFc _ h)
              clear hP1 hD1 hK1 hFc hk1
              generalize H1 = H at hP hS ⊢
              refine lv_iconst (v := 1) hx hb dX3_sweep_59 (by decide) ?_
              refine lv_istore_n (lv' := [(1, .int (1 : Int32)), (3, .int w_5.1), (0, .ref (ad 3)), (2, .int v2)]) hx hb dX3_sweep_60 rfl hl (by decide) rfl (fun ls hl => ?_)
              refine lv_iinc (v := (v2 + 1)) (lv' := [(2, .int (v2 + 1)), (1, .int (1 : Int32)), (3, .int w_5.1), (0, .ref (ad 3))]) hx hb dX3_sweep_61 hl (k := 3) rfl rfl (by decide) rfl (fun ls hl => ?_)
              refine lv_goto (tgt := 4) hx hb dX3_sweep_64 (by decide) ?_
              exact ih1 (1 : Int32) (v2 + 1) w_7 H locs ls hf hP hD hS (lv_sub hl [3, 1, 0] rfl)
          · have hf := (if_pos c_4).symm.trans hf
            refine lv_aload_n hx hb dX3_sweep_28 rfl (lv_at hl 0 rfl) ?_
            refine va_get (D := (dC, dI)) (ci := 3) (v := .ref (ad 22)) (C := RX3) (T := TX3) (N := 7) hx hb hts iX3 hown hK hP 3 rfl rfl 3 (by decide) k_4 (fun _ h9 => h9) rfl dX3_sweep_29 ?_
            refine lv_iload_n hx hb dX3_sweep_32 rfl (lv_at hl 2 rfl) ?_
            refine va_iald (f := (gA u 17)) hx hb hK hP 22 0 rfl rfl h_3 dX3_sweep_33 ?_
            refine lv_goto (tgt := 42) hx hb dX3_sweep_34 (by decide) ?_
            refine lv_istore_n (lv' := [(3, .int ((gA u 17) v2.toNatClampNeg)), (0, .ref (ad 3)), (1, .int v1), (2, .int v2)]) hx hb dX3_sweep_42 rfl hl (by decide) rfl (fun ls hl => ?_)
            refine lv_iload_n hx hb dX3_sweep_43 rfl (lv_at hl 0 rfl) ?_
            refine lv_aload_n hx hb dX3_sweep_44 rfl (lv_at hl 1 rfl) ?_
            refine va_get (D := (dC, dI)) (ci := 3) (v := .ref (ad 22)) (C := RX3) (T := TX3) (N := 7) hx hb hts iX3 hown hK hP 3 rfl rfl 3 (by decide) k_4 (fun _ h9 => h9) rfl dX3_sweep_45 ?_
            refine lv_iload_n hx hb dX3_sweep_48 rfl (lv_at hl 3 rfl) ?_
            refine va_iald (f := (gA u 17)) hx hb hK hP 22 0 rfl rfl h_3 dX3_sweep_49 ?_
            refine lv_icmp_eq (tgt := 61) hx hb dX3_sweep_50 (by decide) (fun c_8 => ?_) (fun c_8 => ?_)
            · refine lv_iinc (v := (v2 + 1)) (lv' := [(2, .int (v2 + 1)), (3, .int ((gA u 17) v2.toNatClampNeg)), (0, .ref (ad 3)), (1, .int v1)]) hx hb dX3_sweep_61 hl (k := 3) rfl rfl (by decide) rfl (fun ls hl => ?_)
              refine lv_goto (tgt := 4) hx hb dX3_sweep_64 (by decide) ?_
              exact ih1 v1 (v2 + 1) u H locs ls hf hP hD hS (lv_sub hl [2, 3, 0] rfl)
            · exact absurd rfl c_8
  exact (key n).1 0 0 u _ _ ls hf0 hP hD hS (lv_sub hl [0] rfl)

def fX3_settle (n pc : Nat) (v1 : Int32) (u : St) : Option (St) := match n with
  | 0 => none
  | n + 1 => match pc with
    | 0 => (if (gI u 8) = 0 then ((FJ7_fill n 7 (0 : Int32) (gA u 17)).bind fun w_2 => fX3_settle n 23 (0 : Int32) (sA (sI u 8 (1 : Int32)) 17 w_2)) else some u)
    | 23 => (if (gI u 2) ≤ v1 then ((FX0_hasLamps n  (sI u 7 (0 : Int32))).bind fun w_4 => fX3_settle n 70 w_4.1 w_4.2) else (if ck v1 16 = true then fX3_settle n 23 (v1 + 1) (sL u 0 (vp_updL (gL u 0) v1.toNatClampNeg ((100 : Int64) * ((gA u 16) v1.toNatClampNeg).toInt64))) else none))
    | 70 => (if v1 = 0 then some u else (if (20 : Int32) ≤ (gI u 7) then some u else ((FX3_sweep n  u).bind fun w_8 => fX3_settle n 70 w_8.1 (sI w_8.2 7 ((gI w_8.2 7) + (1 : Int32))))))
    | _ => none
theorem eX3_settle_0 (n : Nat) (v1 : Int32) (u : St) : fX3_settle (n + 1) 0 v1 u = (if (gI u 8) = 0 then ((FJ7_fill n 7 (0 : Int32) (gA u 17)).bind fun w_2 => fX3_settle n 23 (0 : Int32) (sA (sI u 8 (1 : Int32)) 17 w_2)) else some u) := rfl
theorem eX3_settle_23 (n : Nat) (v1 : Int32) (u : St) : fX3_settle (n + 1) 23 v1 u = (if (gI u 2) ≤ v1 then ((FX0_hasLamps n  (sI u 7 (0 : Int32))).bind fun w_4 => fX3_settle n 70 w_4.1 w_4.2) else (if ck v1 16 = true then fX3_settle n 23 (v1 + 1) (sL u 0 (vp_updL (gL u 0) v1.toNatClampNeg ((100 : Int64) * ((gA u 16) v1.toNatClampNeg).toInt64))) else none)) := rfl
theorem eX3_settle_70 (n : Nat) (v1 : Int32) (u : St) : fX3_settle (n + 1) 70 v1 u = (if v1 = 0 then some u else (if (20 : Int32) ≤ (gI u 7) then some u else ((FX3_sweep n  u).bind fun w_8 => fX3_settle n 70 w_8.1 (sI w_8.2 7 ((gI w_8.2 7) + (1 : Int32)))))) := rfl
theorem vX3_settle_0 (v1 : Int32) (u : St) (r : St) : Ev (fun n => fX3_settle n 0 v1 u) r ↔ Ev (fun n => (if (gI u 8) = 0 then ((FJ7_fill n 7 (0 : Int32) (gA u 17)).bind fun w_2 => fX3_settle n 23 (0 : Int32) (sA (sI u 8 (1 : Int32)) 17 w_2)) else some u)) r := Ev_succ (fun n => fX3_settle n 0 v1 u) r
theorem vX3_settle_23 (v1 : Int32) (u : St) (r : St) : Ev (fun n => fX3_settle n 23 v1 u) r ↔ Ev (fun n => (if (gI u 2) ≤ v1 then ((FX0_hasLamps n  (sI u 7 (0 : Int32))).bind fun w_4 => fX3_settle n 70 w_4.1 w_4.2) else (if ck v1 16 = true then fX3_settle n 23 (v1 + 1) (sL u 0 (vp_updL (gL u 0) v1.toNatClampNeg ((100 : Int64) * ((gA u 16) v1.toNatClampNeg).toInt64))) else none))) r := Ev_succ (fun n => fX3_settle n 23 v1 u) r
theorem vX3_settle_70 (v1 : Int32) (u : St) (r : St) : Ev (fun n => fX3_settle n 70 v1 u) r ↔ Ev (fun n => (if v1 = 0 then some u else (if (20 : Int32) ≤ (gI u 7) then some u else ((FX3_sweep n  u).bind fun w_8 => fX3_settle n 70 w_8.1 (sI w_8.2 7 ((gI w_8.2 7) + (1 : Int32))))))) r := Ev_succ (fun n => fX3_settle n 70 v1 u) r
def FX3_settle (n : Nat) (u : St) : Option (St) := fX3_settle n 0 0 u
set_option maxHeartbeats 4000000 in
set_option maxRecDepth 100000 in
theorem mX3_settle (l : Launch) (dC : Nat → ClassId) (dI : Nat → Nat → Nat) (cI cL : ClassId) (ad : Nat → Nat) (sz : Nat) (u : St) (n : Nat) (r : St) (hf0 : FX3_settle n  u = some r) : Met l yX3_settle wsX3_settle ({ frames := 4, cells := 0, slots := 0, locals := 95 }) (va_Pc [.ref (ad 3)] (wPre dC dI cI cL (cw ad cI cL u) sz)) (va_Qv (fun t => t = r) (fun t => wPost dC dI cI cL (va_A (cw ad cI cL u) sz) (cw ad cI cL t)) (va_A (cw ad cI cL u) sz)) 0 0 (va_A (cw ad cI cL u) sz) := by
  refine Met.ofW (cc := cX3_settle) (maxL := 2) (ret := none) (by decide) rfl ?_
  intro p e s m args below meth c s₁ B hml hv
  obtain ⟨rfl, hsz, hP, hK, hD0, hZ⟩ := hv
  have hx := B.exec
  have hb := B.bytes
  have hr := B.returns
  have hts := atoms_spec (ws := wsX3_settle) B.pre
  have hown : s.vm.findClass RX3 = some m.cls := findClass_of_methodNamed B.named
  have hlocks := B.notSynchronized
  subst hsz
  have hD := hD0.self (sz := s.heap.size)
  generalize hAe : va_A (cw ad cI cL u) s.heap.size = A at hD ⊢
  have hA : ∀ q : Nat, s.heap.size ≤ q → A q := fun q h => by rw [← hAe]; exact Or.inr h
  have hS : va_S A s.heap s.heap [] := va_S.rf
  have iX2 : ∀ w ∈ u_ws RX2 TX2 14, w ∈ wsX3_settle := fun _ h => List.mem_cons_of_mem _ (List.mem_append_left _ (List.mem_append_right _ h))
  have iX3 : ∀ w ∈ u_ws RX3 TX3 7, w ∈ wsX3_settle := fun _ h => List.mem_cons_of_mem _ (List.mem_append_left _ (List.mem_append_left _ (List.mem_append_right _ h)))
  have k_0 := hts (.fieldLink RX3 30 "LampChoice$Scenes" "known" "Z") (by decide +kernel)
  have k_1 := hts (.fieldLink RX3 15 "LampChoice$Scenes" "dims" "[I") (by decide +kernel)
  have k_2 := hts (.fieldLink RX3 22 "LampChoice$Scenes" "room" "LLampChoice$Room;") (by decide +kernel)
  have k_3 := hts (.fieldLink RX3 40 "LampChoice$Room" "points" "I") (by decide +kernel)
  have k_4 := hts (.fieldLink RX3 48 "LampChoice$Scenes" "sweeps" "I") (by decide +kernel)
  have k_5 := hts (.fieldLink RX3 26 "LampChoice$Scenes" "choice" "LLampChoice$Choice;") (by decide +kernel)
  have k_6 := hts (.fieldLink RX3 18 "LampChoice$Scenes" "misses" "[J") (by decide +kernel)
  have k_7 := hts (.constantLong RX3 46 (100)) (by decide +kernel)
  have k_8 := hts (.fieldLink RX3 9 "LampChoice$Scenes" "aims" "[I") (by decide +kernel)
  have hl := lv_entry ([.ref (ad 3)]) (n := 2) (Nat.le_of_ble_eq_true rfl)
  rw [lg_entry_eq]
  generalize (lg_sl ([.ref (ad 3)]) ++ List.replicate (2 - (lg_sl ([.ref (ad 3)])).length) Slot.unset).toArray = ls at hl ⊢
  have hl : lv_has ls 2 [(0, .ref (ad 3))] := hl
  have key : ∀ n : Nat, (∀ (v1 : Int32) (u : St) (H : Heap) (locs : List Loc) (ls : Array Slot), fX3_settle n 0 v1 u = some r → va_P (dC, dI) vwCl (cw ad cI cL u) H → va_D A (cw ad cI cL u) → va_S A s.heap H locs → lv_has ls 2 [(0, .ref (ad 3))] → W p l e (headSpec wsX3_settle ({ frames := 4, cells := 0, slots := 0, locals := 95 })).room s m ([.ref (ad 3)] : List Value).toArray below meth c H locs 0 0 (MQ below (va_Qv (fun t => t = r) (fun t => wPost dC dI cI cL A (cw ad cI cL t)) A) ([.ref (ad 3)] : List Value).toArray s 0 0 A) (F0 m 0 ls [])) ∧ (∀ (v1 : Int32) (u : St) (H : Heap) (locs : List Loc) (ls : Array Slot), fX3_settle n 23 v1 u = some r → va_P (dC, dI) vwCl (cw ad cI cL u) H → va_D A (cw ad cI cL u) → va_S A s.heap H locs → lv_has ls 2 [(0, .ref (ad 3)), (1, .int v1)] → W p l e (headSpec wsX3_settle ({ frames := 4, cells := 0, slots := 0, locals := 95 })).room s m ([.ref (ad 3)] : List Value).toArray below meth c H locs 0 0 (MQ below (va_Qv (fun t => t = r) (fun t => wPost dC dI cI cL A (cw ad cI cL t)) A) ([.ref (ad 3)] : List Value).toArray s 0 0 A) (F0 m 23 ls [])) ∧ (∀ (v1 : Int32) (u : St) (H : Heap) (locs : List Loc) (ls : Array Slot), fX3_settle n 70 v1 u = some r → va_P (dC, dI) vwCl (cw ad cI cL u) H → va_D A (cw ad cI cL u) → va_S A s.heap H locs → lv_has ls 2 [(0, .ref (ad 3)), (1, .int v1)] → W p l e (headSpec wsX3_settle ({ frames := 4, cells := 0, slots := 0, locals := 95 })).room s m ([.ref (ad 3)] : List Value).toArray below meth c H locs 0 0 (MQ below (va_Qv (fun t => t = r) (fun t => wPost dC dI cI cL A (cw ad cI cL t)) A) ([.ref (ad 3)] : List Value).toArray s 0 0 A) (F0 m 70 ls [])) := by
    intro n
    induction n with
    | zero => exact ⟨(fun _ _ _ _ _ hf => nomatch (show (none : Option (St)) = some r from hf)), (fun _ _ _ _ _ hf => nomatch (show (none : Option (St)) = some r from hf)), (fun _ _ _ _ _ hf => nomatch (show (none : Option (St)) = some r from hf))⟩
    | succ n ih =>
      obtain ⟨ih0, ih1, ih2⟩ := ih
      refine ⟨?_, ?_, ?_⟩
      · intro v1 u H locs ls hf hP hD hS hl
        have hf := (eX3_settle_0 n v1 u).symm.trans hf
        refine lv_aload_n hx hb dX3_settle_0 rfl (lv_at hl 0 rfl) ?_
        refine va_get (D := (dC, dI)) (ci := 3) (v := .int (gI u 8)) (C := RX3) (T := TX3) (N := 7) hx hb hts iX3 hown hK hP 3 rfl rfl 6 (by decide) k_0 (fun _ h9 => h9) rfl dX3_settle_1 ?_
        refine lv_if_eq (tgt := 8) hx hb dX3_settle_4 (by decide) (fun c_1 => ?_) (fun c_1 => ?_)
        · have hf := (if_pos c_1).symm.trans hf
          refine lv_aload_n hx hb dX3_settle_8 rfl (lv_at hl 0 rfl) ?_
          refine lv_iconst (v := 1) hx hb dX3_settle_9 (by decide) ?_
          refine va_put (D := (dC, dI)) (ci := 3) (v := .int (1 : Int32)) (ty := .boolean) (C := RX3) (T := TX3) (N := 7) hx hb hts iX3 tyX3 tyX3_ok nmX3 hown hK hP hD hS 3 rfl rfl 6 (by decide) k_0 (fun _ h9 => h9) rfl (by decide +kernel) rfl rfl (Nat.le_of_ble_eq_true rfl) dX3_settle_10 (fun H locs hP hD hS => ?_)
          have hP : va_P (dC, dI) vwCl (cw ad cI cL (sI u 8 (1 : Int32))) H := hP
          have hD : va_D A (cw ad cI cL (sI u 8 (1 : Int32))) := hD
          refine lv_aload_n hx hb dX3_settle_13 rfl (lv_at hl 0 rfl) ?_
          refine va_get (D := (dC, dI)) (ci := 3) (v := .ref (ad 22)) (C := RX3) (T := TX3) (N := 7) hx hb hts iX3 hown hK hP 3 rfl rfl 3 (by decide) k_1 (fun _ h9 => h9) rfl dX3_settle_14 ?_
          refine lv_iconst (v := 0) hx hb dX3_settle_17 (by decide) ?_
          obtain ⟨w_2, hw_2, hf⟩ := ob hf
          have hPc := hP.sub (ws' := [(ad 22, .inl (cI, 7, .inl (gA u 17)))]) [22] rfl
          have hDc := hD.sub (ws' := [(ad 22, .inl (cI, 7, .inl (gA u 17)))]) [22] (by decide) rfl
          have hFc := va_free (wc := [(ad 22, .inl (cI, 7, .inl (gA u 17)))]) hD hS hA [22] rfl
          refine va_callv (va_runS (As := [.ref (ad 22), .int (0 : Int32)]) (rest := []) ⟨hx, hb, hml, hown, hts⟩ (mJ7_fill l dC dI cI cL (ad 22) 7 H.size (gA u 17) (0 : Int32) n w_2 hw_2) (va_cwS 2 hts gX3_settle_J7_fill_53178 rfl rfl rfl (by decide +kernel) ⟨Nat.le_of_ble_eq_true rfl, Nat.le_of_ble_eq_true rfl⟩) ⟨wPre_blind, wPre_of hPc hK hDc hZ⟩ rfl rfl hl.1 rfl (lv_room (Nat.le_of_ble_eq_true rfl)) dX3_settle_18 ⟨Nat.zero_le _, Nat.zero_le _⟩) hS (fun q _ h => hFc q h) hFc (fun u2 t H1 locs ht hvm hw hB hz1 hk1 hS => ?_)
          obtain ⟨hP1, hK1, hD1⟩ := hB
          rw [ht] at hP1
          subst u2
          obtain ⟨hP, hD⟩ := va_join (wr := [0, 1, 2, 3, 4, 5, 6, 7, 8, 9, 10, 11, 12, 13, 14, 15, 16, 17, 18, 19, 20, 21, 23, 24, 25, 26, 27].filterMap (fun i => (cw ad cI cL (sI u 8 (1 : Int32)))[i]?)) (w1 := [(ad 22, .inl (cI, 7, .inl w_2))]) hP hD [22] [0, 1, 2, 3, 4, 5, 6, 7, 8, 9, 10, 11, 12, 13, 14, 15, 16, 17, 18, 19, 20, 21, 23, 24, 25, 26, 27] rfl rfl (by decide) (by decide) hk1 hFc hP1 hD1
          have hP := hP.sub (ws' := cw ad cI cL (sA (sI u 8 (1 : Int32)) 17 w_2)) [0, 1, 2, 3, 4, 5, 6, 7, 8, 9, 10, 11, 12, 13, 14, 15, 16, 17, 18, 19, 20, 21, 27, 22, 23, 24, 25, 26] rfl
          have hD := hD.sub (ws' := cw ad cI cL (sA (sI u 8 (1 : Int32)) 17 w_2)) [0, 1, 2, 3, 4, 5, 6, 7, 8, 9, 10, 11, 12, 13, 14, 15, 16, 17, 18, 19, 20, 21, 27, 22, 23, 24, 25, 26] (by decide) rfl
          clear hP1 hD1 hK1 hPc hDc hFc hk1
          generalize H1 = H at hP hS ⊢
          refine lv_iconst (v := 0) hx hb dX3_settle_21 (by decide) ?_
          refine lv_istore_n (lv' := [(1, .int (0 : Int32)), (0, .ref (ad 3))]) hx hb dX3_settle_22 rfl hl (by decide) rfl (fun ls hl => ?_)
          exact ih1 (0 : Int32) (sA (sI u 8 (1 : Int32)) 17 w_2) H locs ls hf hP hD hS (lv_sub hl [1, 0] rfl)
        · have hf := (if_neg c_1).symm.trans hf
          have hf := Option.some.inj hf
          exact W.vret hx hb hr (fun t ht hW => ⟨⟨u, rfl, hf, ⟨by rw [ht]; exact hP, va_K.moved hW.alike hK, hD⟩⟩, hS.F ht⟩) hS.2.2 dX3_settle_7
      · intro v1 u H locs ls hf hP hD hS hl
        have hf := (eX3_settle_23 n v1 u).symm.trans hf
        refine lv_iload_n hx hb dX3_settle_23 rfl (lv_at hl 1 rfl) ?_
        refine lv_aload_n hx hb dX3_settle_24 rfl (lv_at hl 0 rfl) ?_
        refine va_get (D := (dC, dI)) (ci := 3) (v := .ref (ad 1)) (C := RX3) (T := TX3) (N := 7) hx hb hts iX3 hown hK hP 3 rfl rfl 0 (by decide) k_2 (fun _ h9 => h9) rfl dX3_settle_25 ?_
        refine va_get (D := (dC, dI)) (ci := 2) (v := .int (gI u 2)) (C := RX2) (T := TX2) (N := 14) hx hb hts iX2 hown hK hP 1 rfl rfl 12 (by decide) k_3 (fun _ h9 => h9) rfl dX3_settle_28 ?_
        refine lv_icmp_ge (tgt := 57) hx hb dX3_settle_31 (by decide) (fun c_3 => ?_) (fun c_3 => ?_)
        · have hf := (if_pos c_3).symm.trans hf
          refine lv_aload_n hx hb dX3_settle_57 rfl (lv_at hl 0 rfl) ?_
          refine lv_iconst (v := 0) hx hb dX3_settle_58 (by decide) ?_
          refine va_put (D := (dC, dI)) (ci := 3) (v := .int (0 : Int32)) (ty := .int) (C := RX3) (T := TX3) (N := 7) hx hb hts iX3 tyX3 tyX3_ok nmX3 hown hK hP hD hS 3 rfl rfl 5 (by decide) k_4 (fun _ h9 => h9) rfl (by decide +kernel) rfl rfl (Nat.le_of_ble_eq_true rfl) dX3_settle_59 (fun H locs hP hD hS => ?_)
          have hP : va_P (dC, dI) vwCl (cw ad cI cL (sI u 7 (0 : Int32))) H := hP
          have hD : va_D A (cw ad cI cL (sI u 7 (0 : Int32))) := hD
          refine lv_aload_n hx hb dX3_settle_62 rfl (lv_at hl 0 rfl) ?_
          refine va_get (D := (dC, dI)) (ci := 3) (v := .ref (ad 2)) (C := RX3) (T := TX3) (N := 7) hx hb hts iX3 hown hK hP 3 rfl rfl 1 (by decide) k_5 (fun _ h9 => h9) rfl dX3_settle_63 ?_
          obtain ⟨w_4, hw_4, hf⟩ := ob hf
          have hFc := freeAll hD hS hA
          refine va_calli (va_runV (As := []) (rest := []) ⟨hx, hb, hml, hown, hts⟩ (mX0_hasLamps l dC dI cI cL ad H.size (sI u 7 (0 : Int32))  n w_4 hw_4) (cwV 0 hts gX3_settle_X0_hasLamps rfl rfl rfl (by decide +kernel) ⟨Nat.le_of_ble_eq_true rfl, Nat.le_of_ble_eq_true rfl⟩) ⟨wPre_blind, va_recv hK hP (ci := 0) (q0 := 2) rfl rfl, wPre_of hP hK hD hZ⟩ rfl rfl hl.1 rfl (lv_room (Nat.le_of_ble_eq_true rfl)) dX3_settle_66 ⟨Nat.zero_le _, Nat.zero_le _⟩) hS (fun q _ h => hFc q h) hFc (fun r2 u2 t H1 locs ht hvm hw hB hz1 hk1 hS => ?_)
          obtain ⟨hP1, hK1, hD1⟩ := hB
          rw [ht] at hP1
          have e1 : r2 = w_4.1 := congrArg Prod.fst hw
          have e2 : u2 = w_4.2 := congrArg Prod.snd hw
          subst r2 u2
          have hP : va_P (dC, dI) vwCl (cw ad cI cL w_4.2) H1 := hP1
          have hD : va_D A (cw ad cI cL w_4.2) := hD1.weaken (fun _ _ _ h => hFc _ h)
          clear hP1 hD1 hK1 hFc hk1
          generalize H1 = H at hP hS ⊢
          refine lv_istore_n (lv' := [(1, .int w_4.1), (0, .ref (ad 3))]) hx hb dX3_settle_69 rfl hl (by decide) rfl (fun ls hl => ?_)
          exact ih2 w_4.1 w_4.2 H locs ls hf hP hD hS (lv_sub hl [1, 0] rfl)
        · have hf := (if_neg c_3).symm.trans hf
          refine lv_aload_n hx hb dX3_settle_34 rfl (lv_at hl 0 rfl) ?_
          refine va_get (D := (dC, dI)) (ci := 3) (v := .ref (ad 23)) (C := RX3) (T := TX3) (N := 7) hx hb hts iX3 hown hK hP 3 rfl rfl 4 (by decide) k_6 (fun _ h9 => h9) rfl dX3_settle_35 ?_
          refine lv_iload_n hx hb dX3_settle_38 rfl (lv_at hl 1 rfl) ?_
          refine lv_ldc2 (v := 100) hx hb hown k_7 dX3_settle_39 ?_
          refine lv_aload_n hx hb dX3_settle_42 rfl (lv_at hl 0 rfl) ?_
          refine va_get (D := (dC, dI)) (ci := 3) (v := .ref (ad 21)) (C := RX3) (T := TX3) (N := 7) hx hb hts iX3 hown hK hP 3 rfl rfl 2 (by decide) k_8 (fun _ h9 => h9) rfl dX3_settle_43 ?_
          refine lv_iload_n hx hb dX3_settle_46 rfl (lv_at hl 1 rfl) ?_
          obtain ⟨h_5, hf⟩ := ck_of hf
          refine va_iald (f := (gA u 16)) hx hb hK hP 21 0 rfl rfl h_5 dX3_settle_47 ?_
          refine lv_i2l (v := ((gA u 16) v1.toNatClampNeg).toInt64) hx hb dX3_settle_48 rfl ?_
          refine lv_lmul hx hb dX3_settle_49 ?_
          refine va_last (f := (gL u 0)) hx hb hK hP hD hS 23 1 rfl rfl h_5 dX3_settle_50 (fun H locs hP hD hS => ?_)
          have hP : va_P (dC, dI) vwCl (cw ad cI cL (sL u 0 (vp_updL (gL u 0) v1.toNatClampNeg ((100 : Int64) * ((gA u 16) v1.toNatClampNeg).toInt64)))) H := hP
          have hD : va_D A (cw ad cI cL (sL u 0 (vp_updL (gL u 0) v1.toNatClampNeg ((100 : Int64) * ((gA u 16) v1.toNatClampNeg).toInt64)))) := hD
          refine lv_iinc (v := (v1 + 1)) (lv' := [(1, .int (v1 + 1)), (0, .ref (ad 3))]) hx hb dX3_settle_51 hl (k := 1) rfl rfl (by decide) rfl (fun ls hl => ?_)
          refine lv_goto (tgt := 23) hx hb dX3_settle_54 (by decide) ?_
          exact ih1 (v1 + 1) (sL u 0 (vp_updL (gL u 0) v1.toNatClampNeg ((100 : Int64) * ((gA u 16) v1.toNatClampNeg).toInt64))) H locs ls hf hP hD hS (lv_sub hl [1, 0] rfl)
      · intro v1 u H locs ls hf hP hD hS hl
        have hf := (eX3_settle_70 n v1 u).symm.trans hf
        refine lv_iload_n hx hb dX3_settle_70 rfl (lv_at hl 1 rfl) ?_
        refine lv_if_eq (tgt := 101) hx hb dX3_settle_71 (by decide) (fun c_6 => ?_) (fun c_6 => ?_)
        · have hf := (if_pos c_6).symm.trans hf
          have hf := Option.some.inj hf
          exact W.vret hx hb hr (fun t ht hW => ⟨⟨u, rfl, hf, ⟨by rw [ht]; exact hP, va_K.moved hW.alike hK, hD⟩⟩, hS.F ht⟩) hS.2.2 dX3_settle_101
        · have hf := (if_neg c_6).symm.trans hf
          refine lv_aload_n hx hb dX3_settle_74 rfl (lv_at hl 0 rfl) ?_
          refine va_get (D := (dC, dI)) (ci := 3) (v := .int (gI u 7)) (C := RX3) (T := TX3) (N := 7) hx hb hts iX3 hown hK hP 3 rfl rfl 5 (by decide) k_4 (fun _ h9 => h9) rfl dX3_settle_75 ?_
          refine lv_bipush (v := 20) hx hb dX3_settle_78 (by decide) ?_
          refine lv_icmp_ge (tgt := 101) hx hb dX3_settle_80 (by decide) (fun c_7 => ?_) (fun c_7 => ?_)
          · have hf := (if_pos c_7).symm.trans hf
            have hf := Option.some.inj hf
            exact W.vret hx hb hr (fun t ht hW => ⟨⟨u, rfl, hf, ⟨by rw [ht]; exact hP, va_K.moved hW.alike hK, hD⟩⟩, hS.F ht⟩) hS.2.2 dX3_settle_101
          · have hf := (if_neg c_7).symm.trans hf
            refine lv_aload_n hx hb dX3_settle_83 rfl (lv_at hl 0 rfl) ?_
            obtain ⟨w_8, hw_8, hf⟩ := ob hf
            have hFc := freeAll hD hS hA
            refine va_calli (va_runV (As := []) (rest := []) ⟨hx, hb, hml, hown, hts⟩ (mX3_sweep l dC dI cI cL ad H.size u  n w_8 hw_8) (cwV 0 hts gX3_settle_X3_sweep rfl rfl rfl (by decide +kernel) ⟨Nat.le_of_ble_eq_true rfl, Nat.le_of_ble_eq_true rfl⟩) ⟨wPre_blind, va_recv hK hP (ci := 3) (q0 := 3) rfl rfl, wPre_of hP hK hD hZ⟩ rfl rfl hl.1 rfl (lv_room (Nat.le_of_ble_eq_true rfl)) dX3_settle_84 ⟨Nat.zero_le _, Nat.zero_le _⟩) hS (fun q _ h => hFc q h) hFc (fun r2 u2 t H1 locs ht hvm hw hB hz1 hk1 hS => ?_)
            obtain ⟨hP1, hK1, hD1⟩ := hB
            rw [ht] at hP1
            have e1 : r2 = w_8.1 := congrArg Prod.fst hw
            have e2 : u2 = w_8.2 := congrArg Prod.snd hw
            subst r2 u2
            have hP : va_P (dC, dI) vwCl (cw ad cI cL w_8.2) H1 := hP1
            have hD : va_D A (cw ad cI cL w_8.2) := hD1.weaken (fun _ _ _ h => hFc _ h)
            clear hP1 hD1 hK1 hFc hk1
            generalize H1 = H at hP hS ⊢
            refine lv_istore_n (lv' := [(1, .int w_8.1), (0, .ref (ad 3))]) hx hb dX3_settle_87 rfl hl (by decide) rfl (fun ls hl => ?_)
            refine lv_aload_n hx hb dX3_settle_88 rfl (lv_at hl 1 rfl) ?_
            refine lv_dup hx hb dX3_settle_89 rfl ?_
            refine va_get (D := (dC, dI)) (ci := 3) (v := .int (gI w_8.2 7)) (C := RX3) (T := TX3) (N := 7) hx hb hts iX3 hown hK hP 3 rfl rfl 5 (by decide) k_4 (fun _ h9 => h9) rfl dX3_settle_90 ?_
            refine lv_iconst (v := 1) hx hb dX3_settle_93 (by decide) ?_
            refine lv_iadd hx hb dX3_settle_94 ?_
            refine va_put (D := (dC, dI)) (ci := 3) (v := .int ((gI w_8.2 7) + (1 : Int32))) (ty := .int) (C := RX3) (T := TX3) (N := 7) hx hb hts iX3 tyX3 tyX3_ok nmX3 hown hK hP hD hS 3 rfl rfl 5 (by decide) k_4 (fun _ h9 => h9) rfl (by decide +kernel) rfl rfl (Nat.le_of_ble_eq_true rfl) dX3_settle_95 (fun H locs hP hD hS => ?_)
            have hP : va_P (dC, dI) vwCl (cw ad cI cL (sI w_8.2 7 ((gI w_8.2 7) + (1 : Int32)))) H := hP
            have hD : va_D A (cw ad cI cL (sI w_8.2 7 ((gI w_8.2 7) + (1 : Int32)))) := hD
            refine lv_goto (tgt := 70) hx hb dX3_settle_98 (by decide) ?_
            exact ih2 w_8.1 (sI w_8.2 7 ((gI w_8.2 7) + (1 : Int32))) H locs ls hf hP hD hS (lv_sub hl [1, 0] rfl)
  exact (key n).1 0 u _ _ ls hf0 hP hD hS (lv_sub hl [0] rfl)

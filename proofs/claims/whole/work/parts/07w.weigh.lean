def fX0_weigh (n pc : Nat) (v1 : Int32) (v2 : Int32) (w3 : Int64) (w5 : Int64) (v7 : Int32) (u : St) : Option (St) := match n with
  | 0 => none
  | n + 1 => match pc with
    | 0 => (if (gI u 2) ≤ 0 then fX0_weigh n 39 v1 ((gI u 1) * (16 : Int32)) (0 : Int64) (0 : Int64) (0 : Int32) u else (if ck ((gI u 1) * (16 : Int32)) 128 = true then fX0_weigh n 39 v1 ((gI u 1) * (16 : Int32)) (((gA u 12) ((gI u 1) * (16 : Int32)).toNatClampNeg).toInt64) (0 : Int64) (0 : Int32) u else none))
    | 39 => (if (gI u 2) ≤ v7 then (if (gI u 5) = 0 then fX0_weigh n 135 v1 v2 w3 (if (1 : Int64) < w5 then w5 else (1 : Int64)) 0 u else (if v1 < (gI u 4) then fX0_weigh n 135 v1 v2 w3 (if (1 : Int64) < w5 then w5 else (1 : Int64)) 0 u else (if v1 = (gI u 4) then (if (w3 * (gJ u 1)) ≤ ((gJ u 0) * (if (1 : Int64) < w5 then w5 else (1 : Int64))) then some u else fX0_weigh n 135 v1 v2 w3 (if (1 : Int64) < w5 then w5 else (1 : Int64)) 0 u) else some u))) else (if ck (v2 + v7) 128 = true then fX0_weigh n 39 v1 v2 (if ((gA u 12) (v2 + v7).toNatClampNeg).toInt64 < w3 then ((gA u 12) (v2 + v7).toNatClampNeg).toInt64 else w3) (w5 + ((gA u 12) (v2 + v7).toNatClampNeg).toInt64) (v7 + 1) u else none))
    | 135 => fX0_weigh n 156 0 v2 0 0 0 (sJ (sJ (sI (sI u 5 (1 : Int32)) 4 v1) 0 w3) 1 w5)
    | 156 => (if ckc (0 : Int32) (0 : Int32) (gI u 1) 7 7 = true then fX0_weigh n 176 0 v2 0 0 0 (sA u 14 (va_cpy (gA u 13) (gA u 14) (0 : Int32).toNatClampNeg (0 : Int32).toNatClampNeg (gI u 1).toNatClampNeg)) else none)
    | 176 => (if ckc v2 (0 : Int32) (gI u 2) 128 16 = true then some (sA u 15 (va_cpy (gA u 12) (gA u 15) v2.toNatClampNeg (0 : Int32).toNatClampNeg (gI u 2).toNatClampNeg)) else none)
    | _ => none
theorem eX0_weigh_0 (n : Nat) (v1 : Int32) (v2 : Int32) (w3 : Int64) (w5 : Int64) (v7 : Int32) (u : St) : fX0_weigh (n + 1) 0 v1 v2 w3 w5 v7 u = (if (gI u 2) ≤ 0 then fX0_weigh n 39 v1 ((gI u 1) * (16 : Int32)) (0 : Int64) (0 : Int64) (0 : Int32) u else (if ck ((gI u 1) * (16 : Int32)) 128 = true then fX0_weigh n 39 v1 ((gI u 1) * (16 : Int32)) (((gA u 12) ((gI u 1) * (16 : Int32)).toNatClampNeg).toInt64) (0 : Int64) (0 : Int32) u else none)) := rfl
theorem eX0_weigh_39 (n : Nat) (v1 : Int32) (v2 : Int32) (w3 : Int64) (w5 : Int64) (v7 : Int32) (u : St) : fX0_weigh (n + 1) 39 v1 v2 w3 w5 v7 u = (if (gI u 2) ≤ v7 then (if (gI u 5) = 0 then fX0_weigh n 135 v1 v2 w3 (if (1 : Int64) < w5 then w5 else (1 : Int64)) 0 u else (if v1 < (gI u 4) then fX0_weigh n 135 v1 v2 w3 (if (1 : Int64) < w5 then w5 else (1 : Int64)) 0 u else (if v1 = (gI u 4) then (if (w3 * (gJ u 1)) ≤ ((gJ u 0) * (if (1 : Int64) < w5 then w5 else (1 : Int64))) then some u else fX0_weigh n 135 v1 v2 w3 (if (1 : Int64) < w5 then w5 else (1 : Int64)) 0 u) else some u))) else (if ck (v2 + v7) 128 = true then fX0_weigh n 39 v1 v2 (if ((gA u 12) (v2 + v7).toNatClampNeg).toInt64 < w3 then ((gA u 12) (v2 + v7).toNatClampNeg).toInt64 else w3) (w5 + ((gA u 12) (v2 + v7).toNatClampNeg).toInt64) (v7 + 1) u else none)) := rfl
theorem eX0_weigh_135 (n : Nat) (v1 : Int32) (v2 : Int32) (w3 : Int64) (w5 : Int64) (v7 : Int32) (u : St) : fX0_weigh (n + 1) 135 v1 v2 w3 w5 v7 u = fX0_weigh n 156 0 v2 0 0 0 (sJ (sJ (sI (sI u 5 (1 : Int32)) 4 v1) 0 w3) 1 w5) := rfl
theorem eX0_weigh_156 (n : Nat) (v1 : Int32) (v2 : Int32) (w3 : Int64) (w5 : Int64) (v7 : Int32) (u : St) : fX0_weigh (n + 1) 156 v1 v2 w3 w5 v7 u = (if ckc (0 : Int32) (0 : Int32) (gI u 1) 7 7 = true then fX0_weigh n 176 0 v2 0 0 0 (sA u 14 (va_cpy (gA u 13) (gA u 14) (0 : Int32).toNatClampNeg (0 : Int32).toNatClampNeg (gI u 1).toNatClampNeg)) else none) := rfl
theorem eX0_weigh_176 (n : Nat) (v1 : Int32) (v2 : Int32) (w3 : Int64) (w5 : Int64) (v7 : Int32) (u : St) : fX0_weigh (n + 1) 176 v1 v2 w3 w5 v7 u = (if ckc v2 (0 : Int32) (gI u 2) 128 16 = true then some (sA u 15 (va_cpy (gA u 12) (gA u 15) v2.toNatClampNeg (0 : Int32).toNatClampNeg (gI u 2).toNatClampNeg)) else none) := rfl
theorem vX0_weigh_0 (v1 : Int32) (v2 : Int32) (w3 : Int64) (w5 : Int64) (v7 : Int32) (u : St) (r : St) : Ev (fun n => fX0_weigh n 0 v1 v2 w3 w5 v7 u) r ↔ Ev (fun n => (if (gI u 2) ≤ 0 then fX0_weigh n 39 v1 ((gI u 1) * (16 : Int32)) (0 : Int64) (0 : Int64) (0 : Int32) u else (if ck ((gI u 1) * (16 : Int32)) 128 = true then fX0_weigh n 39 v1 ((gI u 1) * (16 : Int32)) (((gA u 12) ((gI u 1) * (16 : Int32)).toNatClampNeg).toInt64) (0 : Int64) (0 : Int32) u else none))) r := Ev_succ (fun n => fX0_weigh n 0 v1 v2 w3 w5 v7 u) r
theorem vX0_weigh_39 (v1 : Int32) (v2 : Int32) (w3 : Int64) (w5 : Int64) (v7 : Int32) (u : St) (r : St) : Ev (fun n => fX0_weigh n 39 v1 v2 w3 w5 v7 u) r ↔ Ev (fun n => (if (gI u 2) ≤ v7 then (if (gI u 5) = 0 then fX0_weigh n 135 v1 v2 w3 (if (1 : Int64) < w5 then w5 else (1 : Int64)) 0 u else (if v1 < (gI u 4) then fX0_weigh n 135 v1 v2 w3 (if (1 : Int64) < w5 then w5 else (1 : Int64)) 0 u else (if v1 = (gI u 4) then (if (w3 * (gJ u 1)) ≤ ((gJ u 0) * (if (1 : Int64) < w5 then w5 else (1 : Int64))) then some u else fX0_weigh n 135 v1 v2 w3 (if (1 : Int64) < w5 then w5 else (1 : Int64)) 0 u) else some u))) else (if ck (v2 + v7) 128 = true then fX0_weigh n 39 v1 v2 (if ((gA u 12) (v2 + v7).toNatClampNeg).toInt64 < w3 then ((gA u 12) (v2 + v7).toNatClampNeg).toInt64 else w3) (w5 + ((gA u 12) (v2 + v7).toNatClampNeg).toInt64) (v7 + 1) u else none))) r := Ev_succ (fun n => fX0_weigh n 39 v1 v2 w3 w5 v7 u) r
theorem vX0_weigh_135 (v1 : Int32) (v2 : Int32) (w3 : Int64) (w5 : Int64) (v7 : Int32) (u : St) (r : St) : Ev (fun n => fX0_weigh n 135 v1 v2 w3 w5 v7 u) r ↔ Ev (fun n => fX0_weigh n 156 0 v2 0 0 0 (sJ (sJ (sI (sI u 5 (1 : Int32)) 4 v1) 0 w3) 1 w5)) r := Ev_succ (fun n => fX0_weigh n 135 v1 v2 w3 w5 v7 u) r
theorem vX0_weigh_156 (v1 : Int32) (v2 : Int32) (w3 : Int64) (w5 : Int64) (v7 : Int32) (u : St) (r : St) : Ev (fun n => fX0_weigh n 156 v1 v2 w3 w5 v7 u) r ↔ Ev (fun n => (if ckc (0 : Int32) (0 : Int32) (gI u 1) 7 7 = true then fX0_weigh n 176 0 v2 0 0 0 (sA u 14 (va_cpy (gA u 13) (gA u 14) (0 : Int32).toNatClampNeg (0 : Int32).toNatClampNeg (gI u 1).toNatClampNeg)) else none)) r := Ev_succ (fun n => fX0_weigh n 156 v1 v2 w3 w5 v7 u) r
theorem vX0_weigh_176 (v1 : Int32) (v2 : Int32) (w3 : Int64) (w5 : Int64) (v7 : Int32) (u : St) (r : St) : Ev (fun n => fX0_weigh n 176 v1 v2 w3 w5 v7 u) r ↔ Ev (fun n => (if ckc v2 (0 : Int32) (gI u 2) 128 16 = true then some (sA u 15 (va_cpy (gA u 12) (gA u 15) v2.toNatClampNeg (0 : Int32).toNatClampNeg (gI u 2).toNatClampNeg)) else none)) r := Ev_succ (fun n => fX0_weigh n 176 v1 v2 w3 w5 v7 u) r
def FX0_weigh (n : Nat) (v1 : Int32) (u : St) : Option (St) := fX0_weigh n 0 v1 0 0 0 0 u
set_option maxHeartbeats 4000000 in
set_option maxRecDepth 100000 in
theorem mX0_weigh (l : Launch) (dC : Nat → ClassId) (dI : Nat → Nat → Nat) (cI cL : ClassId) (ad : Nat → Nat) (sz : Nat) (u : St) (z1 : Int32) (n : Nat) (r : St) (hf0 : FX0_weigh n z1 u = some r) : Met l yX0_weigh wsX0_weigh ({ frames := 1, cells := 0, slots := 0, locals := 60 }) (va_Pc [.ref (ad 2), .int z1] (wPre dC dI cI cL (cw ad cI cL u) sz)) (va_Qv (fun t => t = r) (fun t => wPost dC dI cI cL (va_A (cw ad cI cL u) sz) (cw ad cI cL t)) (va_A (cw ad cI cL u) sz)) 0 0 (va_A (cw ad cI cL u) sz) := by
  refine Met.ofW (cc := cX0_weigh) (maxL := 8) (ret := none) (by decide) rfl ?_
  intro p e s m args below meth c s₁ B hml hv
  obtain ⟨rfl, hsz, hP, hK, hD0, hZ⟩ := hv
  have hx := B.exec
  have hb := B.bytes
  have hr := B.returns
  have hts := atoms_spec (ws := wsX0_weigh) B.pre
  have hown : s.vm.findClass RX0 = some m.cls := findClass_of_methodNamed B.named
  have hlocks := B.notSynchronized
  subst hsz
  have hD := hD0.self (sz := s.heap.size)
  generalize hAe : va_A (cw ad cI cL u) s.heap.size = A at hD ⊢
  have hA : ∀ q : Nat, s.heap.size ≤ q → A q := fun q h => by rw [← hAe]; exact Or.inr h
  have hS : va_S A s.heap s.heap [] := va_S.rf
  have iX0 : ∀ w ∈ u_ws RX0 TX0 12, w ∈ wsX0_weigh := fun _ h => List.mem_cons_of_mem _ (List.mem_append_left _ (List.mem_append_right _ h))
  have iX2 : ∀ w ∈ u_ws RX2 TX2 14, w ∈ wsX0_weigh := fun _ h => List.mem_cons_of_mem _ (List.mem_append_right _ h)
  have k_0 := hts (.fieldLink RX0 30 "LampChoice$Choice" "room" "LLampChoice$Room;") (by decide +kernel)
  have k_1 := hts (.fieldLink RX0 65 "LampChoice$Room" "places" "I") (by decide +kernel)
  have k_2 := hts (.fieldLink RX0 75 "LampChoice$Room" "points" "I") (by decide +kernel)
  have k_3 := hts (.fieldLink RX0 18 "LampChoice$Choice" "gathered" "[I") (by decide +kernel)
  have k_4 := hts (.methodLink RX0 133 Lib.MathLoose.max_long.x) (by decide +kernel)
  have k_5 := hts (.static Lib.MathLoose.max_long.x) (by decide +kernel)
  have k_6 := hts (.initialized "java/lang/Math") (by decide +kernel)
  have k_7 := hts (.code Lib.MathLoose.max_long.x Lib.MathLoose.max_long.code 4 (some .long)) (by decide +kernel)
  have k_8 := hts (.fieldLink RX0 38 "LampChoice$Choice" "found" "Z") (by decide +kernel)
  have k_9 := hts (.fieldLink RX0 115 "LampChoice$Choice" "watts" "I") (by decide +kernel)
  have k_10 := hts (.fieldLink RX0 78 "LampChoice$Choice" "sumOfLevels" "J") (by decide +kernel)
  have k_11 := hts (.fieldLink RX0 71 "LampChoice$Choice" "leastLevel" "J") (by decide +kernel)
  have k_12 := hts (.methodLink RX0 130 Lib.MathLoose.min_long.x) (by decide +kernel)
  have k_13 := hts (.static Lib.MathLoose.min_long.x) (by decide +kernel)
  have k_14 := hts (.code Lib.MathLoose.min_long.x Lib.MathLoose.min_long.code 4 (some .long)) (by decide +kernel)
  have k_15 := hts (.fieldLink RX0 21 "LampChoice$Choice" "tried" "[I") (by decide +kernel)
  have k_16 := hts (.fieldLink RX0 24 "LampChoice$Choice" "lamps" "[I") (by decide +kernel)
  have k_17 := hts (.methodLink RX0 121 arraycopyName) (by decide +kernel)
  have k_18 := hts (.native arraycopyName) (by decide +kernel)
  have k_19 := hts (.static arraycopyName) (by decide +kernel)
  have k_20 := hts (.initialized "java/lang/System") (by decide +kernel)
  have k_21 := hts (.fieldLink RX0 27 "LampChoice$Choice" "levels" "[I") (by decide +kernel)
  have hl := lv_entry ([.ref (ad 2), .int z1]) (n := 8) (Nat.le_of_ble_eq_true rfl)
  rw [lg_entry_eq]
  generalize (lg_sl ([.ref (ad 2), .int z1]) ++ List.replicate (8 - (lg_sl ([.ref (ad 2), .int z1])).length) Slot.unset).toArray = ls at hl ⊢
  have hl : lv_has ls 8 [(0, .ref (ad 2)), (1, .int z1)] := hl
  have key : ∀ n : Nat, (∀ (v1 : Int32) (v2 : Int32) (w3 : Int64) (w5 : Int64) (v7 : Int32) (u : St) (H : Heap) (locs : List Loc) (ls : Array Slot), fX0_weigh n 0 v1 v2 w3 w5 v7 u = some r → va_P (dC, dI) vwCl (cw ad cI cL u) H → va_D A (cw ad cI cL u) → va_S A s.heap H locs → lv_has ls 8 [(0, .ref (ad 2)), (1, .int v1)] → W p l e (headSpec wsX0_weigh ({ frames := 1, cells := 0, slots := 0, locals := 60 })).room s m ([.ref (ad 2), .int z1] : List Value).toArray below meth c H locs 0 0 (MQ below (va_Qv (fun t => t = r) (fun t => wPost dC dI cI cL A (cw ad cI cL t)) A) ([.ref (ad 2), .int z1] : List Value).toArray s 0 0 A) (F0 m 0 ls [])) ∧ (∀ (v1 : Int32) (v2 : Int32) (w3 : Int64) (w5 : Int64) (v7 : Int32) (u : St) (H : Heap) (locs : List Loc) (ls : Array Slot), fX0_weigh n 39 v1 v2 w3 w5 v7 u = some r → va_P (dC, dI) vwCl (cw ad cI cL u) H → va_D A (cw ad cI cL u) → va_S A s.heap H locs → lv_has ls 8 [(0, .ref (ad 2)), (1, .int v1), (2, .int v2), (3, .long w3), (5, .long w5), (7, .int v7)] → W p l e (headSpec wsX0_weigh ({ frames := 1, cells := 0, slots := 0, locals := 60 })).room s m ([.ref (ad 2), .int z1] : List Value).toArray below meth c H locs 0 0 (MQ below (va_Qv (fun t => t = r) (fun t => wPost dC dI cI cL A (cw ad cI cL t)) A) ([.ref (ad 2), .int z1] : List Value).toArray s 0 0 A) (F0 m 39 ls [])) ∧ (∀ (v1 : Int32) (v2 : Int32) (w3 : Int64) (w5 : Int64) (v7 : Int32) (u : St) (H : Heap) (locs : List Loc) (ls : Array Slot), fX0_weigh n 135 v1 v2 w3 w5 v7 u = some r → va_P (dC, dI) vwCl (cw ad cI cL u) H → va_D A (cw ad cI cL u) → va_S A s.heap H locs → lv_has ls 8 [(0, .ref (ad 2)), (1, .int v1), (2, .int v2), (3, .long w3), (5, .long w5)] → W p l e (headSpec wsX0_weigh ({ frames := 1, cells := 0, slots := 0, locals := 60 })).room s m ([.ref (ad 2), .int z1] : List Value).toArray below meth c H locs 0 0 (MQ below (va_Qv (fun t => t = r) (fun t => wPost dC dI cI cL A (cw ad cI cL t)) A) ([.ref (ad 2), .int z1] : List Value).toArray s 0 0 A) (F0 m 135 ls [])) ∧ (∀ (v1 : Int32) (v2 : Int32) (w3 : Int64) (w5 : Int64) (v7 : Int32) (u : St) (H : Heap) (locs : List Loc) (ls : Array Slot), fX0_weigh n 156 v1 v2 w3 w5 v7 u = some r → va_P (dC, dI) vwCl (cw ad cI cL u) H → va_D A (cw ad cI cL u) → va_S A s.heap H locs → lv_has ls 8 [(0, .ref (ad 2)), (2, .int v2)] → W p l e (headSpec wsX0_weigh ({ frames := 1, cells := 0, slots := 0, locals := 60 })).room s m ([.ref (ad 2), .int z1] : List Value).toArray below meth c H locs 0 0 (MQ below (va_Qv (fun t => t = r) (fun t => wPost dC dI cI cL A (cw ad cI cL t)) A) ([.ref (ad 2), .int z1] : List Value).toArray s 0 0 A) (F0 m 156 ls [])) ∧ (∀ (v1 : Int32) (v2 : Int32) (w3 : Int64) (w5 : Int64) (v7 : Int32) (u : St) (H : Heap) (locs : List Loc) (ls : Array Slot), fX0_weigh n 176 v1 v2 w3 w5 v7 u = some r → va_P (dC, dI) vwCl (cw ad cI cL u) H → va_D A (cw ad cI cL u) → va_S A s.heap H locs → lv_has ls 8 [(0, .ref (ad 2)), (2, .int v2)] → W p l e (headSpec wsX0_weigh ({ frames := 1, cells := 0, slots := 0, locals := 60 })).room s m ([.ref (ad 2), .int z1] : List Value).toArray below meth c H locs 0 0 (MQ below (va_Qv (fun t => t = r) (fun t => wPost dC dI cI cL A (cw ad cI cL t)) A) ([.ref (ad 2), .int z1] : List Value).toArray s 0 0 A) (F0 m 176 ls [])) := by
    intro n
    induction n with
    | zero => exact ⟨(fun _ _ _ _ _ _ _ _ _ hf => nomatch (show (none : Option (St)) = some r from hf)), (fun _ _ _ _ _ _ _ _ _ hf => nomatch (show (none : Option (St)) = some r from hf)), (fun _ _ _ _ _ _ _ _ _ hf => nomatch (show (none : Option (St)) = some r from hf)), (fun _ _ _ _ _ _ _ _ _ hf => nomatch (show (none : Option (St)) = some r from hf)), (fun _ _ _ _ _ _ _ _ _ hf => nomatch (show (none : Option (St)) = some r from hf))⟩
    | succ n ih =>
      obtain ⟨ih0, ih1, ih2, ih3, ih4⟩ := ih
      refine ⟨?_, ?_, ?_, ?_, ?_⟩
      · intro v1 v2 w3 w5 v7 u H locs ls hf hP hD hS hl
        have hf := (eX0_weigh_0 n v1 v2 w3 w5 v7 u).symm.trans hf
        refine lv_aload_n hx hb dX0_weigh_0 rfl (lv_at hl 0 rfl) ?_
        refine va_get (D := (dC, dI)) (ci := 0) (v := .ref (ad 1)) (C := RX0) (T := TX0) (N := 12) hx hb hts iX0 hown hK hP 2 rfl rfl 0 (by decide) k_0 (fun _ h9 => h9) rfl dX0_weigh_1 ?_
        refine va_get (D := (dC, dI)) (ci := 2) (v := .int (gI u 1)) (C := RX2) (T := TX2) (N := 14) hx hb hts iX2 hown hK hP 1 rfl rfl 11 (by decide) k_1 (fun _ h9 => h9) rfl dX0_weigh_4 ?_
        refine lv_bipush (v := 16) hx hb dX0_weigh_7 (by decide) ?_
        refine lv_imul hx hb dX0_weigh_9 ?_
        refine lv_istore_n (lv' := [(2, .int ((gI u 1) * (16 : Int32))), (0, .ref (ad 2)), (1, .int v1)]) hx hb dX0_weigh_10 rfl hl (by decide) rfl (fun ls hl => ?_)
        refine lv_aload_n hx hb dX0_weigh_11 rfl (lv_at hl 1 rfl) ?_
        refine va_get (D := (dC, dI)) (ci := 0) (v := .ref (ad 1)) (C := RX0) (T := TX0) (N := 12) hx hb hts iX0 hown hK hP 2 rfl rfl 0 (by decide) k_0 (fun _ h9 => h9) rfl dX0_weigh_12 ?_
        refine va_get (D := (dC, dI)) (ci := 2) (v := .int (gI u 2)) (C := RX2) (T := TX2) (N := 14) hx hb hts iX2 hown hK hP 1 rfl rfl 12 (by decide) k_2 (fun _ h9 => h9) rfl dX0_weigh_15 ?_
        refine lv_if_le (tgt := 31) hx hb dX0_weigh_18 (by decide) (fun c_1 => ?_) (fun c_1 => ?_)
        · have hf := (if_pos c_1).symm.trans hf
          refine lv_lconst (v := 0) hx hb dX0_weigh_31 (by decide) ?_
          refine lv_lstore_n (lv' := [(3, .long (0 : Int64)), (2, .int ((gI u 1) * (16 : Int32))), (0, .ref (ad 2)), (1, .int v1)]) hx hb dX0_weigh_32 rfl hl (by decide) rfl (fun ls hl => ?_)
          refine lv_lconst (v := 0) hx hb dX0_weigh_33 (by decide) ?_
          refine lv_lstore (lv' := [(5, .long (0 : Int64)), (3, .long (0 : Int64)), (2, .int ((gI u 1) * (16 : Int32))), (0, .ref (ad 2)), (1, .int v1)]) hx hb dX0_weigh_34 hl (by decide) rfl (fun ls hl => ?_)
          refine lv_iconst (v := 0) hx hb dX0_weigh_36 (by decide) ?_
          refine lv_istore (lv' := [(7, .int (0 : Int32)), (5, .long (0 : Int64)), (3, .long (0 : Int64)), (2, .int ((gI u 1) * (16 : Int32))), (0, .ref (ad 2)), (1, .int v1)]) hx hb dX0_weigh_37 hl (by decide) rfl (fun ls hl => ?_)
          exact ih1 v1 ((gI u 1) * (16 : Int32)) (0 : Int64) (0 : Int64) (0 : Int32) u H locs ls hf hP hD hS (lv_sub hl [4, 5, 3, 2, 1, 0] rfl)
        · have hf := (if_neg c_1).symm.trans hf
          refine lv_aload_n hx hb dX0_weigh_21 rfl (lv_at hl 1 rfl) ?_
          refine va_get (D := (dC, dI)) (ci := 0) (v := .ref (ad 17)) (C := RX0) (T := TX0) (N := 12) hx hb hts iX0 hown hK hP 2 rfl rfl 3 (by decide) k_3 (fun _ h9 => h9) rfl dX0_weigh_22 ?_
          refine lv_iload_n hx hb dX0_weigh_25 rfl (lv_at hl 0 rfl) ?_
          obtain ⟨h_2, hf⟩ := ck_of hf
          refine va_iald (f := (gA u 12)) hx hb hK hP 17 0 rfl rfl h_2 dX0_weigh_26 ?_
          refine lv_i2l (v := ((gA u 12) ((gI u 1) * (16 : Int32)).toNatClampNeg).toInt64) hx hb dX0_weigh_27 rfl ?_
          refine lv_goto (tgt := 32) hx hb dX0_weigh_28 (by decide) ?_
          refine lv_lstore_n (lv' := [(3, .long (((gA u 12) ((gI u 1) * (16 : Int32)).toNatClampNeg).toInt64)), (2, .int ((gI u 1) * (16 : Int32))), (0, .ref (ad 2)), (1, .int v1)]) hx hb dX0_weigh_32 rfl hl (by decide) rfl (fun ls hl => ?_)
          refine lv_lconst (v := 0) hx hb dX0_weigh_33 (by decide) ?_
          refine lv_lstore (lv' := [(5, .long (0 : Int64)), (3, .long (((gA u 12) ((gI u 1) * (16 : Int32)).toNatClampNeg).toInt64)), (2, .int ((gI u 1) * (16 : Int32))), (0, .ref (ad 2)), (1, .int v1)]) hx hb dX0_weigh_34 hl (by decide) rfl (fun ls hl => ?_)
          refine lv_iconst (v := 0) hx hb dX0_weigh_36 (by decide) ?_
          refine lv_istore (lv' := [(7, .int (0 : Int32)), (5, .long (0 : Int64)), (3, .long (((gA u 12) ((gI u 1) * (16 : Int32)).toNatClampNeg).toInt64)), (2, .int ((gI u 1) * (16 : Int32))), (0, .ref (ad 2)), (1, .int v1)]) hx hb dX0_weigh_37 hl (by decide) rfl (fun ls hl => ?_)
          exact ih1 v1 ((gI u 1) * (16 : Int32)) (((gA u 12) ((gI u 1) * (16 : Int32)).toNatClampNeg).toInt64) (0 : Int64) (0 : Int32) u H locs ls hf hP hD hS (lv_sub hl [4, 5, 3, 2, 1, 0] rfl)
      · intro v1 v2 w3 w5 v7 u H locs ls hf hP hD hS hl
        have hf := (eX0_weigh_39 n v1 v2 w3 w5 v7 u).symm.trans hf
        refine lv_iload hx hb dX0_weigh_39 (lv_at hl 5 rfl) ?_
        refine lv_aload_n hx hb dX0_weigh_41 rfl (lv_at hl 0 rfl) ?_
        refine va_get (D := (dC, dI)) (ci := 0) (v := .ref (ad 1)) (C := RX0) (T := TX0) (N := 12) hx hb hts iX0 hown hK hP 2 rfl rfl 0 (by decide) k_0 (fun _ h9 => h9) rfl dX0_weigh_42 ?_
        refine va_get (D := (dC, dI)) (ci := 2) (v := .int (gI u 2)) (C := RX2) (T := TX2) (N := 14) hx hb hts iX2 hown hK hP 1 rfl rfl 12 (by decide) k_2 (fun _ h9 => h9) rfl dX0_weigh_45 ?_
        refine lv_icmp_ge (tgt := 87) hx hb dX0_weigh_48 (by decide) (fun c_3 => ?_) (fun c_3 => ?_)
        · have hf := (if_pos c_3).symm.trans hf
          refine lv_lload hx hb dX0_weigh_87 (lv_at hl 4 rfl) ?_
          refine lv_lconst (v := 1) hx hb dX0_weigh_89 (by decide) ?_
          refine va_mmax_long hx hb (by rw [hml]; exact hl.1.symm) hown k_4 k_5 k_6 k_7 (Nat.le_of_ble_eq_true rfl) (Nat.le_of_ble_eq_true rfl) (Nat.zero_le _) (Nat.zero_le _) dX0_weigh_90 ?_
          refine lv_lstore (lv' := [(5, .long (if (1 : Int64) < w5 then w5 else (1 : Int64))), (0, .ref (ad 2)), (1, .int v1), (2, .int v2), (3, .long w3), (7, .int v7)]) hx hb dX0_weigh_93 hl (by decide) rfl (fun ls hl => ?_)
          refine lv_aload_n hx hb dX0_weigh_95 rfl (lv_at hl 1 rfl) ?_
          refine va_get (D := (dC, dI)) (ci := 0) (v := .int (gI u 5)) (C := RX0) (T := TX0) (N := 12) hx hb hts iX0 hown hK hP 2 rfl rfl 10 (by decide) k_8 (fun _ h9 => h9) rfl dX0_weigh_96 ?_
          refine lv_if_eq (tgt := 135) hx hb dX0_weigh_99 (by decide) (fun c_4 => ?_) (fun c_4 => ?_)
          · have hf := (if_pos c_4).symm.trans hf
            exact ih2 v1 v2 w3 (if (1 : Int64) < w5 then w5 else (1 : Int64)) 0 u H locs ls hf hP hD hS (lv_sub hl [1, 2, 3, 4, 0] rfl)
          · have hf := (if_neg c_4).symm.trans hf
            refine lv_iload_n hx hb dX0_weigh_102 rfl (lv_at hl 2 rfl) ?_
            refine lv_aload_n hx hb dX0_weigh_103 rfl (lv_at hl 1 rfl) ?_
            refine va_get (D := (dC, dI)) (ci := 0) (v := .int (gI u 4)) (C := RX0) (T := TX0) (N := 12) hx hb hts iX0 hown hK hP 2 rfl rfl 9 (by decide) k_9 (fun _ h9 => h9) rfl dX0_weigh_104 ?_
            refine lv_icmp_lt (tgt := 135) hx hb dX0_weigh_107 (by decide) (fun c_5 => ?_) (fun c_5 => ?_)
            · have hf := (if_pos c_5).symm.trans hf
              exact ih2 v1 v2 w3 (if (1 : Int64) < w5 then w5 else (1 : Int64)) 0 u H locs ls hf hP hD hS (lv_sub hl [1, 2, 3, 4, 0] rfl)
            · have hf := (if_neg c_5).symm.trans hf
              refine lv_iload_n hx hb dX0_weigh_110 rfl (lv_at hl 2 rfl) ?_
              refine lv_aload_n hx hb dX0_weigh_111 rfl (lv_at hl 1 rfl) ?_
              refine va_get (D := (dC, dI)) (ci := 0) (v := .int (gI u 4)) (C := RX0) (T := TX0) (N := 12) hx hb hts iX0 hown hK hP 2 rfl rfl 9 (by decide) k_9 (fun _ h9 => h9) rfl dX0_weigh_112 ?_
              refine lv_icmp_ne (tgt := 196) hx hb dX0_weigh_115 (by decide) (fun c_6 => ?_) (fun c_6 => ?_)
              · have hf := (if_neg c_6).symm.trans hf
                have hf := Option.some.inj hf
                exact W.vret hx hb hr (fun t ht hW => ⟨⟨u, rfl, hf, ⟨by rw [ht]; exact hP, va_K.moved hW.alike hK, hD⟩⟩, hS.F ht⟩) hS.2.2 dX0_weigh_196
              · have hf := (if_pos c_6).symm.trans hf
                refine lv_lload_n hx hb dX0_weigh_118 rfl (lv_at hl 4 rfl) ?_
                refine lv_aload_n hx hb dX0_weigh_119 rfl (lv_at hl 1 rfl) ?_
                refine va_get (D := (dC, dI)) (ci := 0) (v := .long (gJ u 1)) (C := RX0) (T := TX0) (N := 12) hx hb hts iX0 hown hK hP 2 rfl rfl 6 (by decide) k_10 (fun _ h9 => h9) rfl dX0_weigh_120 ?_
                refine lv_lmul hx hb dX0_weigh_123 ?_
                refine lv_aload_n hx hb dX0_weigh_124 rfl (lv_at hl 1 rfl) ?_
                refine va_get (D := (dC, dI)) (ci := 0) (v := .long (gJ u 0)) (C := RX0) (T := TX0) (N := 12) hx hb hts iX0 hown hK hP 2 rfl rfl 5 (by decide) k_11 (fun _ h9 => h9) rfl dX0_weigh_125 ?_
                refine lv_lload hx hb dX0_weigh_128 (lv_at hl 0 rfl) ?_
                refine lv_lmul hx hb dX0_weigh_130 ?_
                refine W.lcmp hx hb dX0_weigh_131 ?_
                refine lv_if_le (tgt := 196) hx hb dX0_weigh_132 (by decide) (fun c_7 => ?_) (fun c_7 => ?_)
                · have c_7 := (lg_cmp_le (w3 * (gJ u 1)) ((gJ u 0) * (if (1 : Int64) < w5 then w5 else (1 : Int64)))).mp c_7
                  have hf := (if_pos c_7).symm.trans hf
                  have hf := Option.some.inj hf
                  exact W.vret hx hb hr (fun t ht hW => ⟨⟨u, rfl, hf, ⟨by rw [ht]; exact hP, va_K.moved hW.alike hK, hD⟩⟩, hS.F ht⟩) hS.2.2 dX0_weigh_196
                · have c_7 := fun q => c_7 ((lg_cmp_le (w3 * (gJ u 1)) ((gJ u 0) * (if (1 : Int64) < w5 then w5 else (1 : Int64)))).mpr q)
                  have hf := (if_neg c_7).symm.trans hf
                  exact ih2 v1 v2 w3 (if (1 : Int64) < w5 then w5 else (1 : Int64)) 0 u H locs ls hf hP hD hS (lv_sub hl [1, 2, 3, 4, 0] rfl)
        · have hf := (if_neg c_3).symm.trans hf
          refine lv_lload_n hx hb dX0_weigh_51 rfl (lv_at hl 3 rfl) ?_
          refine lv_aload_n hx hb dX0_weigh_52 rfl (lv_at hl 0 rfl) ?_
          refine va_get (D := (dC, dI)) (ci := 0) (v := .ref (ad 17)) (C := RX0) (T := TX0) (N := 12) hx hb hts iX0 hown hK hP 2 rfl rfl 3 (by decide) k_3 (fun _ h9 => h9) rfl dX0_weigh_53 ?_
          refine lv_iload_n hx hb dX0_weigh_56 rfl (lv_at hl 2 rfl) ?_
          refine lv_iload hx hb dX0_weigh_57 (lv_at hl 5 rfl) ?_
          refine lv_iadd hx hb dX0_weigh_59 ?_
          obtain ⟨h_8, hf⟩ := ck_of hf
          refine va_iald (f := (gA u 12)) hx hb hK hP 17 0 rfl rfl h_8 dX0_weigh_60 ?_
          refine lv_i2l (v := ((gA u 12) (v2 + v7).toNatClampNeg).toInt64) hx hb dX0_weigh_61 rfl ?_
          refine va_mmin_long hx hb (by rw [hml]; exact hl.1.symm) hown k_12 k_13 k_6 k_14 (Nat.le_of_ble_eq_true rfl) (Nat.le_of_ble_eq_true rfl) (Nat.zero_le _) (Nat.zero_le _) dX0_weigh_62 ?_
          refine lv_lstore_n (lv' := [(3, .long (if ((gA u 12) (v2 + v7).toNatClampNeg).toInt64 < w3 then ((gA u 12) (v2 + v7).toNatClampNeg).toInt64 else w3)), (0, .ref (ad 2)), (1, .int v1), (2, .int v2), (5, .long w5), (7, .int v7)]) hx hb dX0_weigh_65 rfl hl (by decide) rfl (fun ls hl => ?_)
          refine lv_lload hx hb dX0_weigh_66 (lv_at hl 4 rfl) ?_
          refine lv_aload_n hx hb dX0_weigh_68 rfl (lv_at hl 1 rfl) ?_
          refine va_get (D := (dC, dI)) (ci := 0) (v := .ref (ad 17)) (C := RX0) (T := TX0) (N := 12) hx hb hts iX0 hown hK hP 2 rfl rfl 3 (by decide) k_3 (fun _ h9 => h9) rfl dX0_weigh_69 ?_
          refine lv_iload_n hx hb dX0_weigh_72 rfl (lv_at hl 3 rfl) ?_
          refine lv_iload hx hb dX0_weigh_73 (lv_at hl 5 rfl) ?_
          refine lv_iadd hx hb dX0_weigh_75 ?_
          refine va_iald (f := (gA u 12)) hx hb hK hP 17 0 rfl rfl h_8 dX0_weigh_76 ?_
          refine lv_i2l (v := ((gA u 12) (v2 + v7).toNatClampNeg).toInt64) hx hb dX0_weigh_77 rfl ?_
          refine lv_ladd hx hb dX0_weigh_78 ?_
          refine lv_lstore (lv' := [(5, .long (w5 + ((gA u 12) (v2 + v7).toNatClampNeg).toInt64)), (3, .long (if ((gA u 12) (v2 + v7).toNatClampNeg).toInt64 < w3 then ((gA u 12) (v2 + v7).toNatClampNeg).toInt64 else w3)), (0, .ref (ad 2)), (1, .int v1), (2, .int v2), (7, .int v7)]) hx hb dX0_weigh_79 hl (by decide) rfl (fun ls hl => ?_)
          refine lv_iinc (v := (v7 + 1)) (lv' := [(7, .int (v7 + 1)), (5, .long (w5 + ((gA u 12) (v2 + v7).toNatClampNeg).toInt64)), (3, .long (if ((gA u 12) (v2 + v7).toNatClampNeg).toInt64 < w3 then ((gA u 12) (v2 + v7).toNatClampNeg).toInt64 else w3)), (0, .ref (ad 2)), (1, .int v1), (2, .int v2)]) hx hb dX0_weigh_81 hl (k := 5) rfl rfl (by decide) rfl (fun ls hl => ?_)
          refine lv_goto (tgt := 39) hx hb dX0_weigh_84 (by decide) ?_
          exact ih1 v1 v2 (if ((gA u 12) (v2 + v7).toNatClampNeg).toInt64 < w3 then ((gA u 12) (v2 + v7).toNatClampNeg).toInt64 else w3) (w5 + ((gA u 12) (v2 + v7).toNatClampNeg).toInt64) (v7 + 1) u H locs ls hf hP hD hS (lv_sub hl [3, 4, 5, 2, 1, 0] rfl)
      · intro v1 v2 w3 w5 v7 u H locs ls hf hP hD hS hl
        have hf := (eX0_weigh_135 n v1 v2 w3 w5 v7 u).symm.trans hf
        refine lv_aload_n hx hb dX0_weigh_135 rfl (lv_at hl 0 rfl) ?_
        refine lv_iconst (v := 1) hx hb dX0_weigh_136 (by decide) ?_
        refine va_put (D := (dC, dI)) (ci := 0) (v := .int (1 : Int32)) (ty := .boolean) (C := RX0) (T := TX0) (N := 12) hx hb hts iX0 tyX0 tyX0_ok nmX0 hown hK hP hD hS 2 rfl rfl 10 (by decide) k_8 (fun _ h9 => h9) rfl (by decide +kernel) rfl rfl (Nat.le_of_ble_eq_true rfl) dX0_weigh_137 (fun H locs hP hD hS => ?_)
        have hP : va_P (dC, dI) vwCl (cw ad cI cL (sI u 5 (1 : Int32))) H := hP
        have hD : va_D A (cw ad cI cL (sI u 5 (1 : Int32))) := hD
        refine lv_aload_n hx hb dX0_weigh_140 rfl (lv_at hl 0 rfl) ?_
        refine lv_iload_n hx hb dX0_weigh_141 rfl (lv_at hl 1 rfl) ?_
        refine va_put (D := (dC, dI)) (ci := 0) (v := .int v1) (ty := .int) (C := RX0) (T := TX0) (N := 12) hx hb hts iX0 tyX0 tyX0_ok nmX0 hown hK hP hD hS 2 rfl rfl 9 (by decide) k_9 (fun _ h9 => h9) rfl (by decide +kernel) rfl rfl (Nat.le_of_ble_eq_true rfl) dX0_weigh_142 (fun H locs hP hD hS => ?_)
        have hP : va_P (dC, dI) vwCl (cw ad cI cL (sI (sI u 5 (1 : Int32)) 4 v1)) H := hP
        have hD : va_D A (cw ad cI cL (sI (sI u 5 (1 : Int32)) 4 v1)) := hD
        refine lv_aload_n hx hb dX0_weigh_145 rfl (lv_at hl 0 rfl) ?_
        refine lv_lload_n hx hb dX0_weigh_146 rfl (lv_at hl 3 rfl) ?_
        refine va_put (D := (dC, dI)) (ci := 0) (v := .long w3) (ty := .long) (C := RX0) (T := TX0) (N := 12) hx hb hts iX0 tyX0 tyX0_ok nmX0 hown hK hP hD hS 2 rfl rfl 5 (by decide) k_11 (fun _ h9 => h9) rfl (by decide +kernel) rfl rfl (Nat.le_of_ble_eq_true rfl) dX0_weigh_147 (fun H locs hP hD hS => ?_)
        have hP : va_P (dC, dI) vwCl (cw ad cI cL (sJ (sI (sI u 5 (1 : Int32)) 4 v1) 0 w3)) H := hP
        have hD : va_D A (cw ad cI cL (sJ (sI (sI u 5 (1 : Int32)) 4 v1) 0 w3)) := hD
        refine lv_aload_n hx hb dX0_weigh_150 rfl (lv_at hl 0 rfl) ?_
        refine lv_lload hx hb dX0_weigh_151 (lv_at hl 4 rfl) ?_
        refine va_put (D := (dC, dI)) (ci := 0) (v := .long w5) (ty := .long) (C := RX0) (T := TX0) (N := 12) hx hb hts iX0 tyX0 tyX0_ok nmX0 hown hK hP hD hS 2 rfl rfl 6 (by decide) k_10 (fun _ h9 => h9) rfl (by decide +kernel) rfl rfl (Nat.le_of_ble_eq_true rfl) dX0_weigh_153 (fun H locs hP hD hS => ?_)
        have hP : va_P (dC, dI) vwCl (cw ad cI cL (sJ (sJ (sI (sI u 5 (1 : Int32)) 4 v1) 0 w3) 1 w5)) H := hP
        have hD : va_D A (cw ad cI cL (sJ (sJ (sI (sI u 5 (1 : Int32)) 4 v1) 0 w3) 1 w5)) := hD
        exact ih3 0 v2 0 0 0 (sJ (sJ (sI (sI u 5 (1 : Int32)) 4 v1) 0 w3) 1 w5) H locs ls hf hP hD hS (lv_sub hl [0, 2] rfl)
      · intro v1 v2 w3 w5 v7 u H locs ls hf hP hD hS hl
        have hf := (eX0_weigh_156 n v1 v2 w3 w5 v7 u).symm.trans hf
        refine lv_aload_n hx hb dX0_weigh_156 rfl (lv_at hl 0 rfl) ?_
        refine va_get (D := (dC, dI)) (ci := 0) (v := .ref (ad 18)) (C := RX0) (T := TX0) (N := 12) hx hb hts iX0 hown hK hP 2 rfl rfl 4 (by decide) k_15 (fun _ h9 => h9) rfl dX0_weigh_157 ?_
        refine lv_iconst (v := 0) hx hb dX0_weigh_160 (by decide) ?_
        refine lv_aload_n hx hb dX0_weigh_161 rfl (lv_at hl 0 rfl) ?_
        refine va_get (D := (dC, dI)) (ci := 0) (v := .ref (ad 19)) (C := RX0) (T := TX0) (N := 12) hx hb hts iX0 hown hK hP 2 rfl rfl 7 (by decide) k_16 (fun _ h9 => h9) rfl dX0_weigh_162 ?_
        refine lv_iconst (v := 0) hx hb dX0_weigh_165 (by decide) ?_
        refine lv_aload_n hx hb dX0_weigh_166 rfl (lv_at hl 0 rfl) ?_
        refine va_get (D := (dC, dI)) (ci := 0) (v := .ref (ad 1)) (C := RX0) (T := TX0) (N := 12) hx hb hts iX0 hown hK hP 2 rfl rfl 0 (by decide) k_0 (fun _ h9 => h9) rfl dX0_weigh_167 ?_
        refine va_get (D := (dC, dI)) (ci := 2) (v := .int (gI u 1)) (C := RX2) (T := TX2) (N := 14) hx hb hts iX2 hown hK hP 1 rfl rfl 11 (by decide) k_1 (fun _ h9 => h9) rfl dX0_weigh_170 ?_
        obtain ⟨⟨h_9a, h_9b, h_9c, h_9d, h_9e⟩, hf⟩ := ckc_of hf
        refine va_copyi (f := (gA u 13)) (g := (gA u 14)) hx hb (by rw [hml]; exact hl.1.symm) hown k_17 k_18 k_19 k_20 hK hP hD hS 18 19 0 0 rfl rfl rfl rfl rfl h_9a h_9b h_9c h_9d h_9e (fun _ _ => rfl) (Nat.le_of_ble_eq_true rfl) (by decide) dX0_weigh_173 (fun H locs hP hD hS => ?_)
        have hP : va_P (dC, dI) vwCl (cw ad cI cL (sA u 14 (va_cpy (gA u 13) (gA u 14) (0 : Int32).toNatClampNeg (0 : Int32).toNatClampNeg (gI u 1).toNatClampNeg))) H := hP
        have hD : va_D A (cw ad cI cL (sA u 14 (va_cpy (gA u 13) (gA u 14) (0 : Int32).toNatClampNeg (0 : Int32).toNatClampNeg (gI u 1).toNatClampNeg))) := hD
        exact ih4 0 v2 0 0 0 (sA u 14 (va_cpy (gA u 13) (gA u 14) (0 : Int32).toNatClampNeg (0 : Int32).toNatClampNeg (gI u 1).toNatClampNeg)) H locs ls hf hP hD hS (lv_sub hl [0, 1] rfl)
      · intro v1 v2 w3 w5 v7 u H locs ls hf hP hD hS hl
        have hf := (eX0_weigh_176 n v1 v2 w3 w5 v7 u).symm.trans hf
        refine lv_aload_n hx hb dX0_weigh_176 rfl (lv_at hl 0 rfl) ?_
        refine va_get (D := (dC, dI)) (ci := 0) (v := .ref (ad 17)) (C := RX0) (T := TX0) (N := 12) hx hb hts iX0 hown hK hP 2 rfl rfl 3 (by decide) k_3 (fun _ h9 => h9) rfl dX0_weigh_177 ?_
        refine lv_iload_n hx hb dX0_weigh_180 rfl (lv_at hl 1 rfl) ?_
        refine lv_aload_n hx hb dX0_weigh_181 rfl (lv_at hl 0 rfl) ?_
        refine va_get (D := (dC, dI)) (ci := 0) (v := .ref (ad 20)) (C := RX0) (T := TX0) (N := 12) hx hb hts iX0 hown hK hP 2 rfl rfl 8 (by decide) k_21 (fun _ h9 => h9) rfl dX0_weigh_182 ?_
        refine lv_iconst (v := 0) hx hb dX0_weigh_185 (by decide) ?_
        refine lv_aload_n hx hb dX0_weigh_186 rfl (lv_at hl 0 rfl) ?_
        refine va_get (D := (dC, dI)) (ci := 0) (v := .ref (ad 1)) (C := RX0) (T := TX0) (N := 12) hx hb hts iX0 hown hK hP 2 rfl rfl 0 (by decide) k_0 (fun _ h9 => h9) rfl dX0_weigh_187 ?_
        refine va_get (D := (dC, dI)) (ci := 2) (v := .int (gI u 2)) (C := RX2) (T := TX2) (N := 14) hx hb hts iX2 hown hK hP 1 rfl rfl 12 (by decide) k_2 (fun _ h9 => h9) rfl dX0_weigh_190 ?_
        obtain ⟨⟨h_10a, h_10b, h_10c, h_10d, h_10e⟩, hf⟩ := ckc_of hf
        refine va_copyi (f := (gA u 12)) (g := (gA u 15)) hx hb (by rw [hml]; exact hl.1.symm) hown k_17 k_18 k_19 k_20 hK hP hD hS 17 20 0 0 rfl rfl rfl rfl rfl h_10a h_10b h_10c h_10d h_10e (fun _ _ => rfl) (Nat.le_of_ble_eq_true rfl) (by decide) dX0_weigh_193 (fun H locs hP hD hS => ?_)
        have hP : va_P (dC, dI) vwCl (cw ad cI cL (sA u 15 (va_cpy (gA u 12) (gA u 15) v2.toNatClampNeg (0 : Int32).toNatClampNeg (gI u 2).toNatClampNeg))) H := hP
        have hD : va_D A (cw ad cI cL (sA u 15 (va_cpy (gA u 12) (gA u 15) v2.toNatClampNeg (0 : Int32).toNatClampNeg (gI u 2).toNatClampNeg))) := hD
        have hf := Option.some.inj hf
        exact W.vret hx hb hr (fun t ht hW => ⟨⟨(sA u 15 (va_cpy (gA u 12) (gA u 15) v2.toNatClampNeg (0 : Int32).toNatClampNeg (gI u 2).toNatClampNeg)), rfl, hf, ⟨by rw [ht]; exact hP, va_K.moved hW.alike hK, hD⟩⟩, hS.F ht⟩) hS.2.2 dX0_weigh_196
  exact (key n).1 z1 0 0 0 0 u _ _ ls hf0 hP hD hS (lv_sub hl [0, 1] rfl)

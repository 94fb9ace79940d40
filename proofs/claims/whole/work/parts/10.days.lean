def fX1_startAnew (n pc : Nat) (u : St) : Option (St) := match n with
  | 0 => none
  | n + 1 => match pc with
    | 0 => ((FJ7_fill n 7 (0 : Int32) (gA u 20)).bind fun w_1 => ((FJ7_fill n 7 (0 : Int32) (gA u 21)).bind fun w_2 => some (sA (sA u 20 w_1) 21 w_2)))
    | _ => none
theorem eX1_startAnew_0 (n : Nat) (u : St) : fX1_startAnew (n + 1) 0  u = ((FJ7_fill n 7 (0 : Int32) (gA u 20)).bind fun w_1 => ((FJ7_fill n 7 (0 : Int32) (gA u 21)).bind fun w_2 => some (sA (sA u 20 w_1) 21 w_2))) := rfl
theorem vX1_startAnew_0 (u : St) (r : St) : Ev (fun n => fX1_startAnew n 0  u) r ↔ Ev (fun n => ((FJ7_fill n 7 (0 : Int32) (gA u 20)).bind fun w_1 => ((FJ7_fill n 7 (0 : Int32) (gA u 21)).bind fun w_2 => some (sA (sA u 20 w_1) 21 w_2)))) r := Ev_succ (fun n => fX1_startAnew n 0  u) r
def FX1_startAnew (n : Nat) (u : St) : Option (St) := fX1_startAnew n 0  u
set_option maxHeartbeats 4000000 in
set_option maxRecDepth 100000 in
theorem mX1_startAnew (l : Launch) (dC : Nat → ClassId) (dI : Nat → Nat → Nat) (cI cL : ClassId) (ad : Nat → Nat) (sz : Nat) (u : St) (n : Nat) (r : St) (hf0 : FX1_startAnew n  u = some r) : Met l yX1_startAnew wsX1_startAnew ({ frames := 1, cells := 0, slots := 0, locals := 23 }) (va_Pc [.ref (ad 4)] (wPre dC dI cI cL (cw ad cI cL u) sz)) (va_Qv (fun t => t = r) (fun t => wPost dC dI cI cL (va_A (cw ad cI cL u) sz) (cw ad cI cL t)) (va_A (cw ad cI cL u) sz)) 0 0 (va_A (cw ad cI cL u) sz) := by
  refine Met.ofW (cc := cX1_startAnew) (maxL := 1) (ret := none) (by decide) rfl ?_
  intro p e s m args below meth c s₁ B hml hv
  obtain ⟨rfl, hsz, hP, hK, hD0, hZ⟩ := hv
  have hx := B.exec
  have hb := B.bytes
  have hr := B.returns
  have hts := atoms_spec (ws := wsX1_startAnew) B.pre
  have hown : s.vm.findClass RX1 = some m.cls := findClass_of_methodNamed B.named
  have hlocks := B.notSynchronized
  subst hsz
  have hD := hD0.self (sz := s.heap.size)
  generalize hAe : va_A (cw ad cI cL u) s.heap.size = A at hD ⊢
  have hA : ∀ q : Nat, s.heap.size ≤ q → A q := fun q h => by rw [← hAe]; exact Or.inr h
  have hS : va_S A s.heap s.heap [] := va_S.rf
  have iX1 : ∀ w ∈ u_ws RX1 TX1 11, w ∈ wsX1_startAnew := fun _ h => List.mem_cons_of_mem _ (List.mem_append_right _ h)
  have k_0 := hts (.fieldLink RX1 18 "LampChoice$Days" "ownLevels" "[I") (by decide +kernel)
  have k_1 := hts (.fieldLink RX1 21 "LampChoice$Days" "lasted" "[I") (by decide +kernel)
  have hl := lv_entry ([.ref (ad 4)]) (n := 1) (Nat.le_of_ble_eq_true rfl)
  rw [lg_entry_eq]
  generalize (lg_sl ([.ref (ad 4)]) ++ List.replicate (1 - (lg_sl ([.ref (ad 4)])).length) Slot.unset).toArray = ls at hl ⊢
  have hl : lv_has ls 1 [(0, .ref (ad 4))] := hl
  have key : ∀ n : Nat, (∀ (u : St) (H : Heap) (locs : List Loc) (ls : Array Slot), fX1_startAnew n 0  u = some r → va_P (dC, dI) vwCl (cw ad cI cL u) H → va_D A (cw ad cI cL u) → va_S A s.heap H locs → lv_has ls 1 [(0, .ref (ad 4))] → W p l e (headSpec wsX1_startAnew ({ frames := 1, cells := 0, slots := 0, locals := 23 })).room s m ([.ref (ad 4)] : List Value).toArray below meth c H locs 0 0 (MQ below (va_Qv (fun t => t = r) (fun t => wPost dC dI cI cL A (cw ad cI cL t)) A) ([.ref (ad 4)] : List Value).toArray s 0 0 A) (F0 m 0 ls [])) := by
    intro n
    induction n with
    | zero => exact (fun _ _ _ _ hf => nomatch (show (none : Option (St)) = some r from hf))
    | succ n ih =>
      have ih0 := ih
      · intro  u H locs ls hf hP hD hS hl
        have hf := (eX1_startAnew_0 n  u).symm.trans hf
        refine lv_aload_n hx hb dX1_startAnew_0 rfl (lv_at hl 0 rfl) ?_
        refine va_get (D := (dC, dI)) (ci := 1) (v := .ref (ad 26)) (C := RX1) (T := TX1) (N := 11) hx hb hts iX1 hown hK hP 4 rfl rfl 4 (by decide) k_0 (fun _ h9 => h9) rfl dX1_startAnew_1 ?_
        refine lv_iconst (v := 0) hx hb dX1_startAnew_4 (by decide) ?_
        obtain ⟨w_1, hw_1, hf⟩ := ob hf
        have hPc := hP.sub (ws' := [(ad 26, .inl (cI, 7, .inl (gA u 20)))]) [26] rfl
        have hDc := hD.sub (ws' := [(ad 26, .inl (cI, 7, .inl (gA u 20)))]) [26] (by decide) rfl
        have hFc := va_free (wc := [(ad 26, .inl (cI, 7, .inl (gA u 20)))]) hD hS hA [26] rfl
        refine va_callv (va_runS (As := [.ref (ad 26), .int (0 : Int32)]) (rest := []) ⟨hx, hb, hml, hown, hts⟩ (mJ7_fill l dC dI cI cL (ad 26) 7 H.size (gA u 20) (0 : Int32) n w_1 hw_1) (va_cwS 2 hts gX1_startAnew_J7_fill_53178 rfl rfl rfl (by decide +kernel) ⟨Nat.le_of_ble_eq_true rfl, Nat.le_of_ble_eq_true rfl⟩) ⟨wPre_blind, wPre_of hPc hK hDc hZ⟩ rfl rfl hl.1 rfl (lv_room (Nat.le_of_ble_eq_true rfl)) dX1_startAnew_5 ⟨Nat.zero_le _, Nat.zero_le _⟩) hS (fun q _ h => hFc q h) hFc (fun u2 t H1 locs ht hvm hw hB hz1 hk1 hS => ?_)
        obtain ⟨hP1, hK1, hD1⟩ := hB
        rw [ht] at hP1
        subst u2
        obtain ⟨hP, hD⟩ := va_join (wr := [0, 1, 2, 3, 4, 5, 6, 7, 8, 9, 10, 11, 12, 13, 14, 15, 16, 17, 18, 19, 20, 21, 22, 23, 24, 25, 27].filterMap (fun i => (cw ad cI cL u)[i]?)) (w1 := [(ad 26, .inl (cI, 7, .inl w_1))]) hP hD [26] [0, 1, 2, 3, 4, 5, 6, 7, 8, 9, 10, 11, 12, 13, 14, 15, 16, 17, 18, 19, 20, 21, 22, 23, 24, 25, 27] rfl rfl (by decide) (by decide) hk1 hFc hP1 hD1
        have hP := hP.sub (ws' := cw ad cI cL (sA u 20 w_1)) [0, 1, 2, 3, 4, 5, 6, 7, 8, 9, 10, 11, 12, 13, 14, 15, 16, 17, 18, 19, 20, 21, 22, 23, 24, 25, 27, 26] rfl
        have hD := hD.sub (ws' := cw ad cI cL (sA u 20 w_1)) [0, 1, 2, 3, 4, 5, 6, 7, 8, 9, 10, 11, 12, 13, 14, 15, 16, 17, 18, 19, 20, 21, 22, 23, 24, 25, 27, 26] (by decide) rfl
        clear hP1 hD1 hK1 hPc hDc hFc hk1
        generalize H1 = H at hP hS ⊢
        refine lv_aload_n hx hb dX1_startAnew_8 rfl (lv_at hl 0 rfl) ?_
        refine va_get (D := (dC, dI)) (ci := 1) (v := .ref (ad 27)) (C := RX1) (T := TX1) (N := 11) hx hb hts iX1 hown hK hP 4 rfl rfl 5 (by decide) k_1 (fun _ h9 => h9) rfl dX1_startAnew_9 ?_
        refine lv_iconst (v := 0) hx hb dX1_startAnew_12 (by decide) ?_
        obtain ⟨w_2, hw_2, hf⟩ := ob hf
        have hPc := hP.sub (ws' := [(ad 27, .inl (cI, 7, .inl (gA u 21)))]) [27] rfl
        have hDc := hD.sub (ws' := [(ad 27, .inl (cI, 7, .inl (gA u 21)))]) [27] (by decide) rfl
        have hFc := va_free (wc := [(ad 27, .inl (cI, 7, .inl (gA u 21)))]) hD hS hA [27] rfl
        refine va_callv (va_runS (As := [.ref (ad 27), .int (0 : Int32)]) (rest := []) ⟨hx, hb, hml, hown, hts⟩ (mJ7_fill l dC dI cI cL (ad 27) 7 H.size (gA u 21) (0 : Int32) n w_2 hw_2) (va_cwS 2 hts gX1_startAnew_J7_fill_53178 rfl rfl rfl (by decide +kernel) ⟨Nat.le_of_ble_eq_true rfl, Nat.le_of_ble_eq_true rfl⟩) ⟨wPre_blind, wPre_of hPc hK hDc hZ⟩ rfl rfl hl.1 rfl (lv_room (Nat.le_of_ble_eq_true rfl)) dX1_startAnew_13 ⟨Nat.zero_le _, Nat.zero_le _⟩) hS (fun q _ h => hFc q h) hFc (fun u2 t H1 locs ht hvm hw hB hz1 hk1 hS => ?_)
        obtain ⟨hP1, hK1, hD1⟩ := hB
        rw [ht] at hP1
        subst u2
        obtain ⟨hP, hD⟩ := va_join (wr := [0, 1, 2, 3, 4, 5, 6, 7, 8, 9, 10, 11, 12, 13, 14, 15, 16, 17, 18, 19, 20, 21, 22, 23, 24, 25, 26].filterMap (fun i => (cw ad cI cL (sA u 20 w_1))[i]?)) (w1 := [(ad 27, .inl (cI, 7, .inl w_2))]) hP hD [27] [0, 1, 2, 3, 4, 5, 6, 7, 8, 9, 10, 11, 12, 13, 14, 15, 16, 17, 18, 19, 20, 21, 22, 23, 24, 25, 26] rfl rfl (by decide) (by decide) hk1 hFc hP1 hD1
        have hP := hP.sub (ws' := cw ad cI cL (sA (sA u 20 w_1) 21 w_2)) [0, 1, 2, 3, 4, 5, 6, 7, 8, 9, 10, 11, 12, 13, 14, 15, 16, 17, 18, 19, 20, 21, 22, 23, 24, 25, 26, 27] rfl
        have hD := hD.sub (ws' := cw ad cI cL (sA (sA u 20 w_1) 21 w_2)) [0, 1, 2, 3, 4, 5, 6, 7, 8, 9, 10, 11, 12, 13, 14, 15, 16, 17, 18, 19, 20, 21, 22, 23, 24, 25, 26, 27] (by decide) rfl
        clear hP1 hD1 hK1 hPc hDc hFc hk1
        generalize H1 = H at hP hS ⊢
        have hf := Option.some.inj hf
        exact W.vret hx hb hr (fun t ht hW => ⟨⟨(sA (sA u 20 w_1) 21 w_2), rfl, hf, ⟨by rw [ht]; exact hP, va_K.moved hW.alike hK, hD⟩⟩, hS.F ht⟩) hS.2.2 dX1_startAnew_16
  exact (key n)  u _ _ ls hf0 hP hD hS (lv_sub hl [0] rfl)

def fX1_stepTowards (n pc : Nat) (v1 : Int32) (v2 : Int32) (u : St) : Option (Int32 × St) := match n with
  | 0 => none
  | n + 1 => match pc with
    | 0 => some ((if (v1 - (gI u 9)) < (if v2 < (v1 + (gI u 9)) then v2 else (v1 + (gI u 9))) then (if v2 < (v1 + (gI u 9)) then v2 else (v1 + (gI u 9))) else (v1 - (gI u 9))), u)
    | _ => none
theorem eX1_stepTowards_0 (n : Nat) (v1 : Int32) (v2 : Int32) (u : St) : fX1_stepTowards (n + 1) 0 v1 v2 u = some ((if (v1 - (gI u 9)) < (if v2 < (v1 + (gI u 9)) then v2 else (v1 + (gI u 9))) then (if v2 < (v1 + (gI u 9)) then v2 else (v1 + (gI u 9))) else (v1 - (gI u 9))), u) := rfl
theorem vX1_stepTowards_0 (v1 : Int32) (v2 : Int32) (u : St) (r : Int32 × St) : Ev (fun n => fX1_stepTowards n 0 v1 v2 u) r ↔ Ev (fun n => some ((if (v1 - (gI u 9)) < (if v2 < (v1 + (gI u 9)) then v2 else (v1 + (gI u 9))) then (if v2 < (v1 + (gI u 9)) then v2 else (v1 + (gI u 9))) else (v1 - (gI u 9))), u)) r := Ev_succ (fun n => fX1_stepTowards n 0 v1 v2 u) r
def FX1_stepTowards (n : Nat) (v1 : Int32) (v2 : Int32) (u : St) : Option (Int32 × St) := fX1_stepTowards n 0 v1 v2 u
set_option maxHeartbeats 4000000 in
set_option maxRecDepth 100000 in
theorem mX1_stepTowards (l : Launch) (dC : Nat → ClassId) (dI : Nat → Nat → Nat) (cI cL : ClassId) (ad : Nat → Nat) (sz : Nat) (u : St) (z1 : Int32) (z2 : Int32) (n : Nat) (r : Int32 × St) (hf0 : FX1_stepTowards n z1 z2 u = some r) : Met l yX1_stepTowards wsX1_stepTowards ({ frames := 1, cells := 0, slots := 0, locals := 14 }) (va_Pc [.ref (ad 4), .int z1, .int z2] (wPre dC dI cI cL (cw ad cI cL u) sz)) (va_Qi (fun a t => (a, t) = r) (fun t => wPost dC dI cI cL (va_A (cw ad cI cL u) sz) (cw ad cI cL t)) (va_A (cw ad cI cL u) sz)) 0 0 (va_A (cw ad cI cL u) sz) := by
  refine Met.ofW (cc := cX1_stepTowards) (maxL := 3) (ret := (some .int)) (by decide) rfl ?_
  intro p e s m args below meth c s₁ B hml hv
  obtain ⟨rfl, hsz, hP, hK, hD0, hZ⟩ := hv
  have hx := B.exec
  have hb := B.bytes
  have hr := B.returns
  have hts := atoms_spec (ws := wsX1_stepTowards) B.pre
  have hown : s.vm.findClass RX1 = some m.cls := findClass_of_methodNamed B.named
  have hlocks := B.notSynchronized
  subst hsz
  have hD := hD0.self (sz := s.heap.size)
  generalize hAe : va_A (cw ad cI cL u) s.heap.size = A at hD ⊢
  have hA : ∀ q : Nat, s.heap.size ≤ q → A q := fun q h => by rw [← hAe]; exact Or.inr h
  have hS : va_S A s.heap s.heap [] := va_S.rf
  have iX1 : ∀ w ∈ u_ws RX1 TX1 11, w ∈ wsX1_stepTowards := fun _ h => List.mem_cons_of_mem _ (List.mem_append_right _ h)
  have k_0 := hts (.fieldLink RX1 24 "LampChoice$Days" "farthestStep" "I") (by decide +kernel)
  have k_1 := hts (.methodLink RX1 70 Lib.Math.min.name) (by decide +kernel)
  have k_2 := hts (.static Lib.Math.min.name) (by decide +kernel)
  have k_3 := hts (.initialized "java/lang/Math") (by decide +kernel)
  have k_4 := hts (.code Lib.Math.min.name Lib.Math.min.code 2 (some .int)) (by decide +kernel)
  have k_5 := hts (.methodLink RX1 75 Lib.Math.max.name) (by decide +kernel)
  have k_6 := hts (.static Lib.Math.max.name) (by decide +kernel)
  have k_7 := hts (.code Lib.Math.max.name Lib.Math.max.code 2 (some .int)) (by decide +kernel)
  have hl := lv_entry ([.ref (ad 4), .int z1, .int z2]) (n := 3) (Nat.le_of_ble_eq_true rfl)
  rw [lg_entry_eq]
  generalize (lg_sl ([.ref (ad 4), .int z1, .int z2]) ++ List.replicate (3 - (lg_sl ([.ref (ad 4), .int z1, .int z2])).length) Slot.unset).toArray = ls at hl ⊢
  have hl : lv_has ls 3 [(0, .ref (ad 4)), (1, .int z1), (2, .int z2)] := hl
  have key : ∀ n : Nat, (∀ (v1 : Int32) (v2 : Int32) (u : St) (H : Heap) (locs : List Loc) (ls : Array Slot), fX1_stepTowards n 0 v1 v2 u = some r → va_P (dC, dI) vwCl (cw ad cI cL u) H → va_D A (cw ad cI cL u) → va_S A s.heap H locs → lv_has ls 3 [(0, .ref (ad 4)), (1, .int v1), (2, .int v2)] → W p l e (headSpec wsX1_stepTowards ({ frames := 1, cells := 0, slots := 0, locals := 14 })).room s m ([.ref (ad 4), .int z1, .int z2] : List Value).toArray below meth c H locs 0 0 (MQ below (va_Qi (fun a t => (a, t) = r) (fun t => wPost dC dI cI cL A (cw ad cI cL t)) A) ([.ref (ad 4), .int z1, .int z2] : List Value).toArray s 0 0 A) (F0 m 0 ls [])) := by
    intro n
    induction n with
    | zero => exact (fun _ _ _ _ _ _ hf => nomatch (show (none : Option (Int32 × St)) = some r from hf))
    | succ n ih =>
      have ih0 := ih
      · intro v1 v2 u H locs ls hf hP hD hS hl
        have hf := (eX1_stepTowards_0 n v1 v2 u).symm.trans hf
        refine lv_iload_n hx hb dX1_stepTowards_0 rfl (lv_at hl 1 rfl) ?_
        refine lv_aload_n hx hb dX1_stepTowards_1 rfl (lv_at hl 0 rfl) ?_
        refine va_get (D := (dC, dI)) (ci := 1) (v := .int (gI u 9)) (C := RX1) (T := TX1) (N := 11) hx hb hts iX1 hown hK hP 4 rfl rfl 6 (by decide) k_0 (fun _ h9 => h9) rfl dX1_stepTowards_2 ?_
        refine lv_isub hx hb dX1_stepTowards_5 ?_
        refine lv_iload_n hx hb dX1_stepTowards_6 rfl (lv_at hl 1 rfl) ?_
        refine lv_aload_n hx hb dX1_stepTowards_7 rfl (lv_at hl 0 rfl) ?_
        refine va_get (D := (dC, dI)) (ci := 1) (v := .int (gI u 9)) (C := RX1) (T := TX1) (N := 11) hx hb hts iX1 hown hK hP 4 rfl rfl 6 (by decide) k_0 (fun _ h9 => h9) rfl dX1_stepTowards_8 ?_
        refine lv_iadd hx hb dX1_stepTowards_11 ?_
        refine lv_iload_n hx hb dX1_stepTowards_12 rfl (lv_at hl 2 rfl) ?_
        refine va_mmin hx hb (by rw [hml]; exact hl.1.symm) hown k_1 k_2 k_3 k_4 (Nat.le_of_ble_eq_true rfl) (Nat.le_of_ble_eq_true rfl) (Nat.zero_le _) (Nat.zero_le _) dX1_stepTowards_13 ?_
        refine va_mmax hx hb (by rw [hml]; exact hl.1.symm) hown k_5 k_6 k_3 k_7 (Nat.le_of_ble_eq_true rfl) (Nat.le_of_ble_eq_true rfl) (Nat.zero_le _) (Nat.zero_le _) dX1_stepTowards_16 ?_
        have hf := Option.some.inj hf
        exact W.iret (v := (if (v1 - (gI u 9)) < (if v2 < (v1 + (gI u 9)) then v2 else (v1 + (gI u 9))) then (if v2 < (v1 + (gI u 9)) then v2 else (v1 + (gI u 9))) else (v1 - (gI u 9)))) hx hb hr (fun t ht hW => ⟨⟨(if (v1 - (gI u 9)) < (if v2 < (v1 + (gI u 9)) then v2 else (v1 + (gI u 9))) then (if v2 < (v1 + (gI u 9)) then v2 else (v1 + (gI u 9))) else (v1 - (gI u 9))), u, rfl, hf, ⟨by rw [ht]; exact hP, va_K.moved hW.alike hK, hD⟩⟩, hS.F ht⟩) hS.2.2 dX1_stepTowards_19
  exact (key n) z1 z2 u _ _ ls hf0 hP hD hS (lv_sub hl [0, 1, 2] rfl)

def fX1_needOf (n pc : Nat) (v1 : Int32) (u : St) : Option (Int32 × St) := match n with
  | 0 => none
  | n + 1 => match pc with
    | 0 => (if ck v1 7 = true then (if 0 ≤ ((gA u 18) v1.toNatClampNeg) then (if ck ((gA u 18) v1.toNatClampNeg) 16 = true then (if 0 < (((gA u 9) ((gA u 18) v1.toNatClampNeg).toNatClampNeg) - ((gA u 19) ((gA u 18) v1.toNatClampNeg).toNatClampNeg)) then ((FX0_lampLight n v1 ((gA u 18) v1.toNatClampNeg) u).bind fun w_5 => (if w_5.1.toInt64 = (0 : Int64) then some ((100 : Int32), w_5.2) else ((FX4_quotient n ((((100 : Int64) * (((gA u 9) ((gA u 18) v1.toNatClampNeg).toNatClampNeg) - ((gA u 19) ((gA u 18) v1.toNatClampNeg).toNatClampNeg)).toInt64) + w_5.1.toInt64) - (1 : Int64)) w_5.1.toInt64).bind fun w_7 => some ((if w_7 < (100 : Int64) then w_7 else (100 : Int64)).toInt32, w_5.2)))) else some ((0 : Int32), u)) else none) else some ((100 : Int32), u)) else none)
    | _ => none
theorem eX1_needOf_0 (n : Nat) (v1 : Int32) (u : St) : fX1_needOf (n + 1) 0 v1 u = (if ck v1 7 = true then (if 0 ≤ ((gA u 18) v1.toNatClampNeg) then (if ck ((gA u 18) v1.toNatClampNeg) 16 = true then (if 0 < (((gA u 9) ((gA u 18) v1.toNatClampNeg).toNatClampNeg) - ((gA u 19) ((gA u 18) v1.toNatClampNeg).toNatClampNeg)) then ((FX0_lampLight n v1 ((gA u 18) v1.toNatClampNeg) u).bind fun w_5 => (if w_5.1.toInt64 = (0 : Int64) then some ((100 : Int32), w_5.2) else ((FX4_quotient n ((((100 : Int64) * (((gA u 9) ((gA u 18) v1.toNatClampNeg).toNatClampNeg) - ((gA u 19) ((gA u 18) v1.toNatClampNeg).toNatClampNeg)).toInt64) + w_5.1.toInt64) - (1 : Int64)) w_5.1.toInt64).bind fun w_7 => some ((if w_7 < (100 : Int64) then w_7 else (100 : Int64)).toInt32, w_5.2)))) else some ((0 : Int32), u)) else none) else some ((100 : Int32), u)) else none) := rfl
theorem vX1_needOf_0 (v1 : Int32) (u : St) (r : Int32 × St) : Ev (fun n => fX1_needOf n 0 v1 u) r ↔ Ev (fun n => (if ck v1 7 = true then (if 0 ≤ ((gA u 18) v1.toNatClampNeg) then (if ck ((gA u 18) v1.toNatClampNeg) 16 = true then (if 0 < (((gA u 9) ((gA u 18) v1.toNatClampNeg).toNatClampNeg) - ((gA u 19) ((gA u 18) v1.toNatClampNeg).toNatClampNeg)) then ((FX0_lampLight n v1 ((gA u 18) v1.toNatClampNeg) u).bind fun w_5 => (if w_5.1.toInt64 = (0 : Int64) then some ((100 : Int32), w_5.2) else ((FX4_quotient n ((((100 : Int64) * (((gA u 9) ((gA u 18) v1.toNatClampNeg).toNatClampNeg) - ((gA u 19) ((gA u 18) v1.toNatClampNeg).toNatClampNeg)).toInt64) + w_5.1.toInt64) - (1 : Int64)) w_5.1.toInt64).bind fun w_7 => some ((if w_7 < (100 : Int64) then w_7 else (100 : Int64)).toInt32, w_5.2)))) else some ((0 : Int32), u)) else none) else some ((100 : Int32), u)) else none)) r := Ev_succ (fun n => fX1_needOf n 0 v1 u) r
def FX1_needOf (n : Nat) (v1 : Int32) (u : St) : Option (Int32 × St) := fX1_needOf n 0 v1 u
set_option maxHeartbeats 4000000 in
set_option maxRecDepth 100000 in
theorem mX1_needOf (l : Launch) (dC : Nat → ClassId) (dI : Nat → Nat → Nat) (cI cL : ClassId) (ad : Nat → Nat) (sz : Nat) (u : St) (z1 : Int32) (n : Nat) (r : Int32 × St) (hf0 : FX1_needOf n z1 u = some r) : Met l yX1_needOf wsX1_needOf ({ frames := 2, cells := 0, slots := 0, locals := 44 }) (va_Pc [.ref (ad 4), .int z1] (wPre dC dI cI cL (cw ad cI cL u) sz)) (va_Qi (fun a t => (a, t) = r) (fun t => wPost dC dI cI cL (va_A (cw ad cI cL u) sz) (cw ad cI cL t)) (va_A (cw ad cI cL u) sz)) 0 0 (va_A (cw ad cI cL u) sz) := by
  refine Met.ofW (cc := cX1_needOf) (maxL := 6) (ret := (some .int)) (by decide) rfl ?_
  intro p e s m args below meth c s₁ B hml hv
  obtain ⟨rfl, hsz, hP, hK, hD0, hZ⟩ := hv
  have hx := B.exec
  have hb := B.bytes
  have hr := B.returns
  have hts := atoms_spec (ws := wsX1_needOf) B.pre
  have hown : s.vm.findClass RX1 = some m.cls := findClass_of_methodNamed B.named
  have hlocks := B.notSynchronized
  subst hsz
  have hD := hD0.self (sz := s.heap.size)
  generalize hAe : va_A (cw ad cI cL u) s.heap.size = A at hD ⊢
  have hA : ∀ q : Nat, s.heap.size ≤ q → A q := fun q h => by rw [← hAe]; exact Or.inr h
  have hS : va_S A s.heap s.heap [] := va_S.rf
  have iX1 : ∀ w ∈ u_ws RX1 TX1 11, w ∈ wsX1_needOf := fun _ h => List.mem_cons_of_mem _ (List.mem_append_left _ (List.mem_append_left _ (List.mem_append_right _ h)))
  have iX2 : ∀ w ∈ u_ws RX2 TX2 14, w ∈ wsX1_needOf := fun _ h => List.mem_cons_of_mem _ (List.mem_append_left _ (List.mem_append_right _ h))
  have k_0 := hts (.fieldLink RX1 9 "LampChoice$Days" "sensors" "[I") (by decide +kernel)
  have k_1 := hts (.fieldLink RX1 28 "LampChoice$Days" "room" "LLampChoice$Room;") (by decide +kernel)
  have k_2 := hts (.fieldLink RX1 78 "LampChoice$Room" "wanted" "[I") (by decide +kernel)
  have k_3 := hts (.fieldLink RX1 15 "LampChoice$Days" "daylights" "[I") (by decide +kernel)
  have k_4 := hts (.fieldLink RX1 32 "LampChoice$Days" "choice" "LLampChoice$Choice;") (by decide +kernel)
  have k_5 := hts (.constantLong RX1 84 (100)) (by decide +kernel)
  have k_6 := hts (.initialized RX4) (by decide +kernel)
  have k_7 := hts (.static yX4_quotient) (by decide +kernel)
  have k_8 := hts (.methodLink RX1 90 Lib.MathLoose.min_long.x) (by decide +kernel)
  have k_9 := hts (.static Lib.MathLoose.min_long.x) (by decide +kernel)
  have k_10 := hts (.initialized "java/lang/Math") (by decide +kernel)
  have k_11 := hts (.code Lib.MathLoose.min_long.x Lib.MathLoose.min_long.code 4 (some .long)) (by decide +kernel)
  have hl := lv_entry ([.ref (ad 4), .int z1]) (n := 6) (Nat.le_of_ble_eq_true rfl)
  rw [lg_entry_eq]
  generalize (lg_sl ([.ref (ad 4), .int z1]) ++ List.replicate (6 - (lg_sl ([.ref (ad 4), .int z1])).length) Slot.unset).toArray = ls at hl ⊢
  have hl : lv_has ls 6 [(0, .ref (ad 4)), (1, .int z1)] := hl
  have key : ∀ n : Nat, (∀ (v1 : Int32) (u : St) (H : Heap) (locs : List Loc) (ls : Array Slot), fX1_needOf n 0 v1 u = some r → va_P (dC, dI) vwCl (cw ad cI cL u) H → va_D A (cw ad cI cL u) → va_S A s.heap H locs → lv_has ls 6 [(0, .ref (ad 4)), (1, .int v1)] → W p l e (headSpec wsX1_needOf ({ frames := 2, cells := 0, slots := 0, locals := 44 })).room s m ([.ref (ad 4), .int z1] : List Value).toArray below meth c H locs 0 0 (MQ below (va_Qi (fun a t => (a, t) = r) (fun t => wPost dC dI cI cL A (cw ad cI cL t)) A) ([.ref (ad 4), .int z1] : List Value).toArray s 0 0 A) (F0 m 0 ls [])) := by
    intro n
    induction n with
    | zero => exact (fun _ _ _ _ _ hf => nomatch (show (none : Option (Int32 × St)) = some r from hf))
    | succ n ih =>
      have ih0 := ih
      · intro v1 u H locs ls hf hP hD hS hl
        have hf := (eX1_needOf_0 n v1 u).symm.trans hf
        refine lv_aload_n hx hb dX1_needOf_0 rfl (lv_at hl 0 rfl) ?_
        refine va_get (D := (dC, dI)) (ci := 1) (v := .ref (ad 24)) (C := RX1) (T := TX1) (N := 11) hx hb hts iX1 hown hK hP 4 rfl rfl 2 (by decide) k_0 (fun _ h9 => h9) rfl dX1_needOf_1 ?_
        refine lv_iload_n hx hb dX1_needOf_4 rfl (lv_at hl 1 rfl) ?_
        obtain ⟨h_1, hf⟩ := ck_of hf
        refine va_iald (f := (gA u 18)) hx hb hK hP 24 0 rfl rfl h_1 dX1_needOf_5 ?_
        refine lv_istore_n (lv' := [(2, .int ((gA u 18) v1.toNatClampNeg)), (0, .ref (ad 4)), (1, .int v1)]) hx hb dX1_needOf_6 rfl hl (by decide) rfl (fun ls hl => ?_)
        refine lv_iload_n hx hb dX1_needOf_7 rfl (lv_at hl 0 rfl) ?_
        refine lv_if_ge (tgt := 14) hx hb dX1_needOf_8 (by decide) (fun c_2 => ?_) (fun c_2 => ?_)
        · have hf := (if_pos c_2).symm.trans hf
          refine lv_aload_n hx hb dX1_needOf_14 rfl (lv_at hl 1 rfl) ?_
          refine va_get (D := (dC, dI)) (ci := 1) (v := .ref (ad 1)) (C := RX1) (T := TX1) (N := 11) hx hb hts iX1 hown hK hP 4 rfl rfl 0 (by decide) k_1 (fun _ h9 => h9) rfl dX1_needOf_15 ?_
          refine va_get (D := (dC, dI)) (ci := 2) (v := .ref (ad 14)) (C := RX2) (T := TX2) (N := 14) hx hb hts iX2 hown hK hP 1 rfl rfl 9 (by decide) k_2 (fun _ h9 => h9) rfl dX1_needOf_18 ?_
          refine lv_iload_n hx hb dX1_needOf_21 rfl (lv_at hl 0 rfl) ?_
          obtain ⟨h_3, hf⟩ := ck_of hf
          refine va_iald (f := (gA u 9)) hx hb hK hP 14 0 rfl rfl h_3 dX1_needOf_22 ?_
          refine lv_aload_n hx hb dX1_needOf_23 rfl (lv_at hl 1 rfl) ?_
          refine va_get (D := (dC, dI)) (ci := 1) (v := .ref (ad 25)) (C := RX1) (T := TX1) (N := 11) hx hb hts iX1 hown hK hP 4 rfl rfl 3 (by decide) k_3 (fun _ h9 => h9) rfl dX1_needOf_24 ?_
          refine lv_iload_n hx hb dX1_needOf_27 rfl (lv_at hl 0 rfl) ?_
          refine va_iald (f := (gA u 19)) hx hb hK hP 25 0 rfl rfl h_3 dX1_needOf_28 ?_
          refine lv_isub hx hb dX1_needOf_29 ?_
          refine lv_istore_n (lv' := [(3, .int (((gA u 9) ((gA u 18) v1.toNatClampNeg).toNatClampNeg) - ((gA u 19) ((gA u 18) v1.toNatClampNeg).toNatClampNeg))), (2, .int ((gA u 18) v1.toNatClampNeg)), (0, .ref (ad 4)), (1, .int v1)]) hx hb dX1_needOf_30 rfl hl (by decide) rfl (fun ls hl => ?_)
          refine lv_iload_n hx hb dX1_needOf_31 rfl (lv_at hl 0 rfl) ?_
          refine lv_if_gt (tgt := 37) hx hb dX1_needOf_32 (by decide) (fun c_4 => ?_) (fun c_4 => ?_)
          · have hf := (if_pos c_4).symm.trans hf
            refine lv_aload_n hx hb dX1_needOf_37 rfl (lv_at hl 2 rfl) ?_
            refine va_get (D := (dC, dI)) (ci := 1) (v := .ref (ad 2)) (C := RX1) (T := TX1) (N := 11) hx hb hts iX1 hown hK hP 4 rfl rfl 1 (by decide) k_4 (fun _ h9 => h9) rfl dX1_needOf_38 ?_
            refine lv_iload_n hx hb dX1_needOf_41 rfl (lv_at hl 3 rfl) ?_
            refine lv_iload_n hx hb dX1_needOf_42 rfl (lv_at hl 1 rfl) ?_
            obtain ⟨w_5, hw_5, hf⟩ := ob hf
            have hFc := freeAll hD hS hA
            refine va_calli (va_runV (As := [.int v1, .int ((gA u 18) v1.toNatClampNeg)]) (rest := []) ⟨hx, hb, hml, hown, hts⟩ (mX0_lampLight l dC dI cI cL ad H.size u v1 ((gA u 18) v1.toNatClampNeg) n w_5 hw_5) (cwV 2 hts gX1_needOf_X0_lampLight rfl rfl rfl (by decide +kernel) ⟨Nat.le_of_ble_eq_true rfl, Nat.le_of_ble_eq_true rfl⟩) ⟨wPre_blind, va_recv hK hP (ci := 0) (q0 := 2) rfl rfl, wPre_of hP hK hD hZ⟩ rfl rfl hl.1 rfl (lv_room (Nat.le_of_ble_eq_true rfl)) dX1_needOf_43 ⟨Nat.zero_le _, Nat.zero_le _⟩) hS (fun q _ h => hFc q h) hFc (fun r2 u2 t H1 locs ht hvm hw hB hz1 hk1 hS => ?_)
            obtain ⟨hP1, hK1, hD1⟩ := hB
            rw [ht] at hP1
            have e1 : r2 = w_5.1 := congrArg Prod.fst hw
            have e2 : u2 = w_5.2 := congrArg Prod.snd hw
            subst r2 u2
            have hP : va_P (dC, dI) vwCl (cw ad cI cL w_5.2) H1 := hP1
            have hD : va_D A (cw ad cI cL w_5.2) := hD1.weaken (fun _ _ _ h => hFc _ h)
            clear hP1 hD1 hK1 hFc hk1
            generalize H1 = H at hP hS ⊢
            refine lv_i2l (v := w_5.1.toInt64) hx hb dX1_needOf_46 rfl ?_
            refine lv_lstore (lv' := [(4, .long w_5.1.toInt64), (3, .int (((gA u 9) ((gA u 18) v1.toNatClampNeg).toNatClampNeg) - ((gA u 19) ((gA u 18) v1.toNatClampNeg).toNatClampNeg))), (2, .int ((gA u 18) v1.toNatClampNeg)), (0, .ref (ad 4)), (1, .int v1)]) hx hb dX1_needOf_47 hl (by decide) rfl (fun ls hl => ?_)
            refine lv_lload hx hb dX1_needOf_49 (lv_at hl 0 rfl) ?_
            refine lv_lconst (v := 0) hx hb dX1_needOf_51 (by decide) ?_
            refine W.lcmp hx hb dX1_needOf_52 ?_
            refine lv_if_ne (tgt := 59) hx hb dX1_needOf_53 (by decide) (fun c_6 => ?_) (fun c_6 => ?_)
            · have c_6 := fun q => c_6 ((lg_cmp_eq w_5.1.toInt64 (0 : Int64)).mpr q)
              have hf := (if_neg c_6).symm.trans hf
              refine lv_ldc2 (v := 100) hx hb hown k_5 dX1_needOf_59 ?_
              refine lv_ldc2 (v := 100) hx hb hown k_5 dX1_needOf_62 ?_
              refine lv_iload_n hx hb dX1_needOf_65 rfl (lv_at hl 1 rfl) ?_
              refine lv_i2l (v := (((gA u 9) ((gA u 18) v1.toNatClampNeg).toNatClampNeg) - ((gA u 19) ((gA u 18) v1.toNatClampNeg).toNatClampNeg)).toInt64) hx hb dX1_needOf_66 rfl ?_
              refine lv_lmul hx hb dX1_needOf_67 ?_
              refine lv_lload hx hb dX1_needOf_68 (lv_at hl 0 rfl) ?_
              refine lv_ladd hx hb dX1_needOf_70 ?_
              refine lv_lconst (v := 1) hx hb dX1_needOf_71 (by decide) ?_
              refine lv_lsub hx hb dX1_needOf_72 ?_
              refine lv_lload hx hb dX1_needOf_73 (lv_at hl 0 rfl) ?_
              obtain ⟨w_7, hw_7, hf⟩ := ob hf
              have hFc := freeNil hS hA
              refine va_calll (va_runSN (As := [.long ((((100 : Int64) * (((gA u 9) ((gA u 18) v1.toNatClampNeg).toNatClampNeg) - ((gA u 19) ((gA u 18) v1.toNatClampNeg).toNatClampNeg)).toInt64) + w_5.1.toInt64) - (1 : Int64)), .long w_5.1.toInt64]) (rest := [.long (100 : Int64)]) ⟨hx, hb, hml, hown, hts⟩ (mX4_quotient l H.size ((((100 : Int64) * (((gA u 9) ((gA u 18) v1.toNatClampNeg).toNatClampNeg) - ((gA u 19) ((gA u 18) v1.toNatClampNeg).toNatClampNeg)).toInt64) + w_5.1.toInt64) - (1 : Int64)) w_5.1.toInt64 n w_7 hw_7) ⟨va_cnB 2 hts ggX1_needOf_X4_quotient rfl rfl rfl hZ.2.1 k_6 (by decide +kernel) ⟨Nat.le_of_ble_eq_true rfl, Nat.le_of_ble_eq_true rfl⟩, k_7, trivial⟩ ⟨nPre_blind, nPre_of⟩ rfl rfl hl.1 rfl (lv_room (Nat.le_of_ble_eq_true rfl)) dX1_needOf_75 ⟨Nat.zero_le _, Nat.zero_le _⟩) hS (fun q _ h => hFc q h) hFc (fun r2 u2 t H1 locs ht hvm hw hB hz1 hk1 hS => ?_)
              subst r2
              have hP := keepP hP hk1
              clear hFc hk1 hB
              generalize H1 = H at hP hS ⊢
              refine va_mmin_long hx hb (by rw [hml]; exact hl.1.symm) hown k_8 k_9 k_10 k_11 (Nat.le_of_ble_eq_true rfl) (Nat.le_of_ble_eq_true rfl) (Nat.zero_le _) (Nat.zero_le _) dX1_needOf_78 ?_
              refine lv_l2i (v := (if w_7 < (100 : Int64) then w_7 else (100 : Int64)).toInt32) hx hb dX1_needOf_81 rfl ?_
              have hf := Option.some.inj hf
              exact W.iret (v := (if w_7 < (100 : Int64) then w_7 else (100 : Int64)).toInt32) hx hb hr (fun t ht hW => ⟨⟨(if w_7 < (100 : Int64) then w_7 else (100 : Int64)).toInt32, w_5.2, rfl, hf, ⟨by rw [ht]; exact hP, va_K.moved hW.alike hK, hD⟩⟩, hS.F ht⟩) hS.2.2 dX1_needOf_82
            · have c_6 := (lg_cmp_eq w_5.1.toInt64 (0 : Int64)).mp c_6
              have hf := (if_pos c_6).symm.trans hf
              refine lv_bipush (v := 100) hx hb dX1_needOf_56 (by decide) ?_
              have hf := Option.some.inj hf
              exact W.iret (v := (100 : Int32)) hx hb hr (fun t ht hW => ⟨⟨(100 : Int32), w_5.2, rfl, hf, ⟨by rw [ht]; exact hP, va_K.moved hW.alike hK, hD⟩⟩, hS.F ht⟩) hS.2.2 dX1_needOf_58
          · have hf := (if_neg c_4).symm.trans hf
            refine lv_iconst (v := 0) hx hb dX1_needOf_35 (by decide) ?_
            have hf := Option.some.inj hf
            exact W.iret (v := (0 : Int32)) hx hb hr (fun t ht hW => ⟨⟨(0 : Int32), u, rfl, hf, ⟨by rw [ht]; exact hP, va_K.moved hW.alike hK, hD⟩⟩, hS.F ht⟩) hS.2.2 dX1_needOf_36
        · have hf := (if_neg c_2).symm.trans hf
          refine lv_bipush (v := 100) hx hb dX1_needOf_11 (by decide) ?_
          have hf := Option.some.inj hf
          exact W.iret (v := (100 : Int32)) hx hb hr (fun t ht hW => ⟨⟨(100 : Int32), u, rfl, hf, ⟨by rw [ht]; exact hP, va_K.moved hW.alike hK, hD⟩⟩, hS.F ht⟩) hS.2.2 dX1_needOf_13
  exact (key n) z1 u _ _ ls hf0 hP hD hS (lv_sub hl [0, 1] rfl)

def fX1_shine (n pc : Nat) (v1 : Int32) (v2 : Int32) (u : St) : Option (St) := match n with
  | 0 => none
  | n + 1 => match pc with
    | 0 => (if ck v1 7 = true then (if ((gA u 14) v1.toNatClampNeg) < 0 then some u else (if v2 ≤ 0 then some u else (if ((gA u 20) v1.toNatClampNeg) = 0 then some u else (if ck ((gA u 14) v1.toNatClampNeg) 3 = true then ((FX4_quotient n (((((gA u 21) v1.toNatClampNeg) + v2) - (1 : Int32)).toInt64) (((60 : Int32) * ((gA u 2) ((gA u 14) v1.toNatClampNeg).toNatClampNeg)).toInt64)).bind fun w_6 => some (sJ (sJ (sA (sJ u 2 ((gJ u 2) + ((v2.toInt64 * ((gA u 20) v1.toNatClampNeg).toInt64) * ((gA u 1) ((gA u 14) v1.toNatClampNeg).toNatClampNeg).toInt64))) 21 (upd (gA u 21) v1.toNatClampNeg ((((gA u 21) v1.toNatClampNeg) + v2) - (w_6.toInt32 * ((60 : Int32) * ((gA u 2) ((gA u 14) v1.toNatClampNeg).toNatClampNeg)))))) 4 ((gJ u 4) + w_6.toInt32.toInt64)) 3 ((gJ u 3) + (w_6.toInt32.toInt64 * ((gA u 3) ((gA u 14) v1.toNatClampNeg).toNatClampNeg).toInt64)))) else none)))) else none)
    | _ => none
theorem eX1_shine_0 (n : Nat) (v1 : Int32) (v2 : Int32) (u : St) : fX1_shine (n + 1) 0 v1 v2 u = (if ck v1 7 = true then (if ((gA u 14) v1.toNatClampNeg) < 0 then some u else (if v2 ≤ 0 then some u else (if ((gA u 20) v1.toNatClampNeg) = 0 then some u else (if ck ((gA u 14) v1.toNatClampNeg) 3 = true then ((FX4_quotient n (((((gA u 21) v1.toNatClampNeg) + v2) - (1 : Int32)).toInt64) (((60 : Int32) * ((gA u 2) ((gA u 14) v1.toNatClampNeg).toNatClampNeg)).toInt64)).bind fun w_6 => some (sJ (sJ (sA (sJ u 2 ((gJ u 2) + ((v2.toInt64 * ((gA u 20) v1.toNatClampNeg).toInt64) * ((gA u 1) ((gA u 14) v1.toNatClampNeg).toNatClampNeg).toInt64))) 21 (upd (gA u 21) v1.toNatClampNeg ((((gA u 21) v1.toNatClampNeg) + v2) - (w_6.toInt32 * ((60 : Int32) * ((gA u 2) ((gA u 14) v1.toNatClampNeg).toNatClampNeg)))))) 4 ((gJ u 4) + w_6.toInt32.toInt64)) 3 ((gJ u 3) + (w_6.toInt32.toInt64 * ((gA u 3) ((gA u 14) v1.toNatClampNeg).toNatClampNeg).toInt64)))) else none)))) else none) := rfl
theorem vX1_shine_0 (v1 : Int32) (v2 : Int32) (u : St) (r : St) : Ev (fun n => fX1_shine n 0 v1 v2 u) r ↔ Ev (fun n => (if ck v1 7 = true then (if ((gA u 14) v1.toNatClampNeg) < 0 then some u else (if v2 ≤ 0 then some u else (if ((gA u 20) v1.toNatClampNeg) = 0 then some u else (if ck ((gA u 14) v1.toNatClampNeg) 3 = true then ((FX4_quotient n (((((gA u 21) v1.toNatClampNeg) + v2) - (1 : Int32)).toInt64) (((60 : Int32) * ((gA u 2) ((gA u 14) v1.toNatClampNeg).toNatClampNeg)).toInt64)).bind fun w_6 => some (sJ (sJ (sA (sJ u 2 ((gJ u 2) + ((v2.toInt64 * ((gA u 20) v1.toNatClampNeg).toInt64) * ((gA u 1) ((gA u 14) v1.toNatClampNeg).toNatClampNeg).toInt64))) 21 (upd (gA u 21) v1.toNatClampNeg ((((gA u 21) v1.toNatClampNeg) + v2) - (w_6.toInt32 * ((60 : Int32) * ((gA u 2) ((gA u 14) v1.toNatClampNeg).toNatClampNeg)))))) 4 ((gJ u 4) + w_6.toInt32.toInt64)) 3 ((gJ u 3) + (w_6.toInt32.toInt64 * ((gA u 3) ((gA u 14) v1.toNatClampNeg).toNatClampNeg).toInt64)))) else none)))) else none)) r := Ev_succ (fun n => fX1_shine n 0 v1 v2 u) r
def FX1_shine (n : Nat) (v1 : Int32) (v2 : Int32) (u : St) : Option (St) := fX1_shine n 0 v1 v2 u
set_option maxHeartbeats 4000000 in
set_option maxRecDepth 100000 in
theorem mX1_shine (l : Launch) (dC : Nat → ClassId) (dI : Nat → Nat → Nat) (cI cL : ClassId) (ad : Nat → Nat) (sz : Nat) (u : St) (z1 : Int32) (z2 : Int32) (n : Nat) (r : St) (hf0 : FX1_shine n z1 z2 u = some r) : Met l yX1_shine wsX1_shine ({ frames := 1, cells := 0, slots := 0, locals := 23 }) (va_Pc [.ref (ad 4), .int z1, .int z2] (wPre dC dI cI cL (cw ad cI cL u) sz)) (va_Qv (fun t => t = r) (fun t => wPost dC dI cI cL (va_A (cw ad cI cL u) sz) (cw ad cI cL t)) (va_A (cw ad cI cL u) sz)) 0 0 (va_A (cw ad cI cL u) sz) := by
  refine Met.ofW (cc := cX1_shine) (maxL := 7) (ret := none) (by decide) rfl ?_
  intro p e s m args below meth c s₁ B hml hv
  obtain ⟨rfl, hsz, hP, hK, hD0, hZ⟩ := hv
  have hx := B.exec
  have hb := B.bytes
  have hr := B.returns
  have hts := atoms_spec (ws := wsX1_shine) B.pre
  have hown : s.vm.findClass RX1 = some m.cls := findClass_of_methodNamed B.named
  have hlocks := B.notSynchronized
  subst hsz
  have hD := hD0.self (sz := s.heap.size)
  generalize hAe : va_A (cw ad cI cL u) s.heap.size = A at hD ⊢
  have hA : ∀ q : Nat, s.heap.size ≤ q → A q := fun q h => by rw [← hAe]; exact Or.inr h
  have hS : va_S A s.heap s.heap [] := va_S.rf
  have iX0 : ∀ w ∈ u_ws RX0 TX0 12, w ∈ wsX1_shine := fun _ h => List.mem_cons_of_mem _ (List.mem_append_left _ (List.mem_append_right _ h))
  have iX1 : ∀ w ∈ u_ws RX1 TX1 11, w ∈ wsX1_shine := fun _ h => List.mem_cons_of_mem _ (List.mem_append_left _ (List.mem_append_left _ (List.mem_append_right _ h)))
  have iX2 : ∀ w ∈ u_ws RX2 TX2 14, w ∈ wsX1_shine := fun _ h => List.mem_cons_of_mem _ (List.mem_append_right _ h)
  have k_0 := hts (.fieldLink RX1 32 "LampChoice$Days" "choice" "LLampChoice$Choice;") (by decide +kernel)
  have k_1 := hts (.fieldLink RX1 47 "LampChoice$Choice" "lamps" "[I") (by decide +kernel)
  have k_2 := hts (.fieldLink RX1 18 "LampChoice$Days" "ownLevels" "[I") (by decide +kernel)
  have k_3 := hts (.fieldLink RX1 92 "LampChoice$Days" "wattMinutes" "J") (by decide +kernel)
  have k_4 := hts (.fieldLink RX1 28 "LampChoice$Days" "room" "LLampChoice$Room;") (by decide +kernel)
  have k_5 := hts (.fieldLink RX1 96 "LampChoice$Room" "watts" "[I") (by decide +kernel)
  have k_6 := hts (.fieldLink RX1 99 "LampChoice$Room" "lives" "[I") (by decide +kernel)
  have k_7 := hts (.fieldLink RX1 21 "LampChoice$Days" "lasted" "[I") (by decide +kernel)
  have k_8 := hts (.initialized RX4) (by decide +kernel)
  have k_9 := hts (.static yX4_quotient) (by decide +kernel)
  have k_10 := hts (.fieldLink RX1 102 "LampChoice$Days" "renewed" "J") (by decide +kernel)
  have k_11 := hts (.fieldLink RX1 105 "LampChoice$Days" "paid" "J") (by decide +kernel)
  have k_12 := hts (.fieldLink RX1 108 "LampChoice$Room" "cents" "[I") (by decide +kernel)
  have hl := lv_entry ([.ref (ad 4), .int z1, .int z2]) (n := 7) (Nat.le_of_ble_eq_true rfl)
  rw [lg_entry_eq]
  generalize (lg_sl ([.ref (ad 4), .int z1, .int z2]) ++ List.replicate (7 - (lg_sl ([.ref (ad 4), .int z1, .int z2])).length) Slot.unset).toArray = ls at hl ⊢
  have hl : lv_has ls 7 [(0, .ref (ad 4)), (1, .int z1), (2, .int z2)] := hl
  have key : ∀ n : Nat, (∀ (v1 : Int32) (v2 : Int32) (u : St) (H : Heap) (locs : List Loc) (ls : Array Slot), fX1_shine n 0 v1 v2 u = some r → va_P (dC, dI) vwCl (cw ad cI cL u) H → va_D A (cw ad cI cL u) → va_S A s.heap H locs → lv_has ls 7 [(0, .ref (ad 4)), (1, .int v1), (2, .int v2)] → W p l e (headSpec wsX1_shine ({ frames := 1, cells := 0, slots := 0, locals := 23 })).room s m ([.ref (ad 4), .int z1, .int z2] : List Value).toArray below meth c H locs 0 0 (MQ below (va_Qv (fun t => t = r) (fun t => wPost dC dI cI cL A (cw ad cI cL t)) A) ([.ref (ad 4), .int z1, .int z2] : List Value).toArray s 0 0 A) (F0 m 0 ls [])) := by
    intro n
    induction n with
    | zero => exact (fun _ _ _ _ _ _ hf => nomatch (show (none : Option (St)) = some r from hf))
    | succ n ih =>
      have ih0 := ih
      · intro v1 v2 u H locs ls hf hP hD hS hl
        have hf := (eX1_shine_0 n v1 v2 u).symm.trans hf
        refine lv_aload_n hx hb dX1_shine_0 rfl (lv_at hl 0 rfl) ?_
        refine va_get (D := (dC, dI)) (ci := 1) (v := .ref (ad 2)) (C := RX1) (T := TX1) (N := 11) hx hb hts iX1 hown hK hP 4 rfl rfl 1 (by decide) k_0 (fun _ h9 => h9) rfl dX1_shine_1 ?_
        refine va_get (D := (dC, dI)) (ci := 0) (v := .ref (ad 19)) (C := RX0) (T := TX0) (N := 12) hx hb hts iX0 hown hK hP 2 rfl rfl 7 (by decide) k_1 (fun _ h9 => h9) rfl dX1_shine_4 ?_
        refine lv_iload_n hx hb dX1_shine_7 rfl (lv_at hl 1 rfl) ?_
        obtain ⟨h_1, hf⟩ := ck_of hf
        refine va_iald (f := (gA u 14)) hx hb hK hP 19 0 rfl rfl h_1 dX1_shine_8 ?_
        refine lv_istore_n (lv' := [(3, .int ((gA u 14) v1.toNatClampNeg)), (0, .ref (ad 4)), (1, .int v1), (2, .int v2)]) hx hb dX1_shine_9 rfl hl (by decide) rfl (fun ls hl => ?_)
        refine lv_iload_n hx hb dX1_shine_10 rfl (lv_at hl 0 rfl) ?_
        refine lv_if_lt (tgt := 27) hx hb dX1_shine_11 (by decide) (fun c_2 => ?_) (fun c_2 => ?_)
        · have hf := (if_pos c_2).symm.trans hf
          have hf := Option.some.inj hf
          exact W.vret hx hb hr (fun t ht hW => ⟨⟨u, rfl, hf, ⟨by rw [ht]; exact hP, va_K.moved hW.alike hK, hD⟩⟩, hS.F ht⟩) hS.2.2 dX1_shine_27
        · have hf := (if_neg c_2).symm.trans hf
          refine lv_iload_n hx hb dX1_shine_14 rfl (lv_at hl 3 rfl) ?_
          refine lv_if_le (tgt := 27) hx hb dX1_shine_15 (by decide) (fun c_3 => ?_) (fun c_3 => ?_)
          · have hf := (if_pos c_3).symm.trans hf
            have hf := Option.some.inj hf
            exact W.vret hx hb hr (fun t ht hW => ⟨⟨u, rfl, hf, ⟨by rw [ht]; exact hP, va_K.moved hW.alike hK, hD⟩⟩, hS.F ht⟩) hS.2.2 dX1_shine_27
          · have hf := (if_neg c_3).symm.trans hf
            refine lv_aload_n hx hb dX1_shine_18 rfl (lv_at hl 1 rfl) ?_
            refine va_get (D := (dC, dI)) (ci := 1) (v := .ref (ad 26)) (C := RX1) (T := TX1) (N := 11) hx hb hts iX1 hown hK hP 4 rfl rfl 4 (by decide) k_2 (fun _ h9 => h9) rfl dX1_shine_19 ?_
            refine lv_iload_n hx hb dX1_shine_22 rfl (lv_at hl 2 rfl) ?_
            refine va_iald (f := (gA u 20)) hx hb hK hP 26 0 rfl rfl h_1 dX1_shine_23 ?_
            refine lv_if_ne (tgt := 28) hx hb dX1_shine_24 (by decide) (fun c_4 => ?_) (fun c_4 => ?_)
            · have hf := (if_neg c_4).symm.trans hf
              refine lv_aload_n hx hb dX1_shine_28 rfl (lv_at hl 1 rfl) ?_
              refine lv_dup hx hb dX1_shine_29 rfl ?_
              refine va_get (D := (dC, dI)) (ci := 1) (v := .long (gJ u 2)) (C := RX1) (T := TX1) (N := 11) hx hb hts iX1 hown hK hP 4 rfl rfl 8 (by decide) k_3 (fun _ h9 => h9) rfl dX1_shine_30 ?_
              refine lv_iload_n hx hb dX1_shine_33 rfl (lv_at hl 3 rfl) ?_
              refine lv_i2l (v := v2.toInt64) hx hb dX1_shine_34 rfl ?_
              refine lv_aload_n hx hb dX1_shine_35 rfl (lv_at hl 1 rfl) ?_
              refine va_get (D := (dC, dI)) (ci := 1) (v := .ref (ad 26)) (C := RX1) (T := TX1) (N := 11) hx hb hts iX1 hown hK hP 4 rfl rfl 4 (by decide) k_2 (fun _ h9 => h9) rfl dX1_shine_36 ?_
              refine lv_iload_n hx hb dX1_shine_39 rfl (lv_at hl 2 rfl) ?_
              refine va_iald (f := (gA u 20)) hx hb hK hP 26 0 rfl rfl h_1 dX1_shine_40 ?_
              refine lv_i2l (v := ((gA u 20) v1.toNatClampNeg).toInt64) hx hb dX1_shine_41 rfl ?_
              refine lv_lmul hx hb dX1_shine_42 ?_
              refine lv_aload_n hx hb dX1_shine_43 rfl (lv_at hl 1 rfl) ?_
              refine va_get (D := (dC, dI)) (ci := 1) (v := .ref (ad 1)) (C := RX1) (T := TX1) (N := 11) hx hb hts iX1 hown hK hP 4 rfl rfl 0 (by decide) k_4 (fun _ h9 => h9) rfl dX1_shine_44 ?_
              refine va_get (D := (dC, dI)) (ci := 2) (v := .ref (ad 6)) (C := RX2) (T := TX2) (N := 14) hx hb hts iX2 hown hK hP 1 rfl rfl 1 (by decide) k_5 (fun _ h9 => h9) rfl dX1_shine_47 ?_
              refine lv_iload_n hx hb dX1_shine_50 rfl (lv_at hl 0 rfl) ?_
              obtain ⟨h_5, hf⟩ := ck_of hf
              refine va_iald (f := (gA u 1)) hx hb hK hP 6 0 rfl rfl h_5 dX1_shine_51 ?_
              refine lv_i2l (v := ((gA u 1) ((gA u 14) v1.toNatClampNeg).toNatClampNeg).toInt64) hx hb dX1_shine_52 rfl ?_
              refine lv_lmul hx hb dX1_shine_53 ?_
              refine lv_ladd hx hb dX1_shine_54 ?_
              refine va_put (D := (dC, dI)) (ci := 1) (v := .long ((gJ u 2) + ((v2.toInt64 * ((gA u 20) v1.toNatClampNeg).toInt64) * ((gA u 1) ((gA u 14) v1.toNatClampNeg).toNatClampNeg).toInt64))) (ty := .long) (C := RX1) (T := TX1) (N := 11) hx hb hts iX1 tyX1 tyX1_ok nmX1 hown hK hP hD hS 4 rfl rfl 8 (by decide) k_3 (fun _ h9 => h9) rfl (by decide +kernel) rfl rfl (Nat.le_of_ble_eq_true rfl) dX1_shine_55 (fun H locs hP hD hS => ?_)
              have hP : va_P (dC, dI) vwCl (cw ad cI cL (sJ u 2 ((gJ u 2) + ((v2.toInt64 * ((gA u 20) v1.toNatClampNeg).toInt64) * ((gA u 1) ((gA u 14) v1.toNatClampNeg).toNatClampNeg).toInt64)))) H := hP
              have hD : va_D A (cw ad cI cL (sJ u 2 ((gJ u 2) + ((v2.toInt64 * ((gA u 20) v1.toNatClampNeg).toInt64) * ((gA u 1) ((gA u 14) v1.toNatClampNeg).toNatClampNeg).toInt64)))) := hD
              refine lv_bipush (v := 60) hx hb dX1_shine_58 (by decide) ?_
              refine lv_aload_n hx hb dX1_shine_60 rfl (lv_at hl 1 rfl) ?_
              refine va_get (D := (dC, dI)) (ci := 1) (v := .ref (ad 1)) (C := RX1) (T := TX1) (N := 11) hx hb hts iX1 hown hK hP 4 rfl rfl 0 (by decide) k_4 (fun _ h9 => h9) rfl dX1_shine_61 ?_
              refine va_get (D := (dC, dI)) (ci := 2) (v := .ref (ad 7)) (C := RX2) (T := TX2) (N := 14) hx hb hts iX2 hown hK hP 1 rfl rfl 2 (by decide) k_6 (fun _ h9 => h9) rfl dX1_shine_64 ?_
              refine lv_iload_n hx hb dX1_shine_67 rfl (lv_at hl 0 rfl) ?_
              refine va_iald (f := (gA u 2)) hx hb hK hP 7 0 rfl rfl h_5 dX1_shine_68 ?_
              refine lv_imul hx hb dX1_shine_69 ?_
              refine lv_istore (lv' := [(4, .int ((60 : Int32) * ((gA u 2) ((gA u 14) v1.toNatClampNeg).toNatClampNeg))), (3, .int ((gA u 14) v1.toNatClampNeg)), (0, .ref (ad 4)), (1, .int v1), (2, .int v2)]) hx hb dX1_shine_70 hl (by decide) rfl (fun ls hl => ?_)
              refine lv_aload_n hx hb dX1_shine_72 rfl (lv_at hl 2 rfl) ?_
              refine va_get (D := (dC, dI)) (ci := 1) (v := .ref (ad 27)) (C := RX1) (T := TX1) (N := 11) hx hb hts iX1 hown hK hP 4 rfl rfl 5 (by decide) k_7 (fun _ h9 => h9) rfl dX1_shine_73 ?_
              refine lv_iload_n hx hb dX1_shine_76 rfl (lv_at hl 3 rfl) ?_
              refine va_iald (f := (gA u 21)) hx hb hK hP 27 0 rfl rfl h_1 dX1_shine_77 ?_
              refine lv_iload_n hx hb dX1_shine_78 rfl (lv_at hl 4 rfl) ?_
              refine lv_iadd hx hb dX1_shine_79 ?_
              refine lv_istore (lv' := [(5, .int (((gA u 21) v1.toNatClampNeg) + v2)), (4, .int ((60 : Int32) * ((gA u 2) ((gA u 14) v1.toNatClampNeg).toNatClampNeg))), (3, .int ((gA u 14) v1.toNatClampNeg)), (0, .ref (ad 4)), (1, .int v1), (2, .int v2)]) hx hb dX1_shine_80 hl (by decide) rfl (fun ls hl => ?_)
              refine lv_iload hx hb dX1_shine_82 (lv_at hl 0 rfl) ?_
              refine lv_iconst (v := 1) hx hb dX1_shine_84 (by decide) ?_
              refine lv_isub hx hb dX1_shine_85 ?_
              refine lv_i2l (v := ((((gA u 21) v1.toNatClampNeg) + v2) - (1 : Int32)).toInt64) hx hb dX1_shine_86 rfl ?_
              refine lv_iload hx hb dX1_shine_87 (lv_at hl 1 rfl) ?_
              refine lv_i2l (v := ((60 : Int32) * ((gA u 2) ((gA u 14) v1.toNatClampNeg).toNatClampNeg)).toInt64) hx hb dX1_shine_89 rfl ?_
              obtain ⟨w_6, hw_6, hf⟩ := ob hf
              have hFc := freeNil hS hA
              refine va_calll (va_runSN (As := [.long (((((gA u 21) v1.toNatClampNeg) + v2) - (1 : Int32)).toInt64), .long (((60 : Int32) * ((gA u 2) ((gA u 14) v1.toNatClampNeg).toNatClampNeg)).toInt64)]) (rest := []) ⟨hx, hb, hml, hown, hts⟩ (mX4_quotient l H.size (((((gA u 21) v1.toNatClampNeg) + v2) - (1 : Int32)).toInt64) (((60 : Int32) * ((gA u 2) ((gA u 14) v1.toNatClampNeg).toNatClampNeg)).toInt64) n w_6 hw_6) ⟨va_cnB 2 hts ggX1_shine_X4_quotient rfl rfl rfl hZ.2.1 k_8 (by decide +kernel) ⟨Nat.le_of_ble_eq_true rfl, Nat.le_of_ble_eq_true rfl⟩, k_9, trivial⟩ ⟨nPre_blind, nPre_of⟩ rfl rfl hl.1 rfl (lv_room (Nat.le_of_ble_eq_true rfl)) dX1_shine_90 ⟨Nat.zero_le _, Nat.zero_le _⟩) hS (fun q _ h => hFc q h) hFc (fun r2 u2 t H1 locs ht hvm hw hB hz1 hk1 hS => ?_)
              subst r2
              have hP := keepP hP hk1
              clear hFc hk1 hB
              generalize H1 = H at hP hS ⊢
              refine lv_l2i (v := w_6.toInt32) hx hb dX1_shine_93 rfl ?_
              refine lv_istore (lv' := [(6, .int w_6.toInt32), (5, .int (((gA u 21) v1.toNatClampNeg) + v2)), (4, .int ((60 : Int32) * ((gA u 2) ((gA u 14) v1.toNatClampNeg).toNatClampNeg))), (3, .int ((gA u 14) v1.toNatClampNeg)), (0, .ref (ad 4)), (1, .int v1), (2, .int v2)]) hx hb dX1_shine_94 hl (by decide) rfl (fun ls hl => ?_)
              refine lv_aload_n hx hb dX1_shine_96 rfl (lv_at hl 4 rfl) ?_
              refine va_get (D := (dC, dI)) (ci := 1) (v := .ref (ad 27)) (C := RX1) (T := TX1) (N := 11) hx hb hts iX1 hown hK hP 4 rfl rfl 5 (by decide) k_7 (fun _ h9 => h9) rfl dX1_shine_97 ?_
              refine lv_iload_n hx hb dX1_shine_100 rfl (lv_at hl 5 rfl) ?_
              refine lv_iload hx hb dX1_shine_101 (lv_at hl 1 rfl) ?_
              refine lv_iload hx hb dX1_shine_103 (lv_at hl 0 rfl) ?_
              refine lv_iload hx hb dX1_shine_105 (lv_at hl 2 rfl) ?_
              refine lv_imul hx hb dX1_shine_107 ?_
              refine lv_isub hx hb dX1_shine_108 ?_
              refine va_iast (f := (gA u 21)) hx hb hK hP hD hS 27 0 rfl rfl h_1 dX1_shine_109 (fun H locs hP hD hS => ?_)
              have hP : va_P (dC, dI) vwCl (cw ad cI cL (sA (sJ u 2 ((gJ u 2) + ((v2.toInt64 * ((gA u 20) v1.toNatClampNeg).toInt64) * ((gA u 1) ((gA u 14) v1.toNatClampNeg).toNatClampNeg).toInt64))) 21 (upd (gA u 21) v1.toNatClampNeg ((((gA u 21) v1.toNatClampNeg) + v2) - (w_6.toInt32 * ((60 : Int32) * ((gA u 2) ((gA u 14) v1.toNatClampNeg).toNatClampNeg))))))) H := hP
              have hD : va_D A (cw ad cI cL (sA (sJ u 2 ((gJ u 2) + ((v2.toInt64 * ((gA u 20) v1.toNatClampNeg).toInt64) * ((gA u 1) ((gA u 14) v1.toNatClampNeg).toNatClampNeg).toInt64))) 21 (upd (gA u 21) v1.toNatClampNeg ((((gA u 21) v1.toNatClampNeg) + v2) - (w_6.toInt32 * ((60 : Int32) * ((gA u 2) ((gA u 14) v1.toNatClampNeg).toNatClampNeg))))))) := hD
              refine lv_aload_n hx hb dX1_shine_110 rfl (lv_at hl 4 rfl) ?_
              refine lv_dup hx hb dX1_shine_111 rfl ?_
              refine va_get (D := (dC, dI)) (ci := 1) (v := .long (gJ u 4)) (C := RX1) (T := TX1) (N := 11) hx hb hts iX1 hown hK hP 4 rfl rfl 10 (by decide) k_10 (fun _ h9 => h9) rfl dX1_shine_112 ?_
              refine lv_iload hx hb dX1_shine_115 (lv_at hl 0 rfl) ?_
              refine lv_i2l (v := w_6.toInt32.toInt64) hx hb dX1_shine_117 rfl ?_
              refine lv_ladd hx hb dX1_shine_118 ?_
              refine va_put (D := (dC, dI)) (ci := 1) (v := .long ((gJ u 4) + w_6.toInt32.toInt64)) (ty := .long) (C := RX1) (T := TX1) (N := 11) hx hb hts iX1 tyX1 tyX1_ok nmX1 hown hK hP hD hS 4 rfl rfl 10 (by decide) k_10 (fun _ h9 => h9) rfl (by decide +kernel) rfl rfl (Nat.le_of_ble_eq_true rfl) dX1_shine_119 (fun H locs hP hD hS => ?_)
              have hP : va_P (dC, dI) vwCl (cw ad cI cL (sJ (sA (sJ u 2 ((gJ u 2) + ((v2.toInt64 * ((gA u 20) v1.toNatClampNeg).toInt64) * ((gA u 1) ((gA u 14) v1.toNatClampNeg).toNatClampNeg).toInt64))) 21 (upd (gA u 21) v1.toNatClampNeg ((((gA u 21) v1.toNatClampNeg) + v2) - (w_6.toInt32 * ((60 : Int32) * ((gA u 2) ((gA u 14) v1.toNatClampNeg).toNatClampNeg)))))) 4 ((gJ u 4) + w_6.toInt32.toInt64))) H := hP
              have hD : va_D A (cw ad cI cL (sJ (sA (sJ u 2 ((gJ u 2) + ((v2.toInt64 * ((gA u 20) v1.toNatClampNeg).toInt64) * ((gA u 1) ((gA u 14) v1.toNatClampNeg).toNatClampNeg).toInt64))) 21 (upd (gA u 21) v1.toNatClampNeg ((((gA u 21) v1.toNatClampNeg) + v2) - (w_6.toInt32 * ((60 : Int32) * ((gA u 2) ((gA u 14) v1.toNatClampNeg).toNatClampNeg)))))) 4 ((gJ u 4) + w_6.toInt32.toInt64))) := hD
              refine lv_aload_n hx hb dX1_shine_122 rfl (lv_at hl 4 rfl) ?_
              refine lv_dup hx hb dX1_shine_123 rfl ?_
              refine va_get (D := (dC, dI)) (ci := 1) (v := .long (gJ u 3)) (C := RX1) (T := TX1) (N := 11) hx hb hts iX1 hown hK hP 4 rfl rfl 9 (by decide) k_11 (fun _ h9 => h9) rfl dX1_shine_124 ?_
              refine lv_iload hx hb dX1_shine_127 (lv_at hl 0 rfl) ?_
              refine lv_i2l (v := w_6.toInt32.toInt64) hx hb dX1_shine_129 rfl ?_
              refine lv_aload_n hx hb dX1_shine_130 rfl (lv_at hl 4 rfl) ?_
              refine va_get (D := (dC, dI)) (ci := 1) (v := .ref (ad 1)) (C := RX1) (T := TX1) (N := 11) hx hb hts iX1 hown hK hP 4 rfl rfl 0 (by decide) k_4 (fun _ h9 => h9) rfl dX1_shine_131 ?_
              refine va_get (D := (dC, dI)) (ci := 2) (v := .ref (ad 8)) (C := RX2) (T := TX2) (N := 14) hx hb hts iX2 hown hK hP 1 rfl rfl 3 (by decide) k_12 (fun _ h9 => h9) rfl dX1_shine_134 ?_
              refine lv_iload_n hx hb dX1_shine_137 rfl (lv_at hl 3 rfl) ?_
              refine va_iald (f := (gA u 3)) hx hb hK hP 8 0 rfl rfl h_5 dX1_shine_138 ?_
              refine lv_i2l (v := ((gA u 3) ((gA u 14) v1.toNatClampNeg).toNatClampNeg).toInt64) hx hb dX1_shine_139 rfl ?_
              refine lv_lmul hx hb dX1_shine_140 ?_
              refine lv_ladd hx hb dX1_shine_141 ?_
              refine va_put (D := (dC, dI)) (ci := 1) (v := .long ((gJ u 3) + (w_6.toInt32.toInt64 * ((gA u 3) ((gA u 14) v1.toNatClampNeg).toNatClampNeg).toInt64))) (ty := .long) (C := RX1) (T := TX1) (N := 11) hx hb hts iX1 tyX1 tyX1_ok nmX1 hown hK hP hD hS 4 rfl rfl 9 (by decide) k_11 (fun _ h9 => h9) rfl (by decide +kernel) rfl rfl (Nat.le_of_ble_eq_true rfl) dX1_shine_142 (fun H locs hP hD hS => ?_)
              have hP : va_P (dC, dI) vwCl (cw ad cI cL (sJ (sJ (sA (sJ u 2 ((gJ u 2) + ((v2.toInt64 * ((gA u 20) v1.toNatClampNeg).toInt64) * ((gA u 1) ((gA u 14) v1.toNatClampNeg).toNatClampNeg).toInt64))) 21 (upd (gA u 21) v1.toNatClampNeg ((((gA u 21) v1.toNatClampNeg) + v2) - (w_6.toInt32 * ((60 : Int32) * ((gA u 2) ((gA u 14) v1.toNatClampNeg).toNatClampNeg)))))) 4 ((gJ u 4) + w_6.toInt32.toInt64)) 3 ((gJ u 3) + (w_6.toInt32.toInt64 * ((gA u 3) ((gA u 14) v1.toNatClampNeg).toNatClampNeg).toInt64)))) H := hP
              have hD : va_D A (cw ad cI cL (sJ (sJ (sA (sJ u 2 ((gJ u 2) + ((v2.toInt64 * ((gA u 20) v1.toNatClampNeg).toInt64) * ((gA u 1) ((gA u 14) v1.toNatClampNeg).toNatClampNeg).toInt64))) 21 (upd (gA u 21) v1.toNatClampNeg ((((gA u 21) v1.toNatClampNeg) + v2) - (w_6.toInt32 * ((60 : Int32) * ((gA u 2) ((gA u 14) v1.toNatClampNeg).toNatClampNeg)))))) 4 ((gJ u 4) + w_6.toInt32.toInt64)) 3 ((gJ u 3) + (w_6.toInt32.toInt64 * ((gA u 3) ((gA u 14) v1.toNatClampNeg).toNatClampNeg).toInt64)))) := hD
              have hf := Option.some.inj hf
              exact W.vret hx hb hr (fun t ht hW => ⟨⟨(sJ (sJ (sA (sJ u 2 ((gJ u 2) + ((v2.toInt64 * ((gA u 20) v1.toNatClampNeg).toInt64) * ((gA u 1) ((gA u 14) v1.toNatClampNeg).toNatClampNeg).toInt64))) 21 (upd (gA u 21) v1.toNatClampNeg ((((gA u 21) v1.toNatClampNeg) + v2) - (w_6.toInt32 * ((60 : Int32) * ((gA u 2) ((gA u 14) v1.toNatClampNeg).toNatClampNeg)))))) 4 ((gJ u 4) + w_6.toInt32.toInt64)) 3 ((gJ u 3) + (w_6.toInt32.toInt64 * ((gA u 3) ((gA u 14) v1.toNatClampNeg).toNatClampNeg).toInt64))), rfl, hf, ⟨by rw [ht]; exact hP, va_K.moved hW.alike hK, hD⟩⟩, hS.F ht⟩) hS.2.2 dX1_shine_145
            · have hf := (if_pos c_4).symm.trans hf
              have hf := Option.some.inj hf
              exact W.vret hx hb hr (fun t ht hW => ⟨⟨u, rfl, hf, ⟨by rw [ht]; exact hP, va_K.moved hW.alike hK, hD⟩⟩, hS.F ht⟩) hS.2.2 dX1_shine_27
  exact (key n) z1 z2 u _ _ ls hf0 hP hD hS (lv_sub hl [0, 1, 2] rfl)

def fX1_follow (n pc : Nat) (v1 : Int32) (v2 : Int32) (v3 : Int32) (v4 : Int32) (u : St) : Option (St) := match n with
  | 0 => none
  | n + 1 => match pc with
    | 0 => ((FX1_needOf n v1 u).bind fun w_1 => fX1_follow n 9 v1 0 w_1.1 v2 w_1.2)
    | 9 => (if v4 ≤ 0 then ((FX1_shine n v1 v4 u).bind fun w_3 => some w_3) else (if ck v1 7 = true then (if ((gA u 20) v1.toNatClampNeg) = v3 then ((FX1_shine n v1 v4 u).bind fun w_6 => some w_6) else ((FX1_stepTowards n ((gA u 20) v1.toNatClampNeg) v3 u).bind fun w_7 => ((FX1_shine n v1 (1 : Int32) (sA w_7.2 20 (upd (gA w_7.2 20) v1.toNatClampNeg w_7.1))).bind fun w_8 => fX1_follow n 9 v1 0 v3 (v4 + (-1)) w_8))) else none))
    | _ => none
theorem eX1_follow_0 (n : Nat) (v1 : Int32) (v2 : Int32) (v3 : Int32) (v4 : Int32) (u : St) : fX1_follow (n + 1) 0 v1 v2 v3 v4 u = ((FX1_needOf n v1 u).bind fun w_1 => fX1_follow n 9 v1 0 w_1.1 v2 w_1.2) := rfl
theorem eX1_follow_9 (n : Nat) (v1 : Int32) (v2 : Int32) (v3 : Int32) (v4 : Int32) (u : St) : fX1_follow (n + 1) 9 v1 v2 v3 v4 u = (if v4 ≤ 0 then ((FX1_shine n v1 v4 u).bind fun w_3 => some w_3) else (if ck v1 7 = true then (if ((gA u 20) v1.toNatClampNeg) = v3 then ((FX1_shine n v1 v4 u).bind fun w_6 => some w_6) else ((FX1_stepTowards n ((gA u 20) v1.toNatClampNeg) v3 u).bind fun w_7 => ((FX1_shine n v1 (1 : Int32) (sA w_7.2 20 (upd (gA w_7.2 20) v1.toNatClampNeg w_7.1))).bind fun w_8 => fX1_follow n 9 v1 0 v3 (v4 + (-1)) w_8))) else none)) := rfl
theorem vX1_follow_0 (v1 : Int32) (v2 : Int32) (v3 : Int32) (v4 : Int32) (u : St) (r : St) : Ev (fun n => fX1_follow n 0 v1 v2 v3 v4 u) r ↔ Ev (fun n => ((FX1_needOf n v1 u).bind fun w_1 => fX1_follow n 9 v1 0 w_1.1 v2 w_1.2)) r := Ev_succ (fun n => fX1_follow n 0 v1 v2 v3 v4 u) r
theorem vX1_follow_9 (v1 : Int32) (v2 : Int32) (v3 : Int32) (v4 : Int32) (u : St) (r : St) : Ev (fun n => fX1_follow n 9 v1 v2 v3 v4 u) r ↔ Ev (fun n => (if v4 ≤ 0 then ((FX1_shine n v1 v4 u).bind fun w_3 => some w_3) else (if ck v1 7 = true then (if ((gA u 20) v1.toNatClampNeg) = v3 then ((FX1_shine n v1 v4 u).bind fun w_6 => some w_6) else ((FX1_stepTowards n ((gA u 20) v1.toNatClampNeg) v3 u).bind fun w_7 => ((FX1_shine n v1 (1 : Int32) (sA w_7.2 20 (upd (gA w_7.2 20) v1.toNatClampNeg w_7.1))).bind fun w_8 => fX1_follow n 9 v1 0 v3 (v4 + (-1)) w_8))) else none))) r := Ev_succ (fun n => fX1_follow n 9 v1 v2 v3 v4 u) r
def FX1_follow (n : Nat) (v1 : Int32) (v2 : Int32) (u : St) : Option (St) := fX1_follow n 0 v1 v2 0 0 u
set_option maxHeartbeats 4000000 in
set_option maxRecDepth 100000 in
theorem mX1_follow (l : Launch) (dC : Nat → ClassId) (dI : Nat → Nat → Nat) (cI cL : ClassId) (ad : Nat → Nat) (sz : Nat) (u : St) (z1 : Int32) (z2 : Int32) (n : Nat) (r : St) (hf0 : FX1_follow n z1 z2 u = some r) : Met l yX1_follow wsX1_follow ({ frames := 3, cells := 0, slots := 0, locals := 69 }) (va_Pc [.ref (ad 4), .int z1, .int z2] (wPre dC dI cI cL (cw ad cI cL u) sz)) (va_Qv (fun t => t = r) (fun t => wPost dC dI cI cL (va_A (cw ad cI cL u) sz) (cw ad cI cL t)) (va_A (cw ad cI cL u) sz)) 0 0 (va_A (cw ad cI cL u) sz) := by
  refine Met.ofW (cc := cX1_follow) (maxL := 5) (ret := none) (by decide) rfl ?_
  intro p e s m args below meth c s₁ B hml hv
  obtain ⟨rfl, hsz, hP, hK, hD0, hZ⟩ := hv
  have hx := B.exec
  have hb := B.bytes
  have hr := B.returns
  have hts := atoms_spec (ws := wsX1_follow) B.pre
  have hown : s.vm.findClass RX1 = some m.cls := findClass_of_methodNamed B.named
  have hlocks := B.notSynchronized
  subst hsz
  have hD := hD0.self (sz := s.heap.size)
  generalize hAe : va_A (cw ad cI cL u) s.heap.size = A at hD ⊢
  have hA : ∀ q : Nat, s.heap.size ≤ q → A q := fun q h => by rw [← hAe]; exact Or.inr h
  have hS : va_S A s.heap s.heap [] := va_S.rf
  have iX1 : ∀ w ∈ u_ws RX1 TX1 11, w ∈ wsX1_follow := fun _ h => List.mem_cons_of_mem _ (List.mem_append_left _ (List.mem_append_left _ (List.mem_append_right _ h)))
  have k_0 := hts (.fieldLink RX1 18 "LampChoice$Days" "ownLevels" "[I") (by decide +kernel)
  have hl := lv_entry ([.ref (ad 4), .int z1, .int z2]) (n := 5) (Nat.le_of_ble_eq_true rfl)
  rw [lg_entry_eq]
  generalize (lg_sl ([.ref (ad 4), .int z1, .int z2]) ++ List.replicate (5 - (lg_sl ([.ref (ad 4), .int z1, .int z2])).length) Slot.unset).toArray = ls at hl ⊢
  have hl : lv_has ls 5 [(0, .ref (ad 4)), (1, .int z1), (2, .int z2)] := hl
  have key : ∀ n : Nat, (∀ (v1 : Int32) (v2 : Int32) (v3 : Int32) (v4 : Int32) (u : St) (H : Heap) (locs : List Loc) (ls : Array Slot), fX1_follow n 0 v1 v2 v3 v4 u = some r → va_P (dC, dI) vwCl (cw ad cI cL u) H → va_D A (cw ad cI cL u) → va_S A s.heap H locs → lv_has ls 5 [(0, .ref (ad 4)), (1, .int v1), (2, .int v2)] → W p l e (headSpec wsX1_follow ({ frames := 3, cells := 0, slots := 0, locals := 69 })).room s m ([.ref (ad 4), .int z1, .int z2] : List Value).toArray below meth c H locs 0 0 (MQ below (va_Qv (fun t => t = r) (fun t => wPost dC dI cI cL A (cw ad cI cL t)) A) ([.ref (ad 4), .int z1, .int z2] : List Value).toArray s 0 0 A) (F0 m 0 ls [])) ∧ (∀ (v1 : Int32) (v2 : Int32) (v3 : Int32) (v4 : Int32) (u : St) (H : Heap) (locs : List Loc) (ls : Array Slot), fX1_follow n 9 v1 v2 v3 v4 u = some r → va_P (dC, dI) vwCl (cw ad cI cL u) H → va_D A (cw ad cI cL u) → va_S A s.heap H locs → lv_has ls 5 [(0, .ref (ad 4)), (1, .int v1), (3, .int v3), (4, .int v4)] → W p l e (headSpec wsX1_follow ({ frames := 3, cells := 0, slots := 0, locals := 69 })).room s m ([.ref (ad 4), .int z1, .int z2] : List Value).toArray below meth c H locs 0 0 (MQ below (va_Qv (fun t => t = r) (fun t => wPost dC dI cI cL A (cw ad cI cL t)) A) ([.ref (ad 4), .int z1, .int z2] : List Value).toArray s 0 0 A) (F0 m 9 ls [])) := by
    intro n
    induction n with
    | zero => exact ⟨(fun _ _ _ _ _ _ _ _ hf => nomatch (show (none : Option (St)) = some r from hf)), (fun _ _ _ _ _ _ _ _ hf => nomatch (show (none : Option (St)) = some r from hf))⟩
    | succ n ih =>
      obtain ⟨ih0, ih1⟩ := ih
      refine ⟨?_, ?_⟩
      · intro v1 v2 v3 v4 u H locs ls hf hP hD hS hl
        have hf := (eX1_follow_0 n v1 v2 v3 v4 u).symm.trans hf
        refine lv_aload_n hx hb dX1_follow_0 rfl (lv_at hl 0 rfl) ?_
        refine lv_iload_n hx hb dX1_follow_1 rfl (lv_at hl 1 rfl) ?_
        obtain ⟨w_1, hw_1, hf⟩ := ob hf
        have hFc := freeAll hD hS hA
        refine va_calli (va_runV (As := [.int v1]) (rest := []) ⟨hx, hb, hml, hown, hts⟩ (mX1_needOf l dC dI cI cL ad H.size u v1 n w_1 hw_1) (cwV 1 hts gX1_follow_X1_needOf rfl rfl rfl (by decide +kernel) ⟨Nat.le_of_ble_eq_true rfl, Nat.le_of_ble_eq_true rfl⟩) ⟨wPre_blind, va_recv hK hP (ci := 1) (q0 := 4) rfl rfl, wPre_of hP hK hD hZ⟩ rfl rfl hl.1 rfl (lv_room (Nat.le_of_ble_eq_true rfl)) dX1_follow_2 ⟨Nat.zero_le _, Nat.zero_le _⟩) hS (fun q _ h => hFc q h) hFc (fun r2 u2 t H1 locs ht hvm hw hB hz1 hk1 hS => ?_)
        obtain ⟨hP1, hK1, hD1⟩ := hB
        rw [ht] at hP1
        have e1 : r2 = w_1.1 := congrArg Prod.fst hw
        have e2 : u2 = w_1.2 := congrArg Prod.snd hw
        subst r2 u2
        have hP : va_P (dC, dI) vwCl (cw ad cI cL w_1.2) H1 := hP1
        have hD : va_D A (cw ad cI cL w_1.2) := hD1.weaken (fun _ _ _ h => hFc _ h)
        clear hP1 hD1 hK1 hFc hk1
        generalize H1 = H at hP hS ⊢
        refine lv_istore_n (lv' := [(3, .int w_1.1), (0, .ref (ad 4)), (1, .int v1), (2, .int v2)]) hx hb dX1_follow_5 rfl hl (by decide) rfl (fun ls hl => ?_)
        refine lv_iload_n hx hb dX1_follow_6 rfl (lv_at hl 3 rfl) ?_
        refine lv_istore (lv' := [(4, .int v2), (3, .int w_1.1), (0, .ref (ad 4)), (1, .int v1), (2, .int v2)]) hx hb dX1_follow_7 hl (by decide) rfl (fun ls hl => ?_)
        exact ih1 v1 0 w_1.1 v2 w_1.2 H locs ls hf hP hD hS (lv_sub hl [2, 3, 1, 0] rfl)
      · intro v1 v2 v3 v4 u H locs ls hf hP hD hS hl
        have hf := (eX1_follow_9 n v1 v2 v3 v4 u).symm.trans hf
        refine lv_iload hx hb dX1_follow_9 (lv_at hl 3 rfl) ?_
        refine lv_if_le (tgt := 53) hx hb dX1_follow_11 (by decide) (fun c_2 => ?_) (fun c_2 => ?_)
        · have hf := (if_pos c_2).symm.trans hf
          refine lv_aload_n hx hb dX1_follow_53 rfl (lv_at hl 0 rfl) ?_
          refine lv_iload_n hx hb dX1_follow_54 rfl (lv_at hl 1 rfl) ?_
          refine lv_iload hx hb dX1_follow_55 (lv_at hl 3 rfl) ?_
          obtain ⟨w_3, hw_3, hf⟩ := ob hf
          have hFc := freeAll hD hS hA
          refine va_callv (va_runV (As := [.int v1, .int v4]) (rest := []) ⟨hx, hb, hml, hown, hts⟩ (mX1_shine l dC dI cI cL ad H.size u v1 v4 n w_3 hw_3) (cwV 2 hts gX1_follow_X1_shine rfl rfl rfl (by decide +kernel) ⟨Nat.le_of_ble_eq_true rfl, Nat.le_of_ble_eq_true rfl⟩) ⟨wPre_blind, va_recv hK hP (ci := 1) (q0 := 4) rfl rfl, wPre_of hP hK hD hZ⟩ rfl rfl hl.1 rfl (lv_room (Nat.le_of_ble_eq_true rfl)) dX1_follow_57 ⟨Nat.zero_le _, Nat.zero_le _⟩) hS (fun q _ h => hFc q h) hFc (fun u2 t H1 locs ht hvm hw hB hz1 hk1 hS => ?_)
          obtain ⟨hP1, hK1, hD1⟩ := hB
          rw [ht] at hP1
          subst u2
          have hP : va_P (dC, dI) vwCl (cw ad cI cL w_3) H1 := hP1
          have hD : va_D A (cw ad cI cL w_3) := hD1.weaken (fun _ _ _ h => hFc _ h)
          clear hP1 hD1 hK1 hFc hk1
          generalize H1 = H at hP hS ⊢
          have hf := Option.some.inj hf
          exact W.vret hx hb hr (fun t ht hW => ⟨⟨w_3, rfl, hf, ⟨by rw [ht]; exact hP, va_K.moved hW.alike hK, hD⟩⟩, hS.F ht⟩) hS.2.2 dX1_follow_60
        · have hf := (if_neg c_2).symm.trans hf
          refine lv_aload_n hx hb dX1_follow_14 rfl (lv_at hl 0 rfl) ?_
          refine va_get (D := (dC, dI)) (ci := 1) (v := .ref (ad 26)) (C := RX1) (T := TX1) (N := 11) hx hb hts iX1 hown hK hP 4 rfl rfl 4 (by decide) k_0 (fun _ h9 => h9) rfl dX1_follow_15 ?_
          refine lv_iload_n hx hb dX1_follow_18 rfl (lv_at hl 1 rfl) ?_
          obtain ⟨h_4, hf⟩ := ck_of hf
          refine va_iald (f := (gA u 20)) hx hb hK hP 26 0 rfl rfl h_4 dX1_follow_19 ?_
          refine lv_iload_n hx hb dX1_follow_20 rfl (lv_at hl 2 rfl) ?_
          refine lv_icmp_eq (tgt := 53) hx hb dX1_follow_21 (by decide) (fun c_5 => ?_) (fun c_5 => ?_)
          · have hf := (if_pos c_5).symm.trans hf
            refine lv_aload_n hx hb dX1_follow_53 rfl (lv_at hl 0 rfl) ?_
            refine lv_iload_n hx hb dX1_follow_54 rfl (lv_at hl 1 rfl) ?_
            refine lv_iload hx hb dX1_follow_55 (lv_at hl 3 rfl) ?_
            obtain ⟨w_6, hw_6, hf⟩ := ob hf
            have hFc := freeAll hD hS hA
            refine va_callv (va_runV (As := [.int v1, .int v4]) (rest := []) ⟨hx, hb, hml, hown, hts⟩ (mX1_shine l dC dI cI cL ad H.size u v1 v4 n w_6 hw_6) (cwV 2 hts gX1_follow_X1_shine rfl rfl rfl (by decide +kernel) ⟨Nat.le_of_ble_eq_true rfl, Nat.le_of_ble_eq_true rfl⟩) ⟨wPre_blind, va_recv hK hP (ci := 1) (q0 := 4) rfl rfl, wPre_of hP hK hD hZ⟩ rfl rfl hl.1 rfl (lv_room (Nat.le_of_ble_eq_true rfl)) dX1_follow_57 ⟨Nat.zero_le _, Nat.zero_le _⟩) hS (fun q _ h => hFc q h) hFc (fun u2 t H1 locs ht hvm hw hB hz1 hk1 hS => ?_)
            obtain ⟨hP1, hK1, hD1⟩ := hB
            rw [ht] at hP1
            subst u2
            have hP : va_P (dC, dI) vwCl (cw ad cI cL w_6) H1 := hP1
            have hD : va_D A (cw ad cI cL w_6) := hD1.weaken (fun _ _ _ h => hFc _ h)
            clear hP1 hD1 hK1 hFc hk1
            generalize H1 = H at hP hS ⊢
            have hf := Option.some.inj hf
            exact W.vret hx hb hr (fun t ht hW => ⟨⟨w_6, rfl, hf, ⟨by rw [ht]; exact hP, va_K.moved hW.alike hK, hD⟩⟩, hS.F ht⟩) hS.2.2 dX1_follow_60
          · have hf := (if_neg c_5).symm.trans hf
            refine lv_aload_n hx hb dX1_follow_24 rfl (lv_at hl 0 rfl) ?_
            refine va_get (D := (dC, dI)) (ci := 1) (v := .ref (ad 26)) (C := RX1) (T := TX1) (N := 11) hx hb hts iX1 hown hK hP 4 rfl rfl 4 (by decide) k_0 (fun _ h9 => h9) rfl dX1_follow_25 ?_
            refine lv_iload_n hx hb dX1_follow_28 rfl (lv_at hl 1 rfl) ?_
            refine lv_aload_n hx hb dX1_follow_29 rfl (lv_at hl 0 rfl) ?_
            refine lv_aload_n hx hb dX1_follow_30 rfl (lv_at hl 0 rfl) ?_
            refine va_get (D := (dC, dI)) (ci := 1) (v := .ref (ad 26)) (C := RX1) (T := TX1) (N := 11) hx hb hts iX1 hown hK hP 4 rfl rfl 4 (by decide) k_0 (fun _ h9 => h9) rfl dX1_follow_31 ?_
            refine lv_iload_n hx hb dX1_follow_34 rfl (lv_at hl 1 rfl) ?_
            refine va_iald (f := (gA u 20)) hx hb hK hP 26 0 rfl rfl h_4 dX1_follow_35 ?_
            refine lv_iload_n hx hb dX1_follow_36 rfl (lv_at hl 2 rfl) ?_
            obtain ⟨w_7, hw_7, hf⟩ := ob hf
            have hFc := freeAll hD hS hA
            refine va_calli (va_runV (As := [.int ((gA u 20) v1.toNatClampNeg), .int v3]) (rest := [.int v1, .ref (ad 26)]) ⟨hx, hb, hml, hown, hts⟩ (mX1_stepTowards l dC dI cI cL ad H.size u ((gA u 20) v1.toNatClampNeg) v3 n w_7 hw_7) (cwV 2 hts gX1_follow_X1_stepTowards rfl rfl rfl (by decide +kernel) ⟨Nat.le_of_ble_eq_true rfl, Nat.le_of_ble_eq_true rfl⟩) ⟨wPre_blind, va_recv hK hP (ci := 1) (q0 := 4) rfl rfl, wPre_of hP hK hD hZ⟩ rfl rfl hl.1 rfl (lv_room (Nat.le_of_ble_eq_true rfl)) dX1_follow_37 ⟨Nat.zero_le _, Nat.zero_le _⟩) hS (fun q _ h => hFc q h) hFc (fun r2 u2 t H1 locs ht hvm hw hB hz1 hk1 hS => ?_)
            obtain ⟨hP1, hK1, hD1⟩ := hB
            rw [ht] at hP1
            have e1 : r2 = w_7.1 := congrArg Prod.fst hw
            have e2 : u2 = w_7.2 := congrArg Prod.snd hw
            subst r2 u2
            have hP : va_P (dC, dI) vwCl (cw ad cI cL w_7.2) H1 := hP1
            have hD : va_D A (cw ad cI cL w_7.2) := hD1.weaken (fun _ _ _ h => hFc _ h)
            clear hP1 hD1 hK1 hFc hk1
            generalize H1 = H at hP hS ⊢
            refine va_iast (f := (gA w_7.2 20)) hx hb hK hP hD hS 26 0 rfl rfl h_4 dX1_follow_40 (fun H locs hP hD hS => ?_)
            have hP : va_P (dC, dI) vwCl (cw ad cI cL (sA w_7.2 20 (upd (gA w_7.2 20) v1.toNatClampNeg w_7.1))) H := hP
            have hD : va_D A (cw ad cI cL (sA w_7.2 20 (upd (gA w_7.2 20) v1.toNatClampNeg w_7.1))) := hD
            refine lv_aload_n hx hb dX1_follow_41 rfl (lv_at hl 0 rfl) ?_
            refine lv_iload_n hx hb dX1_follow_42 rfl (lv_at hl 1 rfl) ?_
            refine lv_iconst (v := 1) hx hb dX1_follow_43 (by decide) ?_
            obtain ⟨w_8, hw_8, hf⟩ := ob hf
            have hFc := freeAll hD hS hA
            refine va_callv (va_runV (As := [.int v1, .int (1 : Int32)]) (rest := []) ⟨hx, hb, hml, hown, hts⟩ (mX1_shine l dC dI cI cL ad H.size (sA w_7.2 20 (upd (gA w_7.2 20) v1.toNatClampNeg w_7.1)) v1 (1 : Int32) n w_8 hw_8) (cwV 2 hts gX1_follow_X1_shine rfl rfl rfl (by decide +kernel) ⟨Nat.le_of_ble_eq_true rfl, Nat.le_of_ble_eq_true rfl⟩) ⟨wPre_blind, va_recv hK hP (ci := 1) (q0 := 4) rfl rfl, wPre_of hP hK hD hZ⟩ rfl rfl hl.1 rfl (lv_room (Nat.le_of_ble_eq_true rfl)) dX1_follow_44 ⟨Nat.zero_le _, Nat.zero_le _⟩) hS (fun q _ h => hFc q h) hFc (fun u2 t H1 locs ht hvm hw hB hz1 hk1 hS => ?_)
            obtain ⟨hP1, hK1, hD1⟩ := hB
            rw [ht] at hP1
            subst u2
            have hP : va_P (dC, dI) vwCl (cw ad cI cL w_8) H1 := hP1
            have hD : va_D A (cw ad cI cL w_8) := hD1.weaken (fun _ _ _ h => hFc _ h)
            clear hP1 hD1 hK1 hFc hk1
            generalize H1 = H at hP hS ⊢
            refine lv_iinc (v := (v4 + (-1))) (lv' := [(4, .int (v4 + (-1))), (0, .ref (ad 4)), (1, .int v1), (3, .int v3)]) hx hb dX1_follow_47 hl (k := 3) rfl rfl (by decide) rfl (fun ls hl => ?_)
            refine lv_goto (tgt := 9) hx hb dX1_follow_50 (by decide) ?_
            exact ih1 v1 0 v3 (v4 + (-1)) w_8 H locs ls hf hP hD hS (lv_sub hl [1, 2, 3, 0] rfl)
  exact (key n).1 z1 z2 0 0 u _ _ ls hf0 hP hD hS (lv_sub hl [0, 1, 2] rfl)

def fX1_pass (n pc : Nat) (v1 : Int32) (v2 : Int32) (u : St) : Option (St) := match n with
  | 0 => none
  | n + 1 => match pc with
    | 0 => fX1_pass n 2 v1 (0 : Int32) u
    | 2 => (if (gI u 1) ≤ v2 then some (sI u 10 ((gI u 10) + v1)) else (if ck v2 7 = true then (if ((gA u 14) v2.toNatClampNeg) = (-1 : Int32) then fX1_pass n 2 v1 (v2 + 1) u else ((FX1_follow n v2 v1 u).bind fun w_4 => fX1_pass n 2 v1 (v2 + 1) w_4)) else none))
    | _ => none
theorem eX1_pass_0 (n : Nat) (v1 : Int32) (v2 : Int32) (u : St) : fX1_pass (n + 1) 0 v1 v2 u = fX1_pass n 2 v1 (0 : Int32) u := rfl
theorem eX1_pass_2 (n : Nat) (v1 : Int32) (v2 : Int32) (u : St) : fX1_pass (n + 1) 2 v1 v2 u = (if (gI u 1) ≤ v2 then some (sI u 10 ((gI u 10) + v1)) else (if ck v2 7 = true then (if ((gA u 14) v2.toNatClampNeg) = (-1 : Int32) then fX1_pass n 2 v1 (v2 + 1) u else ((FX1_follow n v2 v1 u).bind fun w_4 => fX1_pass n 2 v1 (v2 + 1) w_4)) else none)) := rfl
theorem vX1_pass_0 (v1 : Int32) (v2 : Int32) (u : St) (r : St) : Ev (fun n => fX1_pass n 0 v1 v2 u) r ↔ Ev (fun n => fX1_pass n 2 v1 (0 : Int32) u) r := Ev_succ (fun n => fX1_pass n 0 v1 v2 u) r
theorem vX1_pass_2 (v1 : Int32) (v2 : Int32) (u : St) (r : St) : Ev (fun n => fX1_pass n 2 v1 v2 u) r ↔ Ev (fun n => (if (gI u 1) ≤ v2 then some (sI u 10 ((gI u 10) + v1)) else (if ck v2 7 = true then (if ((gA u 14) v2.toNatClampNeg) = (-1 : Int32) then fX1_pass n 2 v1 (v2 + 1) u else ((FX1_follow n v2 v1 u).bind fun w_4 => fX1_pass n 2 v1 (v2 + 1) w_4)) else none))) r := Ev_succ (fun n => fX1_pass n 2 v1 v2 u) r
def FX1_pass (n : Nat) (v1 : Int32) (u : St) : Option (St) := fX1_pass n 0 v1 0 u
set_option maxHeartbeats 4000000 in
set_option maxRecDepth 100000 in
theorem mX1_pass (l : Launch) (dC : Nat → ClassId) (dI : Nat → Nat → Nat) (cI cL : ClassId) (ad : Nat → Nat) (sz : Nat) (u : St) (z1 : Int32) (n : Nat) (r : St) (hf0 : FX1_pass n z1 u = some r) : Met l yX1_pass wsX1_pass ({ frames := 4, cells := 0, slots := 0, locals := 93 }) (va_Pc [.ref (ad 4), .int z1] (wPre dC dI cI cL (cw ad cI cL u) sz)) (va_Qv (fun t => t = r) (fun t => wPost dC dI cI cL (va_A (cw ad cI cL u) sz) (cw ad cI cL t)) (va_A (cw ad cI cL u) sz)) 0 0 (va_A (cw ad cI cL u) sz) := by
  refine Met.ofW (cc := cX1_pass) (maxL := 3) (ret := none) (by decide) rfl ?_
  intro p e s m args below meth c s₁ B hml hv
  obtain ⟨rfl, hsz, hP, hK, hD0, hZ⟩ := hv
  have hx := B.exec
  have hb := B.bytes
  have hr := B.returns
  have hts := atoms_spec (ws := wsX1_pass) B.pre
  have hown : s.vm.findClass RX1 = some m.cls := findClass_of_methodNamed B.named
  have hlocks := B.notSynchronized
  subst hsz
  have hD := hD0.self (sz := s.heap.size)
  generalize hAe : va_A (cw ad cI cL u) s.heap.size = A at hD ⊢
  have hA : ∀ q : Nat, s.heap.size ≤ q → A q := fun q h => by rw [← hAe]; exact Or.inr h
  have hS : va_S A s.heap s.heap [] := va_S.rf
  have iX0 : ∀ w ∈ u_ws RX0 TX0 12, w ∈ wsX1_pass := fun _ h => List.mem_cons_of_mem _ (List.mem_append_right _ h)
  have iX1 : ∀ w ∈ u_ws RX1 TX1 11, w ∈ wsX1_pass := fun _ h => List.mem_cons_of_mem _ (List.mem_append_left _ (List.mem_append_left _ (List.mem_append_right _ h)))
  have iX2 : ∀ w ∈ u_ws RX2 TX2 14, w ∈ wsX1_pass := fun _ h => List.mem_cons_of_mem _ (List.mem_append_left _ (List.mem_append_right _ h))
  have k_0 := hts (.fieldLink RX1 28 "LampChoice$Days" "room" "LLampChoice$Room;") (by decide +kernel)
  have k_1 := hts (.fieldLink RX1 42 "LampChoice$Room" "places" "I") (by decide +kernel)
  have k_2 := hts (.fieldLink RX1 56 "LampChoice$Days" "minutes" "I") (by decide +kernel)
  have k_3 := hts (.fieldLink RX1 32 "LampChoice$Days" "choice" "LLampChoice$Choice;") (by decide +kernel)
  have k_4 := hts (.fieldLink RX1 47 "LampChoice$Choice" "lamps" "[I") (by decide +kernel)
  have hl := lv_entry ([.ref (ad 4), .int z1]) (n := 3) (Nat.le_of_ble_eq_true rfl)
  rw [lg_entry_eq]
  generalize (lg_sl ([.ref (ad 4), .int z1]) ++ List.replicate (3 - (lg_sl ([.ref (ad 4), .int z1])).length) Slot.unset).toArray = ls at hl ⊢
  have hl : lv_has ls 3 [(0, .ref (ad 4)), (1, .int z1)] := hl
  have key : ∀ n : Nat, (∀ (v1 : Int32) (v2 : Int32) (u : St) (H : Heap) (locs : List Loc) (ls : Array Slot), fX1_pass n 0 v1 v2 u = some r → va_P (dC, dI) vwCl (cw ad cI cL u) H → va_D A (cw ad cI cL u) → va_S A s.heap H locs → lv_has ls 3 [(0, .ref (ad 4)), (1, .int v1)] → W p l e (headSpec wsX1_pass ({ frames := 4, cells := 0, slots := 0, locals := 93 })).room s m ([.ref (ad 4), .int z1] : List Value).toArray below meth c H locs 0 0 (MQ below (va_Qv (fun t => t = r) (fun t => wPost dC dI cI cL A (cw ad cI cL t)) A) ([.ref (ad 4), .int z1] : List Value).toArray s 0 0 A) (F0 m 0 ls [])) ∧ (∀ (v1 : Int32) (v2 : Int32) (u : St) (H : Heap) (locs : List Loc) (ls : Array Slot), fX1_pass n 2 v1 v2 u = some r → va_P (dC, dI) vwCl (cw ad cI cL u) H → va_D A (cw ad cI cL u) → va_S A s.heap H locs → lv_has ls 3 [(0, .ref (ad 4)), (1, .int v1), (2, .int v2)] → W p l e (headSpec wsX1_pass ({ frames := 4, cells := 0, slots := 0, locals := 93 })).room s m ([.ref (ad 4), .int z1] : List Value).toArray below meth c H locs 0 0 (MQ below (va_Qv (fun t => t = r) (fun t => wPost dC dI cI cL A (cw ad cI cL t)) A) ([.ref (ad 4), .int z1] : List Value).toArray s 0 0 A) (F0 m 2 ls [])) := by
    intro n
    induction n with
    | zero => exact ⟨(fun _ _ _ _ _ _ hf => nomatch (show (none : Option (St)) = some r from hf)), (fun _ _ _ _ _ _ hf => nomatch (show (none : Option (St)) = some r from hf))⟩
    | succ n ih =>
      obtain ⟨ih0, ih1⟩ := ih
      refine ⟨?_, ?_⟩
      · intro v1 v2 u H locs ls hf hP hD hS hl
        have hf := (eX1_pass_0 n v1 v2 u).symm.trans hf
        refine lv_iconst (v := 0) hx hb dX1_pass_0 (by decide) ?_
        refine lv_istore_n (lv' := [(2, .int (0 : Int32)), (0, .ref (ad 4)), (1, .int v1)]) hx hb dX1_pass_1 rfl hl (by decide) rfl (fun ls hl => ?_)
        exact ih1 v1 (0 : Int32) u H locs ls hf hP hD hS (lv_sub hl [1, 2, 0] rfl)
      · intro v1 v2 u H locs ls hf hP hD hS hl
        have hf := (eX1_pass_2 n v1 v2 u).symm.trans hf
        refine lv_iload_n hx hb dX1_pass_2 rfl (lv_at hl 2 rfl) ?_
        refine lv_aload_n hx hb dX1_pass_3 rfl (lv_at hl 0 rfl) ?_
        refine va_get (D := (dC, dI)) (ci := 1) (v := .ref (ad 1)) (C := RX1) (T := TX1) (N := 11) hx hb hts iX1 hown hK hP 4 rfl rfl 0 (by decide) k_0 (fun _ h9 => h9) rfl dX1_pass_4 ?_
        refine va_get (D := (dC, dI)) (ci := 2) (v := .int (gI u 1)) (C := RX2) (T := TX2) (N := 14) hx hb hts iX2 hown hK hP 1 rfl rfl 11 (by decide) k_1 (fun _ h9 => h9) rfl dX1_pass_7 ?_
        refine lv_icmp_ge (tgt := 38) hx hb dX1_pass_10 (by decide) (fun c_1 => ?_) (fun c_1 => ?_)
        · have hf := (if_pos c_1).symm.trans hf
          refine lv_aload_n hx hb dX1_pass_38 rfl (lv_at hl 0 rfl) ?_
          refine lv_dup hx hb dX1_pass_39 rfl ?_
          refine va_get (D := (dC, dI)) (ci := 1) (v := .int (gI u 10)) (C := RX1) (T := TX1) (N := 11) hx hb hts iX1 hown hK hP 4 rfl rfl 7 (by decide) k_2 (fun _ h9 => h9) rfl dX1_pass_40 ?_
          refine lv_iload_n hx hb dX1_pass_43 rfl (lv_at hl 1 rfl) ?_
          refine lv_iadd hx hb dX1_pass_44 ?_
          refine va_put (D := (dC, dI)) (ci := 1) (v := .int ((gI u 10) + v1)) (ty := .int) (C := RX1) (T := TX1) (N := 11) hx hb hts iX1 tyX1 tyX1_ok nmX1 hown hK hP hD hS 4 rfl rfl 7 (by decide) k_2 (fun _ h9 => h9) rfl (by decide +kernel) rfl rfl (Nat.le_of_ble_eq_true rfl) dX1_pass_45 (fun H locs hP hD hS => ?_)
          have hP : va_P (dC, dI) vwCl (cw ad cI cL (sI u 10 ((gI u 10) + v1))) H := hP
          have hD : va_D A (cw ad cI cL (sI u 10 ((gI u 10) + v1))) := hD
          have hf := Option.some.inj hf
          exact W.vret hx hb hr (fun t ht hW => ⟨⟨(sI u 10 ((gI u 10) + v1)), rfl, hf, ⟨by rw [ht]; exact hP, va_K.moved hW.alike hK, hD⟩⟩, hS.F ht⟩) hS.2.2 dX1_pass_48
        · have hf := (if_neg c_1).symm.trans hf
          refine lv_aload_n hx hb dX1_pass_13 rfl (lv_at hl 0 rfl) ?_
          refine va_get (D := (dC, dI)) (ci := 1) (v := .ref (ad 2)) (C := RX1) (T := TX1) (N := 11) hx hb hts iX1 hown hK hP 4 rfl rfl 1 (by decide) k_3 (fun _ h9 => h9) rfl dX1_pass_14 ?_
          refine va_get (D := (dC, dI)) (ci := 0) (v := .ref (ad 19)) (C := RX0) (T := TX0) (N := 12) hx hb hts iX0 hown hK hP 2 rfl rfl 7 (by decide) k_4 (fun _ h9 => h9) rfl dX1_pass_17 ?_
          refine lv_iload_n hx hb dX1_pass_20 rfl (lv_at hl 2 rfl) ?_
          obtain ⟨h_2, hf⟩ := ck_of hf
          refine va_iald (f := (gA u 14)) hx hb hK hP 19 0 rfl rfl h_2 dX1_pass_21 ?_
          refine lv_iconst (v := -1) hx hb dX1_pass_22 (by decide) ?_
          refine lv_icmp_eq (tgt := 32) hx hb dX1_pass_23 (by decide) (fun c_3 => ?_) (fun c_3 => ?_)
          · have hf := (if_pos c_3).symm.trans hf
            refine lv_iinc (v := (v2 + 1)) (lv' := [(2, .int (v2 + 1)), (0, .ref (ad 4)), (1, .int v1)]) hx hb dX1_pass_32 hl (k := 2) rfl rfl (by decide) rfl (fun ls hl => ?_)
            refine lv_goto (tgt := 2) hx hb dX1_pass_35 (by decide) ?_
            exact ih1 v1 (v2 + 1) u H locs ls hf hP hD hS (lv_sub hl [1, 2, 0] rfl)
          · have hf := (if_neg c_3).symm.trans hf
            refine lv_aload_n hx hb dX1_pass_26 rfl (lv_at hl 0 rfl) ?_
            refine lv_iload_n hx hb dX1_pass_27 rfl (lv_at hl 2 rfl) ?_
            refine lv_iload_n hx hb dX1_pass_28 rfl (lv_at hl 1 rfl) ?_
            obtain ⟨w_4, hw_4, hf⟩ := ob hf
            have hFc := freeAll hD hS hA
            refine va_callv (va_runV (As := [.int v2, .int v1]) (rest := []) ⟨hx, hb, hml, hown, hts⟩ (mX1_follow l dC dI cI cL ad H.size u v2 v1 n w_4 hw_4) (cwV 2 hts gX1_pass_X1_follow rfl rfl rfl (by decide +kernel) ⟨Nat.le_of_ble_eq_true rfl, Nat.le_of_ble_eq_true rfl⟩) ⟨wPre_blind, va_recv hK hP (ci := 1) (q0 := 4) rfl rfl, wPre_of hP hK hD hZ⟩ rfl rfl hl.1 rfl (lv_room (Nat.le_of_ble_eq_true rfl)) dX1_pass_29 ⟨Nat.zero_le _, Nat.zero_le _⟩) hS (fun q _ h => hFc q h) hFc (fun u2 t H1 locs ht hvm hw hB hz1 hk1 hS => ?_)
            obtain ⟨hP1, hK1, hD1⟩ := hB
            rw [ht] at hP1
            subst u2
            have hP : va_P (dC, dI) vwCl (cw ad cI cL w_4) H1 := hP1
            have hD : va_D A (cw ad cI cL w_4) := hD1.weaken (fun _ _ _ h => hFc _ h)
            clear hP1 hD1 hK1 hFc hk1
            generalize H1 = H at hP hS ⊢
            refine lv_iinc (v := (v2 + 1)) (lv' := [(2, .int (v2 + 1)), (0, .ref (ad 4)), (1, .int v1)]) hx hb dX1_pass_32 hl (k := 2) rfl rfl (by decide) rfl (fun ls hl => ?_)
            refine lv_goto (tgt := 2) hx hb dX1_pass_35 (by decide) ?_
            exact ih1 v1 (v2 + 1) w_4 H locs ls hf hP hD hS (lv_sub hl [1, 2, 0] rfl)
  exact (key n).1 z1 0 u _ _ ls hf0 hP hD hS (lv_sub hl [0, 1] rfl)

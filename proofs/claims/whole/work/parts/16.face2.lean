def fX4_best (n pc : Nat) (u : St) : Option (Int32 × St) := match n with
  | 0 => none
  | n + 1 => match pc with
    | 0 => ((FX0_settle n  u).bind fun w_1 => (if (gI w_1 5) = 0 then some ((-2 : Int32), w_1) else some ((gI w_1 4), w_1)))
    | _ => none
theorem eX4_best_0 (n : Nat) (u : St) : fX4_best (n + 1) 0  u = ((FX0_settle n  u).bind fun w_1 => (if (gI w_1 5) = 0 then some ((-2 : Int32), w_1) else some ((gI w_1 4), w_1))) := rfl
theorem vX4_best_0 (u : St) (r : Int32 × St) : Ev (fun n => fX4_best n 0  u) r ↔ Ev (fun n => ((FX0_settle n  u).bind fun w_1 => (if (gI w_1 5) = 0 then some ((-2 : Int32), w_1) else some ((gI w_1 4), w_1)))) r := Ev_succ (fun n => fX4_best n 0  u) r
def FX4_best (n : Nat) (u : St) : Option (Int32 × St) := fX4_best n 0  u
set_option maxHeartbeats 4000000 in
set_option maxRecDepth 100000 in
theorem mX4_best (l : Launch) (dC : Nat → ClassId) (dI : Nat → Nat → Nat) (cI cL : ClassId) (ad : Nat → Nat) (sz : Nat) (u : St) (n : Nat) (r : Int32 × St) (hf0 : FX4_best n  u = some r) : Met l yX4_best wsX4_best ({ frames := 12, cells := 0, slots := 0, locals := 323 }) (va_Pc [.ref (ad 0)] (wPre dC dI cI cL (cw ad cI cL u) sz)) (va_Qi (fun a t => (a, t) = r) (fun t => wPost dC dI cI cL (va_A (cw ad cI cL u) sz) (cw ad cI cL t)) (va_A (cw ad cI cL u) sz)) 0 0 (va_A (cw ad cI cL u) sz) := by
  refine Met.ofW (cc := cX4_best) (maxL := 1) (ret := (some .int)) (by decide) rfl ?_
  intro p e s m args below meth c s₁ B hml hv
  obtain ⟨rfl, hsz, hP, hK, hD0, hZ⟩ := hv
  have hx := B.exec
  have hb := B.bytes
  have hr := B.returns
  have hts := atoms_spec (ws := wsX4_best) B.pre
  have hown : s.vm.findClass RX4 = some m.cls := findClass_of_methodNamed B.named
  have hlocks := B.notSynchronized
  subst hsz
  have hD := hD0.self (sz := s.heap.size)
  generalize hAe : va_A (cw ad cI cL u) s.heap.size = A at hD ⊢
  have hA : ∀ q : Nat, s.heap.size ≤ q → A q := fun q h => by rw [← hAe]; exact Or.inr h
  have hS : va_S A s.heap s.heap [] := va_S.rf
  have iX0 : ∀ w ∈ u_ws RX0 TX0 12, w ∈ wsX4_best := fun _ h => List.mem_cons_of_mem _ (List.mem_append_left _ (List.mem_append_right _ h))
  have iX4 : ∀ w ∈ u_ws RX4 TX4 4, w ∈ wsX4_best := fun _ h => List.mem_cons_of_mem _ (List.mem_append_left _ (List.mem_append_left _ (List.mem_append_right _ h)))
  have k_0 := hts (.fieldLink RX4 21 "LampChoice" "choice" "LLampChoice$Choice;") (by decide +kernel)
  have k_1 := hts (.fieldLink RX4 95 "LampChoice$Choice" "found" "Z") (by decide +kernel)
  have k_2 := hts (.fieldLink RX4 99 "LampChoice$Choice" "watts" "I") (by decide +kernel)
  have hl := lv_entry ([.ref (ad 0)]) (n := 1) (Nat.le_of_ble_eq_true rfl)
  rw [lg_entry_eq]
  generalize (lg_sl ([.ref (ad 0)]) ++ List.replicate (1 - (lg_sl ([.ref (ad 0)])).length) Slot.unset).toArray = ls at hl ⊢
  have hl : lv_has ls 1 [(0, .ref (ad 0))] := hl
  have key : ∀ n : Nat, (∀ (u : St) (H : Heap) (locs : List Loc) (ls : Array Slot), fX4_best n 0  u = some r → va_P (dC, dI) vwCl (cw ad cI cL u) H → va_D A (cw ad cI cL u) → va_S A s.heap H locs → lv_has ls 1 [(0, .ref (ad 0))] → W p l e (headSpec wsX4_best ({ frames := 12, cells := 0, slots := 0, locals := 323 })).room s m ([.ref (ad 0)] : List Value).toArray below meth c H locs 0 0 (MQ below (va_Qi (fun a t => (a, t) = r) (fun t => wPost dC dI cI cL A (cw ad cI cL t)) A) ([.ref (ad 0)] : List Value).toArray s 0 0 A) (F0 m 0 ls [])) := by
    intro n
    induction n with
    | zero => exact (fun _ _ _ _ hf => nomatch (show (none : Option (Int32 × St)) = some r from hf))
    | succ n ih =>
      have ih0 := ih
      · intro  u H locs ls hf hP hD hS hl
        have hf := (eX4_best_0 n  u).symm.trans hf
        refine lv_aload_n hx hb dX4_best_0 rfl (lv_at hl 0 rfl) ?_
        refine va_get (D := (dC, dI)) (ci := 4) (v := .ref (ad 2)) (C := RX4) (T := TX4) (N := 4) hx hb hts iX4 hown hK hP 0 rfl rfl 1 (by decide) k_0 (fun _ h9 => h9) rfl dX4_best_1 ?_
        obtain ⟨w_1, hw_1, hf⟩ := ob hf
        have hFc := freeAll hD hS hA
        refine va_callv (va_runV (As := []) (rest := []) ⟨hx, hb, hml, hown, hts⟩ (mX0_settle l dC dI cI cL ad H.size u  n w_1 hw_1) (cwV 0 hts gX4_best_X0_settle rfl rfl rfl (by decide +kernel) ⟨Nat.le_of_ble_eq_true rfl, Nat.le_of_ble_eq_true rfl⟩) ⟨wPre_blind, va_recv hK hP (ci := 0) (q0 := 2) rfl rfl, wPre_of hP hK hD hZ⟩ rfl rfl hl.1 rfl (lv_room (Nat.le_of_ble_eq_true rfl)) dX4_best_4 ⟨Nat.zero_le _, Nat.zero_le _⟩) hS (fun q _ h => hFc q h) hFc (fun u2 t H1 locs ht hvm hw hB hz1 hk1 hS => ?_)
        obtain ⟨hP1, hK1, hD1⟩ := hB
        rw [ht] at hP1
        subst u2
        have hP : va_P (dC, dI) vwCl (cw ad cI cL w_1) H1 := hP1
        have hD : va_D A (cw ad cI cL w_1) := hD1.weaken (fun _ _ _ h => hFc _ h)
        clear hP1 hD1 hK1 hFc hk1
        generalize H1 = H at hP hS ⊢
        refine lv_aload_n hx hb dX4_best_7 rfl (lv_at hl 0 rfl) ?_
        refine va_get (D := (dC, dI)) (ci := 4) (v := .ref (ad 2)) (C := RX4) (T := TX4) (N := 4) hx hb hts iX4 hown hK hP 0 rfl rfl 1 (by decide) k_0 (fun _ h9 => h9) rfl dX4_best_8 ?_
        refine va_get (D := (dC, dI)) (ci := 0) (v := .int (gI w_1 5)) (C := RX0) (T := TX0) (N := 12) hx hb hts iX0 hown hK hP 2 rfl rfl 10 (by decide) k_1 (fun _ h9 => h9) rfl dX4_best_11 ?_
        refine lv_if_eq (tgt := 27) hx hb dX4_best_14 (by decide) (fun c_2 => ?_) (fun c_2 => ?_)
        · have hf := (if_pos c_2).symm.trans hf
          refine lv_bipush (v := -2) hx hb dX4_best_27 (by decide) ?_
          have hf := Option.some.inj hf
          exact W.iret (v := (-2 : Int32)) hx hb hr (fun t ht hW => ⟨⟨(-2 : Int32), w_1, rfl, hf, ⟨by rw [ht]; exact hP, va_K.moved hW.alike hK, hD⟩⟩, hS.F ht⟩) hS.2.2 dX4_best_29
        · have hf := (if_neg c_2).symm.trans hf
          refine lv_aload_n hx hb dX4_best_17 rfl (lv_at hl 0 rfl) ?_
          refine va_get (D := (dC, dI)) (ci := 4) (v := .ref (ad 2)) (C := RX4) (T := TX4) (N := 4) hx hb hts iX4 hown hK hP 0 rfl rfl 1 (by decide) k_0 (fun _ h9 => h9) rfl dX4_best_18 ?_
          refine va_get (D := (dC, dI)) (ci := 0) (v := .int (gI w_1 4)) (C := RX0) (T := TX0) (N := 12) hx hb hts iX0 hown hK hP 2 rfl rfl 9 (by decide) k_2 (fun _ h9 => h9) rfl dX4_best_21 ?_
          refine lv_goto (tgt := 29) hx hb dX4_best_24 (by decide) ?_
          have hf := Option.some.inj hf
          exact W.iret (v := (gI w_1 4)) hx hb hr (fun t ht hW => ⟨⟨(gI w_1 4), w_1, rfl, hf, ⟨by rw [ht]; exact hP, va_K.moved hW.alike hK, hD⟩⟩, hS.F ht⟩) hS.2.2 dX4_best_29
  exact (key n)  u _ _ ls hf0 hP hD hS (lv_sub hl [0] rfl)

def fX4_lamp (n pc : Nat) (v1 : Int32) (u : St) : Option (Nat × Int32 × St) := match n with
  | 0 => none
  | n + 1 => match pc with
    | 0 => ((FX4_checkPlace n v1 u).bind fun w_1 => (if w_1.1 = 0 then ((FX0_settle n  w_1.2).bind fun w_2 => (if (gI w_2 5) = 0 then some (0, (-2 : Int32), w_2) else (if ck v1 7 = true then some (0, ((gA w_2 14) v1.toNatClampNeg), w_2) else none))) else some (w_1.1, (0 : Int32), w_1.2)))
    | _ => none
theorem eX4_lamp_0 (n : Nat) (v1 : Int32) (u : St) : fX4_lamp (n + 1) 0 v1 u = ((FX4_checkPlace n v1 u).bind fun w_1 => (if w_1.1 = 0 then ((FX0_settle n  w_1.2).bind fun w_2 => (if (gI w_2 5) = 0 then some (0, (-2 : Int32), w_2) else (if ck v1 7 = true then some (0, ((gA w_2 14) v1.toNatClampNeg), w_2) else none))) else some (w_1.1, (0 : Int32), w_1.2))) := rfl
theorem vX4_lamp_0 (v1 : Int32) (u : St) (r : Nat × Int32 × St) : Ev (fun n => fX4_lamp n 0 v1 u) r ↔ Ev (fun n => ((FX4_checkPlace n v1 u).bind fun w_1 => (if w_1.1 = 0 then ((FX0_settle n  w_1.2).bind fun w_2 => (if (gI w_2 5) = 0 then some (0, (-2 : Int32), w_2) else (if ck v1 7 = true then some (0, ((gA w_2 14) v1.toNatClampNeg), w_2) else none))) else some (w_1.1, (0 : Int32), w_1.2)))) r := Ev_succ (fun n => fX4_lamp n 0 v1 u) r
def FX4_lamp (n : Nat) (v1 : Int32) (u : St) : Option (Nat × Int32 × St) := fX4_lamp n 0 v1 u
set_option maxHeartbeats 4000000 in
set_option maxRecDepth 100000 in
theorem mX4_lamp (l : Launch) (lt : l.stackTraces = false) (dC : Nat → ClassId) (dI : Nat → Nat → Nat) (cI cL : ClassId) (ad sa : Nat → Nat) (sz : Nat) (u : St) (z1 : Int32) (n : Nat) (r : Nat × Int32 × St) (hf0 : FX4_lamp n z1 u = some r) : vx_Met l yX4_lamp wsX4_lamp ({ frames := 12, cells := 1, slots := 6, locals := 323 }) (va_Pc [.ref (ad 0), .int z1] (xPre dC dI cI cL sa (cw ad cI cL u) sz)) (va_Qi (fun a t => (0, a, t) = r) (fun t => wPost dC dI cI cL (va_A (cw ad cI cL u) sz) (cw ad cI cL t)) (va_A (cw ad cI cL u) sz)) (vx_X (fun _ : St => True) (fun E t U => ((xcode E, (0 : Int32), t) = r ∧ 0 < xcode E) ∧ wPost dC dI cI cL (va_A (cw ad cI cL u) sz) (cw ad cI cL t) U) (va_A (cw ad cI cL u) sz)) 1 6 (va_A (cw ad cI cL u) sz) := by
  refine vx_ofW (cc := cX4_lamp) (maxL := 2) (ret := (some .int)) (by decide) rfl ?_
  intro p e s m args below meth c s₁ B hml ht0 hv
  obtain ⟨rfl, ⟨hsz, hP, hK, hD0, hZ⟩, hX, hq⟩ := hv
  have hx := B.exec
  have hb := B.bytes
  have hr := B.returns
  have hts := atoms_spec (ws := wsX4_lamp) B.pre
  have hown : s.vm.findClass RX4 = some m.cls := findClass_of_methodNamed B.named
  have hlocks := B.notSynchronized
  subst hsz
  have hD := hD0.self (sz := s.heap.size)
  generalize hAe : va_A (cw ad cI cL u) s.heap.size = A at hD hq ⊢
  have hA : ∀ q : Nat, s.heap.size ≤ q → A q := fun q h => by rw [← hAe]; exact Or.inr h
  have hS : va_S A s.heap s.heap [] := va_S.rf
  have iX0 : ∀ w ∈ u_ws RX0 TX0 12, w ∈ wsX4_lamp := fun _ h => List.mem_cons_of_mem _ (List.mem_append_left _ (List.mem_append_left _ (List.mem_append_right _ h)))
  have iX4 : ∀ w ∈ u_ws RX4 TX4 4, w ∈ wsX4_lamp := fun _ h => List.mem_cons_of_mem _ (List.mem_append_left _ (List.mem_append_left _ (List.mem_append_left _ (List.mem_append_right _ h))))
  have k_0 := hts (.fieldLink RX4 21 "LampChoice" "choice" "LLampChoice$Choice;") (by decide +kernel)
  have k_1 := hts (.fieldLink RX4 95 "LampChoice$Choice" "found" "Z") (by decide +kernel)
  have k_2 := hts (.fieldLink RX4 102 "LampChoice$Choice" "lamps" "[I") (by decide +kernel)
  have hl := lv_entry ([.ref (ad 0), .int z1]) (n := 2) (Nat.le_of_ble_eq_true rfl)
  rw [lg_entry_eq]
  generalize (lg_sl ([.ref (ad 0), .int z1]) ++ List.replicate (2 - (lg_sl ([.ref (ad 0), .int z1])).length) Slot.unset).toArray = ls at hl ⊢
  have hl : lv_has ls 2 [(0, .ref (ad 0)), (1, .int z1)] := hl
  have key : ∀ n : Nat, (∀ (v1 : Int32) (u : St) (H : Heap) (locs : List Loc) (ls : Array Slot), fX4_lamp n 0 v1 u = some r → va_P (dC, dI) vwCl (cw ad cI cL u) H → va_D A (cw ad cI cL u) → va_S A s.heap H locs → lv_has ls 2 [(0, .ref (ad 0)), (1, .int v1)] → W p l e (headSpec wsX4_lamp ({ frames := 12, cells := 1, slots := 6, locals := 323 })).room s m ([.ref (ad 0), .int z1] : List Value).toArray below meth c H locs 0 0 (vx_MQ below (va_Qi (fun a t => (0, a, t) = r) (fun t => wPost dC dI cI cL A (cw ad cI cL t)) A) (vx_X (fun _ : St => True) (fun E t U => ((xcode E, (0 : Int32), t) = r ∧ 0 < xcode E) ∧ wPost dC dI cI cL A (cw ad cI cL t) U) A) ([.ref (ad 0), .int z1] : List Value).toArray s 1 6 A) (F0 m 0 ls [])) := by
    intro n
    induction n with
    | zero => exact (fun _ _ _ _ _ hf => nomatch (show (none : Option (Nat × Int32 × St)) = some r from hf))
    | succ n ih =>
      have ih0 := ih
      · intro v1 u H locs ls hf hP hD hS hl
        have hf := (eX4_lamp_0 n v1 u).symm.trans hf
        refine lv_aload_n hx hb dX4_lamp_0 rfl (lv_at hl 0 rfl) ?_
        refine lv_iload_n hx hb dX4_lamp_1 rfl (lv_at hl 1 rfl) ?_
        obtain ⟨w_1, hw_1, hf⟩ := ob hf
        have hFc := freeAll hD hS hA
        refine vx_callv (vx_runV (As := [.int v1]) (rest := []) ⟨hx, hb, hml, hown, hts⟩ (mX4_checkPlace l lt dC dI cI cL ad sa H.size u v1 n w_1 hw_1) (cwV 1 hts gX4_lamp_X4_checkPlace rfl rfl rfl (by decide +kernel) ⟨Nat.le_of_ble_eq_true rfl, Nat.le_of_ble_eq_true rfl⟩) ⟨xPre_blind, va_recv hK hP (ci := 4) (q0 := 0) rfl rfl, xPre_of hP hK hD hZ hX hq hS hFc⟩ rfl rfl hl.1 rfl (lv_room (Nat.le_of_ble_eq_true rfl)) dX4_lamp_2 ⟨by decide, by decide⟩) hS (fun q _ h => hFc q h) hFc (fun q _ h => hFc q h) (fun E ce q9 u2 t H1 locs ht hvm hpx hB hz1 hk1 hS hce hcv hcl => ?_) (fun u2 t H1 locs ht hvm hw hB hz1 hk1 hS => ?_)
        · obtain ⟨⟨hB1, hB2⟩, hP1, hK1, hD1⟩ := hB
          rw [ht] at hP1
          have e1 : xcode E = w_1.1 := congrArg Prod.fst hB1
          have e2 : u2 = w_1.2 := congrArg (fun z => z.2) hB1
          have hf := (if_neg (show ¬ w_1.1 = 0 from fun h0 => by rw [← e1] at h0; omega)).symm.trans hf
          have hf := Option.some.inj hf
          have hD := hD1.weaken (fun _ _ _ h => hFc _ h)
          subst u2
          have hP : va_P (dC, dI) vwCl (cw ad cI cL w_1.2) H1 := hP1
          refine vx_widen (k := 1) (n := 6) (by decide) (by decide) ?_
          exact vx_out (E := E) (fun x hx => (ht0 x hx).elim) hlocks hce hcv hcl (fun t ht ha => ⟨w_1.2, trivial, ⟨⟨by rw [e1]; exact hf, hB2⟩, ⟨by rw [ht]; exact hP, va_K.moved ha hK, hD⟩⟩, hS.F ht⟩) hS.2.2 (Nat.le_refl _) (Nat.le_refl _)
        have hf := (if_pos (show w_1.1 = 0 from (congrArg Prod.fst hw).symm)).symm.trans hf
        obtain ⟨hP1, hK1, hD1⟩ := hB
        rw [ht] at hP1
        have e2 : u2 = w_1.2 := congrArg Prod.snd hw
        subst u2
        have hP : va_P (dC, dI) vwCl (cw ad cI cL w_1.2) H1 := hP1
        have hD : va_D A (cw ad cI cL w_1.2) := hD1.weaken (fun _ _ _ h => hFc _ h)
        clear hP1 hD1 hK1 hFc hk1
        generalize H1 = H at hP hS ⊢
        refine W.widen (k := 1) (n := 6) (by decide) (by decide) ?_
        refine lv_aload_n hx hb dX4_lamp_5 rfl (lv_at hl 0 rfl) ?_
        refine va_get (D := (dC, dI)) (ci := 4) (v := .ref (ad 2)) (C := RX4) (T := TX4) (N := 4) hx hb hts iX4 hown hK hP 0 rfl rfl 1 (by decide) k_0 (fun _ h9 => h9) rfl dX4_lamp_6 ?_
        obtain ⟨w_2, hw_2, hf⟩ := ob hf
        have hFc := freeAll hD hS hA
        refine va_callv (va_runV (As := []) (rest := []) ⟨hx, hb, hml, hown, hts⟩ (mX0_settle l dC dI cI cL ad H.size w_1.2  n w_2 hw_2) (cwV 0 hts gX4_lamp_X0_settle rfl rfl rfl (by decide +kernel) ⟨Nat.le_of_ble_eq_true rfl, Nat.le_of_ble_eq_true rfl⟩) ⟨wPre_blind, va_recv hK hP (ci := 0) (q0 := 2) rfl rfl, wPre_of hP hK hD hZ⟩ rfl rfl hl.1 rfl (lv_room (Nat.le_of_ble_eq_true rfl)) dX4_lamp_9 ⟨by decide, by decide⟩) hS (fun q _ h => hFc q h) hFc (fun u2 t H1 locs ht hvm hw hB hz1 hk1 hS => ?_)
        obtain ⟨hP1, hK1, hD1⟩ := hB
        rw [ht] at hP1
        subst u2
        have hP : va_P (dC, dI) vwCl (cw ad cI cL w_2) H1 := hP1
        have hD : va_D A (cw ad cI cL w_2) := hD1.weaken (fun _ _ _ h => hFc _ h)
        clear hP1 hD1 hK1 hFc hk1
        generalize H1 = H at hP hS ⊢
        refine lv_aload_n hx hb dX4_lamp_12 rfl (lv_at hl 0 rfl) ?_
        refine va_get (D := (dC, dI)) (ci := 4) (v := .ref (ad 2)) (C := RX4) (T := TX4) (N := 4) hx hb hts iX4 hown hK hP 0 rfl rfl 1 (by decide) k_0 (fun _ h9 => h9) rfl dX4_lamp_13 ?_
        refine va_get (D := (dC, dI)) (ci := 0) (v := .int (gI w_2 5)) (C := RX0) (T := TX0) (N := 12) hx hb hts iX0 hown hK hP 2 rfl rfl 10 (by decide) k_1 (fun _ h9 => h9) rfl dX4_lamp_16 ?_
        refine lv_if_eq (tgt := 34) hx hb dX4_lamp_19 (by decide) (fun c_3 => ?_) (fun c_3 => ?_)
        · have hf := (if_pos c_3).symm.trans hf
          refine lv_bipush (v := -2) hx hb dX4_lamp_34 (by decide) ?_
          have hf := Option.some.inj hf
          refine W.widen (k := 1) (n := 6) (by decide) (by decide) ?_
          refine vx_ret ?_
          exact W.iret (v := (-2 : Int32)) hx hb hr (fun t ht hW => ⟨⟨(-2 : Int32), w_2, rfl, hf, ⟨by rw [ht]; exact hP, va_K.moved hW.alike hK, hD⟩⟩, hS.F ht⟩) hS.2.2 dX4_lamp_36
        · have hf := (if_neg c_3).symm.trans hf
          refine lv_aload_n hx hb dX4_lamp_22 rfl (lv_at hl 0 rfl) ?_
          refine va_get (D := (dC, dI)) (ci := 4) (v := .ref (ad 2)) (C := RX4) (T := TX4) (N := 4) hx hb hts iX4 hown hK hP 0 rfl rfl 1 (by decide) k_0 (fun _ h9 => h9) rfl dX4_lamp_23 ?_
          refine va_get (D := (dC, dI)) (ci := 0) (v := .ref (ad 19)) (C := RX0) (T := TX0) (N := 12) hx hb hts iX0 hown hK hP 2 rfl rfl 7 (by decide) k_2 (fun _ h9 => h9) rfl dX4_lamp_26 ?_
          refine lv_iload_n hx hb dX4_lamp_29 rfl (lv_at hl 1 rfl) ?_
          obtain ⟨h_4, hf⟩ := ck_of hf
          refine va_iald (f := (gA w_2 14)) hx hb hK hP 19 0 rfl rfl h_4 dX4_lamp_30 ?_
          refine lv_goto (tgt := 36) hx hb dX4_lamp_31 (by decide) ?_
          have hf := Option.some.inj hf
          refine W.widen (k := 1) (n := 6) (by decide) (by decide) ?_
          refine vx_ret ?_
          exact W.iret (v := ((gA w_2 14) v1.toNatClampNeg)) hx hb hr (fun t ht hW => ⟨⟨((gA w_2 14) v1.toNatClampNeg), w_2, rfl, hf, ⟨by rw [ht]; exact hP, va_K.moved hW.alike hK, hD⟩⟩, hS.F ht⟩) hS.2.2 dX4_lamp_36
  exact (key n) z1 u _ _ ls hf0 hP hD hS (lv_sub hl [0, 1] rfl)

def fX4_level (n pc : Nat) (v1 : Int32) (u : St) : Option (Nat × Int32 × St) := match n with
  | 0 => none
  | n + 1 => match pc with
    | 0 => ((FX4_checkPoint n v1 u).bind fun w_1 => (if w_1.1 = 0 then ((FX0_settle n  w_1.2).bind fun w_2 => (if (gI w_2 5) = 0 then some (0, (-2 : Int32), w_2) else (if ck v1 16 = true then some (0, ((gA w_2 15) v1.toNatClampNeg), w_2) else none))) else some (w_1.1, (0 : Int32), w_1.2)))
    | _ => none
theorem eX4_level_0 (n : Nat) (v1 : Int32) (u : St) : fX4_level (n + 1) 0 v1 u = ((FX4_checkPoint n v1 u).bind fun w_1 => (if w_1.1 = 0 then ((FX0_settle n  w_1.2).bind fun w_2 => (if (gI w_2 5) = 0 then some (0, (-2 : Int32), w_2) else (if ck v1 16 = true then some (0, ((gA w_2 15) v1.toNatClampNeg), w_2) else none))) else some (w_1.1, (0 : Int32), w_1.2))) := rfl
theorem vX4_level_0 (v1 : Int32) (u : St) (r : Nat × Int32 × St) : Ev (fun n => fX4_level n 0 v1 u) r ↔ Ev (fun n => ((FX4_checkPoint n v1 u).bind fun w_1 => (if w_1.1 = 0 then ((FX0_settle n  w_1.2).bind fun w_2 => (if (gI w_2 5) = 0 then some (0, (-2 : Int32), w_2) else (if ck v1 16 = true then some (0, ((gA w_2 15) v1.toNatClampNeg), w_2) else none))) else some (w_1.1, (0 : Int32), w_1.2)))) r := Ev_succ (fun n => fX4_level n 0 v1 u) r
def FX4_level (n : Nat) (v1 : Int32) (u : St) : Option (Nat × Int32 × St) := fX4_level n 0 v1 u
set_option maxHeartbeats 4000000 in
set_option maxRecDepth 100000 in
theorem mX4_level (l : Launch) (lt : l.stackTraces = false) (dC : Nat → ClassId) (dI : Nat → Nat → Nat) (cI cL : ClassId) (ad sa : Nat → Nat) (sz : Nat) (u : St) (z1 : Int32) (n : Nat) (r : Nat × Int32 × St) (hf0 : FX4_level n z1 u = some r) : vx_Met l yX4_level wsX4_level ({ frames := 12, cells := 1, slots := 6, locals := 323 }) (va_Pc [.ref (ad 0), .int z1] (xPre dC dI cI cL sa (cw ad cI cL u) sz)) (va_Qi (fun a t => (0, a, t) = r) (fun t => wPost dC dI cI cL (va_A (cw ad cI cL u) sz) (cw ad cI cL t)) (va_A (cw ad cI cL u) sz)) (vx_X (fun _ : St => True) (fun E t U => ((xcode E, (0 : Int32), t) = r ∧ 0 < xcode E) ∧ wPost dC dI cI cL (va_A (cw ad cI cL u) sz) (cw ad cI cL t) U) (va_A (cw ad cI cL u) sz)) 1 6 (va_A (cw ad cI cL u) sz) := by
  refine vx_ofW (cc := cX4_level) (maxL := 2) (ret := (some .int)) (by decide) rfl ?_
  intro p e s m args below meth c s₁ B hml ht0 hv
  obtain ⟨rfl, ⟨hsz, hP, hK, hD0, hZ⟩, hX, hq⟩ := hv
  have hx := B.exec
  have hb := B.bytes
  have hr := B.returns
  have hts := atoms_spec (ws := wsX4_level) B.pre
  have hown : s.vm.findClass RX4 = some m.cls := findClass_of_methodNamed B.named
  have hlocks := B.notSynchronized
  subst hsz
  have hD := hD0.self (sz := s.heap.size)
  generalize hAe : va_A (cw ad cI cL u) s.heap.size = A at hD hq ⊢
  have hA : ∀ q : Nat, s.heap.size ≤ q → A q := fun q h => by rw [← hAe]; exact Or.inr h
  have hS : va_S A s.heap s.heap [] := va_S.rf
  have iX0 : ∀ w ∈ u_ws RX0 TX0 12, w ∈ wsX4_level := fun _ h => List.mem_cons_of_mem _ (List.mem_append_left _ (List.mem_append_left _ (List.mem_append_right _ h)))
  have iX4 : ∀ w ∈ u_ws RX4 TX4 4, w ∈ wsX4_level := fun _ h => List.mem_cons_of_mem _ (List.mem_append_left _ (List.mem_append_left _ (List.mem_append_left _ (List.mem_append_right _ h))))
  have k_0 := hts (.fieldLink RX4 21 "LampChoice" "choice" "LLampChoice$Choice;") (by decide +kernel)
  have k_1 := hts (.fieldLink RX4 95 "LampChoice$Choice" "found" "Z") (by decide +kernel)
  have k_2 := hts (.fieldLink RX4 105 "LampChoice$Choice" "levels" "[I") (by decide +kernel)
  have hl := lv_entry ([.ref (ad 0), .int z1]) (n := 2) (Nat.le_of_ble_eq_true rfl)
  rw [lg_entry_eq]
  generalize (lg_sl ([.ref (ad 0), .int z1]) ++ List.replicate (2 - (lg_sl ([.ref (ad 0), .int z1])).length) Slot.unset).toArray = ls at hl ⊢
  have hl : lv_has ls 2 [(0, .ref (ad 0)), (1, .int z1)] := hl
  have key : ∀ n : Nat, (∀ (v1 : Int32) (u : St) (H : Heap) (locs : List Loc) (ls : Array Slot), fX4_level n 0 v1 u = some r → va_P (dC, dI) vwCl (cw ad cI cL u) H → va_D A (cw ad cI cL u) → va_S A s.heap H locs → lv_has ls 2 [(0, .ref (ad 0)), (1, .int v1)] → W p l e (headSpec wsX4_level ({ frames := 12, cells := 1, slots := 6, locals := 323 })).room s m ([.ref (ad 0), .int z1] : List Value).toArray below meth c H locs 0 0 (vx_MQ below (va_Qi (fun a t => (0, a, t) = r) (fun t => wPost dC dI cI cL A (cw ad cI cL t)) A) (vx_X (fun _ : St => True) (fun E t U => ((xcode E, (0 : Int32), t) = r ∧ 0 < xcode E) ∧ wPost dC dI cI cL A (cw ad cI cL t) U) A) ([.ref (ad 0), .int z1] : List Value).toArray s 1 6 A) (F0 m 0 ls [])) := by
    intro n
    induction n with
    | zero => exact (fun _ _ _ _ _ hf => nomatch (show (none : Option (Nat × Int32 × St)) = some r from hf))
    | succ n ih =>
      have ih0 := ih
      · intro v1 u H locs ls hf hP hD hS hl
        have hf := (eX4_level_0 n v1 u).symm.trans hf
        refine lv_aload_n hx hb dX4_level_0 rfl (lv_at hl 0 rfl) ?_
        refine lv_iload_n hx hb dX4_level_1 rfl (lv_at hl 1 rfl) ?_
        obtain ⟨w_1, hw_1, hf⟩ := ob hf
        have hFc := freeAll hD hS hA
        refine vx_callv (vx_runV (As := [.int v1]) (rest := []) ⟨hx, hb, hml, hown, hts⟩ (mX4_checkPoint l lt dC dI cI cL ad sa H.size u v1 n w_1 hw_1) (cwV 1 hts gX4_level_X4_checkPoint rfl rfl rfl (by decide +kernel) ⟨Nat.le_of_ble_eq_true rfl, Nat.le_of_ble_eq_true rfl⟩) ⟨xPre_blind, va_recv hK hP (ci := 4) (q0 := 0) rfl rfl, xPre_of hP hK hD hZ hX hq hS hFc⟩ rfl rfl hl.1 rfl (lv_room (Nat.le_of_ble_eq_true rfl)) dX4_level_2 ⟨by decide, by decide⟩) hS (fun q _ h => hFc q h) hFc (fun q _ h => hFc q h) (fun E ce q9 u2 t H1 locs ht hvm hpx hB hz1 hk1 hS hce hcv hcl => ?_) (fun u2 t H1 locs ht hvm hw hB hz1 hk1 hS => ?_)
        · obtain ⟨⟨hB1, hB2⟩, hP1, hK1, hD1⟩ := hB
          rw [ht] at hP1
          have e1 : xcode E = w_1.1 := congrArg Prod.fst hB1
          have e2 : u2 = w_1.2 := congrArg (fun z => z.2) hB1
          have hf := (if_neg (show ¬ w_1.1 = 0 from fun h0 => by rw [← e1] at h0; omega)).symm.trans hf
          have hf := Option.some.inj hf
          have hD := hD1.weaken (fun _ _ _ h => hFc _ h)
          subst u2
          have hP : va_P (dC, dI) vwCl (cw ad cI cL w_1.2) H1 := hP1
          refine vx_widen (k := 1) (n := 6) (by decide) (by decide) ?_
          exact vx_out (E := E) (fun x hx => (ht0 x hx).elim) hlocks hce hcv hcl (fun t ht ha => ⟨w_1.2, trivial, ⟨⟨by rw [e1]; exact hf, hB2⟩, ⟨by rw [ht]; exact hP, va_K.moved ha hK, hD⟩⟩, hS.F ht⟩) hS.2.2 (Nat.le_refl _) (Nat.le_refl _)
        have hf := (if_pos (show w_1.1 = 0 from (congrArg Prod.fst hw).symm)).symm.trans hf
        obtain ⟨hP1, hK1, hD1⟩ := hB
        rw [ht] at hP1
        have e2 : u2 = w_1.2 := congrArg Prod.snd hw
        subst u2
        have hP : va_P (dC, dI) vwCl (cw ad cI cL w_1.2) H1 := hP1
        have hD : va_D A (cw ad cI cL w_1.2) := hD1.weaken (fun _ _ _ h => hFc _ h)
        clear hP1 hD1 hK1 hFc hk1
        generalize H1 = H at hP hS ⊢
        refine W.widen (k := 1) (n := 6) (by decide) (by decide) ?_
        refine lv_aload_n hx hb dX4_level_5 rfl (lv_at hl 0 rfl) ?_
        refine va_get (D := (dC, dI)) (ci := 4) (v := .ref (ad 2)) (C := RX4) (T := TX4) (N := 4) hx hb hts iX4 hown hK hP 0 rfl rfl 1 (by decide) k_0 (fun _ h9 => h9) rfl dX4_level_6 ?_
        obtain ⟨w_2, hw_2, hf⟩ := ob hf
        have hFc := freeAll hD hS hA
        refine va_callv (va_runV (As := []) (rest := []) ⟨hx, hb, hml, hown, hts⟩ (mX0_settle l dC dI cI cL ad H.size w_1.2  n w_2 hw_2) (cwV 0 hts gX4_level_X0_settle rfl rfl rfl (by decide +kernel) ⟨Nat.le_of_ble_eq_true rfl, Nat.le_of_ble_eq_true rfl⟩) ⟨wPre_blind, va_recv hK hP (ci := 0) (q0 := 2) rfl rfl, wPre_of hP hK hD hZ⟩ rfl rfl hl.1 rfl (lv_room (Nat.le_of_ble_eq_true rfl)) dX4_level_9 ⟨by decide, by decide⟩) hS (fun q _ h => hFc q h) hFc (fun u2 t H1 locs ht hvm hw hB hz1 hk1 hS => ?_)
        obtain ⟨hP1, hK1, hD1⟩ := hB
        rw [ht] at hP1
        subst u2
        have hP : va_P (dC, dI) vwCl (cw ad cI cL w_2) H1 := hP1
        have hD : va_D A (cw ad cI cL w_2) := hD1.weaken (fun _ _ _ h => hFc _ h)
        clear hP1 hD1 hK1 hFc hk1
        generalize H1 = H at hP hS ⊢
        refine lv_aload_n hx hb dX4_level_12 rfl (lv_at hl 0 rfl) ?_
        refine va_get (D := (dC, dI)) (ci := 4) (v := .ref (ad 2)) (C := RX4) (T := TX4) (N := 4) hx hb hts iX4 hown hK hP 0 rfl rfl 1 (by decide) k_0 (fun _ h9 => h9) rfl dX4_level_13 ?_
        refine va_get (D := (dC, dI)) (ci := 0) (v := .int (gI w_2 5)) (C := RX0) (T := TX0) (N := 12) hx hb hts iX0 hown hK hP 2 rfl rfl 10 (by decide) k_1 (fun _ h9 => h9) rfl dX4_level_16 ?_
        refine lv_if_eq (tgt := 34) hx hb dX4_level_19 (by decide) (fun c_3 => ?_) (fun c_3 => ?_)
        · have hf := (if_pos c_3).symm.trans hf
          refine lv_bipush (v := -2) hx hb dX4_level_34 (by decide) ?_
          have hf := Option.some.inj hf
          refine W.widen (k := 1) (n := 6) (by decide) (by decide) ?_
          refine vx_ret ?_
          exact W.iret (v := (-2 : Int32)) hx hb hr (fun t ht hW => ⟨⟨(-2 : Int32), w_2, rfl, hf, ⟨by rw [ht]; exact hP, va_K.moved hW.alike hK, hD⟩⟩, hS.F ht⟩) hS.2.2 dX4_level_36
        · have hf := (if_neg c_3).symm.trans hf
          refine lv_aload_n hx hb dX4_level_22 rfl (lv_at hl 0 rfl) ?_
          refine va_get (D := (dC, dI)) (ci := 4) (v := .ref (ad 2)) (C := RX4) (T := TX4) (N := 4) hx hb hts iX4 hown hK hP 0 rfl rfl 1 (by decide) k_0 (fun _ h9 => h9) rfl dX4_level_23 ?_
          refine va_get (D := (dC, dI)) (ci := 0) (v := .ref (ad 20)) (C := RX0) (T := TX0) (N := 12) hx hb hts iX0 hown hK hP 2 rfl rfl 8 (by decide) k_2 (fun _ h9 => h9) rfl dX4_level_26 ?_
          refine lv_iload_n hx hb dX4_level_29 rfl (lv_at hl 1 rfl) ?_
          obtain ⟨h_4, hf⟩ := ck_of hf
          refine va_iald (f := (gA w_2 15)) hx hb hK hP 20 0 rfl rfl h_4 dX4_level_30 ?_
          refine lv_goto (tgt := 36) hx hb dX4_level_31 (by decide) ?_
          have hf := Option.some.inj hf
          refine W.widen (k := 1) (n := 6) (by decide) (by decide) ?_
          refine vx_ret ?_
          exact W.iret (v := ((gA w_2 15) v1.toNatClampNeg)) hx hb hr (fun t ht hW => ⟨⟨((gA w_2 15) v1.toNatClampNeg), w_2, rfl, hf, ⟨by rw [ht]; exact hP, va_K.moved hW.alike hK, hD⟩⟩, hS.F ht⟩) hS.2.2 dX4_level_36
  exact (key n) z1 u _ _ ls hf0 hP hD hS (lv_sub hl [0, 1] rfl)

def fX4_even (n pc : Nat) (v1 : Int32) (u : St) : Option (Nat × Int64 × St) := match n with
  | 0 => none
  | n + 1 => match pc with
    | 0 => ((FX4_checkBounds n v1 (0 : Int32) (1 : Int32)).bind fun w_1 => (if w_1 = 0 then ((FX0_settle n  u).bind fun w_2 => (if (gI w_2 5) = 0 then some (0, (-2 : Int64), w_2) else (if v1 = 0 then ((FX0_evennessAbove n  w_2).bind fun w_6 => some (0, w_6.1, w_6.2)) else ((FX0_evennessBelow n  w_2).bind fun w_5 => some (0, w_5.1, w_5.2))))) else some (w_1, (0 : Int64), u)))
    | _ => none
theorem eX4_even_0 (n : Nat) (v1 : Int32) (u : St) : fX4_even (n + 1) 0 v1 u = ((FX4_checkBounds n v1 (0 : Int32) (1 : Int32)).bind fun w_1 => (if w_1 = 0 then ((FX0_settle n  u).bind fun w_2 => (if (gI w_2 5) = 0 then some (0, (-2 : Int64), w_2) else (if v1 = 0 then ((FX0_evennessAbove n  w_2).bind fun w_6 => some (0, w_6.1, w_6.2)) else ((FX0_evennessBelow n  w_2).bind fun w_5 => some (0, w_5.1, w_5.2))))) else some (w_1, (0 : Int64), u))) := rfl
theorem vX4_even_0 (v1 : Int32) (u : St) (r : Nat × Int64 × St) : Ev (fun n => fX4_even n 0 v1 u) r ↔ Ev (fun n => ((FX4_checkBounds n v1 (0 : Int32) (1 : Int32)).bind fun w_1 => (if w_1 = 0 then ((FX0_settle n  u).bind fun w_2 => (if (gI w_2 5) = 0 then some (0, (-2 : Int64), w_2) else (if v1 = 0 then ((FX0_evennessAbove n  w_2).bind fun w_6 => some (0, w_6.1, w_6.2)) else ((FX0_evennessBelow n  w_2).bind fun w_5 => some (0, w_5.1, w_5.2))))) else some (w_1, (0 : Int64), u)))) r := Ev_succ (fun n => fX4_even n 0 v1 u) r
def FX4_even (n : Nat) (v1 : Int32) (u : St) : Option (Nat × Int64 × St) := fX4_even n 0 v1 u
set_option maxHeartbeats 4000000 in
set_option maxRecDepth 100000 in
theorem mX4_even (l : Launch) (lt : l.stackTraces = false) (dC : Nat → ClassId) (dI : Nat → Nat → Nat) (cI cL : ClassId) (ad sa : Nat → Nat) (sz : Nat) (u : St) (z1 : Int32) (n : Nat) (r : Nat × Int64 × St) (hf0 : FX4_even n z1 u = some r) : vx_Met l yX4_even wsX4_even ({ frames := 12, cells := 1, slots := 6, locals := 323 }) (va_Pc [.ref (ad 0), .int z1] (xPre dC dI cI cL sa (cw ad cI cL u) sz)) (va_Ql (fun a t => (0, a, t) = r) (fun t => wPost dC dI cI cL (va_A (cw ad cI cL u) sz) (cw ad cI cL t)) (va_A (cw ad cI cL u) sz)) (vx_X (fun _ : St => True) (fun E t U => ((xcode E, (0 : Int64), t) = r ∧ 0 < xcode E) ∧ wPost dC dI cI cL (va_A (cw ad cI cL u) sz) (cw ad cI cL t) U) (va_A (cw ad cI cL u) sz)) 1 6 (va_A (cw ad cI cL u) sz) := by
  refine vx_ofW (cc := cX4_even) (maxL := 2) (ret := (some .long)) (by decide) rfl ?_
  intro p e s m args below meth c s₁ B hml ht0 hv
  obtain ⟨rfl, ⟨hsz, hP, hK, hD0, hZ⟩, hX, hq⟩ := hv
  have hx := B.exec
  have hb := B.bytes
  have hr := B.returns
  have hts := atoms_spec (ws := wsX4_even) B.pre
  have hown : s.vm.findClass RX4 = some m.cls := findClass_of_methodNamed B.named
  have hlocks := B.notSynchronized
  subst hsz
  have hD := hD0.self (sz := s.heap.size)
  generalize hAe : va_A (cw ad cI cL u) s.heap.size = A at hD hq ⊢
  have hA : ∀ q : Nat, s.heap.size ≤ q → A q := fun q h => by rw [← hAe]; exact Or.inr h
  have hS : va_S A s.heap s.heap [] := va_S.rf
  have iX0 : ∀ w ∈ u_ws RX0 TX0 12, w ∈ wsX4_even := fun _ h => List.mem_cons_of_mem _ (List.mem_append_left _ (List.mem_append_left _ (List.mem_append_right _ h)))
  have iX4 : ∀ w ∈ u_ws RX4 TX4 4, w ∈ wsX4_even := fun _ h => List.mem_cons_of_mem _ (List.mem_append_left _ (List.mem_append_left _ (List.mem_append_left _ (List.mem_append_right _ h))))
  have k_0 := hts (.fieldLink RX4 21 "LampChoice" "choice" "LLampChoice$Choice;") (by decide +kernel)
  have k_1 := hts (.fieldLink RX4 95 "LampChoice$Choice" "found" "Z") (by decide +kernel)
  have k_2 := hts (.constantLong RX4 108 (-2)) (by decide +kernel)
  have hl := lv_entry ([.ref (ad 0), .int z1]) (n := 2) (Nat.le_of_ble_eq_true rfl)
  rw [lg_entry_eq]
  generalize (lg_sl ([.ref (ad 0), .int z1]) ++ List.replicate (2 - (lg_sl ([.ref (ad 0), .int z1])).length) Slot.unset).toArray = ls at hl ⊢
  have hl : lv_has ls 2 [(0, .ref (ad 0)), (1, .int z1)] := hl
  have key : ∀ n : Nat, (∀ (v1 : Int32) (u : St) (H : Heap) (locs : List Loc) (ls : Array Slot), fX4_even n 0 v1 u = some r → va_P (dC, dI) vwCl (cw ad cI cL u) H → va_D A (cw ad cI cL u) → va_S A s.heap H locs → lv_has ls 2 [(0, .ref (ad 0)), (1, .int v1)] → W p l e (headSpec wsX4_even ({ frames := 12, cells := 1, slots := 6, locals := 323 })).room s m ([.ref (ad 0), .int z1] : List Value).toArray below meth c H locs 0 0 (vx_MQ below (va_Ql (fun a t => (0, a, t) = r) (fun t => wPost dC dI cI cL A (cw ad cI cL t)) A) (vx_X (fun _ : St => True) (fun E t U => ((xcode E, (0 : Int64), t) = r ∧ 0 < xcode E) ∧ wPost dC dI cI cL A (cw ad cI cL t) U) A) ([.ref (ad 0), .int z1] : List Value).toArray s 1 6 A) (F0 m 0 ls [])) := by
    intro n
    induction n with
    | zero => exact (fun _ _ _ _ _ hf => nomatch (show (none : Option (Nat × Int64 × St)) = some r from hf))
    | succ n ih =>
      have ih0 := ih
      · intro v1 u H locs ls hf hP hD hS hl
        have hf := (eX4_even_0 n v1 u).symm.trans hf
        refine lv_iload_n hx hb dX4_even_0 rfl (lv_at hl 1 rfl) ?_
        refine lv_iconst (v := 0) hx hb dX4_even_1 (by decide) ?_
        refine lv_iconst (v := 1) hx hb dX4_even_2 (by decide) ?_
        obtain ⟨w_1, hw_1, hf⟩ := ob hf
        have hFc := freeNil hS hA
        refine vx_callv (vx_runS (As := [.int v1, .int (0 : Int32), .int (1 : Int32)]) (rest := []) ⟨hx, hb, hml, hown, hts⟩ (mX4_checkBounds l lt sa H.size v1 (0 : Int32) (1 : Int32) n w_1 hw_1) (va_cwS 3 hts gX4_even_X4_checkBounds rfl rfl rfl (by decide +kernel) ⟨Nat.le_of_ble_eq_true rfl, Nat.le_of_ble_eq_true rfl⟩) ⟨nxPre_blind, nxPre_of hX hq hS hFc⟩ rfl rfl hl.1 rfl (lv_room (Nat.le_of_ble_eq_true rfl)) dX4_even_3 ⟨by decide, by decide⟩) hS (fun q _ h => hFc q h) hFc (fun q _ h => hFc q h) (fun E ce q9 u2 t H1 locs ht hvm hpx hB hz1 hk1 hS hce hcv hcl => ?_) (fun u2 t H1 locs ht hvm hw hB hz1 hk1 hS => ?_)
        · obtain ⟨hB1, hB2⟩ := hB
          have hf := (if_neg (show ¬ w_1 = 0 from fun h0 => by rw [← hB1] at h0; omega)).symm.trans hf
          have hf := Option.some.inj hf
          have hP := keepP hP hk1
          refine vx_widen (k := 1) (n := 6) (by decide) (by decide) ?_
          exact vx_out (E := E) (fun x hx => (ht0 x hx).elim) hlocks hce hcv hcl (fun t ht ha => ⟨u, trivial, ⟨⟨by rw [hB1]; exact hf, hB2⟩, ⟨by rw [ht]; exact hP, va_K.moved ha hK, hD⟩⟩, hS.F ht⟩) hS.2.2 (Nat.le_refl _) (Nat.le_refl _)
        have hf := (if_pos (show w_1 = 0 from hw.symm)).symm.trans hf
        have hP := keepP hP hk1
        clear hFc hk1 hB
        generalize H1 = H at hP hS ⊢
        refine W.widen (k := 1) (n := 6) (by decide) (by decide) ?_
        refine lv_aload_n hx hb dX4_even_6 rfl (lv_at hl 0 rfl) ?_
        refine va_get (D := (dC, dI)) (ci := 4) (v := .ref (ad 2)) (C := RX4) (T := TX4) (N := 4) hx hb hts iX4 hown hK hP 0 rfl rfl 1 (by decide) k_0 (fun _ h9 => h9) rfl dX4_even_7 ?_
        obtain ⟨w_2, hw_2, hf⟩ := ob hf
        have hFc := freeAll hD hS hA
        refine va_callv (va_runV (As := []) (rest := []) ⟨hx, hb, hml, hown, hts⟩ (mX0_settle l dC dI cI cL ad H.size u  n w_2 hw_2) (cwV 0 hts gX4_even_X0_settle rfl rfl rfl (by decide +kernel) ⟨Nat.le_of_ble_eq_true rfl, Nat.le_of_ble_eq_true rfl⟩) ⟨wPre_blind, va_recv hK hP (ci := 0) (q0 := 2) rfl rfl, wPre_of hP hK hD hZ⟩ rfl rfl hl.1 rfl (lv_room (Nat.le_of_ble_eq_true rfl)) dX4_even_10 ⟨by decide, by decide⟩) hS (fun q _ h => hFc q h) hFc (fun u2 t H1 locs ht hvm hw hB hz1 hk1 hS => ?_)
        obtain ⟨hP1, hK1, hD1⟩ := hB
        rw [ht] at hP1
        subst u2
        have hP : va_P (dC, dI) vwCl (cw ad cI cL w_2) H1 := hP1
        have hD : va_D A (cw ad cI cL w_2) := hD1.weaken (fun _ _ _ h => hFc _ h)
        clear hP1 hD1 hK1 hFc hk1
        generalize H1 = H at hP hS ⊢
        refine lv_aload_n hx hb dX4_even_13 rfl (lv_at hl 0 rfl) ?_
        refine va_get (D := (dC, dI)) (ci := 4) (v := .ref (ad 2)) (C := RX4) (T := TX4) (N := 4) hx hb hts iX4 hown hK hP 0 rfl rfl 1 (by decide) k_0 (fun _ h9 => h9) rfl dX4_even_14 ?_
        refine va_get (D := (dC, dI)) (ci := 0) (v := .int (gI w_2 5)) (C := RX0) (T := TX0) (N := 12) hx hb hts iX0 hown hK hP 2 rfl rfl 10 (by decide) k_1 (fun _ h9 => h9) rfl dX4_even_17 ?_
        refine lv_if_ne (tgt := 27) hx hb dX4_even_20 (by decide) (fun c_3 => ?_) (fun c_3 => ?_)
        · have hf := (if_neg c_3).symm.trans hf
          refine lv_iload_n hx hb dX4_even_27 rfl (lv_at hl 1 rfl) ?_
          refine lv_if_ne (tgt := 41) hx hb dX4_even_28 (by decide) (fun c_4 => ?_) (fun c_4 => ?_)
          · have hf := (if_neg c_4).symm.trans hf
            refine lv_aload_n hx hb dX4_even_41 rfl (lv_at hl 0 rfl) ?_
            refine va_get (D := (dC, dI)) (ci := 4) (v := .ref (ad 2)) (C := RX4) (T := TX4) (N := 4) hx hb hts iX4 hown hK hP 0 rfl rfl 1 (by decide) k_0 (fun _ h9 => h9) rfl dX4_even_42 ?_
            obtain ⟨w_5, hw_5, hf⟩ := ob hf
            have hFc := freeAll hD hS hA
            refine va_calll (va_runV (As := []) (rest := []) ⟨hx, hb, hml, hown, hts⟩ (mX0_evennessBelow l dC dI cI cL ad H.size w_2  n w_5 hw_5) (cwV 0 hts gX4_even_X0_evennessBelow rfl rfl rfl (by decide +kernel) ⟨Nat.le_of_ble_eq_true rfl, Nat.le_of_ble_eq_true rfl⟩) ⟨wPre_blind, va_recv hK hP (ci := 0) (q0 := 2) rfl rfl, wPre_of hP hK hD hZ⟩ rfl rfl hl.1 rfl (lv_room (Nat.le_of_ble_eq_true rfl)) dX4_even_45 ⟨by decide, by decide⟩) hS (fun q _ h => hFc q h) hFc (fun r2 u2 t H1 locs ht hvm hw hB hz1 hk1 hS => ?_)
            obtain ⟨hP1, hK1, hD1⟩ := hB
            rw [ht] at hP1
            have e1 : r2 = w_5.1 := congrArg Prod.fst hw
            have e2 : u2 = w_5.2 := congrArg Prod.snd hw
            subst r2 u2
            have hP : va_P (dC, dI) vwCl (cw ad cI cL w_5.2) H1 := hP1
            have hD : va_D A (cw ad cI cL w_5.2) := hD1.weaken (fun _ _ _ h => hFc _ h)
            clear hP1 hD1 hK1 hFc hk1
            generalize H1 = H at hP hS ⊢
            have hf := Option.some.inj hf
            refine W.widen (k := 1) (n := 6) (by decide) (by decide) ?_
            refine vx_ret ?_
            exact W.lret (v := w_5.1) hx hb hr (fun t ht hW => ⟨⟨w_5.1, w_5.2, rfl, hf, ⟨by rw [ht]; exact hP, va_K.moved hW.alike hK, hD⟩⟩, hS.F ht⟩) hS.2.2 dX4_even_48
          · have hf := (if_pos c_4).symm.trans hf
            refine lv_aload_n hx hb dX4_even_31 rfl (lv_at hl 0 rfl) ?_
            refine va_get (D := (dC, dI)) (ci := 4) (v := .ref (ad 2)) (C := RX4) (T := TX4) (N := 4) hx hb hts iX4 hown hK hP 0 rfl rfl 1 (by decide) k_0 (fun _ h9 => h9) rfl dX4_even_32 ?_
            obtain ⟨w_6, hw_6, hf⟩ := ob hf
            have hFc := freeAll hD hS hA
            refine va_calll (va_runV (As := []) (rest := []) ⟨hx, hb, hml, hown, hts⟩ (mX0_evennessAbove l dC dI cI cL ad H.size w_2  n w_6 hw_6) (cwV 0 hts gX4_even_X0_evennessAbove rfl rfl rfl (by decide +kernel) ⟨Nat.le_of_ble_eq_true rfl, Nat.le_of_ble_eq_true rfl⟩) ⟨wPre_blind, va_recv hK hP (ci := 0) (q0 := 2) rfl rfl, wPre_of hP hK hD hZ⟩ rfl rfl hl.1 rfl (lv_room (Nat.le_of_ble_eq_true rfl)) dX4_even_35 ⟨by decide, by decide⟩) hS (fun q _ h => hFc q h) hFc (fun r2 u2 t H1 locs ht hvm hw hB hz1 hk1 hS => ?_)
            obtain ⟨hP1, hK1, hD1⟩ := hB
            rw [ht] at hP1
            have e1 : r2 = w_6.1 := congrArg Prod.fst hw
            have e2 : u2 = w_6.2 := congrArg Prod.snd hw
            subst r2 u2
            have hP : va_P (dC, dI) vwCl (cw ad cI cL w_6.2) H1 := hP1
            have hD : va_D A (cw ad cI cL w_6.2) := hD1.weaken (fun _ _ _ h => hFc _ h)
            clear hP1 hD1 hK1 hFc hk1
            generalize H1 = H at hP hS ⊢
            refine lv_goto (tgt := 48) hx hb dX4_even_38 (by decide) ?_
            have hf := Option.some.inj hf
            refine W.widen (k := 1) (n := 6) (by decide) (by decide) ?_
            refine vx_ret ?_
            exact W.lret (v := w_6.1) hx hb hr (fun t ht hW => ⟨⟨w_6.1, w_6.2, rfl, hf, ⟨by rw [ht]; exact hP, va_K.moved hW.alike hK, hD⟩⟩, hS.F ht⟩) hS.2.2 dX4_even_48
        · have hf := (if_pos c_3).symm.trans hf
          refine lv_ldc2 (v := -2) hx hb hown k_2 dX4_even_23 ?_
          have hf := Option.some.inj hf
          refine W.widen (k := 1) (n := 6) (by decide) (by decide) ?_
          refine vx_ret ?_
          exact W.lret (v := (-2 : Int64)) hx hb hr (fun t ht hW => ⟨⟨(-2 : Int64), w_2, rfl, hf, ⟨by rw [ht]; exact hP, va_K.moved hW.alike hK, hD⟩⟩, hS.F ht⟩) hS.2.2 dX4_even_26
  exact (key n) z1 u _ _ ls hf0 hP hD hS (lv_sub hl [0, 1] rfl)

def fX4_aim (n pc : Nat) (v1 : Int32) (v2 : Int32) (u : St) : Option (Nat × Int32 × St) := match n with
  | 0 => none
  | n + 1 => match pc with
    | 0 => ((FX4_checkPoint n v1 u).bind fun w_1 => (if w_1.1 = 0 then ((FX4_checkBounds n v2 (0 : Int32) (1000000 : Int32)).bind fun w_2 => (if w_2 = 0 then ((FX3_changeAim n v1 v2 w_1.2).bind fun w_3 => some (0, w_3.1, w_3.2)) else some (w_2, (0 : Int32), w_1.2))) else some (w_1.1, (0 : Int32), w_1.2)))
    | _ => none
theorem eX4_aim_0 (n : Nat) (v1 : Int32) (v2 : Int32) (u : St) : fX4_aim (n + 1) 0 v1 v2 u = ((FX4_checkPoint n v1 u).bind fun w_1 => (if w_1.1 = 0 then ((FX4_checkBounds n v2 (0 : Int32) (1000000 : Int32)).bind fun w_2 => (if w_2 = 0 then ((FX3_changeAim n v1 v2 w_1.2).bind fun w_3 => some (0, w_3.1, w_3.2)) else some (w_2, (0 : Int32), w_1.2))) else some (w_1.1, (0 : Int32), w_1.2))) := rfl
theorem vX4_aim_0 (v1 : Int32) (v2 : Int32) (u : St) (r : Nat × Int32 × St) : Ev (fun n => fX4_aim n 0 v1 v2 u) r ↔ Ev (fun n => ((FX4_checkPoint n v1 u).bind fun w_1 => (if w_1.1 = 0 then ((FX4_checkBounds n v2 (0 : Int32) (1000000 : Int32)).bind fun w_2 => (if w_2 = 0 then ((FX3_changeAim n v1 v2 w_1.2).bind fun w_3 => some (0, w_3.1, w_3.2)) else some (w_2, (0 : Int32), w_1.2))) else some (w_1.1, (0 : Int32), w_1.2)))) r := Ev_succ (fun n => fX4_aim n 0 v1 v2 u) r
def FX4_aim (n : Nat) (v1 : Int32) (v2 : Int32) (u : St) : Option (Nat × Int32 × St) := fX4_aim n 0 v1 v2 u
set_option maxHeartbeats 4000000 in
set_option maxRecDepth 100000 in
theorem mX4_aim (l : Launch) (lt : l.stackTraces = false) (dC : Nat → ClassId) (dI : Nat → Nat → Nat) (cI cL : ClassId) (ad sa : Nat → Nat) (sz : Nat) (u : St) (z1 : Int32) (z2 : Int32) (n : Nat) (r : Nat × Int32 × St) (hf0 : FX4_aim n z1 z2 u = some r) : vx_Met l yX4_aim wsX4_aim ({ frames := 9, cells := 2, slots := 12, locals := 133 }) (va_Pc [.ref (ad 0), .int z1, .int z2] (xPre dC dI cI cL sa (cw ad cI cL u) sz)) (va_Qi (fun a t => (0, a, t) = r) (fun t => wPost dC dI cI cL (va_A (cw ad cI cL u) sz) (cw ad cI cL t)) (va_A (cw ad cI cL u) sz)) (vx_X (fun _ : St => True) (fun E t U => ((xcode E, (0 : Int32), t) = r ∧ 0 < xcode E) ∧ wPost dC dI cI cL (va_A (cw ad cI cL u) sz) (cw ad cI cL t) U) (va_A (cw ad cI cL u) sz)) 2 12 (va_A (cw ad cI cL u) sz) := by
  refine vx_ofW (cc := cX4_aim) (maxL := 3) (ret := (some .int)) (by decide) rfl ?_
  intro p e s m args below meth c s₁ B hml ht0 hv
  obtain ⟨rfl, ⟨hsz, hP, hK, hD0, hZ⟩, hX, hq⟩ := hv
  have hx := B.exec
  have hb := B.bytes
  have hr := B.returns
  have hts := atoms_spec (ws := wsX4_aim) B.pre
  have hown : s.vm.findClass RX4 = some m.cls := findClass_of_methodNamed B.named
  have hlocks := B.notSynchronized
  subst hsz
  have hD := hD0.self (sz := s.heap.size)
  generalize hAe : va_A (cw ad cI cL u) s.heap.size = A at hD hq ⊢
  have hA : ∀ q : Nat, s.heap.size ≤ q → A q := fun q h => by rw [← hAe]; exact Or.inr h
  have hS : va_S A s.heap s.heap [] := va_S.rf
  have iX4 : ∀ w ∈ u_ws RX4 TX4 4, w ∈ wsX4_aim := fun _ h => List.mem_cons_of_mem _ (List.mem_append_left _ (List.mem_append_left _ (List.mem_append_left _ (List.mem_append_right _ h))))
  have k_0 := hts (.constant RX4 117 (1000000)) (by decide +kernel)
  have k_1 := hts (.fieldLink RX4 30 "LampChoice" "scenes" "LLampChoice$Scenes;") (by decide +kernel)
  have hl := lv_entry ([.ref (ad 0), .int z1, .int z2]) (n := 3) (Nat.le_of_ble_eq_true rfl)
  rw [lg_entry_eq]
  generalize (lg_sl ([.ref (ad 0), .int z1, .int z2]) ++ List.replicate (3 - (lg_sl ([.ref (ad 0), .int z1, .int z2])).length) Slot.unset).toArray = ls at hl ⊢
  have hl : lv_has ls 3 [(0, .ref (ad 0)), (1, .int z1), (2, .int z2)] := hl
  have key : ∀ n : Nat, (∀ (v1 : Int32) (v2 : Int32) (u : St) (H : Heap) (locs : List Loc) (ls : Array Slot), fX4_aim n 0 v1 v2 u = some r → va_P (dC, dI) vwCl (cw ad cI cL u) H → va_D A (cw ad cI cL u) → va_S A s.heap H locs → lv_has ls 3 [(0, .ref (ad 0)), (1, .int v1), (2, .int v2)] → W p l e (headSpec wsX4_aim ({ frames := 9, cells := 2, slots := 12, locals := 133 })).room s m ([.ref (ad 0), .int z1, .int z2] : List Value).toArray below meth c H locs 0 0 (vx_MQ below (va_Qi (fun a t => (0, a, t) = r) (fun t => wPost dC dI cI cL A (cw ad cI cL t)) A) (vx_X (fun _ : St => True) (fun E t U => ((xcode E, (0 : Int32), t) = r ∧ 0 < xcode E) ∧ wPost dC dI cI cL A (cw ad cI cL t) U) A) ([.ref (ad 0), .int z1, .int z2] : List Value).toArray s 2 12 A) (F0 m 0 ls [])) := by
    intro n
    induction n with
    | zero => exact (fun _ _ _ _ _ _ hf => nomatch (show (none : Option (Nat × Int32 × St)) = some r from hf))
    | succ n ih =>
      have ih0 := ih
      · intro v1 v2 u H locs ls hf hP hD hS hl
        have hf := (eX4_aim_0 n v1 v2 u).symm.trans hf
        refine lv_aload_n hx hb dX4_aim_0 rfl (lv_at hl 0 rfl) ?_
        refine lv_iload_n hx hb dX4_aim_1 rfl (lv_at hl 1 rfl) ?_
        obtain ⟨w_1, hw_1, hf⟩ := ob hf
        have hFc := freeAll hD hS hA
        refine vx_callv (vx_runV (As := [.int v1]) (rest := []) ⟨hx, hb, hml, hown, hts⟩ (mX4_checkPoint l lt dC dI cI cL ad sa H.size u v1 n w_1 hw_1) (cwV 1 hts gX4_aim_X4_checkPoint rfl rfl rfl (by decide +kernel) ⟨Nat.le_of_ble_eq_true rfl, Nat.le_of_ble_eq_true rfl⟩) ⟨xPre_blind, va_recv hK hP (ci := 4) (q0 := 0) rfl rfl, xPre_of hP hK hD hZ hX hq hS hFc⟩ rfl rfl hl.1 rfl (lv_room (Nat.le_of_ble_eq_true rfl)) dX4_aim_2 ⟨by decide, by decide⟩) hS (fun q _ h => hFc q h) hFc (fun q _ h => hFc q h) (fun E ce q9 u2 t H1 locs ht hvm hpx hB hz1 hk1 hS hce hcv hcl => ?_) (fun u2 t H1 locs ht hvm hw hB hz1 hk1 hS => ?_)
        · obtain ⟨⟨hB1, hB2⟩, hP1, hK1, hD1⟩ := hB
          rw [ht] at hP1
          have e1 : xcode E = w_1.1 := congrArg Prod.fst hB1
          have e2 : u2 = w_1.2 := congrArg (fun z => z.2) hB1
          have hf := (if_neg (show ¬ w_1.1 = 0 from fun h0 => by rw [← e1] at h0; omega)).symm.trans hf
          have hf := Option.some.inj hf
          have hD := hD1.weaken (fun _ _ _ h => hFc _ h)
          subst u2
          have hP : va_P (dC, dI) vwCl (cw ad cI cL w_1.2) H1 := hP1
          refine vx_widen (k := 2) (n := 12) (by decide) (by decide) ?_
          exact vx_out (E := E) (fun x hx => (ht0 x hx).elim) hlocks hce hcv hcl (fun t ht ha => ⟨w_1.2, trivial, ⟨⟨by rw [e1]; exact hf, hB2⟩, ⟨by rw [ht]; exact hP, va_K.moved ha hK, hD⟩⟩, hS.F ht⟩) hS.2.2 (Nat.le_refl _) (Nat.le_refl _)
        have hf := (if_pos (show w_1.1 = 0 from (congrArg Prod.fst hw).symm)).symm.trans hf
        obtain ⟨hP1, hK1, hD1⟩ := hB
        rw [ht] at hP1
        have e2 : u2 = w_1.2 := congrArg Prod.snd hw
        subst u2
        have hP : va_P (dC, dI) vwCl (cw ad cI cL w_1.2) H1 := hP1
        have hD : va_D A (cw ad cI cL w_1.2) := hD1.weaken (fun _ _ _ h => hFc _ h)
        clear hP1 hD1 hK1 hFc hk1
        generalize H1 = H at hP hS ⊢
        refine W.widen (k := 1) (n := 6) (by decide) (by decide) ?_
        refine lv_iload_n hx hb dX4_aim_5 rfl (lv_at hl 2 rfl) ?_
        refine lv_iconst (v := 0) hx hb dX4_aim_6 (by decide) ?_
        refine lv_ldc (v := 1000000) hx hb hown k_0 dX4_aim_7 ?_
        obtain ⟨w_2, hw_2, hf⟩ := ob hf
        have hFc := freeNil hS hA
        refine vx_callv (vx_runS (As := [.int v2, .int (0 : Int32), .int (1000000 : Int32)]) (rest := []) ⟨hx, hb, hml, hown, hts⟩ (mX4_checkBounds l lt sa H.size v2 (0 : Int32) (1000000 : Int32) n w_2 hw_2) (va_cwS 3 hts gX4_aim_X4_checkBounds rfl rfl rfl (by decide +kernel) ⟨Nat.le_of_ble_eq_true rfl, Nat.le_of_ble_eq_true rfl⟩) ⟨nxPre_blind, nxPre_of hX hq hS hFc⟩ rfl rfl hl.1 rfl (lv_room (Nat.le_of_ble_eq_true rfl)) dX4_aim_9 ⟨by decide, by decide⟩) hS (fun q _ h => hFc q h) hFc (fun q _ h => hFc q h) (fun E ce q9 u2 t H1 locs ht hvm hpx hB hz1 hk1 hS hce hcv hcl => ?_) (fun u2 t H1 locs ht hvm hw hB hz1 hk1 hS => ?_)
        · obtain ⟨hB1, hB2⟩ := hB
          have hf := (if_neg (show ¬ w_2 = 0 from fun h0 => by rw [← hB1] at h0; omega)).symm.trans hf
          have hf := Option.some.inj hf
          have hP := keepP hP hk1
          refine vx_widen (k := 2) (n := 12) (by decide) (by decide) ?_
          exact vx_out (E := E) (fun x hx => (ht0 x hx).elim) hlocks hce hcv hcl (fun t ht ha => ⟨w_1.2, trivial, ⟨⟨by rw [hB1]; exact hf, hB2⟩, ⟨by rw [ht]; exact hP, va_K.moved ha hK, hD⟩⟩, hS.F ht⟩) hS.2.2 (Nat.le_refl _) (Nat.le_refl _)
        have hf := (if_pos (show w_2 = 0 from hw.symm)).symm.trans hf
        have hP := keepP hP hk1
        clear hFc hk1 hB
        generalize H1 = H at hP hS ⊢
        refine W.widen (k := 2) (n := 12) (by decide) (by decide) ?_
        refine lv_aload_n hx hb dX4_aim_12 rfl (lv_at hl 0 rfl) ?_
        refine va_get (D := (dC, dI)) (ci := 4) (v := .ref (ad 3)) (C := RX4) (T := TX4) (N := 4) hx hb hts iX4 hown hK hP 0 rfl rfl 2 (by decide) k_1 (fun _ h9 => h9) rfl dX4_aim_13 ?_
        refine lv_iload_n hx hb dX4_aim_16 rfl (lv_at hl 1 rfl) ?_
        refine lv_iload_n hx hb dX4_aim_17 rfl (lv_at hl 2 rfl) ?_
        obtain ⟨w_3, hw_3, hf⟩ := ob hf
        have hFc := freeAll hD hS hA
        refine va_calli (va_runV (As := [.int v1, .int v2]) (rest := []) ⟨hx, hb, hml, hown, hts⟩ (mX3_changeAim l dC dI cI cL ad H.size w_1.2 v1 v2 n w_3 hw_3) (cwV 2 hts gX4_aim_X3_changeAim rfl rfl rfl (by decide +kernel) ⟨Nat.le_of_ble_eq_true rfl, Nat.le_of_ble_eq_true rfl⟩) ⟨wPre_blind, va_recv hK hP (ci := 3) (q0 := 3) rfl rfl, wPre_of hP hK hD hZ⟩ rfl rfl hl.1 rfl (lv_room (Nat.le_of_ble_eq_true rfl)) dX4_aim_18 ⟨by decide, by decide⟩) hS (fun q _ h => hFc q h) hFc (fun r2 u2 t H1 locs ht hvm hw hB hz1 hk1 hS => ?_)
        obtain ⟨hP1, hK1, hD1⟩ := hB
        rw [ht] at hP1
        have e1 : r2 = w_3.1 := congrArg Prod.fst hw
        have e2 : u2 = w_3.2 := congrArg Prod.snd hw
        subst r2 u2
        have hP : va_P (dC, dI) vwCl (cw ad cI cL w_3.2) H1 := hP1
        have hD : va_D A (cw ad cI cL w_3.2) := hD1.weaken (fun _ _ _ h => hFc _ h)
        clear hP1 hD1 hK1 hFc hk1
        generalize H1 = H at hP hS ⊢
        have hf := Option.some.inj hf
        refine W.widen (k := 2) (n := 12) (by decide) (by decide) ?_
        refine vx_ret ?_
        exact W.iret (v := w_3.1) hx hb hr (fun t ht hW => ⟨⟨w_3.1, w_3.2, rfl, hf, ⟨by rw [ht]; exact hP, va_K.moved hW.alike hK, hD⟩⟩, hS.F ht⟩) hS.2.2 dX4_aim_21
  exact (key n) z1 z2 u _ _ ls hf0 hP hD hS (lv_sub hl [0, 1, 2] rfl)

def fX4_scene (n pc : Nat) (u : St) : Option (Int32 × St) := match n with
  | 0 => none
  | n + 1 => match pc with
    | 0 => ((FX4_settleScene n  u).bind fun w_1 => some ((gI w_1 7), w_1))
    | _ => none
theorem eX4_scene_0 (n : Nat) (u : St) : fX4_scene (n + 1) 0  u = ((FX4_settleScene n  u).bind fun w_1 => some ((gI w_1 7), w_1)) := rfl
theorem vX4_scene_0 (u : St) (r : Int32 × St) : Ev (fun n => fX4_scene n 0  u) r ↔ Ev (fun n => ((FX4_settleScene n  u).bind fun w_1 => some ((gI w_1 7), w_1))) r := Ev_succ (fun n => fX4_scene n 0  u) r
def FX4_scene (n : Nat) (u : St) : Option (Int32 × St) := fX4_scene n 0  u
set_option maxHeartbeats 4000000 in
set_option maxRecDepth 100000 in
theorem mX4_scene (l : Launch) (dC : Nat → ClassId) (dI : Nat → Nat → Nat) (cI cL : ClassId) (ad : Nat → Nat) (sz : Nat) (u : St) (n : Nat) (r : Int32 × St) (hf0 : FX4_scene n  u = some r) : Met l yX4_scene wsX4_scene ({ frames := 13, cells := 0, slots := 0, locals := 343 }) (va_Pc [.ref (ad 0)] (wPre dC dI cI cL (cw ad cI cL u) sz)) (va_Qi (fun a t => (a, t) = r) (fun t => wPost dC dI cI cL (va_A (cw ad cI cL u) sz) (cw ad cI cL t)) (va_A (cw ad cI cL u) sz)) 0 0 (va_A (cw ad cI cL u) sz) := by
  refine Met.ofW (cc := cX4_scene) (maxL := 1) (ret := (some .int)) (by decide) rfl ?_
  intro p e s m args below meth c s₁ B hml hv
  obtain ⟨rfl, hsz, hP, hK, hD0, hZ⟩ := hv
  have hx := B.exec
  have hb := B.bytes
  have hr := B.returns
  have hts := atoms_spec (ws := wsX4_scene) B.pre
  have hown : s.vm.findClass RX4 = some m.cls := findClass_of_methodNamed B.named
  have hlocks := B.notSynchronized
  subst hsz
  have hD := hD0.self (sz := s.heap.size)
  generalize hAe : va_A (cw ad cI cL u) s.heap.size = A at hD ⊢
  have hA : ∀ q : Nat, s.heap.size ≤ q → A q := fun q h => by rw [← hAe]; exact Or.inr h
  have hS : va_S A s.heap s.heap [] := va_S.rf
  have iX3 : ∀ w ∈ u_ws RX3 TX3 7, w ∈ wsX4_scene := fun _ h => List.mem_cons_of_mem _ (List.mem_append_left _ (List.mem_append_left _ (List.mem_append_right _ h)))
  have iX4 : ∀ w ∈ u_ws RX4 TX4 4, w ∈ wsX4_scene := fun _ h => List.mem_cons_of_mem _ (List.mem_append_left _ (List.mem_append_left _ (List.mem_append_left _ (List.mem_append_right _ h))))
  have k_0 := hts (.fieldLink RX4 30 "LampChoice" "scenes" "LLampChoice$Scenes;") (by decide +kernel)
  have k_1 := hts (.fieldLink RX4 124 "LampChoice$Scenes" "sweeps" "I") (by decide +kernel)
  have hl := lv_entry ([.ref (ad 0)]) (n := 1) (Nat.le_of_ble_eq_true rfl)
  rw [lg_entry_eq]
  generalize (lg_sl ([.ref (ad 0)]) ++ List.replicate (1 - (lg_sl ([.ref (ad 0)])).length) Slot.unset).toArray = ls at hl ⊢
  have hl : lv_has ls 1 [(0, .ref (ad 0))] := hl
  have key : ∀ n : Nat, (∀ (u : St) (H : Heap) (locs : List Loc) (ls : Array Slot), fX4_scene n 0  u = some r → va_P (dC, dI) vwCl (cw ad cI cL u) H → va_D A (cw ad cI cL u) → va_S A s.heap H locs → lv_has ls 1 [(0, .ref (ad 0))] → W p l e (headSpec wsX4_scene ({ frames := 13, cells := 0, slots := 0, locals := 343 })).room s m ([.ref (ad 0)] : List Value).toArray below meth c H locs 0 0 (MQ below (va_Qi (fun a t => (a, t) = r) (fun t => wPost dC dI cI cL A (cw ad cI cL t)) A) ([.ref (ad 0)] : List Value).toArray s 0 0 A) (F0 m 0 ls [])) := by
    intro n
    induction n with
    | zero => exact (fun _ _ _ _ hf => nomatch (show (none : Option (Int32 × St)) = some r from hf))
    | succ n ih =>
      have ih0 := ih
      · intro  u H locs ls hf hP hD hS hl
        have hf := (eX4_scene_0 n  u).symm.trans hf
        refine lv_aload_n hx hb dX4_scene_0 rfl (lv_at hl 0 rfl) ?_
        obtain ⟨w_1, hw_1, hf⟩ := ob hf
        have hFc := freeAll hD hS hA
        refine va_callv (va_runV (As := []) (rest := []) ⟨hx, hb, hml, hown, hts⟩ (mX4_settleScene l dC dI cI cL ad H.size u  n w_1 hw_1) (cwV 0 hts gX4_scene_X4_settleScene rfl rfl rfl (by decide +kernel) ⟨Nat.le_of_ble_eq_true rfl, Nat.le_of_ble_eq_true rfl⟩) ⟨wPre_blind, va_recv hK hP (ci := 4) (q0 := 0) rfl rfl, wPre_of hP hK hD hZ⟩ rfl rfl hl.1 rfl (lv_room (Nat.le_of_ble_eq_true rfl)) dX4_scene_1 ⟨Nat.zero_le _, Nat.zero_le _⟩) hS (fun q _ h => hFc q h) hFc (fun u2 t H1 locs ht hvm hw hB hz1 hk1 hS => ?_)
        obtain ⟨hP1, hK1, hD1⟩ := hB
        rw [ht] at hP1
        subst u2
        have hP : va_P (dC, dI) vwCl (cw ad cI cL w_1) H1 := hP1
        have hD : va_D A (cw ad cI cL w_1) := hD1.weaken (fun _ _ _ h => hFc _ h)
        clear hP1 hD1 hK1 hFc hk1
        generalize H1 = H at hP hS ⊢
        refine lv_aload_n hx hb dX4_scene_4 rfl (lv_at hl 0 rfl) ?_
        refine va_get (D := (dC, dI)) (ci := 4) (v := .ref (ad 3)) (C := RX4) (T := TX4) (N := 4) hx hb hts iX4 hown hK hP 0 rfl rfl 2 (by decide) k_0 (fun _ h9 => h9) rfl dX4_scene_5 ?_
        refine va_get (D := (dC, dI)) (ci := 3) (v := .int (gI w_1 7)) (C := RX3) (T := TX3) (N := 7) hx hb hts iX3 hown hK hP 3 rfl rfl 5 (by decide) k_1 (fun _ h9 => h9) rfl dX4_scene_8 ?_
        have hf := Option.some.inj hf
        exact W.iret (v := (gI w_1 7)) hx hb hr (fun t ht hW => ⟨⟨(gI w_1 7), w_1, rfl, hf, ⟨by rw [ht]; exact hP, va_K.moved hW.alike hK, hD⟩⟩, hS.F ht⟩) hS.2.2 dX4_scene_11
  exact (key n)  u _ _ ls hf0 hP hD hS (lv_sub hl [0] rfl)

def fX4_dim (n pc : Nat) (v1 : Int32) (u : St) : Option (Nat × Int32 × St) := match n with
  | 0 => none
  | n + 1 => match pc with
    | 0 => ((FX4_checkPlace n v1 u).bind fun w_1 => (if w_1.1 = 0 then ((FX4_settleScene n  w_1.2).bind fun w_2 => (if ck v1 7 = true then (if ((gA w_2 14) v1.toNatClampNeg) = (-1 : Int32) then some (0, (-1 : Int32), w_2) else some (0, ((gA w_2 17) v1.toNatClampNeg), w_2)) else none)) else some (w_1.1, (0 : Int32), w_1.2)))
    | _ => none
theorem eX4_dim_0 (n : Nat) (v1 : Int32) (u : St) : fX4_dim (n + 1) 0 v1 u = ((FX4_checkPlace n v1 u).bind fun w_1 => (if w_1.1 = 0 then ((FX4_settleScene n  w_1.2).bind fun w_2 => (if ck v1 7 = true then (if ((gA w_2 14) v1.toNatClampNeg) = (-1 : Int32) then some (0, (-1 : Int32), w_2) else some (0, ((gA w_2 17) v1.toNatClampNeg), w_2)) else none)) else some (w_1.1, (0 : Int32), w_1.2))) := rfl
theorem vX4_dim_0 (v1 : Int32) (u : St) (r : Nat × Int32 × St) : Ev (fun n => fX4_dim n 0 v1 u) r ↔ Ev (fun n => ((FX4_checkPlace n v1 u).bind fun w_1 => (if w_1.1 = 0 then ((FX4_settleScene n  w_1.2).bind fun w_2 => (if ck v1 7 = true then (if ((gA w_2 14) v1.toNatClampNeg) = (-1 : Int32) then some (0, (-1 : Int32), w_2) else some (0, ((gA w_2 17) v1.toNatClampNeg), w_2)) else none)) else some (w_1.1, (0 : Int32), w_1.2)))) r := Ev_succ (fun n => fX4_dim n 0 v1 u) r
def FX4_dim (n : Nat) (v1 : Int32) (u : St) : Option (Nat × Int32 × St) := fX4_dim n 0 v1 u
set_option maxHeartbeats 4000000 in
set_option maxRecDepth 100000 in
theorem mX4_dim (l : Launch) (lt : l.stackTraces = false) (dC : Nat → ClassId) (dI : Nat → Nat → Nat) (cI cL : ClassId) (ad sa : Nat → Nat) (sz : Nat) (u : St) (z1 : Int32) (n : Nat) (r : Nat × Int32 × St) (hf0 : FX4_dim n z1 u = some r) : vx_Met l yX4_dim wsX4_dim ({ frames := 13, cells := 1, slots := 6, locals := 343 }) (va_Pc [.ref (ad 0), .int z1] (xPre dC dI cI cL sa (cw ad cI cL u) sz)) (va_Qi (fun a t => (0, a, t) = r) (fun t => wPost dC dI cI cL (va_A (cw ad cI cL u) sz) (cw ad cI cL t)) (va_A (cw ad cI cL u) sz)) (vx_X (fun _ : St => True) (fun E t U => ((xcode E, (0 : Int32), t) = r ∧ 0 < xcode E) ∧ wPost dC dI cI cL (va_A (cw ad cI cL u) sz) (cw ad cI cL t) U) (va_A (cw ad cI cL u) sz)) 1 6 (va_A (cw ad cI cL u) sz) := by
  refine vx_ofW (cc := cX4_dim) (maxL := 2) (ret := (some .int)) (by decide) rfl ?_
  intro p e s m args below meth c s₁ B hml ht0 hv
  obtain ⟨rfl, ⟨hsz, hP, hK, hD0, hZ⟩, hX, hq⟩ := hv
  have hx := B.exec
  have hb := B.bytes
  have hr := B.returns
  have hts := atoms_spec (ws := wsX4_dim) B.pre
  have hown : s.vm.findClass RX4 = some m.cls := findClass_of_methodNamed B.named
  have hlocks := B.notSynchronized
  subst hsz
  have hD := hD0.self (sz := s.heap.size)
  generalize hAe : va_A (cw ad cI cL u) s.heap.size = A at hD hq ⊢
  have hA : ∀ q : Nat, s.heap.size ≤ q → A q := fun q h => by rw [← hAe]; exact Or.inr h
  have hS : va_S A s.heap s.heap [] := va_S.rf
  have iX0 : ∀ w ∈ u_ws RX0 TX0 12, w ∈ wsX4_dim := fun _ h => List.mem_cons_of_mem _ (List.mem_append_left _ (List.mem_append_left _ (List.mem_append_left _ (List.mem_append_right _ h))))
  have iX3 : ∀ w ∈ u_ws RX3 TX3 7, w ∈ wsX4_dim := fun _ h => List.mem_cons_of_mem _ (List.mem_append_left _ (List.mem_append_left _ (List.mem_append_right _ h)))
  have iX4 : ∀ w ∈ u_ws RX4 TX4 4, w ∈ wsX4_dim := fun _ h => List.mem_cons_of_mem _ (List.mem_append_left _ (List.mem_append_left _ (List.mem_append_left _ (List.mem_append_left _ (List.mem_append_right _ h)))))
  have k_0 := hts (.fieldLink RX4 21 "LampChoice" "choice" "LLampChoice$Choice;") (by decide +kernel)
  have k_1 := hts (.fieldLink RX4 102 "LampChoice$Choice" "lamps" "[I") (by decide +kernel)
  have k_2 := hts (.fieldLink RX4 30 "LampChoice" "scenes" "LLampChoice$Scenes;") (by decide +kernel)
  have k_3 := hts (.fieldLink RX4 127 "LampChoice$Scenes" "dims" "[I") (by decide +kernel)
  have hl := lv_entry ([.ref (ad 0), .int z1]) (n := 2) (Nat.le_of_ble_eq_true rfl)
  rw [lg_entry_eq]
  generalize (lg_sl ([.ref (ad 0), .int z1]) ++ List.replicate (2 - (lg_sl ([.ref (ad 0), .int z1])).length) Slot.unset).toArray = ls at hl ⊢
  have hl : lv_has ls 2 [(0, .ref (ad 0)), (1, .int z1)] := hl
  have key : ∀ n : Nat, (∀ (v1 : Int32) (u : St) (H : Heap) (locs : List Loc) (ls : Array Slot), fX4_dim n 0 v1 u = some r → va_P (dC, dI) vwCl (cw ad cI cL u) H → va_D A (cw ad cI cL u) → va_S A s.heap H locs → lv_has ls 2 [(0, .ref (ad 0)), (1, .int v1)] → W p l e (headSpec wsX4_dim ({ frames := 13, cells := 1, slots := 6, locals := 343 })).room s m ([.ref (ad 0), .int z1] : List Value).toArray below meth c H locs 0 0 (vx_MQ below (va_Qi (fun a t => (0, a, t) = r) (fun t => wPost dC dI cI cL A (cw ad cI cL t)) A) (vx_X (fun _ : St => True) (fun E t U => ((xcode E, (0 : Int32), t) = r ∧ 0 < xcode E) ∧ wPost dC dI cI cL A (cw ad cI cL t) U) A) ([.ref (ad 0), .int z1] : List Value).toArray s 1 6 A) (F0 m 0 ls [])) := by
    intro n
    induction n with
    | zero => exact (fun _ _ _ _ _ hf => nomatch (show (none : Option (Nat × Int32 × St)) = some r from hf))
    | succ n ih =>
      have ih0 := ih
      · intro v1 u H locs ls hf hP hD hS hl
        have hf := (eX4_dim_0 n v1 u).symm.trans hf
        refine lv_aload_n hx hb dX4_dim_0 rfl (lv_at hl 0 rfl) ?_
        refine lv_iload_n hx hb dX4_dim_1 rfl (lv_at hl 1 rfl) ?_
        obtain ⟨w_1, hw_1, hf⟩ := ob hf
        have hFc := freeAll hD hS hA
        refine vx_callv (vx_runV (As := [.int v1]) (rest := []) ⟨hx, hb, hml, hown, hts⟩ (mX4_checkPlace l lt dC dI cI cL ad sa H.size u v1 n w_1 hw_1) (cwV 1 hts gX4_dim_X4_checkPlace rfl rfl rfl (by decide +kernel) ⟨Nat.le_of_ble_eq_true rfl, Nat.le_of_ble_eq_true rfl⟩) ⟨xPre_blind, va_recv hK hP (ci := 4) (q0 := 0) rfl rfl, xPre_of hP hK hD hZ hX hq hS hFc⟩ rfl rfl hl.1 rfl (lv_room (Nat.le_of_ble_eq_true rfl)) dX4_dim_2 ⟨by decide, by decide⟩) hS (fun q _ h => hFc q h) hFc (fun q _ h => hFc q h) (fun E ce q9 u2 t H1 locs ht hvm hpx hB hz1 hk1 hS hce hcv hcl => ?_) (fun u2 t H1 locs ht hvm hw hB hz1 hk1 hS => ?_)
        · obtain ⟨⟨hB1, hB2⟩, hP1, hK1, hD1⟩ := hB
          rw [ht] at hP1
          have e1 : xcode E = w_1.1 := congrArg Prod.fst hB1
          have e2 : u2 = w_1.2 := congrArg (fun z => z.2) hB1
          have hf := (if_neg (show ¬ w_1.1 = 0 from fun h0 => by rw [← e1] at h0; omega)).symm.trans hf
          have hf := Option.some.inj hf
          have hD := hD1.weaken (fun _ _ _ h => hFc _ h)
          subst u2
          have hP : va_P (dC, dI) vwCl (cw ad cI cL w_1.2) H1 := hP1
          refine vx_widen (k := 1) (n := 6) (by decide) (by decide) ?_
          exact vx_out (E := E) (fun x hx => (ht0 x hx).elim) hlocks hce hcv hcl (fun t ht ha => ⟨w_1.2, trivial, ⟨⟨by rw [e1]; exact hf, hB2⟩, ⟨by rw [ht]; exact hP, va_K.moved ha hK, hD⟩⟩, hS.F ht⟩) hS.2.2 (Nat.le_refl _) (Nat.le_refl _)
        have hf := (if_pos (show w_1.1 = 0 from (congrArg Prod.fst hw).symm)).symm.trans hf
        obtain ⟨hP1, hK1, hD1⟩ := hB
        rw [ht] at hP1
        have e2 : u2 = w_1.2 := congrArg Prod.snd hw
        subst u2
        have hP : va_P (dC, dI) vwCl (cw ad cI cL w_1.2) H1 := hP1
        have hD : va_D A (cw ad cI cL w_1.2) := hD1.weaken (fun _ _ _ h => hFc _ h)
        clear hP1 hD1 hK1 hFc hk1
        generalize H1 = H at hP hS ⊢
        refine W.widen (k := 1) (n := 6) (by decide) (by decide) ?_
        refine lv_aload_n hx hb dX4_dim_5 rfl (lv_at hl 0 rfl) ?_
        obtain ⟨w_2, hw_2, hf⟩ := ob hf
        have hFc := freeAll hD hS hA
        refine va_callv (va_runV (As := []) (rest := []) ⟨hx, hb, hml, hown, hts⟩ (mX4_settleScene l dC dI cI cL ad H.size w_1.2  n w_2 hw_2) (cwV 0 hts gX4_dim_X4_settleScene rfl rfl rfl (by decide +kernel) ⟨Nat.le_of_ble_eq_true rfl, Nat.le_of_ble_eq_true rfl⟩) ⟨wPre_blind, va_recv hK hP (ci := 4) (q0 := 0) rfl rfl, wPre_of hP hK hD hZ⟩ rfl rfl hl.1 rfl (lv_room (Nat.le_of_ble_eq_true rfl)) dX4_dim_6 ⟨by decide, by decide⟩) hS (fun q _ h => hFc q h) hFc (fun u2 t H1 locs ht hvm hw hB hz1 hk1 hS => ?_)
        obtain ⟨hP1, hK1, hD1⟩ := hB
        rw [ht] at hP1
        subst u2
        have hP : va_P (dC, dI) vwCl (cw ad cI cL w_2) H1 := hP1
        have hD : va_D A (cw ad cI cL w_2) := hD1.weaken (fun _ _ _ h => hFc _ h)
        clear hP1 hD1 hK1 hFc hk1
        generalize H1 = H at hP hS ⊢
        refine lv_aload_n hx hb dX4_dim_9 rfl (lv_at hl 0 rfl) ?_
        refine va_get (D := (dC, dI)) (ci := 4) (v := .ref (ad 2)) (C := RX4) (T := TX4) (N := 4) hx hb hts iX4 hown hK hP 0 rfl rfl 1 (by decide) k_0 (fun _ h9 => h9) rfl dX4_dim_10 ?_
        refine va_get (D := (dC, dI)) (ci := 0) (v := .ref (ad 19)) (C := RX0) (T := TX0) (N := 12) hx hb hts iX0 hown hK hP 2 rfl rfl 7 (by decide) k_1 (fun _ h9 => h9) rfl dX4_dim_13 ?_
        refine lv_iload_n hx hb dX4_dim_16 rfl (lv_at hl 1 rfl) ?_
        obtain ⟨h_3, hf⟩ := ck_of hf
        refine va_iald (f := (gA w_2 14)) hx hb hK hP 19 0 rfl rfl h_3 dX4_dim_17 ?_
        refine lv_iconst (v := -1) hx hb dX4_dim_18 (by decide) ?_
        refine lv_icmp_ne (tgt := 26) hx hb dX4_dim_19 (by decide) (fun c_4 => ?_) (fun c_4 => ?_)
        · have hf := (if_neg c_4).symm.trans hf
          refine lv_aload_n hx hb dX4_dim_26 rfl (lv_at hl 0 rfl) ?_
          refine va_get (D := (dC, dI)) (ci := 4) (v := .ref (ad 3)) (C := RX4) (T := TX4) (N := 4) hx hb hts iX4 hown hK hP 0 rfl rfl 2 (by decide) k_2 (fun _ h9 => h9) rfl dX4_dim_27 ?_
          refine va_get (D := (dC, dI)) (ci := 3) (v := .ref (ad 22)) (C := RX3) (T := TX3) (N := 7) hx hb hts iX3 hown hK hP 3 rfl rfl 3 (by decide) k_3 (fun _ h9 => h9) rfl dX4_dim_30 ?_
          refine lv_iload_n hx hb dX4_dim_33 rfl (lv_at hl 1 rfl) ?_
          refine va_iald (f := (gA w_2 17)) hx hb hK hP 22 0 rfl rfl h_3 dX4_dim_34 ?_
          have hf := Option.some.inj hf
          refine W.widen (k := 1) (n := 6) (by decide) (by decide) ?_
          refine vx_ret ?_
          exact W.iret (v := ((gA w_2 17) v1.toNatClampNeg)) hx hb hr (fun t ht hW => ⟨⟨((gA w_2 17) v1.toNatClampNeg), w_2, rfl, hf, ⟨by rw [ht]; exact hP, va_K.moved hW.alike hK, hD⟩⟩, hS.F ht⟩) hS.2.2 dX4_dim_35
        · have hf := (if_pos c_4).symm.trans hf
          refine lv_iconst (v := -1) hx hb dX4_dim_22 (by decide) ?_
          refine lv_goto (tgt := 35) hx hb dX4_dim_23 (by decide) ?_
          have hf := Option.some.inj hf
          refine W.widen (k := 1) (n := 6) (by decide) (by decide) ?_
          refine vx_ret ?_
          exact W.iret (v := (-1 : Int32)) hx hb hr (fun t ht hW => ⟨⟨(-1 : Int32), w_2, rfl, hf, ⟨by rw [ht]; exact hP, va_K.moved hW.alike hK, hD⟩⟩, hS.F ht⟩) hS.2.2 dX4_dim_35
  exact (key n) z1 u _ _ ls hf0 hP hD hS (lv_sub hl [0, 1] rfl)

def fX4_miss (n pc : Nat) (v1 : Int32) (u : St) : Option (Nat × Int64 × St) := match n with
  | 0 => none
  | n + 1 => match pc with
    | 0 => ((FX4_checkPoint n v1 u).bind fun w_1 => (if w_1.1 = 0 then ((FX4_settleScene n  w_1.2).bind fun w_2 => (if ck v1 16 = true then some (0, ((gL w_2 0) v1.toNatClampNeg), w_2) else none)) else some (w_1.1, (0 : Int64), w_1.2)))
    | _ => none
theorem eX4_miss_0 (n : Nat) (v1 : Int32) (u : St) : fX4_miss (n + 1) 0 v1 u = ((FX4_checkPoint n v1 u).bind fun w_1 => (if w_1.1 = 0 then ((FX4_settleScene n  w_1.2).bind fun w_2 => (if ck v1 16 = true then some (0, ((gL w_2 0) v1.toNatClampNeg), w_2) else none)) else some (w_1.1, (0 : Int64), w_1.2))) := rfl
theorem vX4_miss_0 (v1 : Int32) (u : St) (r : Nat × Int64 × St) : Ev (fun n => fX4_miss n 0 v1 u) r ↔ Ev (fun n => ((FX4_checkPoint n v1 u).bind fun w_1 => (if w_1.1 = 0 then ((FX4_settleScene n  w_1.2).bind fun w_2 => (if ck v1 16 = true then some (0, ((gL w_2 0) v1.toNatClampNeg), w_2) else none)) else some (w_1.1, (0 : Int64), w_1.2)))) r := Ev_succ (fun n => fX4_miss n 0 v1 u) r
def FX4_miss (n : Nat) (v1 : Int32) (u : St) : Option (Nat × Int64 × St) := fX4_miss n 0 v1 u
set_option maxHeartbeats 4000000 in
set_option maxRecDepth 100000 in
theorem mX4_miss (l : Launch) (lt : l.stackTraces = false) (dC : Nat → ClassId) (dI : Nat → Nat → Nat) (cI cL : ClassId) (ad sa : Nat → Nat) (sz : Nat) (u : St) (z1 : Int32) (n : Nat) (r : Nat × Int64 × St) (hf0 : FX4_miss n z1 u = some r) : vx_Met l yX4_miss wsX4_miss ({ frames := 13, cells := 1, slots := 6, locals := 343 }) (va_Pc [.ref (ad 0), .int z1] (xPre dC dI cI cL sa (cw ad cI cL u) sz)) (va_Ql (fun a t => (0, a, t) = r) (fun t => wPost dC dI cI cL (va_A (cw ad cI cL u) sz) (cw ad cI cL t)) (va_A (cw ad cI cL u) sz)) (vx_X (fun _ : St => True) (fun E t U => ((xcode E, (0 : Int64), t) = r ∧ 0 < xcode E) ∧ wPost dC dI cI cL (va_A (cw ad cI cL u) sz) (cw ad cI cL t) U) (va_A (cw ad cI cL u) sz)) 1 6 (va_A (cw ad cI cL u) sz) := by
  refine vx_ofW (cc := cX4_miss) (maxL := 2) (ret := (some .long)) (by decide) rfl ?_
  intro p e s m args below meth c s₁ B hml ht0 hv
  obtain ⟨rfl, ⟨hsz, hP, hK, hD0, hZ⟩, hX, hq⟩ := hv
  have hx := B.exec
  have hb := B.bytes
  have hr := B.returns
  have hts := atoms_spec (ws := wsX4_miss) B.pre
  have hown : s.vm.findClass RX4 = some m.cls := findClass_of_methodNamed B.named
  have hlocks := B.notSynchronized
  subst hsz
  have hD := hD0.self (sz := s.heap.size)
  generalize hAe : va_A (cw ad cI cL u) s.heap.size = A at hD hq ⊢
  have hA : ∀ q : Nat, s.heap.size ≤ q → A q := fun q h => by rw [← hAe]; exact Or.inr h
  have hS : va_S A s.heap s.heap [] := va_S.rf
  have iX3 : ∀ w ∈ u_ws RX3 TX3 7, w ∈ wsX4_miss := fun _ h => List.mem_cons_of_mem _ (List.mem_append_left _ (List.mem_append_left _ (List.mem_append_left _ (List.mem_append_right _ h))))
  have iX4 : ∀ w ∈ u_ws RX4 TX4 4, w ∈ wsX4_miss := fun _ h => List.mem_cons_of_mem _ (List.mem_append_left _ (List.mem_append_left _ (List.mem_append_left _ (List.mem_append_left _ (List.mem_append_right _ h)))))
  have k_0 := hts (.fieldLink RX4 30 "LampChoice" "scenes" "LLampChoice$Scenes;") (by decide +kernel)
  have k_1 := hts (.fieldLink RX4 130 "LampChoice$Scenes" "misses" "[J") (by decide +kernel)
  have hl := lv_entry ([.ref (ad 0), .int z1]) (n := 2) (Nat.le_of_ble_eq_true rfl)
  rw [lg_entry_eq]
  generalize (lg_sl ([.ref (ad 0), .int z1]) ++ List.replicate (2 - (lg_sl ([.ref (ad 0), .int z1])).length) Slot.unset).toArray = ls at hl ⊢
  have hl : lv_has ls 2 [(0, .ref (ad 0)), (1, .int z1)] := hl
  have key : ∀ n : Nat, (∀ (v1 : Int32) (u : St) (H : Heap) (locs : List Loc) (ls : Array Slot), fX4_miss n 0 v1 u = some r → va_P (dC, dI) vwCl (cw ad cI cL u) H → va_D A (cw ad cI cL u) → va_S A s.heap H locs → lv_has ls 2 [(0, .ref (ad 0)), (1, .int v1)] → W p l e (headSpec wsX4_miss ({ frames := 13, cells := 1, slots := 6, locals := 343 })).room s m ([.ref (ad 0), .int z1] : List Value).toArray below meth c H locs 0 0 (vx_MQ below (va_Ql (fun a t => (0, a, t) = r) (fun t => wPost dC dI cI cL A (cw ad cI cL t)) A) (vx_X (fun _ : St => True) (fun E t U => ((xcode E, (0 : Int64), t) = r ∧ 0 < xcode E) ∧ wPost dC dI cI cL A (cw ad cI cL t) U) A) ([.ref (ad 0), .int z1] : List Value).toArray s 1 6 A) (F0 m 0 ls [])) := by
    intro n
    induction n with
    | zero => exact (fun _ _ _ _ _ hf => nomatch (show (none : Option (Nat × Int64 × St)) = some r from hf))
    | succ n ih =>
      have ih0 := ih
      · intro v1 u H locs ls hf hP hD hS hl
        have hf := (eX4_miss_0 n v1 u).symm.trans hf
        refine lv_aload_n hx hb dX4_miss_0 rfl (lv_at hl 0 rfl) ?_
        refine lv_iload_n hx hb dX4_miss_1 rfl (lv_at hl 1 rfl) ?_
        obtain ⟨w_1, hw_1, hf⟩ := ob hf
        have hFc := freeAll hD hS hA
        refine vx_callv (vx_runV (As := [.int v1]) (rest := []) ⟨hx, hb, hml, hown, hts⟩ (mX4_checkPoint l lt dC dI cI cL ad sa H.size u v1 n w_1 hw_1) (cwV 1 hts gX4_miss_X4_checkPoint rfl rfl rfl (by decide +kernel) ⟨Nat.le_of_ble_eq_true rfl, Nat.le_of_ble_eq_true rfl⟩) ⟨xPre_blind, va_recv hK hP (ci := 4) (q0 := 0) rfl rfl, xPre_of hP hK hD hZ hX hq hS hFc⟩ rfl rfl hl.1 rfl (lv_room (Nat.le_of_ble_eq_true rfl)) dX4_miss_2 ⟨by decide, by decide⟩) hS (fun q _ h => hFc q h) hFc (fun q _ h => hFc q h) (fun E ce q9 u2 t H1 locs ht hvm hpx hB hz1 hk1 hS hce hcv hcl => ?_) (fun u2 t H1 locs ht hvm hw hB hz1 hk1 hS => ?_)
        · obtain ⟨⟨hB1, hB2⟩, hP1, hK1, hD1⟩ := hB
          rw [ht] at hP1
          have e1 : xcode E = w_1.1 := congrArg Prod.fst hB1
          have e2 : u2 = w_1.2 := congrArg (fun z => z.2) hB1
          have hf := (if_neg (show ¬ w_1.1 = 0 from fun h0 => by rw [← e1] at h0; omega)).symm.trans hf
          have hf := Option.some.inj hf
          have hD := hD1.weaken (fun _ _ _ h => hFc _ h)
          subst u2
          have hP : va_P (dC, dI) vwCl (cw ad cI cL w_1.2) H1 := hP1
          refine vx_widen (k := 1) (n := 6) (by decide) (by decide) ?_
          exact vx_out (E := E) (fun x hx => (ht0 x hx).elim) hlocks hce hcv hcl (fun t ht ha => ⟨w_1.2, trivial, ⟨⟨by rw [e1]; exact hf, hB2⟩, ⟨by rw [ht]; exact hP, va_K.moved ha hK, hD⟩⟩, hS.F ht⟩) hS.2.2 (Nat.le_refl _) (Nat.le_refl _)
        have hf := (if_pos (show w_1.1 = 0 from (congrArg Prod.fst hw).symm)).symm.trans hf
        obtain ⟨hP1, hK1, hD1⟩ := hB
        rw [ht] at hP1
        have e2 : u2 = w_1.2 := congrArg Prod.snd hw
        subst u2
        have hP : va_P (dC, dI) vwCl (cw ad cI cL w_1.2) H1 := hP1
        have hD : va_D A (cw ad cI cL w_1.2) := hD1.weaken (fun _ _ _ h => hFc _ h)
        clear hP1 hD1 hK1 hFc hk1
        generalize H1 = H at hP hS ⊢
        refine W.widen (k := 1) (n := 6) (by decide) (by decide) ?_
        refine lv_aload_n hx hb dX4_miss_5 rfl (lv_at hl 0 rfl) ?_
        obtain ⟨w_2, hw_2, hf⟩ := ob hf
        have hFc := freeAll hD hS hA
        refine va_callv (va_runV (As := []) (rest := []) ⟨hx, hb, hml, hown, hts⟩ (mX4_settleScene l dC dI cI cL ad H.size w_1.2  n w_2 hw_2) (cwV 0 hts gX4_miss_X4_settleScene rfl rfl rfl (by decide +kernel) ⟨Nat.le_of_ble_eq_true rfl, Nat.le_of_ble_eq_true rfl⟩) ⟨wPre_blind, va_recv hK hP (ci := 4) (q0 := 0) rfl rfl, wPre_of hP hK hD hZ⟩ rfl rfl hl.1 rfl (lv_room (Nat.le_of_ble_eq_true rfl)) dX4_miss_6 ⟨by decide, by decide⟩) hS (fun q _ h => hFc q h) hFc (fun u2 t H1 locs ht hvm hw hB hz1 hk1 hS => ?_)
        obtain ⟨hP1, hK1, hD1⟩ := hB
        rw [ht] at hP1
        subst u2
        have hP : va_P (dC, dI) vwCl (cw ad cI cL w_2) H1 := hP1
        have hD : va_D A (cw ad cI cL w_2) := hD1.weaken (fun _ _ _ h => hFc _ h)
        clear hP1 hD1 hK1 hFc hk1
        generalize H1 = H at hP hS ⊢
        refine lv_aload_n hx hb dX4_miss_9 rfl (lv_at hl 0 rfl) ?_
        refine va_get (D := (dC, dI)) (ci := 4) (v := .ref (ad 3)) (C := RX4) (T := TX4) (N := 4) hx hb hts iX4 hown hK hP 0 rfl rfl 2 (by decide) k_0 (fun _ h9 => h9) rfl dX4_miss_10 ?_
        refine va_get (D := (dC, dI)) (ci := 3) (v := .ref (ad 23)) (C := RX3) (T := TX3) (N := 7) hx hb hts iX3 hown hK hP 3 rfl rfl 4 (by decide) k_1 (fun _ h9 => h9) rfl dX4_miss_13 ?_
        refine lv_iload_n hx hb dX4_miss_16 rfl (lv_at hl 1 rfl) ?_
        obtain ⟨h_3, hf⟩ := ck_of hf
        refine va_lald (f := (gL w_2 0)) hx hb hK hP 23 1 rfl rfl h_3 dX4_miss_17 ?_
        have hf := Option.some.inj hf
        refine W.widen (k := 1) (n := 6) (by decide) (by decide) ?_
        refine vx_ret ?_
        exact W.lret (v := ((gL w_2 0) v1.toNatClampNeg)) hx hb hr (fun t ht hW => ⟨⟨((gL w_2 0) v1.toNatClampNeg), w_2, rfl, hf, ⟨by rw [ht]; exact hP, va_K.moved hW.alike hK, hD⟩⟩, hS.F ht⟩) hS.2.2 dX4_miss_18
  exact (key n) z1 u _ _ ls hf0 hP hD hS (lv_sub hl [0, 1] rfl)

def fX4_sensor (n pc : Nat) (v1 : Int32) (v2 : Int32) (u : St) : Option (Nat × St) := match n with
  | 0 => none
  | n + 1 => match pc with
    | 0 => ((FX4_checkPlace n v1 u).bind fun w_1 => (if w_1.1 = 0 then ((FX4_checkBounds n v2 (-1 : Int32) ((gI w_1.2 2) - (1 : Int32))).bind fun w_2 => (if w_2 = 0 then (if ck v1 7 = true then ((FX4_lampsGo n  (sA w_1.2 18 (upd (gA w_1.2 18) v1.toNatClampNeg v2))).bind fun w_4 => some (0, w_4)) else none) else some (w_2, w_1.2))) else some (w_1.1, w_1.2)))
    | _ => none
theorem eX4_sensor_0 (n : Nat) (v1 : Int32) (v2 : Int32) (u : St) : fX4_sensor (n + 1) 0 v1 v2 u = ((FX4_checkPlace n v1 u).bind fun w_1 => (if w_1.1 = 0 then ((FX4_checkBounds n v2 (-1 : Int32) ((gI w_1.2 2) - (1 : Int32))).bind fun w_2 => (if w_2 = 0 then (if ck v1 7 = true then ((FX4_lampsGo n  (sA w_1.2 18 (upd (gA w_1.2 18) v1.toNatClampNeg v2))).bind fun w_4 => some (0, w_4)) else none) else some (w_2, w_1.2))) else some (w_1.1, w_1.2))) := rfl
theorem vX4_sensor_0 (v1 : Int32) (v2 : Int32) (u : St) (r : Nat × St) : Ev (fun n => fX4_sensor n 0 v1 v2 u) r ↔ Ev (fun n => ((FX4_checkPlace n v1 u).bind fun w_1 => (if w_1.1 = 0 then ((FX4_checkBounds n v2 (-1 : Int32) ((gI w_1.2 2) - (1 : Int32))).bind fun w_2 => (if w_2 = 0 then (if ck v1 7 = true then ((FX4_lampsGo n  (sA w_1.2 18 (upd (gA w_1.2 18) v1.toNatClampNeg v2))).bind fun w_4 => some (0, w_4)) else none) else some (w_2, w_1.2))) else some (w_1.1, w_1.2)))) r := Ev_succ (fun n => fX4_sensor n 0 v1 v2 u) r
def FX4_sensor (n : Nat) (v1 : Int32) (v2 : Int32) (u : St) : Option (Nat × St) := fX4_sensor n 0 v1 v2 u
set_option maxHeartbeats 4000000 in
set_option maxRecDepth 100000 in
theorem mX4_sensor (l : Launch) (lt : l.stackTraces = false) (dC : Nat → ClassId) (dI : Nat → Nat → Nat) (cI cL : ClassId) (ad sa : Nat → Nat) (sz : Nat) (u : St) (z1 : Int32) (z2 : Int32) (n : Nat) (r : Nat × St) (hf0 : FX4_sensor n z1 z2 u = some r) : vx_Met l yX4_sensor wsX4_sensor ({ frames := 9, cells := 2, slots := 12, locals := 133 }) (va_Pc [.ref (ad 0), .int z1, .int z2] (xPre dC dI cI cL sa (cw ad cI cL u) sz)) (va_Qv (fun t => (0, t) = r) (fun t => wPost dC dI cI cL (va_A (cw ad cI cL u) sz) (cw ad cI cL t)) (va_A (cw ad cI cL u) sz)) (vx_X (fun _ : St => True) (fun E t U => ((xcode E, t) = r ∧ 0 < xcode E) ∧ wPost dC dI cI cL (va_A (cw ad cI cL u) sz) (cw ad cI cL t) U) (va_A (cw ad cI cL u) sz)) 2 12 (va_A (cw ad cI cL u) sz) := by
  refine vx_ofW (cc := cX4_sensor) (maxL := 3) (ret := none) (by decide) rfl ?_
  intro p e s m args below meth c s₁ B hml ht0 hv
  obtain ⟨rfl, ⟨hsz, hP, hK, hD0, hZ⟩, hX, hq⟩ := hv
  have hx := B.exec
  have hb := B.bytes
  have hr := B.returns
  have hts := atoms_spec (ws := wsX4_sensor) B.pre
  have hown : s.vm.findClass RX4 = some m.cls := findClass_of_methodNamed B.named
  have hlocks := B.notSynchronized
  subst hsz
  have hD := hD0.self (sz := s.heap.size)
  generalize hAe : va_A (cw ad cI cL u) s.heap.size = A at hD hq ⊢
  have hA : ∀ q : Nat, s.heap.size ≤ q → A q := fun q h => by rw [← hAe]; exact Or.inr h
  have hS : va_S A s.heap s.heap [] := va_S.rf
  have iX1 : ∀ w ∈ u_ws RX1 TX1 11, w ∈ wsX4_sensor := fun _ h => List.mem_cons_of_mem _ (List.mem_append_left _ (List.mem_append_left _ (List.mem_append_left _ (List.mem_append_right _ h))))
  have iX2 : ∀ w ∈ u_ws RX2 TX2 14, w ∈ wsX4_sensor := fun _ h => List.mem_cons_of_mem _ (List.mem_append_left _ (List.mem_append_left _ (List.mem_append_left _ (List.mem_append_left _ (List.mem_append_right _ h)))))
  have iX4 : ∀ w ∈ u_ws RX4 TX4 4, w ∈ wsX4_sensor := fun _ h => List.mem_cons_of_mem _ (List.mem_append_left _ (List.mem_append_left _ (List.mem_append_left _ (List.mem_append_left _ (List.mem_append_left _ (List.mem_append_right _ h))))))
  have k_0 := hts (.fieldLink RX4 15 "LampChoice" "room" "LLampChoice$Room;") (by decide +kernel)
  have k_1 := hts (.fieldLink RX4 68 "LampChoice$Room" "points" "I") (by decide +kernel)
  have k_2 := hts (.fieldLink RX4 37 "LampChoice" "days" "LLampChoice$Days;") (by decide +kernel)
  have k_3 := hts (.fieldLink RX4 134 "LampChoice$Days" "sensors" "[I") (by decide +kernel)
  have hl := lv_entry ([.ref (ad 0), .int z1, .int z2]) (n := 3) (Nat.le_of_ble_eq_true rfl)
  rw [lg_entry_eq]
  generalize (lg_sl ([.ref (ad 0), .int z1, .int z2]) ++ List.replicate (3 - (lg_sl ([.ref (ad 0), .int z1, .int z2])).length) Slot.unset).toArray = ls at hl ⊢
  have hl : lv_has ls 3 [(0, .ref (ad 0)), (1, .int z1), (2, .int z2)] := hl
  have key : ∀ n : Nat, (∀ (v1 : Int32) (v2 : Int32) (u : St) (H : Heap) (locs : List Loc) (ls : Array Slot), fX4_sensor n 0 v1 v2 u = some r → va_P (dC, dI) vwCl (cw ad cI cL u) H → va_D A (cw ad cI cL u) → va_S A s.heap H locs → lv_has ls 3 [(0, .ref (ad 0)), (1, .int v1), (2, .int v2)] → W p l e (headSpec wsX4_sensor ({ frames := 9, cells := 2, slots := 12, locals := 133 })).room s m ([.ref (ad 0), .int z1, .int z2] : List Value).toArray below meth c H locs 0 0 (vx_MQ below (va_Qv (fun t => (0, t) = r) (fun t => wPost dC dI cI cL A (cw ad cI cL t)) A) (vx_X (fun _ : St => True) (fun E t U => ((xcode E, t) = r ∧ 0 < xcode E) ∧ wPost dC dI cI cL A (cw ad cI cL t) U) A) ([.ref (ad 0), .int z1, .int z2] : List Value).toArray s 2 12 A) (F0 m 0 ls [])) := by
    intro n
    induction n with
    | zero => exact (fun _ _ _ _ _ _ hf => nomatch (show (none : Option (Nat × St)) = some r from hf))
    | succ n ih =>
      have ih0 := ih
      · intro v1 v2 u H locs ls hf hP hD hS hl
        have hf := (eX4_sensor_0 n v1 v2 u).symm.trans hf
        refine lv_aload_n hx hb dX4_sensor_0 rfl (lv_at hl 0 rfl) ?_
        refine lv_iload_n hx hb dX4_sensor_1 rfl (lv_at hl 1 rfl) ?_
        obtain ⟨w_1, hw_1, hf⟩ := ob hf
        have hFc := freeAll hD hS hA
        refine vx_callv (vx_runV (As := [.int v1]) (rest := []) ⟨hx, hb, hml, hown, hts⟩ (mX4_checkPlace l lt dC dI cI cL ad sa H.size u v1 n w_1 hw_1) (cwV 1 hts gX4_sensor_X4_checkPlace rfl rfl rfl (by decide +kernel) ⟨Nat.le_of_ble_eq_true rfl, Nat.le_of_ble_eq_true rfl⟩) ⟨xPre_blind, va_recv hK hP (ci := 4) (q0 := 0) rfl rfl, xPre_of hP hK hD hZ hX hq hS hFc⟩ rfl rfl hl.1 rfl (lv_room (Nat.le_of_ble_eq_true rfl)) dX4_sensor_2 ⟨by decide, by decide⟩) hS (fun q _ h => hFc q h) hFc (fun q _ h => hFc q h) (fun E ce q9 u2 t H1 locs ht hvm hpx hB hz1 hk1 hS hce hcv hcl => ?_) (fun u2 t H1 locs ht hvm hw hB hz1 hk1 hS => ?_)
        · obtain ⟨⟨hB1, hB2⟩, hP1, hK1, hD1⟩ := hB
          rw [ht] at hP1
          have e1 : xcode E = w_1.1 := congrArg Prod.fst hB1
          have e2 : u2 = w_1.2 := congrArg (fun z => z.2) hB1
          have hf := (if_neg (show ¬ w_1.1 = 0 from fun h0 => by rw [← e1] at h0; omega)).symm.trans hf
          have hf := Option.some.inj hf
          have hD := hD1.weaken (fun _ _ _ h => hFc _ h)
          subst u2
          have hP : va_P (dC, dI) vwCl (cw ad cI cL w_1.2) H1 := hP1
          refine vx_widen (k := 2) (n := 12) (by decide) (by decide) ?_
          exact vx_out (E := E) (fun x hx => (ht0 x hx).elim) hlocks hce hcv hcl (fun t ht ha => ⟨w_1.2, trivial, ⟨⟨by rw [e1]; exact hf, hB2⟩, ⟨by rw [ht]; exact hP, va_K.moved ha hK, hD⟩⟩, hS.F ht⟩) hS.2.2 (Nat.le_refl _) (Nat.le_refl _)
        have hf := (if_pos (show w_1.1 = 0 from (congrArg Prod.fst hw).symm)).symm.trans hf
        obtain ⟨hP1, hK1, hD1⟩ := hB
        rw [ht] at hP1
        have e2 : u2 = w_1.2 := congrArg Prod.snd hw
        subst u2
        have hP : va_P (dC, dI) vwCl (cw ad cI cL w_1.2) H1 := hP1
        have hD : va_D A (cw ad cI cL w_1.2) := hD1.weaken (fun _ _ _ h => hFc _ h)
        clear hP1 hD1 hK1 hFc hk1
        generalize H1 = H at hP hS ⊢
        refine W.widen (k := 1) (n := 6) (by decide) (by decide) ?_
        refine lv_iload_n hx hb dX4_sensor_5 rfl (lv_at hl 2 rfl) ?_
        refine lv_iconst (v := -1) hx hb dX4_sensor_6 (by decide) ?_
        refine lv_aload_n hx hb dX4_sensor_7 rfl (lv_at hl 0 rfl) ?_
        refine va_get (D := (dC, dI)) (ci := 4) (v := .ref (ad 1)) (C := RX4) (T := TX4) (N := 4) hx hb hts iX4 hown hK hP 0 rfl rfl 0 (by decide) k_0 (fun _ h9 => h9) rfl dX4_sensor_8 ?_
        refine va_get (D := (dC, dI)) (ci := 2) (v := .int (gI w_1.2 2)) (C := RX2) (T := TX2) (N := 14) hx hb hts iX2 hown hK hP 1 rfl rfl 12 (by decide) k_1 (fun _ h9 => h9) rfl dX4_sensor_11 ?_
        refine lv_iconst (v := 1) hx hb dX4_sensor_14 (by decide) ?_
        refine lv_isub hx hb dX4_sensor_15 ?_
        obtain ⟨w_2, hw_2, hf⟩ := ob hf
        have hFc := freeNil hS hA
        refine vx_callv (vx_runS (As := [.int v2, .int (-1 : Int32), .int ((gI w_1.2 2) - (1 : Int32))]) (rest := []) ⟨hx, hb, hml, hown, hts⟩ (mX4_checkBounds l lt sa H.size v2 (-1 : Int32) ((gI w_1.2 2) - (1 : Int32)) n w_2 hw_2) (va_cwS 3 hts gX4_sensor_X4_checkBounds rfl rfl rfl (by decide +kernel) ⟨Nat.le_of_ble_eq_true rfl, Nat.le_of_ble_eq_true rfl⟩) ⟨nxPre_blind, nxPre_of hX hq hS hFc⟩ rfl rfl hl.1 rfl (lv_room (Nat.le_of_ble_eq_true rfl)) dX4_sensor_16 ⟨by decide, by decide⟩) hS (fun q _ h => hFc q h) hFc (fun q _ h => hFc q h) (fun E ce q9 u2 t H1 locs ht hvm hpx hB hz1 hk1 hS hce hcv hcl => ?_) (fun u2 t H1 locs ht hvm hw hB hz1 hk1 hS => ?_)
        · obtain ⟨hB1, hB2⟩ := hB
          have hf := (if_neg (show ¬ w_2 = 0 from fun h0 => by rw [← hB1] at h0; omega)).symm.trans hf
          have hf := Option.some.inj hf
          have hP := keepP hP hk1
          refine vx_widen (k := 2) (n := 12) (by decide) (by decide) ?_
          exact vx_out (E := E) (fun x hx => (ht0 x hx).elim) hlocks hce hcv hcl (fun t ht ha => ⟨w_1.2, trivial, ⟨⟨by rw [hB1]; exact hf, hB2⟩, ⟨by rw [ht]; exact hP, va_K.moved ha hK, hD⟩⟩, hS.F ht⟩) hS.2.2 (Nat.le_refl _) (Nat.le_refl _)
        have hf := (if_pos (show w_2 = 0 from hw.symm)).symm.trans hf
        have hP := keepP hP hk1
        clear hFc hk1 hB
        generalize H1 = H at hP hS ⊢
        refine W.widen (k := 2) (n := 12) (by decide) (by decide) ?_
        refine lv_aload_n hx hb dX4_sensor_19 rfl (lv_at hl 0 rfl) ?_
        refine va_get (D := (dC, dI)) (ci := 4) (v := .ref (ad 4)) (C := RX4) (T := TX4) (N := 4) hx hb hts iX4 hown hK hP 0 rfl rfl 3 (by decide) k_2 (fun _ h9 => h9) rfl dX4_sensor_20 ?_
        refine va_get (D := (dC, dI)) (ci := 1) (v := .ref (ad 24)) (C := RX1) (T := TX1) (N := 11) hx hb hts iX1 hown hK hP 4 rfl rfl 2 (by decide) k_3 (fun _ h9 => h9) rfl dX4_sensor_23 ?_
        refine lv_iload_n hx hb dX4_sensor_26 rfl (lv_at hl 1 rfl) ?_
        refine lv_iload_n hx hb dX4_sensor_27 rfl (lv_at hl 2 rfl) ?_
        obtain ⟨h_3, hf⟩ := ck_of hf
        refine va_iast (f := (gA w_1.2 18)) hx hb hK hP hD hS 24 0 rfl rfl h_3 dX4_sensor_28 (fun H locs hP hD hS => ?_)
        have hP : va_P (dC, dI) vwCl (cw ad cI cL (sA w_1.2 18 (upd (gA w_1.2 18) v1.toNatClampNeg v2))) H := hP
        have hD : va_D A (cw ad cI cL (sA w_1.2 18 (upd (gA w_1.2 18) v1.toNatClampNeg v2))) := hD
        refine lv_aload_n hx hb dX4_sensor_29 rfl (lv_at hl 0 rfl) ?_
        obtain ⟨w_4, hw_4, hf⟩ := ob hf
        have hFc := freeAll hD hS hA
        refine va_callv (va_runV (As := []) (rest := []) ⟨hx, hb, hml, hown, hts⟩ (mX4_lampsGo l dC dI cI cL ad H.size (sA w_1.2 18 (upd (gA w_1.2 18) v1.toNatClampNeg v2))  n w_4 hw_4) (cwV 0 hts gX4_sensor_X4_lampsGo rfl rfl rfl (by decide +kernel) ⟨Nat.le_of_ble_eq_true rfl, Nat.le_of_ble_eq_true rfl⟩) ⟨wPre_blind, va_recv hK hP (ci := 4) (q0 := 0) rfl rfl, wPre_of hP hK hD hZ⟩ rfl rfl hl.1 rfl (lv_room (Nat.le_of_ble_eq_true rfl)) dX4_sensor_30 ⟨by decide, by decide⟩) hS (fun q _ h => hFc q h) hFc (fun u2 t H1 locs ht hvm hw hB hz1 hk1 hS => ?_)
        obtain ⟨hP1, hK1, hD1⟩ := hB
        rw [ht] at hP1
        subst u2
        have hP : va_P (dC, dI) vwCl (cw ad cI cL w_4) H1 := hP1
        have hD : va_D A (cw ad cI cL w_4) := hD1.weaken (fun _ _ _ h => hFc _ h)
        clear hP1 hD1 hK1 hFc hk1
        generalize H1 = H at hP hS ⊢
        have hf := Option.some.inj hf
        refine W.widen (k := 2) (n := 12) (by decide) (by decide) ?_
        refine vx_ret ?_
        exact W.vret hx hb hr (fun t ht hW => ⟨⟨w_4, rfl, hf, ⟨by rw [ht]; exact hP, va_K.moved hW.alike hK, hD⟩⟩, hS.F ht⟩) hS.2.2 dX4_sensor_33
  exact (key n) z1 z2 u _ _ ls hf0 hP hD hS (lv_sub hl [0, 1, 2] rfl)

def fX4_daylight (n pc : Nat) (v1 : Int32) (v2 : Int32) (u : St) : Option (Nat × Int32 × St) := match n with
  | 0 => none
  | n + 1 => match pc with
    | 0 => ((FX4_checkPoint n v1 u).bind fun w_1 => (if w_1.1 = 0 then ((FX4_checkBounds n v2 (0 : Int32) (100000 : Int32)).bind fun w_2 => (if w_2 = 0 then (if ck v1 16 = true then some (0, ((gA w_1.2 19) v1.toNatClampNeg), sA w_1.2 19 (upd (gA w_1.2 19) v1.toNatClampNeg v2)) else none) else some (w_2, (0 : Int32), w_1.2))) else some (w_1.1, (0 : Int32), w_1.2)))
    | _ => none
theorem eX4_daylight_0 (n : Nat) (v1 : Int32) (v2 : Int32) (u : St) : fX4_daylight (n + 1) 0 v1 v2 u = ((FX4_checkPoint n v1 u).bind fun w_1 => (if w_1.1 = 0 then ((FX4_checkBounds n v2 (0 : Int32) (100000 : Int32)).bind fun w_2 => (if w_2 = 0 then (if ck v1 16 = true then some (0, ((gA w_1.2 19) v1.toNatClampNeg), sA w_1.2 19 (upd (gA w_1.2 19) v1.toNatClampNeg v2)) else none) else some (w_2, (0 : Int32), w_1.2))) else some (w_1.1, (0 : Int32), w_1.2))) := rfl
theorem vX4_daylight_0 (v1 : Int32) (v2 : Int32) (u : St) (r : Nat × Int32 × St) : Ev (fun n => fX4_daylight n 0 v1 v2 u) r ↔ Ev (fun n => ((FX4_checkPoint n v1 u).bind fun w_1 => (if w_1.1 = 0 then ((FX4_checkBounds n v2 (0 : Int32) (100000 : Int32)).bind fun w_2 => (if w_2 = 0 then (if ck v1 16 = true then some (0, ((gA w_1.2 19) v1.toNatClampNeg), sA w_1.2 19 (upd (gA w_1.2 19) v1.toNatClampNeg v2)) else none) else some (w_2, (0 : Int32), w_1.2))) else some (w_1.1, (0 : Int32), w_1.2)))) r := Ev_succ (fun n => fX4_daylight n 0 v1 v2 u) r
def FX4_daylight (n : Nat) (v1 : Int32) (v2 : Int32) (u : St) : Option (Nat × Int32 × St) := fX4_daylight n 0 v1 v2 u
set_option maxHeartbeats 4000000 in
set_option maxRecDepth 100000 in
theorem mX4_daylight (l : Launch) (lt : l.stackTraces = false) (dC : Nat → ClassId) (dI : Nat → Nat → Nat) (cI cL : ClassId) (ad sa : Nat → Nat) (sz : Nat) (u : St) (z1 : Int32) (z2 : Int32) (n : Nat) (r : Nat × Int32 × St) (hf0 : FX4_daylight n z1 z2 u = some r) : vx_Met l yX4_daylight wsX4_daylight ({ frames := 9, cells := 2, slots := 12, locals := 133 }) (va_Pc [.ref (ad 0), .int z1, .int z2] (xPre dC dI cI cL sa (cw ad cI cL u) sz)) (va_Qi (fun a t => (0, a, t) = r) (fun t => wPost dC dI cI cL (va_A (cw ad cI cL u) sz) (cw ad cI cL t)) (va_A (cw ad cI cL u) sz)) (vx_X (fun _ : St => True) (fun E t U => ((xcode E, (0 : Int32), t) = r ∧ 0 < xcode E) ∧ wPost dC dI cI cL (va_A (cw ad cI cL u) sz) (cw ad cI cL t) U) (va_A (cw ad cI cL u) sz)) 2 12 (va_A (cw ad cI cL u) sz) := by
  refine vx_ofW (cc := cX4_daylight) (maxL := 4) (ret := (some .int)) (by decide) rfl ?_
  intro p e s m args below meth c s₁ B hml ht0 hv
  obtain ⟨rfl, ⟨hsz, hP, hK, hD0, hZ⟩, hX, hq⟩ := hv
  have hx := B.exec
  have hb := B.bytes
  have hr := B.returns
  have hts := atoms_spec (ws := wsX4_daylight) B.pre
  have hown : s.vm.findClass RX4 = some m.cls := findClass_of_methodNamed B.named
  have hlocks := B.notSynchronized
  subst hsz
  have hD := hD0.self (sz := s.heap.size)
  generalize hAe : va_A (cw ad cI cL u) s.heap.size = A at hD hq ⊢
  have hA : ∀ q : Nat, s.heap.size ≤ q → A q := fun q h => by rw [← hAe]; exact Or.inr h
  have hS : va_S A s.heap s.heap [] := va_S.rf
  have iX1 : ∀ w ∈ u_ws RX1 TX1 11, w ∈ wsX4_daylight := fun _ h => List.mem_cons_of_mem _ (List.mem_append_left _ (List.mem_append_left _ (List.mem_append_right _ h)))
  have iX4 : ∀ w ∈ u_ws RX4 TX4 4, w ∈ wsX4_daylight := fun _ h => List.mem_cons_of_mem _ (List.mem_append_left _ (List.mem_append_left _ (List.mem_append_left _ (List.mem_append_right _ h))))
  have k_0 := hts (.constant RX4 45 (100000)) (by decide +kernel)
  have k_1 := hts (.fieldLink RX4 37 "LampChoice" "days" "LLampChoice$Days;") (by decide +kernel)
  have k_2 := hts (.fieldLink RX4 137 "LampChoice$Days" "daylights" "[I") (by decide +kernel)
  have hl := lv_entry ([.ref (ad 0), .int z1, .int z2]) (n := 4) (Nat.le_of_ble_eq_true rfl)
  rw [lg_entry_eq]
  generalize (lg_sl ([.ref (ad 0), .int z1, .int z2]) ++ List.replicate (4 - (lg_sl ([.ref (ad 0), .int z1, .int z2])).length) Slot.unset).toArray = ls at hl ⊢
  have hl : lv_has ls 4 [(0, .ref (ad 0)), (1, .int z1), (2, .int z2)] := hl
  have key : ∀ n : Nat, (∀ (v1 : Int32) (v2 : Int32) (u : St) (H : Heap) (locs : List Loc) (ls : Array Slot), fX4_daylight n 0 v1 v2 u = some r → va_P (dC, dI) vwCl (cw ad cI cL u) H → va_D A (cw ad cI cL u) → va_S A s.heap H locs → lv_has ls 4 [(0, .ref (ad 0)), (1, .int v1), (2, .int v2)] → W p l e (headSpec wsX4_daylight ({ frames := 9, cells := 2, slots := 12, locals := 133 })).room s m ([.ref (ad 0), .int z1, .int z2] : List Value).toArray below meth c H locs 0 0 (vx_MQ below (va_Qi (fun a t => (0, a, t) = r) (fun t => wPost dC dI cI cL A (cw ad cI cL t)) A) (vx_X (fun _ : St => True) (fun E t U => ((xcode E, (0 : Int32), t) = r ∧ 0 < xcode E) ∧ wPost dC dI cI cL A (cw ad cI cL t) U) A) ([.ref (ad 0), .int z1, .int z2] : List Value).toArray s 2 12 A) (F0 m 0 ls [])) := by
    intro n
    induction n with
    | zero => exact (fun _ _ _ _ _ _ hf => nomatch (show (none : Option (Nat × Int32 × St)) = some r from hf))
    | succ n ih =>
      have ih0 := ih
      · intro v1 v2 u H locs ls hf hP hD hS hl
        have hf := (eX4_daylight_0 n v1 v2 u).symm.trans hf
        refine lv_aload_n hx hb dX4_daylight_0 rfl (lv_at hl 0 rfl) ?_
        refine lv_iload_n hx hb dX4_daylight_1 rfl (lv_at hl 1 rfl) ?_
        obtain ⟨w_1, hw_1, hf⟩ := ob hf
        have hFc := freeAll hD hS hA
        refine vx_callv (vx_runV (As := [.int v1]) (rest := []) ⟨hx, hb, hml, hown, hts⟩ (mX4_checkPoint l lt dC dI cI cL ad sa H.size u v1 n w_1 hw_1) (cwV 1 hts gX4_daylight_X4_checkPoint rfl rfl rfl (by decide +kernel) ⟨Nat.le_of_ble_eq_true rfl, Nat.le_of_ble_eq_true rfl⟩) ⟨xPre_blind, va_recv hK hP (ci := 4) (q0 := 0) rfl rfl, xPre_of hP hK hD hZ hX hq hS hFc⟩ rfl rfl hl.1 rfl (lv_room (Nat.le_of_ble_eq_true rfl)) dX4_daylight_2 ⟨by decide, by decide⟩) hS (fun q _ h => hFc q h) hFc (fun q _ h => hFc q h) (fun E ce q9 u2 t H1 locs ht hvm hpx hB hz1 hk1 hS hce hcv hcl => ?_) (fun u2 t H1 locs ht hvm hw hB hz1 hk1 hS => ?_)
        · obtain ⟨⟨hB1, hB2⟩, hP1, hK1, hD1⟩ := hB
          rw [ht] at hP1
          have e1 : xcode E = w_1.1 := congrArg Prod.fst hB1
          have e2 : u2 = w_1.2 := congrArg (fun z => z.2) hB1
          have hf := (if_neg (show ¬ w_1.1 = 0 from fun h0 => by rw [← e1] at h0; omega)).symm.trans hf
          have hf := Option.some.inj hf
          have hD := hD1.weaken (fun _ _ _ h => hFc _ h)
          subst u2
          have hP : va_P (dC, dI) vwCl (cw ad cI cL w_1.2) H1 := hP1
          refine vx_widen (k := 2) (n := 12) (by decide) (by decide) ?_
          exact vx_out (E := E) (fun x hx => (ht0 x hx).elim) hlocks hce hcv hcl (fun t ht ha => ⟨w_1.2, trivial, ⟨⟨by rw [e1]; exact hf, hB2⟩, ⟨by rw [ht]; exact hP, va_K.moved ha hK, hD⟩⟩, hS.F ht⟩) hS.2.2 (Nat.le_refl _) (Nat.le_refl _)
        have hf := (if_pos (show w_1.1 = 0 from (congrArg Prod.fst hw).symm)).symm.trans hf
        obtain ⟨hP1, hK1, hD1⟩ := hB
        rw [ht] at hP1
        have e2 : u2 = w_1.2 := congrArg Prod.snd hw
        subst u2
        have hP : va_P (dC, dI) vwCl (cw ad cI cL w_1.2) H1 := hP1
        have hD : va_D A (cw ad cI cL w_1.2) := hD1.weaken (fun _ _ _ h => hFc _ h)
        clear hP1 hD1 hK1 hFc hk1
        generalize H1 = H at hP hS ⊢
        refine W.widen (k := 1) (n := 6) (by decide) (by decide) ?_
        refine lv_iload_n hx hb dX4_daylight_5 rfl (lv_at hl 2 rfl) ?_
        refine lv_iconst (v := 0) hx hb dX4_daylight_6 (by decide) ?_
        refine lv_ldc (v := 100000) hx hb hown k_0 dX4_daylight_7 ?_
        obtain ⟨w_2, hw_2, hf⟩ := ob hf
        have hFc := freeNil hS hA
        refine vx_callv (vx_runS (As := [.int v2, .int (0 : Int32), .int (100000 : Int32)]) (rest := []) ⟨hx, hb, hml, hown, hts⟩ (mX4_checkBounds l lt sa H.size v2 (0 : Int32) (100000 : Int32) n w_2 hw_2) (va_cwS 3 hts gX4_daylight_X4_checkBounds rfl rfl rfl (by decide +kernel) ⟨Nat.le_of_ble_eq_true rfl, Nat.le_of_ble_eq_true rfl⟩) ⟨nxPre_blind, nxPre_of hX hq hS hFc⟩ rfl rfl hl.1 rfl (lv_room (Nat.le_of_ble_eq_true rfl)) dX4_daylight_9 ⟨by decide, by decide⟩) hS (fun q _ h => hFc q h) hFc (fun q _ h => hFc q h) (fun E ce q9 u2 t H1 locs ht hvm hpx hB hz1 hk1 hS hce hcv hcl => ?_) (fun u2 t H1 locs ht hvm hw hB hz1 hk1 hS => ?_)
        · obtain ⟨hB1, hB2⟩ := hB
          have hf := (if_neg (show ¬ w_2 = 0 from fun h0 => by rw [← hB1] at h0; omega)).symm.trans hf
          have hf := Option.some.inj hf
          have hP := keepP hP hk1
          refine vx_widen (k := 2) (n := 12) (by decide) (by decide) ?_
          exact vx_out (E := E) (fun x hx => (ht0 x hx).elim) hlocks hce hcv hcl (fun t ht ha => ⟨w_1.2, trivial, ⟨⟨by rw [hB1]; exact hf, hB2⟩, ⟨by rw [ht]; exact hP, va_K.moved ha hK, hD⟩⟩, hS.F ht⟩) hS.2.2 (Nat.le_refl _) (Nat.le_refl _)
        have hf := (if_pos (show w_2 = 0 from hw.symm)).symm.trans hf
        have hP := keepP hP hk1
        clear hFc hk1 hB
        generalize H1 = H at hP hS ⊢
        refine W.widen (k := 2) (n := 12) (by decide) (by decide) ?_
        refine lv_aload_n hx hb dX4_daylight_12 rfl (lv_at hl 0 rfl) ?_
        refine va_get (D := (dC, dI)) (ci := 4) (v := .ref (ad 4)) (C := RX4) (T := TX4) (N := 4) hx hb hts iX4 hown hK hP 0 rfl rfl 3 (by decide) k_1 (fun _ h9 => h9) rfl dX4_daylight_13 ?_
        refine va_get (D := (dC, dI)) (ci := 1) (v := .ref (ad 25)) (C := RX1) (T := TX1) (N := 11) hx hb hts iX1 hown hK hP 4 rfl rfl 3 (by decide) k_2 (fun _ h9 => h9) rfl dX4_daylight_16 ?_
        refine lv_iload_n hx hb dX4_daylight_19 rfl (lv_at hl 1 rfl) ?_
        obtain ⟨h_3, hf⟩ := ck_of hf
        refine va_iald (f := (gA w_1.2 19)) hx hb hK hP 25 0 rfl rfl h_3 dX4_daylight_20 ?_
        refine lv_istore_n (lv' := [(3, .int ((gA w_1.2 19) v1.toNatClampNeg)), (0, .ref (ad 0)), (1, .int v1), (2, .int v2)]) hx hb dX4_daylight_21 rfl hl (by decide) rfl (fun ls hl => ?_)
        refine lv_aload_n hx hb dX4_daylight_22 rfl (lv_at hl 1 rfl) ?_
        refine va_get (D := (dC, dI)) (ci := 4) (v := .ref (ad 4)) (C := RX4) (T := TX4) (N := 4) hx hb hts iX4 hown hK hP 0 rfl rfl 3 (by decide) k_1 (fun _ h9 => h9) rfl dX4_daylight_23 ?_
        refine va_get (D := (dC, dI)) (ci := 1) (v := .ref (ad 25)) (C := RX1) (T := TX1) (N := 11) hx hb hts iX1 hown hK hP 4 rfl rfl 3 (by decide) k_2 (fun _ h9 => h9) rfl dX4_daylight_26 ?_
        refine lv_iload_n hx hb dX4_daylight_29 rfl (lv_at hl 2 rfl) ?_
        refine lv_iload_n hx hb dX4_daylight_30 rfl (lv_at hl 3 rfl) ?_
        refine va_iast (f := (gA w_1.2 19)) hx hb hK hP hD hS 25 0 rfl rfl h_3 dX4_daylight_31 (fun H locs hP hD hS => ?_)
        have hP : va_P (dC, dI) vwCl (cw ad cI cL (sA w_1.2 19 (upd (gA w_1.2 19) v1.toNatClampNeg v2))) H := hP
        have hD : va_D A (cw ad cI cL (sA w_1.2 19 (upd (gA w_1.2 19) v1.toNatClampNeg v2))) := hD
        refine lv_iload_n hx hb dX4_daylight_32 rfl (lv_at hl 0 rfl) ?_
        have hf := Option.some.inj hf
        refine W.widen (k := 2) (n := 12) (by decide) (by decide) ?_
        refine vx_ret ?_
        exact W.iret (v := ((gA w_1.2 19) v1.toNatClampNeg)) hx hb hr (fun t ht hW => ⟨⟨((gA w_1.2 19) v1.toNatClampNeg), (sA w_1.2 19 (upd (gA w_1.2 19) v1.toNatClampNeg v2)), rfl, hf, ⟨by rw [ht]; exact hP, va_K.moved hW.alike hK, hD⟩⟩, hS.F ht⟩) hS.2.2 dX4_daylight_33
  exact (key n) z1 z2 u _ _ ls hf0 hP hD hS (lv_sub hl [0, 1, 2] rfl)

def fX4_step (n pc : Nat) (v1 : Int32) (u : St) : Option (Nat × Int32 × St) := match n with
  | 0 => none
  | n + 1 => match pc with
    | 0 => ((FX4_checkBounds n v1 (1 : Int32) (100 : Int32)).bind fun w_1 => (if w_1 = 0 then some (0, (gI u 9), sI u 9 v1) else some (w_1, (0 : Int32), u)))
    | _ => none
theorem eX4_step_0 (n : Nat) (v1 : Int32) (u : St) : fX4_step (n + 1) 0 v1 u = ((FX4_checkBounds n v1 (1 : Int32) (100 : Int32)).bind fun w_1 => (if w_1 = 0 then some (0, (gI u 9), sI u 9 v1) else some (w_1, (0 : Int32), u))) := rfl
theorem vX4_step_0 (v1 : Int32) (u : St) (r : Nat × Int32 × St) : Ev (fun n => fX4_step n 0 v1 u) r ↔ Ev (fun n => ((FX4_checkBounds n v1 (1 : Int32) (100 : Int32)).bind fun w_1 => (if w_1 = 0 then some (0, (gI u 9), sI u 9 v1) else some (w_1, (0 : Int32), u)))) r := Ev_succ (fun n => fX4_step n 0 v1 u) r
def FX4_step (n : Nat) (v1 : Int32) (u : St) : Option (Nat × Int32 × St) := fX4_step n 0 v1 u
set_option maxHeartbeats 4000000 in
set_option maxRecDepth 100000 in
theorem mX4_step (l : Launch) (lt : l.stackTraces = false) (dC : Nat → ClassId) (dI : Nat → Nat → Nat) (cI cL : ClassId) (ad sa : Nat → Nat) (sz : Nat) (u : St) (z1 : Int32) (n : Nat) (r : Nat × Int32 × St) (hf0 : FX4_step n z1 u = some r) : vx_Met l yX4_step wsX4_step ({ frames := 8, cells := 1, slots := 6, locals := 112 }) (va_Pc [.ref (ad 0), .int z1] (xPre dC dI cI cL sa (cw ad cI cL u) sz)) (va_Qi (fun a t => (0, a, t) = r) (fun t => wPost dC dI cI cL (va_A (cw ad cI cL u) sz) (cw ad cI cL t)) (va_A (cw ad cI cL u) sz)) (vx_X (fun _ : St => True) (fun E t U => ((xcode E, (0 : Int32), t) = r ∧ 0 < xcode E) ∧ wPost dC dI cI cL (va_A (cw ad cI cL u) sz) (cw ad cI cL t) U) (va_A (cw ad cI cL u) sz)) 1 6 (va_A (cw ad cI cL u) sz) := by
  refine vx_ofW (cc := cX4_step) (maxL := 3) (ret := (some .int)) (by decide) rfl ?_
  intro p e s m args below meth c s₁ B hml ht0 hv
  obtain ⟨rfl, ⟨hsz, hP, hK, hD0, hZ⟩, hX, hq⟩ := hv
  have hx := B.exec
  have hb := B.bytes
  have hr := B.returns
  have hts := atoms_spec (ws := wsX4_step) B.pre
  have hown : s.vm.findClass RX4 = some m.cls := findClass_of_methodNamed B.named
  have hlocks := B.notSynchronized
  subst hsz
  have hD := hD0.self (sz := s.heap.size)
  generalize hAe : va_A (cw ad cI cL u) s.heap.size = A at hD hq ⊢
  have hA : ∀ q : Nat, s.heap.size ≤ q → A q := fun q h => by rw [← hAe]; exact Or.inr h
  have hS : va_S A s.heap s.heap [] := va_S.rf
  have iX1 : ∀ w ∈ u_ws RX1 TX1 11, w ∈ wsX4_step := fun _ h => List.mem_cons_of_mem _ (List.mem_append_left _ (List.mem_append_right _ h))
  have iX4 : ∀ w ∈ u_ws RX4 TX4 4, w ∈ wsX4_step := fun _ h => List.mem_cons_of_mem _ (List.mem_append_left _ (List.mem_append_left _ (List.mem_append_right _ h)))
  have k_0 := hts (.fieldLink RX4 37 "LampChoice" "days" "LLampChoice$Days;") (by decide +kernel)
  have k_1 := hts (.fieldLink RX4 140 "LampChoice$Days" "farthestStep" "I") (by decide +kernel)
  have hl := lv_entry ([.ref (ad 0), .int z1]) (n := 3) (Nat.le_of_ble_eq_true rfl)
  rw [lg_entry_eq]
  generalize (lg_sl ([.ref (ad 0), .int z1]) ++ List.replicate (3 - (lg_sl ([.ref (ad 0), .int z1])).length) Slot.unset).toArray = ls at hl ⊢
  have hl : lv_has ls 3 [(0, .ref (ad 0)), (1, .int z1)] := hl
  have key : ∀ n : Nat, (∀ (v1 : Int32) (u : St) (H : Heap) (locs : List Loc) (ls : Array Slot), fX4_step n 0 v1 u = some r → va_P (dC, dI) vwCl (cw ad cI cL u) H → va_D A (cw ad cI cL u) → va_S A s.heap H locs → lv_has ls 3 [(0, .ref (ad 0)), (1, .int v1)] → W p l e (headSpec wsX4_step ({ frames := 8, cells := 1, slots := 6, locals := 112 })).room s m ([.ref (ad 0), .int z1] : List Value).toArray below meth c H locs 0 0 (vx_MQ below (va_Qi (fun a t => (0, a, t) = r) (fun t => wPost dC dI cI cL A (cw ad cI cL t)) A) (vx_X (fun _ : St => True) (fun E t U => ((xcode E, (0 : Int32), t) = r ∧ 0 < xcode E) ∧ wPost dC dI cI cL A (cw ad cI cL t) U) A) ([.ref (ad 0), .int z1] : List Value).toArray s 1 6 A) (F0 m 0 ls [])) := by
    intro n
    induction n with
    | zero => exact (fun _ _ _ _ _ hf => nomatch (show (none : Option (Nat × Int32 × St)) = some r from hf))
    | succ n ih =>
      have ih0 := ih
      · intro v1 u H locs ls hf hP hD hS hl
        have hf := (eX4_step_0 n v1 u).symm.trans hf
        refine lv_iload_n hx hb dX4_step_0 rfl (lv_at hl 1 rfl) ?_
        refine lv_iconst (v := 1) hx hb dX4_step_1 (by decide) ?_
        refine lv_bipush (v := 100) hx hb dX4_step_2 (by decide) ?_
        obtain ⟨w_1, hw_1, hf⟩ := ob hf
        have hFc := freeNil hS hA
        refine vx_callv (vx_runS (As := [.int v1, .int (1 : Int32), .int (100 : Int32)]) (rest := []) ⟨hx, hb, hml, hown, hts⟩ (mX4_checkBounds l lt sa H.size v1 (1 : Int32) (100 : Int32) n w_1 hw_1) (va_cwS 3 hts gX4_step_X4_checkBounds rfl rfl rfl (by decide +kernel) ⟨Nat.le_of_ble_eq_true rfl, Nat.le_of_ble_eq_true rfl⟩) ⟨nxPre_blind, nxPre_of hX hq hS hFc⟩ rfl rfl hl.1 rfl (lv_room (Nat.le_of_ble_eq_true rfl)) dX4_step_4 ⟨by decide, by decide⟩) hS (fun q _ h => hFc q h) hFc (fun q _ h => hFc q h) (fun E ce q9 u2 t H1 locs ht hvm hpx hB hz1 hk1 hS hce hcv hcl => ?_) (fun u2 t H1 locs ht hvm hw hB hz1 hk1 hS => ?_)
        · obtain ⟨hB1, hB2⟩ := hB
          have hf := (if_neg (show ¬ w_1 = 0 from fun h0 => by rw [← hB1] at h0; omega)).symm.trans hf
          have hf := Option.some.inj hf
          have hP := keepP hP hk1
          refine vx_widen (k := 1) (n := 6) (by decide) (by decide) ?_
          exact vx_out (E := E) (fun x hx => (ht0 x hx).elim) hlocks hce hcv hcl (fun t ht ha => ⟨u, trivial, ⟨⟨by rw [hB1]; exact hf, hB2⟩, ⟨by rw [ht]; exact hP, va_K.moved ha hK, hD⟩⟩, hS.F ht⟩) hS.2.2 (Nat.le_refl _) (Nat.le_refl _)
        have hf := (if_pos (show w_1 = 0 from hw.symm)).symm.trans hf
        have hP := keepP hP hk1
        clear hFc hk1 hB
        generalize H1 = H at hP hS ⊢
        refine W.widen (k := 1) (n := 6) (by decide) (by decide) ?_
        refine lv_aload_n hx hb dX4_step_7 rfl (lv_at hl 0 rfl) ?_
        refine va_get (D := (dC, dI)) (ci := 4) (v := .ref (ad 4)) (C := RX4) (T := TX4) (N := 4) hx hb hts iX4 hown hK hP 0 rfl rfl 3 (by decide) k_0 (fun _ h9 => h9) rfl dX4_step_8 ?_
        refine va_get (D := (dC, dI)) (ci := 1) (v := .int (gI u 9)) (C := RX1) (T := TX1) (N := 11) hx hb hts iX1 hown hK hP 4 rfl rfl 6 (by decide) k_1 (fun _ h9 => h9) rfl dX4_step_11 ?_
        refine lv_istore_n (lv' := [(2, .int (gI u 9)), (0, .ref (ad 0)), (1, .int v1)]) hx hb dX4_step_14 rfl hl (by decide) rfl (fun ls hl => ?_)
        refine lv_aload_n hx hb dX4_step_15 rfl (lv_at hl 1 rfl) ?_
        refine va_get (D := (dC, dI)) (ci := 4) (v := .ref (ad 4)) (C := RX4) (T := TX4) (N := 4) hx hb hts iX4 hown hK hP 0 rfl rfl 3 (by decide) k_0 (fun _ h9 => h9) rfl dX4_step_16 ?_
        refine lv_iload_n hx hb dX4_step_19 rfl (lv_at hl 2 rfl) ?_
        refine va_put (D := (dC, dI)) (ci := 1) (v := .int v1) (ty := .int) (C := RX1) (T := TX1) (N := 11) hx hb hts iX1 tyX1 tyX1_ok nmX1 hown hK hP hD hS 4 rfl rfl 6 (by decide) k_1 (fun _ h9 => h9) rfl (by decide +kernel) rfl rfl (Nat.le_of_ble_eq_true rfl) dX4_step_20 (fun H locs hP hD hS => ?_)
        have hP : va_P (dC, dI) vwCl (cw ad cI cL (sI u 9 v1)) H := hP
        have hD : va_D A (cw ad cI cL (sI u 9 v1)) := hD
        refine lv_iload_n hx hb dX4_step_23 rfl (lv_at hl 0 rfl) ?_
        have hf := Option.some.inj hf
        refine W.widen (k := 1) (n := 6) (by decide) (by decide) ?_
        refine vx_ret ?_
        exact W.iret (v := (gI u 9)) hx hb hr (fun t ht hW => ⟨⟨(gI u 9), (sI u 9 v1), rfl, hf, ⟨by rw [ht]; exact hP, va_K.moved hW.alike hK, hD⟩⟩, hS.F ht⟩) hS.2.2 dX4_step_24
  exact (key n) z1 u _ _ ls hf0 hP hD hS (lv_sub hl [0, 1] rfl)

def fX4_run (n pc : Nat) (v1 : Int32) (u : St) : Option (Nat × Int32 × St) := match n with
  | 0 => none
  | n + 1 => match pc with
    | 0 => ((FX4_checkBounds n v1 (1 : Int32) (10000 : Int32)).bind fun w_1 => (if w_1 = 0 then (if (gI u 10) ≤ ((1000000 : Int32) - v1) then ((FX0_settle n  u).bind fun w_3 => ((FX1_pass n v1 w_3).bind fun w_4 => some (0, (gI w_4 10), w_4))) else some (2, (0 : Int32), u)) else some (w_1, (0 : Int32), u)))
    | _ => none
theorem eX4_run_0 (n : Nat) (v1 : Int32) (u : St) : fX4_run (n + 1) 0 v1 u = ((FX4_checkBounds n v1 (1 : Int32) (10000 : Int32)).bind fun w_1 => (if w_1 = 0 then (if (gI u 10) ≤ ((1000000 : Int32) - v1) then ((FX0_settle n  u).bind fun w_3 => ((FX1_pass n v1 w_3).bind fun w_4 => some (0, (gI w_4 10), w_4))) else some (2, (0 : Int32), u)) else some (w_1, (0 : Int32), u))) := rfl
theorem vX4_run_0 (v1 : Int32) (u : St) (r : Nat × Int32 × St) : Ev (fun n => fX4_run n 0 v1 u) r ↔ Ev (fun n => ((FX4_checkBounds n v1 (1 : Int32) (10000 : Int32)).bind fun w_1 => (if w_1 = 0 then (if (gI u 10) ≤ ((1000000 : Int32) - v1) then ((FX0_settle n  u).bind fun w_3 => ((FX1_pass n v1 w_3).bind fun w_4 => some (0, (gI w_4 10), w_4))) else some (2, (0 : Int32), u)) else some (w_1, (0 : Int32), u)))) r := Ev_succ (fun n => fX4_run n 0 v1 u) r
def FX4_run (n : Nat) (v1 : Int32) (u : St) : Option (Nat × Int32 × St) := fX4_run n 0 v1 u
set_option maxHeartbeats 4000000 in
set_option maxRecDepth 100000 in
theorem mX4_run (l : Launch) (lt : l.stackTraces = false) (dC : Nat → ClassId) (dI : Nat → Nat → Nat) (cI cL : ClassId) (ad sa : Nat → Nat) (sz : Nat) (u : St) (z1 : Int32) (n : Nat) (r : Nat × Int32 × St) (hf0 : FX4_run n z1 u = some r) : vx_Met l yX4_run wsX4_run ({ frames := 12, cells := 2, slots := 12, locals := 323 }) (va_Pc [.ref (ad 0), .int z1] (xPre dC dI cI cL sa (cw ad cI cL u) sz)) (va_Qi (fun a t => (0, a, t) = r) (fun t => wPost dC dI cI cL (va_A (cw ad cI cL u) sz) (cw ad cI cL t)) (va_A (cw ad cI cL u) sz)) (vx_X (fun _ : St => True) (fun E t U => ((xcode E, (0 : Int32), t) = r ∧ 0 < xcode E) ∧ wPost dC dI cI cL (va_A (cw ad cI cL u) sz) (cw ad cI cL t) U) (va_A (cw ad cI cL u) sz)) 2 12 (va_A (cw ad cI cL u) sz) := by
  refine vx_ofW (cc := cX4_run) (maxL := 2) (ret := (some .int)) (by decide) rfl ?_
  intro p e s m args below meth c s₁ B hml ht0 hv
  obtain ⟨rfl, ⟨hsz, hP, hK, hD0, hZ⟩, hX, hq⟩ := hv
  have hx := B.exec
  have hb := B.bytes
  have hr := B.returns
  have hts := atoms_spec (ws := wsX4_run) B.pre
  have hown : s.vm.findClass RX4 = some m.cls := findClass_of_methodNamed B.named
  have hlocks := B.notSynchronized
  subst hsz
  have hD := hD0.self (sz := s.heap.size)
  generalize hAe : va_A (cw ad cI cL u) s.heap.size = A at hD hq ⊢
  have hA : ∀ q : Nat, s.heap.size ≤ q → A q := fun q h => by rw [← hAe]; exact Or.inr h
  have hS : va_S A s.heap s.heap [] := va_S.rf
  have iX1 : ∀ w ∈ u_ws RX1 TX1 11, w ∈ wsX4_run := fun _ h => List.mem_cons_of_mem _ (List.mem_append_left _ (List.mem_append_left _ (List.mem_append_left _ (List.mem_append_left _ (List.mem_append_right _ h)))))
  have iX4 : ∀ w ∈ u_ws RX4 TX4 4, w ∈ wsX4_run := fun _ h => List.mem_cons_of_mem _ (List.mem_append_left _ (List.mem_append_left _ (List.mem_append_left _ (List.mem_append_left _ (List.mem_append_left _ (List.mem_append_right _ h))))))
  have k_0 := hts (.fieldLink RX4 37 "LampChoice" "days" "LLampChoice$Days;") (by decide +kernel)
  have k_1 := hts (.fieldLink RX4 143 "LampChoice$Days" "minutes" "I") (by decide +kernel)
  have k_2 := hts (.constant RX4 117 (1000000)) (by decide +kernel)
  have k_3 := hts (.fieldLink RX4 21 "LampChoice" "choice" "LLampChoice$Choice;") (by decide +kernel)
  have k_4 := hts (.classLink RX4 146 "java/lang/IllegalStateException") (by decide +kernel)
  have k_5 := hts (.initialized "java/lang/IllegalStateException") (by decide +kernel)
  have hl := lv_entry ([.ref (ad 0), .int z1]) (n := 2) (Nat.le_of_ble_eq_true rfl)
  rw [lg_entry_eq]
  generalize (lg_sl ([.ref (ad 0), .int z1]) ++ List.replicate (2 - (lg_sl ([.ref (ad 0), .int z1])).length) Slot.unset).toArray = ls at hl ⊢
  have hl : lv_has ls 2 [(0, .ref (ad 0)), (1, .int z1)] := hl
  have key : ∀ n : Nat, (∀ (v1 : Int32) (u : St) (H : Heap) (locs : List Loc) (ls : Array Slot), fX4_run n 0 v1 u = some r → va_P (dC, dI) vwCl (cw ad cI cL u) H → va_D A (cw ad cI cL u) → va_S A s.heap H locs → lv_has ls 2 [(0, .ref (ad 0)), (1, .int v1)] → W p l e (headSpec wsX4_run ({ frames := 12, cells := 2, slots := 12, locals := 323 })).room s m ([.ref (ad 0), .int z1] : List Value).toArray below meth c H locs 0 0 (vx_MQ below (va_Qi (fun a t => (0, a, t) = r) (fun t => wPost dC dI cI cL A (cw ad cI cL t)) A) (vx_X (fun _ : St => True) (fun E t U => ((xcode E, (0 : Int32), t) = r ∧ 0 < xcode E) ∧ wPost dC dI cI cL A (cw ad cI cL t) U) A) ([.ref (ad 0), .int z1] : List Value).toArray s 2 12 A) (F0 m 0 ls [])) := by
    intro n
    induction n with
    | zero => exact (fun _ _ _ _ _ hf => nomatch (show (none : Option (Nat × Int32 × St)) = some r from hf))
    | succ n ih =>
      have ih0 := ih
      · intro v1 u H locs ls hf hP hD hS hl
        have hf := (eX4_run_0 n v1 u).symm.trans hf
        refine lv_iload_n hx hb dX4_run_0 rfl (lv_at hl 1 rfl) ?_
        refine lv_iconst (v := 1) hx hb dX4_run_1 (by decide) ?_
        refine lv_sipush (v := 10000) hx hb dX4_run_2 (by decide) ?_
        obtain ⟨w_1, hw_1, hf⟩ := ob hf
        have hFc := freeNil hS hA
        refine vx_callv (vx_runS (As := [.int v1, .int (1 : Int32), .int (10000 : Int32)]) (rest := []) ⟨hx, hb, hml, hown, hts⟩ (mX4_checkBounds l lt sa H.size v1 (1 : Int32) (10000 : Int32) n w_1 hw_1) (va_cwS 3 hts gX4_run_X4_checkBounds rfl rfl rfl (by decide +kernel) ⟨Nat.le_of_ble_eq_true rfl, Nat.le_of_ble_eq_true rfl⟩) ⟨nxPre_blind, nxPre_of hX hq hS hFc⟩ rfl rfl hl.1 rfl (lv_room (Nat.le_of_ble_eq_true rfl)) dX4_run_5 ⟨by decide, by decide⟩) hS (fun q _ h => hFc q h) hFc (fun q _ h => hFc q h) (fun E ce q9 u2 t H1 locs ht hvm hpx hB hz1 hk1 hS hce hcv hcl => ?_) (fun u2 t H1 locs ht hvm hw hB hz1 hk1 hS => ?_)
        · obtain ⟨hB1, hB2⟩ := hB
          have hf := (if_neg (show ¬ w_1 = 0 from fun h0 => by rw [← hB1] at h0; omega)).symm.trans hf
          have hf := Option.some.inj hf
          have hP := keepP hP hk1
          refine vx_widen (k := 2) (n := 12) (by decide) (by decide) ?_
          exact vx_out (E := E) (fun x hx => (ht0 x hx).elim) hlocks hce hcv hcl (fun t ht ha => ⟨u, trivial, ⟨⟨by rw [hB1]; exact hf, hB2⟩, ⟨by rw [ht]; exact hP, va_K.moved ha hK, hD⟩⟩, hS.F ht⟩) hS.2.2 (Nat.le_refl _) (Nat.le_refl _)
        have hf := (if_pos (show w_1 = 0 from hw.symm)).symm.trans hf
        have hP := keepP hP hk1
        clear hFc hk1 hB
        generalize H1 = H at hP hS ⊢
        refine W.widen (k := 1) (n := 6) (by decide) (by decide) ?_
        refine lv_aload_n hx hb dX4_run_8 rfl (lv_at hl 0 rfl) ?_
        refine va_get (D := (dC, dI)) (ci := 4) (v := .ref (ad 4)) (C := RX4) (T := TX4) (N := 4) hx hb hts iX4 hown hK hP 0 rfl rfl 3 (by decide) k_0 (fun _ h9 => h9) rfl dX4_run_9 ?_
        refine va_get (D := (dC, dI)) (ci := 1) (v := .int (gI u 10)) (C := RX1) (T := TX1) (N := 11) hx hb hts iX1 hown hK hP 4 rfl rfl 7 (by decide) k_1 (fun _ h9 => h9) rfl dX4_run_12 ?_
        refine lv_ldc (v := 1000000) hx hb hown k_2 dX4_run_15 ?_
        refine lv_iload_n hx hb dX4_run_17 rfl (lv_at hl 1 rfl) ?_
        refine lv_isub hx hb dX4_run_18 ?_
        refine lv_icmp_le (tgt := 32) hx hb dX4_run_19 (by decide) (fun c_2 => ?_) (fun c_2 => ?_)
        · have hf := (if_pos c_2).symm.trans hf
          refine lv_aload_n hx hb dX4_run_32 rfl (lv_at hl 0 rfl) ?_
          refine va_get (D := (dC, dI)) (ci := 4) (v := .ref (ad 2)) (C := RX4) (T := TX4) (N := 4) hx hb hts iX4 hown hK hP 0 rfl rfl 1 (by decide) k_3 (fun _ h9 => h9) rfl dX4_run_33 ?_
          obtain ⟨w_3, hw_3, hf⟩ := ob hf
          have hFc := freeAll hD hS hA
          refine va_callv (va_runV (As := []) (rest := []) ⟨hx, hb, hml, hown, hts⟩ (mX0_settle l dC dI cI cL ad H.size u  n w_3 hw_3) (cwV 0 hts gX4_run_X0_settle rfl rfl rfl (by decide +kernel) ⟨Nat.le_of_ble_eq_true rfl, Nat.le_of_ble_eq_true rfl⟩) ⟨wPre_blind, va_recv hK hP (ci := 0) (q0 := 2) rfl rfl, wPre_of hP hK hD hZ⟩ rfl rfl hl.1 rfl (lv_room (Nat.le_of_ble_eq_true rfl)) dX4_run_36 ⟨by decide, by decide⟩) hS (fun q _ h => hFc q h) hFc (fun u2 t H1 locs ht hvm hw hB hz1 hk1 hS => ?_)
          obtain ⟨hP1, hK1, hD1⟩ := hB
          rw [ht] at hP1
          subst u2
          have hP : va_P (dC, dI) vwCl (cw ad cI cL w_3) H1 := hP1
          have hD : va_D A (cw ad cI cL w_3) := hD1.weaken (fun _ _ _ h => hFc _ h)
          clear hP1 hD1 hK1 hFc hk1
          generalize H1 = H at hP hS ⊢
          refine lv_aload_n hx hb dX4_run_39 rfl (lv_at hl 0 rfl) ?_
          refine va_get (D := (dC, dI)) (ci := 4) (v := .ref (ad 4)) (C := RX4) (T := TX4) (N := 4) hx hb hts iX4 hown hK hP 0 rfl rfl 3 (by decide) k_0 (fun _ h9 => h9) rfl dX4_run_40 ?_
          refine lv_iload_n hx hb dX4_run_43 rfl (lv_at hl 1 rfl) ?_
          obtain ⟨w_4, hw_4, hf⟩ := ob hf
          have hFc := freeAll hD hS hA
          refine va_callv (va_runV (As := [.int v1]) (rest := []) ⟨hx, hb, hml, hown, hts⟩ (mX1_pass l dC dI cI cL ad H.size w_3 v1 n w_4 hw_4) (cwV 1 hts gX4_run_X1_pass rfl rfl rfl (by decide +kernel) ⟨Nat.le_of_ble_eq_true rfl, Nat.le_of_ble_eq_true rfl⟩) ⟨wPre_blind, va_recv hK hP (ci := 1) (q0 := 4) rfl rfl, wPre_of hP hK hD hZ⟩ rfl rfl hl.1 rfl (lv_room (Nat.le_of_ble_eq_true rfl)) dX4_run_44 ⟨by decide, by decide⟩) hS (fun q _ h => hFc q h) hFc (fun u2 t H1 locs ht hvm hw hB hz1 hk1 hS => ?_)
          obtain ⟨hP1, hK1, hD1⟩ := hB
          rw [ht] at hP1
          subst u2
          have hP : va_P (dC, dI) vwCl (cw ad cI cL w_4) H1 := hP1
          have hD : va_D A (cw ad cI cL w_4) := hD1.weaken (fun _ _ _ h => hFc _ h)
          clear hP1 hD1 hK1 hFc hk1
          generalize H1 = H at hP hS ⊢
          refine lv_aload_n hx hb dX4_run_47 rfl (lv_at hl 0 rfl) ?_
          refine va_get (D := (dC, dI)) (ci := 4) (v := .ref (ad 4)) (C := RX4) (T := TX4) (N := 4) hx hb hts iX4 hown hK hP 0 rfl rfl 3 (by decide) k_0 (fun _ h9 => h9) rfl dX4_run_48 ?_
          refine va_get (D := (dC, dI)) (ci := 1) (v := .int (gI w_4 10)) (C := RX1) (T := TX1) (N := 11) hx hb hts iX1 hown hK hP 4 rfl rfl 7 (by decide) k_1 (fun _ h9 => h9) rfl dX4_run_51 ?_
          have hf := Option.some.inj hf
          refine W.widen (k := 2) (n := 12) (by decide) (by decide) ?_
          refine vx_ret ?_
          exact W.iret (v := (gI w_4 10)) hx hb hr (fun t ht hW => ⟨⟨(gI w_4 10), w_4, rfl, hf, ⟨by rw [ht]; exact hP, va_K.moved hW.alike hK, hD⟩⟩, hS.F ht⟩) hS.2.2 dX4_run_54
        · have hf := (if_neg c_2).symm.trans hf
          have hf := Option.some.inj hf
          exact vx_throwS (cls := "java/lang/IllegalStateException") (text := "there would be too many minutes") (names := ["java/lang/RuntimeException", "java/lang/Exception"]) hx hb lt hown (by decide) (by decide) k_4 k_5 hX.2.2.2.2.2.2.2.1 (vx_hat (L := vx_atS RX4 150 "java/lang/IllegalStateException" ["java/lang/RuntimeException", "java/lang/Exception"]) (B := [.castable "java/lang/IllegalStateException" "java/lang/IllegalStateException", .declares ⟨"java/lang/RuntimeException", "<init>", "(Ljava/lang/String;)V"⟩, .declares ⟨"java/lang/Exception", "<init>", "(Ljava/lang/String;)V"⟩, .declares ⟨"java/lang/Throwable", "<init>", "(Ljava/lang/String;)V"⟩]) (fun w h => hts w (List.mem_cons_of_mem _ (List.mem_append_left _ (List.mem_append_right _ h)))) (by decide +kernel) (vx_c (va_Nw.use rfl hX.2.1) (vx_c (va_Nw.use rfl hX.2.2.1) (vx_c (va_Nw.use rfl hX.2.2.2.1) (vx_c (va_Nw.use rfl hX.2.2.2.2.1) (vx_n)))))) (by decide +kernel) hq.1 hq.2 hS (by rw [hml]; exact hl.1) dX4_run_22 dX4_run_25 dX4_run_26 dX4_run_28 dX4_run_31 (fun x hx => (ht0 x hx).elim) (by decide) (by decide) (by decide) (by decide) hlocks (fun t ha hz hk => ⟨u, trivial, ⟨⟨hf, by decide⟩, ⟨hP.grown hk, va_K.moved ha hK, hD⟩⟩, va_F.of hS hz hk⟩) hS.2.2 (by decide) (by decide)
  exact (key n) z1 u _ _ ls hf0 hP hD hS (lv_sub hl [0, 1] rfl)

def fX4_own (n pc : Nat) (v1 : Int32) (v2 : Int32) (u : St) : Option (Nat × Int32 × St) := match n with
  | 0 => none
  | n + 1 => match pc with
    | 0 => ((FX4_checkPlace n v1 u).bind fun w_1 => (if w_1.1 = 0 then ((FX4_checkBounds n v2 (0 : Int32) (1 : Int32)).bind fun w_2 => (if w_2 = 0 then ((FX0_settle n  w_1.2).bind fun w_3 => (if ck v1 7 = true then (if ((gA w_3 14) v1.toNatClampNeg) = (-1 : Int32) then some (0, (-1 : Int32), w_3) else (if v2 = 0 then some (0, ((gA w_3 20) v1.toNatClampNeg), w_3) else some (0, ((gA w_3 21) v1.toNatClampNeg), w_3))) else none)) else some (w_2, (0 : Int32), w_1.2))) else some (w_1.1, (0 : Int32), w_1.2)))
    | _ => none
theorem eX4_own_0 (n : Nat) (v1 : Int32) (v2 : Int32) (u : St) : fX4_own (n + 1) 0 v1 v2 u = ((FX4_checkPlace n v1 u).bind fun w_1 => (if w_1.1 = 0 then ((FX4_checkBounds n v2 (0 : Int32) (1 : Int32)).bind fun w_2 => (if w_2 = 0 then ((FX0_settle n  w_1.2).bind fun w_3 => (if ck v1 7 = true then (if ((gA w_3 14) v1.toNatClampNeg) = (-1 : Int32) then some (0, (-1 : Int32), w_3) else (if v2 = 0 then some (0, ((gA w_3 20) v1.toNatClampNeg), w_3) else some (0, ((gA w_3 21) v1.toNatClampNeg), w_3))) else none)) else some (w_2, (0 : Int32), w_1.2))) else some (w_1.1, (0 : Int32), w_1.2))) := rfl
theorem vX4_own_0 (v1 : Int32) (v2 : Int32) (u : St) (r : Nat × Int32 × St) : Ev (fun n => fX4_own n 0 v1 v2 u) r ↔ Ev (fun n => ((FX4_checkPlace n v1 u).bind fun w_1 => (if w_1.1 = 0 then ((FX4_checkBounds n v2 (0 : Int32) (1 : Int32)).bind fun w_2 => (if w_2 = 0 then ((FX0_settle n  w_1.2).bind fun w_3 => (if ck v1 7 = true then (if ((gA w_3 14) v1.toNatClampNeg) = (-1 : Int32) then some (0, (-1 : Int32), w_3) else (if v2 = 0 then some (0, ((gA w_3 20) v1.toNatClampNeg), w_3) else some (0, ((gA w_3 21) v1.toNatClampNeg), w_3))) else none)) else some (w_2, (0 : Int32), w_1.2))) else some (w_1.1, (0 : Int32), w_1.2)))) r := Ev_succ (fun n => fX4_own n 0 v1 v2 u) r
def FX4_own (n : Nat) (v1 : Int32) (v2 : Int32) (u : St) : Option (Nat × Int32 × St) := fX4_own n 0 v1 v2 u
set_option maxHeartbeats 4000000 in
set_option maxRecDepth 100000 in
theorem mX4_own (l : Launch) (lt : l.stackTraces = false) (dC : Nat → ClassId) (dI : Nat → Nat → Nat) (cI cL : ClassId) (ad sa : Nat → Nat) (sz : Nat) (u : St) (z1 : Int32) (z2 : Int32) (n : Nat) (r : Nat × Int32 × St) (hf0 : FX4_own n z1 z2 u = some r) : vx_Met l yX4_own wsX4_own ({ frames := 12, cells := 2, slots := 12, locals := 323 }) (va_Pc [.ref (ad 0), .int z1, .int z2] (xPre dC dI cI cL sa (cw ad cI cL u) sz)) (va_Qi (fun a t => (0, a, t) = r) (fun t => wPost dC dI cI cL (va_A (cw ad cI cL u) sz) (cw ad cI cL t)) (va_A (cw ad cI cL u) sz)) (vx_X (fun _ : St => True) (fun E t U => ((xcode E, (0 : Int32), t) = r ∧ 0 < xcode E) ∧ wPost dC dI cI cL (va_A (cw ad cI cL u) sz) (cw ad cI cL t) U) (va_A (cw ad cI cL u) sz)) 2 12 (va_A (cw ad cI cL u) sz) := by
  refine vx_ofW (cc := cX4_own) (maxL := 3) (ret := (some .int)) (by decide) rfl ?_
  intro p e s m args below meth c s₁ B hml ht0 hv
  obtain ⟨rfl, ⟨hsz, hP, hK, hD0, hZ⟩, hX, hq⟩ := hv
  have hx := B.exec
  have hb := B.bytes
  have hr := B.returns
  have hts := atoms_spec (ws := wsX4_own) B.pre
  have hown : s.vm.findClass RX4 = some m.cls := findClass_of_methodNamed B.named
  have hlocks := B.notSynchronized
  subst hsz
  have hD := hD0.self (sz := s.heap.size)
  generalize hAe : va_A (cw ad cI cL u) s.heap.size = A at hD hq ⊢
  have hA : ∀ q : Nat, s.heap.size ≤ q → A q := fun q h => by rw [← hAe]; exact Or.inr h
  have hS : va_S A s.heap s.heap [] := va_S.rf
  have iX0 : ∀ w ∈ u_ws RX0 TX0 12, w ∈ wsX4_own := fun _ h => List.mem_cons_of_mem _ (List.mem_append_left _ (List.mem_append_left _ (List.mem_append_left _ (List.mem_append_right _ h))))
  have iX1 : ∀ w ∈ u_ws RX1 TX1 11, w ∈ wsX4_own := fun _ h => List.mem_cons_of_mem _ (List.mem_append_left _ (List.mem_append_left _ (List.mem_append_right _ h)))
  have iX4 : ∀ w ∈ u_ws RX4 TX4 4, w ∈ wsX4_own := fun _ h => List.mem_cons_of_mem _ (List.mem_append_left _ (List.mem_append_left _ (List.mem_append_left _ (List.mem_append_left _ (List.mem_append_right _ h)))))
  have k_0 := hts (.fieldLink RX4 21 "LampChoice" "choice" "LLampChoice$Choice;") (by decide +kernel)
  have k_1 := hts (.fieldLink RX4 102 "LampChoice$Choice" "lamps" "[I") (by decide +kernel)
  have k_2 := hts (.fieldLink RX4 37 "LampChoice" "days" "LLampChoice$Days;") (by decide +kernel)
  have k_3 := hts (.fieldLink RX4 159 "LampChoice$Days" "lasted" "[I") (by decide +kernel)
  have k_4 := hts (.fieldLink RX4 156 "LampChoice$Days" "ownLevels" "[I") (by decide +kernel)
  have hl := lv_entry ([.ref (ad 0), .int z1, .int z2]) (n := 3) (Nat.le_of_ble_eq_true rfl)
  rw [lg_entry_eq]
  generalize (lg_sl ([.ref (ad 0), .int z1, .int z2]) ++ List.replicate (3 - (lg_sl ([.ref (ad 0), .int z1, .int z2])).length) Slot.unset).toArray = ls at hl ⊢
  have hl : lv_has ls 3 [(0, .ref (ad 0)), (1, .int z1), (2, .int z2)] := hl
  have key : ∀ n : Nat, (∀ (v1 : Int32) (v2 : Int32) (u : St) (H : Heap) (locs : List Loc) (ls : Array Slot), fX4_own n 0 v1 v2 u = some r → va_P (dC, dI) vwCl (cw ad cI cL u) H → va_D A (cw ad cI cL u) → va_S A s.heap H locs → lv_has ls 3 [(0, .ref (ad 0)), (1, .int v1), (2, .int v2)] → W p l e (headSpec wsX4_own ({ frames := 12, cells := 2, slots := 12, locals := 323 })).room s m ([.ref (ad 0), .int z1, .int z2] : List Value).toArray below meth c H locs 0 0 (vx_MQ below (va_Qi (fun a t => (0, a, t) = r) (fun t => wPost dC dI cI cL A (cw ad cI cL t)) A) (vx_X (fun _ : St => True) (fun E t U => ((xcode E, (0 : Int32), t) = r ∧ 0 < xcode E) ∧ wPost dC dI cI cL A (cw ad cI cL t) U) A) ([.ref (ad 0), .int z1, .int z2] : List Value).toArray s 2 12 A) (F0 m 0 ls [])) := by
    intro n
    induction n with
    | zero => exact (fun _ _ _ _ _ _ hf => nomatch (show (none : Option (Nat × Int32 × St)) = some r from hf))
    | succ n ih =>
      have ih0 := ih
      · intro v1 v2 u H locs ls hf hP hD hS hl
        have hf := (eX4_own_0 n v1 v2 u).symm.trans hf
        refine lv_aload_n hx hb dX4_own_0 rfl (lv_at hl 0 rfl) ?_
        refine lv_iload_n hx hb dX4_own_1 rfl (lv_at hl 1 rfl) ?_
        obtain ⟨w_1, hw_1, hf⟩ := ob hf
        have hFc := freeAll hD hS hA
        refine vx_callv (vx_runV (As := [.int v1]) (rest := []) ⟨hx, hb, hml, hown, hts⟩ (mX4_checkPlace l lt dC dI cI cL ad sa H.size u v1 n w_1 hw_1) (cwV 1 hts gX4_own_X4_checkPlace rfl rfl rfl (by decide +kernel) ⟨Nat.le_of_ble_eq_true rfl, Nat.le_of_ble_eq_true rfl⟩) ⟨xPre_blind, va_recv hK hP (ci := 4) (q0 := 0) rfl rfl, xPre_of hP hK hD hZ hX hq hS hFc⟩ rfl rfl hl.1 rfl (lv_room (Nat.le_of_ble_eq_true rfl)) dX4_own_2 ⟨by decide, by decide⟩) hS (fun q _ h => hFc q h) hFc (fun q _ h => hFc q h) (fun E ce q9 u2 t H1 locs ht hvm hpx hB hz1 hk1 hS hce hcv hcl => ?_) (fun u2 t H1 locs ht hvm hw hB hz1 hk1 hS => ?_)
        · obtain ⟨⟨hB1, hB2⟩, hP1, hK1, hD1⟩ := hB
          rw [ht] at hP1
          have e1 : xcode E = w_1.1 := congrArg Prod.fst hB1
          have e2 : u2 = w_1.2 := congrArg (fun z => z.2) hB1
          have hf := (if_neg (show ¬ w_1.1 = 0 from fun h0 => by rw [← e1] at h0; omega)).symm.trans hf
          have hf := Option.some.inj hf
          have hD := hD1.weaken (fun _ _ _ h => hFc _ h)
          subst u2
          have hP : va_P (dC, dI) vwCl (cw ad cI cL w_1.2) H1 := hP1
          refine vx_widen (k := 2) (n := 12) (by decide) (by decide) ?_
          exact vx_out (E := E) (fun x hx => (ht0 x hx).elim) hlocks hce hcv hcl (fun t ht ha => ⟨w_1.2, trivial, ⟨⟨by rw [e1]; exact hf, hB2⟩, ⟨by rw [ht]; exact hP, va_K.moved ha hK, hD⟩⟩, hS.F ht⟩) hS.2.2 (Nat.le_refl _) (Nat.le_refl _)
        have hf := (if_pos (show w_1.1 = 0 from (congrArg Prod.fst hw).symm)).symm.trans hf
        obtain ⟨hP1, hK1, hD1⟩ := hB
        rw [ht] at hP1
        have e2 : u2 = w_1.2 := congrArg Prod.snd hw
        subst u2
        have hP : va_P (dC, dI) vwCl (cw ad cI cL w_1.2) H1 := hP1
        have hD : va_D A (cw ad cI cL w_1.2) := hD1.weaken (fun _ _ _ h => hFc _ h)
        clear hP1 hD1 hK1 hFc hk1
        generalize H1 = H at hP hS ⊢
        refine W.widen (k := 1) (n := 6) (by decide) (by decide) ?_
        refine lv_iload_n hx hb dX4_own_5 rfl (lv_at hl 2 rfl) ?_
        refine lv_iconst (v := 0) hx hb dX4_own_6 (by decide) ?_
        refine lv_iconst (v := 1) hx hb dX4_own_7 (by decide) ?_
        obtain ⟨w_2, hw_2, hf⟩ := ob hf
        have hFc := freeNil hS hA
        refine vx_callv (vx_runS (As := [.int v2, .int (0 : Int32), .int (1 : Int32)]) (rest := []) ⟨hx, hb, hml, hown, hts⟩ (mX4_checkBounds l lt sa H.size v2 (0 : Int32) (1 : Int32) n w_2 hw_2) (va_cwS 3 hts gX4_own_X4_checkBounds rfl rfl rfl (by decide +kernel) ⟨Nat.le_of_ble_eq_true rfl, Nat.le_of_ble_eq_true rfl⟩) ⟨nxPre_blind, nxPre_of hX hq hS hFc⟩ rfl rfl hl.1 rfl (lv_room (Nat.le_of_ble_eq_true rfl)) dX4_own_8 ⟨by decide, by decide⟩) hS (fun q _ h => hFc q h) hFc (fun q _ h => hFc q h) (fun E ce q9 u2 t H1 locs ht hvm hpx hB hz1 hk1 hS hce hcv hcl => ?_) (fun u2 t H1 locs ht hvm hw hB hz1 hk1 hS => ?_)
        · obtain ⟨hB1, hB2⟩ := hB
          have hf := (if_neg (show ¬ w_2 = 0 from fun h0 => by rw [← hB1] at h0; omega)).symm.trans hf
          have hf := Option.some.inj hf
          have hP := keepP hP hk1
          refine vx_widen (k := 2) (n := 12) (by decide) (by decide) ?_
          exact vx_out (E := E) (fun x hx => (ht0 x hx).elim) hlocks hce hcv hcl (fun t ht ha => ⟨w_1.2, trivial, ⟨⟨by rw [hB1]; exact hf, hB2⟩, ⟨by rw [ht]; exact hP, va_K.moved ha hK, hD⟩⟩, hS.F ht⟩) hS.2.2 (Nat.le_refl _) (Nat.le_refl _)
        have hf := (if_pos (show w_2 = 0 from hw.symm)).symm.trans hf
        have hP := keepP hP hk1
        clear hFc hk1 hB
        generalize H1 = H at hP hS ⊢
        refine W.widen (k := 2) (n := 12) (by decide) (by decide) ?_
        refine lv_aload_n hx hb dX4_own_11 rfl (lv_at hl 0 rfl) ?_
        refine va_get (D := (dC, dI)) (ci := 4) (v := .ref (ad 2)) (C := RX4) (T := TX4) (N := 4) hx hb hts iX4 hown hK hP 0 rfl rfl 1 (by decide) k_0 (fun _ h9 => h9) rfl dX4_own_12 ?_
        obtain ⟨w_3, hw_3, hf⟩ := ob hf
        have hFc := freeAll hD hS hA
        refine va_callv (va_runV (As := []) (rest := []) ⟨hx, hb, hml, hown, hts⟩ (mX0_settle l dC dI cI cL ad H.size w_1.2  n w_3 hw_3) (cwV 0 hts gX4_own_X0_settle rfl rfl rfl (by decide +kernel) ⟨Nat.le_of_ble_eq_true rfl, Nat.le_of_ble_eq_true rfl⟩) ⟨wPre_blind, va_recv hK hP (ci := 0) (q0 := 2) rfl rfl, wPre_of hP hK hD hZ⟩ rfl rfl hl.1 rfl (lv_room (Nat.le_of_ble_eq_true rfl)) dX4_own_15 ⟨by decide, by decide⟩) hS (fun q _ h => hFc q h) hFc (fun u2 t H1 locs ht hvm hw hB hz1 hk1 hS => ?_)
        obtain ⟨hP1, hK1, hD1⟩ := hB
        rw [ht] at hP1
        subst u2
        have hP : va_P (dC, dI) vwCl (cw ad cI cL w_3) H1 := hP1
        have hD : va_D A (cw ad cI cL w_3) := hD1.weaken (fun _ _ _ h => hFc _ h)
        clear hP1 hD1 hK1 hFc hk1
        generalize H1 = H at hP hS ⊢
        refine lv_aload_n hx hb dX4_own_18 rfl (lv_at hl 0 rfl) ?_
        refine va_get (D := (dC, dI)) (ci := 4) (v := .ref (ad 2)) (C := RX4) (T := TX4) (N := 4) hx hb hts iX4 hown hK hP 0 rfl rfl 1 (by decide) k_0 (fun _ h9 => h9) rfl dX4_own_19 ?_
        refine va_get (D := (dC, dI)) (ci := 0) (v := .ref (ad 19)) (C := RX0) (T := TX0) (N := 12) hx hb hts iX0 hown hK hP 2 rfl rfl 7 (by decide) k_1 (fun _ h9 => h9) rfl dX4_own_22 ?_
        refine lv_iload_n hx hb dX4_own_25 rfl (lv_at hl 1 rfl) ?_
        obtain ⟨h_4, hf⟩ := ck_of hf
        refine va_iald (f := (gA w_3 14)) hx hb hK hP 19 0 rfl rfl h_4 dX4_own_26 ?_
        refine lv_iconst (v := -1) hx hb dX4_own_27 (by decide) ?_
        refine lv_icmp_ne (tgt := 33) hx hb dX4_own_28 (by decide) (fun c_5 => ?_) (fun c_5 => ?_)
        · have hf := (if_neg c_5).symm.trans hf
          refine lv_iload_n hx hb dX4_own_33 rfl (lv_at hl 2 rfl) ?_
          refine lv_if_ne (tgt := 49) hx hb dX4_own_34 (by decide) (fun c_6 => ?_) (fun c_6 => ?_)
          · have hf := (if_neg c_6).symm.trans hf
            refine lv_aload_n hx hb dX4_own_49 rfl (lv_at hl 0 rfl) ?_
            refine va_get (D := (dC, dI)) (ci := 4) (v := .ref (ad 4)) (C := RX4) (T := TX4) (N := 4) hx hb hts iX4 hown hK hP 0 rfl rfl 3 (by decide) k_2 (fun _ h9 => h9) rfl dX4_own_50 ?_
            refine va_get (D := (dC, dI)) (ci := 1) (v := .ref (ad 27)) (C := RX1) (T := TX1) (N := 11) hx hb hts iX1 hown hK hP 4 rfl rfl 5 (by decide) k_3 (fun _ h9 => h9) rfl dX4_own_53 ?_
            refine lv_iload_n hx hb dX4_own_56 rfl (lv_at hl 1 rfl) ?_
            refine va_iald (f := (gA w_3 21)) hx hb hK hP 27 0 rfl rfl h_4 dX4_own_57 ?_
            have hf := Option.some.inj hf
            refine W.widen (k := 2) (n := 12) (by decide) (by decide) ?_
            refine vx_ret ?_
            exact W.iret (v := ((gA w_3 21) v1.toNatClampNeg)) hx hb hr (fun t ht hW => ⟨⟨((gA w_3 21) v1.toNatClampNeg), w_3, rfl, hf, ⟨by rw [ht]; exact hP, va_K.moved hW.alike hK, hD⟩⟩, hS.F ht⟩) hS.2.2 dX4_own_58
          · have hf := (if_pos c_6).symm.trans hf
            refine lv_aload_n hx hb dX4_own_37 rfl (lv_at hl 0 rfl) ?_
            refine va_get (D := (dC, dI)) (ci := 4) (v := .ref (ad 4)) (C := RX4) (T := TX4) (N := 4) hx hb hts iX4 hown hK hP 0 rfl rfl 3 (by decide) k_2 (fun _ h9 => h9) rfl dX4_own_38 ?_
            refine va_get (D := (dC, dI)) (ci := 1) (v := .ref (ad 26)) (C := RX1) (T := TX1) (N := 11) hx hb hts iX1 hown hK hP 4 rfl rfl 4 (by decide) k_4 (fun _ h9 => h9) rfl dX4_own_41 ?_
            refine lv_iload_n hx hb dX4_own_44 rfl (lv_at hl 1 rfl) ?_
            refine va_iald (f := (gA w_3 20)) hx hb hK hP 26 0 rfl rfl h_4 dX4_own_45 ?_
            refine lv_goto (tgt := 58) hx hb dX4_own_46 (by decide) ?_
            have hf := Option.some.inj hf
            refine W.widen (k := 2) (n := 12) (by decide) (by decide) ?_
            refine vx_ret ?_
            exact W.iret (v := ((gA w_3 20) v1.toNatClampNeg)) hx hb hr (fun t ht hW => ⟨⟨((gA w_3 20) v1.toNatClampNeg), w_3, rfl, hf, ⟨by rw [ht]; exact hP, va_K.moved hW.alike hK, hD⟩⟩, hS.F ht⟩) hS.2.2 dX4_own_58
        · have hf := (if_pos c_5).symm.trans hf
          refine lv_iconst (v := -1) hx hb dX4_own_31 (by decide) ?_
          have hf := Option.some.inj hf
          refine W.widen (k := 2) (n := 12) (by decide) (by decide) ?_
          refine vx_ret ?_
          exact W.iret (v := (-1 : Int32)) hx hb hr (fun t ht hW => ⟨⟨(-1 : Int32), w_3, rfl, hf, ⟨by rw [ht]; exact hP, va_K.moved hW.alike hK, hD⟩⟩, hS.F ht⟩) hS.2.2 dX4_own_32
  exact (key n) z1 z2 u _ _ ls hf0 hP hD hS (lv_sub hl [0, 1, 2] rfl)

def fX4_used (n pc : Nat) (v1 : Int32) (u : St) : Option (Nat × Int64 × St) := match n with
  | 0 => none
  | n + 1 => match pc with
    | 0 => ((FX4_checkBounds n v1 (0 : Int32) (2 : Int32)).bind fun w_1 => (if w_1 = 0 then (if v1 = 0 then some (0, (gJ u 2), u) else (if v1 = (1 : Int32) then some (0, (gJ u 3), u) else some (0, (gJ u 4), u))) else some (w_1, (0 : Int64), u)))
    | _ => none
theorem eX4_used_0 (n : Nat) (v1 : Int32) (u : St) : fX4_used (n + 1) 0 v1 u = ((FX4_checkBounds n v1 (0 : Int32) (2 : Int32)).bind fun w_1 => (if w_1 = 0 then (if v1 = 0 then some (0, (gJ u 2), u) else (if v1 = (1 : Int32) then some (0, (gJ u 3), u) else some (0, (gJ u 4), u))) else some (w_1, (0 : Int64), u))) := rfl
theorem vX4_used_0 (v1 : Int32) (u : St) (r : Nat × Int64 × St) : Ev (fun n => fX4_used n 0 v1 u) r ↔ Ev (fun n => ((FX4_checkBounds n v1 (0 : Int32) (2 : Int32)).bind fun w_1 => (if w_1 = 0 then (if v1 = 0 then some (0, (gJ u 2), u) else (if v1 = (1 : Int32) then some (0, (gJ u 3), u) else some (0, (gJ u 4), u))) else some (w_1, (0 : Int64), u)))) r := Ev_succ (fun n => fX4_used n 0 v1 u) r
def FX4_used (n : Nat) (v1 : Int32) (u : St) : Option (Nat × Int64 × St) := fX4_used n 0 v1 u
set_option maxHeartbeats 4000000 in
set_option maxRecDepth 100000 in
theorem mX4_used (l : Launch) (lt : l.stackTraces = false) (dC : Nat → ClassId) (dI : Nat → Nat → Nat) (cI cL : ClassId) (ad sa : Nat → Nat) (sz : Nat) (u : St) (z1 : Int32) (n : Nat) (r : Nat × Int64 × St) (hf0 : FX4_used n z1 u = some r) : vx_Met l yX4_used wsX4_used ({ frames := 8, cells := 1, slots := 6, locals := 112 }) (va_Pc [.ref (ad 0), .int z1] (xPre dC dI cI cL sa (cw ad cI cL u) sz)) (va_Ql (fun a t => (0, a, t) = r) (fun t => wPost dC dI cI cL (va_A (cw ad cI cL u) sz) (cw ad cI cL t)) (va_A (cw ad cI cL u) sz)) (vx_X (fun _ : St => True) (fun E t U => ((xcode E, (0 : Int64), t) = r ∧ 0 < xcode E) ∧ wPost dC dI cI cL (va_A (cw ad cI cL u) sz) (cw ad cI cL t) U) (va_A (cw ad cI cL u) sz)) 1 6 (va_A (cw ad cI cL u) sz) := by
  refine vx_ofW (cc := cX4_used) (maxL := 2) (ret := (some .long)) (by decide) rfl ?_
  intro p e s m args below meth c s₁ B hml ht0 hv
  obtain ⟨rfl, ⟨hsz, hP, hK, hD0, hZ⟩, hX, hq⟩ := hv
  have hx := B.exec
  have hb := B.bytes
  have hr := B.returns
  have hts := atoms_spec (ws := wsX4_used) B.pre
  have hown : s.vm.findClass RX4 = some m.cls := findClass_of_methodNamed B.named
  have hlocks := B.notSynchronized
  subst hsz
  have hD := hD0.self (sz := s.heap.size)
  generalize hAe : va_A (cw ad cI cL u) s.heap.size = A at hD hq ⊢
  have hA : ∀ q : Nat, s.heap.size ≤ q → A q := fun q h => by rw [← hAe]; exact Or.inr h
  have hS : va_S A s.heap s.heap [] := va_S.rf
  have iX1 : ∀ w ∈ u_ws RX1 TX1 11, w ∈ wsX4_used := fun _ h => List.mem_cons_of_mem _ (List.mem_append_left _ (List.mem_append_right _ h))
  have iX4 : ∀ w ∈ u_ws RX4 TX4 4, w ∈ wsX4_used := fun _ h => List.mem_cons_of_mem _ (List.mem_append_left _ (List.mem_append_left _ (List.mem_append_right _ h)))
  have k_0 := hts (.fieldLink RX4 37 "LampChoice" "days" "LLampChoice$Days;") (by decide +kernel)
  have k_1 := hts (.fieldLink RX4 169 "LampChoice$Days" "renewed" "J") (by decide +kernel)
  have k_2 := hts (.fieldLink RX4 166 "LampChoice$Days" "paid" "J") (by decide +kernel)
  have k_3 := hts (.fieldLink RX4 162 "LampChoice$Days" "wattMinutes" "J") (by decide +kernel)
  have hl := lv_entry ([.ref (ad 0), .int z1]) (n := 2) (Nat.le_of_ble_eq_true rfl)
  rw [lg_entry_eq]
  generalize (lg_sl ([.ref (ad 0), .int z1]) ++ List.replicate (2 - (lg_sl ([.ref (ad 0), .int z1])).length) Slot.unset).toArray = ls at hl ⊢
  have hl : lv_has ls 2 [(0, .ref (ad 0)), (1, .int z1)] := hl
  have key : ∀ n : Nat, (∀ (v1 : Int32) (u : St) (H : Heap) (locs : List Loc) (ls : Array Slot), fX4_used n 0 v1 u = some r → va_P (dC, dI) vwCl (cw ad cI cL u) H → va_D A (cw ad cI cL u) → va_S A s.heap H locs → lv_has ls 2 [(0, .ref (ad 0)), (1, .int v1)] → W p l e (headSpec wsX4_used ({ frames := 8, cells := 1, slots := 6, locals := 112 })).room s m ([.ref (ad 0), .int z1] : List Value).toArray below meth c H locs 0 0 (vx_MQ below (va_Ql (fun a t => (0, a, t) = r) (fun t => wPost dC dI cI cL A (cw ad cI cL t)) A) (vx_X (fun _ : St => True) (fun E t U => ((xcode E, (0 : Int64), t) = r ∧ 0 < xcode E) ∧ wPost dC dI cI cL A (cw ad cI cL t) U) A) ([.ref (ad 0), .int z1] : List Value).toArray s 1 6 A) (F0 m 0 ls [])) := by
    intro n
    induction n with
    | zero => exact (fun _ _ _ _ _ hf => nomatch (show (none : Option (Nat × Int64 × St)) = some r from hf))
    | succ n ih =>
      have ih0 := ih
      · intro v1 u H locs ls hf hP hD hS hl
        have hf := (eX4_used_0 n v1 u).symm.trans hf
        refine lv_iload_n hx hb dX4_used_0 rfl (lv_at hl 1 rfl) ?_
        refine lv_iconst (v := 0) hx hb dX4_used_1 (by decide) ?_
        refine lv_iconst (v := 2) hx hb dX4_used_2 (by decide) ?_
        obtain ⟨w_1, hw_1, hf⟩ := ob hf
        have hFc := freeNil hS hA
        refine vx_callv (vx_runS (As := [.int v1, .int (0 : Int32), .int (2 : Int32)]) (rest := []) ⟨hx, hb, hml, hown, hts⟩ (mX4_checkBounds l lt sa H.size v1 (0 : Int32) (2 : Int32) n w_1 hw_1) (va_cwS 3 hts gX4_used_X4_checkBounds rfl rfl rfl (by decide +kernel) ⟨Nat.le_of_ble_eq_true rfl, Nat.le_of_ble_eq_true rfl⟩) ⟨nxPre_blind, nxPre_of hX hq hS hFc⟩ rfl rfl hl.1 rfl (lv_room (Nat.le_of_ble_eq_true rfl)) dX4_used_3 ⟨by decide, by decide⟩) hS (fun q _ h => hFc q h) hFc (fun q _ h => hFc q h) (fun E ce q9 u2 t H1 locs ht hvm hpx hB hz1 hk1 hS hce hcv hcl => ?_) (fun u2 t H1 locs ht hvm hw hB hz1 hk1 hS => ?_)
        · obtain ⟨hB1, hB2⟩ := hB
          have hf := (if_neg (show ¬ w_1 = 0 from fun h0 => by rw [← hB1] at h0; omega)).symm.trans hf
          have hf := Option.some.inj hf
          have hP := keepP hP hk1
          refine vx_widen (k := 1) (n := 6) (by decide) (by decide) ?_
          exact vx_out (E := E) (fun x hx => (ht0 x hx).elim) hlocks hce hcv hcl (fun t ht ha => ⟨u, trivial, ⟨⟨by rw [hB1]; exact hf, hB2⟩, ⟨by rw [ht]; exact hP, va_K.moved ha hK, hD⟩⟩, hS.F ht⟩) hS.2.2 (Nat.le_refl _) (Nat.le_refl _)
        have hf := (if_pos (show w_1 = 0 from hw.symm)).symm.trans hf
        have hP := keepP hP hk1
        clear hFc hk1 hB
        generalize H1 = H at hP hS ⊢
        refine W.widen (k := 1) (n := 6) (by decide) (by decide) ?_
        refine lv_iload_n hx hb dX4_used_6 rfl (lv_at hl 1 rfl) ?_
        refine lv_if_ne (tgt := 18) hx hb dX4_used_7 (by decide) (fun c_2 => ?_) (fun c_2 => ?_)
        · have hf := (if_neg c_2).symm.trans hf
          refine lv_iload_n hx hb dX4_used_18 rfl (lv_at hl 1 rfl) ?_
          refine lv_iconst (v := 1) hx hb dX4_used_19 (by decide) ?_
          refine lv_icmp_ne (tgt := 33) hx hb dX4_used_20 (by decide) (fun c_3 => ?_) (fun c_3 => ?_)
          · have hf := (if_neg c_3).symm.trans hf
            refine lv_aload_n hx hb dX4_used_33 rfl (lv_at hl 0 rfl) ?_
            refine va_get (D := (dC, dI)) (ci := 4) (v := .ref (ad 4)) (C := RX4) (T := TX4) (N := 4) hx hb hts iX4 hown hK hP 0 rfl rfl 3 (by decide) k_0 (fun _ h9 => h9) rfl dX4_used_34 ?_
            refine va_get (D := (dC, dI)) (ci := 1) (v := .long (gJ u 4)) (C := RX1) (T := TX1) (N := 11) hx hb hts iX1 hown hK hP 4 rfl rfl 10 (by decide) k_1 (fun _ h9 => h9) rfl dX4_used_37 ?_
            have hf := Option.some.inj hf
            refine W.widen (k := 1) (n := 6) (by decide) (by decide) ?_
            refine vx_ret ?_
            exact W.lret (v := (gJ u 4)) hx hb hr (fun t ht hW => ⟨⟨(gJ u 4), u, rfl, hf, ⟨by rw [ht]; exact hP, va_K.moved hW.alike hK, hD⟩⟩, hS.F ht⟩) hS.2.2 dX4_used_40
          · have hf := (if_pos c_3).symm.trans hf
            refine lv_aload_n hx hb dX4_used_23 rfl (lv_at hl 0 rfl) ?_
            refine va_get (D := (dC, dI)) (ci := 4) (v := .ref (ad 4)) (C := RX4) (T := TX4) (N := 4) hx hb hts iX4 hown hK hP 0 rfl rfl 3 (by decide) k_0 (fun _ h9 => h9) rfl dX4_used_24 ?_
            refine va_get (D := (dC, dI)) (ci := 1) (v := .long (gJ u 3)) (C := RX1) (T := TX1) (N := 11) hx hb hts iX1 hown hK hP 4 rfl rfl 9 (by decide) k_2 (fun _ h9 => h9) rfl dX4_used_27 ?_
            refine lv_goto (tgt := 40) hx hb dX4_used_30 (by decide) ?_
            have hf := Option.some.inj hf
            refine W.widen (k := 1) (n := 6) (by decide) (by decide) ?_
            refine vx_ret ?_
            exact W.lret (v := (gJ u 3)) hx hb hr (fun t ht hW => ⟨⟨(gJ u 3), u, rfl, hf, ⟨by rw [ht]; exact hP, va_K.moved hW.alike hK, hD⟩⟩, hS.F ht⟩) hS.2.2 dX4_used_40
        · have hf := (if_pos c_2).symm.trans hf
          refine lv_aload_n hx hb dX4_used_10 rfl (lv_at hl 0 rfl) ?_
          refine va_get (D := (dC, dI)) (ci := 4) (v := .ref (ad 4)) (C := RX4) (T := TX4) (N := 4) hx hb hts iX4 hown hK hP 0 rfl rfl 3 (by decide) k_0 (fun _ h9 => h9) rfl dX4_used_11 ?_
          refine va_get (D := (dC, dI)) (ci := 1) (v := .long (gJ u 2)) (C := RX1) (T := TX1) (N := 11) hx hb hts iX1 hown hK hP 4 rfl rfl 8 (by decide) k_3 (fun _ h9 => h9) rfl dX4_used_14 ?_
          have hf := Option.some.inj hf
          refine W.widen (k := 1) (n := 6) (by decide) (by decide) ?_
          refine vx_ret ?_
          exact W.lret (v := (gJ u 2)) hx hb hr (fun t ht hW => ⟨⟨(gJ u 2), u, rfl, hf, ⟨by rw [ht]; exact hP, va_K.moved hW.alike hK, hD⟩⟩, hS.F ht⟩) hS.2.2 dX4_used_17
  exact (key n) z1 u _ _ ls hf0 hP hD hS (lv_sub hl [0, 1] rfl)

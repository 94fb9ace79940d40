def fX5_missOf (n pc : Nat) (v1 : Int32) (w2 : Int64) (v4 : Int32) (u : St) : Option (Int64 × St) := match n with
  | 0 => none
  | n + 1 => match pc with
    | 0 => (if ck v1 16 = true then fX5_missOf n 15 v1 ((100 : Int64) * ((gA u 11) v1.toNatClampNeg).toInt64) (0 : Int32) u else none)
    | 15 => (if (gI u 2) ≤ v4 then some (w2, u) else ((FX5_hasLamp n v4 u).bind fun w_3 => (if w_3.1 = 0 then fX5_missOf n 15 v1 (w2 - (0 : Int64)) (v4 + 1) w_3.2 else (if ck v4 7 = true then ((FX5_lightOf n ((gA w_3.2 13) v4.toNatClampNeg) v4 v1 w_3.2).bind fun w_6 => fX5_missOf n 15 v1 (w2 - (w_6.1.toInt64 * ((gA w_6.2 18) v4.toNatClampNeg).toInt64)) (v4 + 1) w_6.2) else none))))
    | _ => none
theorem eX5_missOf_0 (n : Nat) (v1 : Int32) (w2 : Int64) (v4 : Int32) (u : St) : fX5_missOf (n + 1) 0 v1 w2 v4 u = (if ck v1 16 = true then fX5_missOf n 15 v1 ((100 : Int64) * ((gA u 11) v1.toNatClampNeg).toInt64) (0 : Int32) u else none) := rfl
theorem eX5_missOf_15 (n : Nat) (v1 : Int32) (w2 : Int64) (v4 : Int32) (u : St) : fX5_missOf (n + 1) 15 v1 w2 v4 u = (if (gI u 2) ≤ v4 then some (w2, u) else ((FX5_hasLamp n v4 u).bind fun w_3 => (if w_3.1 = 0 then fX5_missOf n 15 v1 (w2 - (0 : Int64)) (v4 + 1) w_3.2 else (if ck v4 7 = true then ((FX5_lightOf n ((gA w_3.2 13) v4.toNatClampNeg) v4 v1 w_3.2).bind fun w_6 => fX5_missOf n 15 v1 (w2 - (w_6.1.toInt64 * ((gA w_6.2 18) v4.toNatClampNeg).toInt64)) (v4 + 1) w_6.2) else none)))) := rfl
theorem vX5_missOf_0 (v1 : Int32) (w2 : Int64) (v4 : Int32) (u : St) (r : Int64 × St) : Ev (fun n => fX5_missOf n 0 v1 w2 v4 u) r ↔ Ev (fun n => (if ck v1 16 = true then fX5_missOf n 15 v1 ((100 : Int64) * ((gA u 11) v1.toNatClampNeg).toInt64) (0 : Int32) u else none)) r := Ev_succ (fun n => fX5_missOf n 0 v1 w2 v4 u) r
theorem vX5_missOf_15 (v1 : Int32) (w2 : Int64) (v4 : Int32) (u : St) (r : Int64 × St) : Ev (fun n => fX5_missOf n 15 v1 w2 v4 u) r ↔ Ev (fun n => (if (gI u 2) ≤ v4 then some (w2, u) else ((FX5_hasLamp n v4 u).bind fun w_3 => (if w_3.1 = 0 then fX5_missOf n 15 v1 (w2 - (0 : Int64)) (v4 + 1) w_3.2 else (if ck v4 7 = true then ((FX5_lightOf n ((gA w_3.2 13) v4.toNatClampNeg) v4 v1 w_3.2).bind fun w_6 => fX5_missOf n 15 v1 (w2 - (w_6.1.toInt64 * ((gA w_6.2 18) v4.toNatClampNeg).toInt64)) (v4 + 1) w_6.2) else none))))) r := Ev_succ (fun n => fX5_missOf n 15 v1 w2 v4 u) r
def FX5_missOf (n : Nat) (v1 : Int32) (u : St) : Option (Int64 × St) := fX5_missOf n 0 v1 0 0 u
set_option maxHeartbeats 4000000 in
set_option maxRecDepth 100000 in
theorem mX5_missOf (l : Launch) (dC : Nat → ClassId) (dI : Nat → Nat → Nat) (cI cL : ClassId) (ad : Nat → Nat) (sz : Nat) (u : St) (z1 : Int32) (n : Nat) (r : Int64 × St) (hf0 : FX5_missOf n z1 u = some r) : Met l yX5_missOf wsX5_missOf ({ frames := 1, cells := 0, slots := 0, locals := 25 }) (va_Pc [.ref (ad 0), .int z1] (wPre dC dI cI cL (mw ad cI cL u) sz)) (va_Ql (fun a t => (a, t) = r) (fun t => wPost dC dI cI cL (va_A (mw ad cI cL u) sz) (mw ad cI cL t)) (va_A (mw ad cI cL u) sz)) 0 0 (va_A (mw ad cI cL u) sz) := by
  refine Met.ofW (cc := cX5_missOf) (maxL := 5) (ret := (some .long)) (by decide) rfl ?_
  intro p e s m args below meth c s₁ B hml hv
  obtain ⟨rfl, hsz, hP, hK, hD0, hZ⟩ := hv
  have hx := B.exec
  have hb := B.bytes
  have hr := B.returns
  have hts := atoms_spec (ws := wsX5_missOf) B.pre
  have hown : s.vm.findClass RX5 = some m.cls := findClass_of_methodNamed B.named
  have hlocks := B.notSynchronized
  subst hsz
  have hD := hD0.self (sz := s.heap.size)
  generalize hAe : va_A (mw ad cI cL u) s.heap.size = A at hD ⊢
  have hA : ∀ q : Nat, s.heap.size ≤ q → A q := fun q h => by rw [← hAe]; exact Or.inr h
  have hS : va_S A s.heap s.heap [] := va_S.rf
  have iX5 : ∀ w ∈ u_ws RX5 TX5 36, w ∈ wsX5_missOf := fun _ h => List.mem_cons_of_mem _ (List.mem_append_right _ h)
  have k_0 := hts (.constantLong RX5 156 (100)) (by decide +kernel)
  have k_1 := hts (.fieldLink RX5 43 "LampChoiceModel" "aims" "[I") (by decide +kernel)
  have k_2 := hts (.fieldLink RX5 90 "LampChoiceModel" "places" "I") (by decide +kernel)
  have k_3 := hts (.fieldLink RX5 56 "LampChoiceModel" "best" "[I") (by decide +kernel)
  have k_4 := hts (.fieldLink RX5 71 "LampChoiceModel" "dims" "[I") (by decide +kernel)
  have hl := lv_entry ([.ref (ad 0), .int z1]) (n := 5) (Nat.le_of_ble_eq_true rfl)
  rw [lg_entry_eq]
  generalize (lg_sl ([.ref (ad 0), .int z1]) ++ List.replicate (5 - (lg_sl ([.ref (ad 0), .int z1])).length) Slot.unset).toArray = ls at hl ⊢
  have hl : lv_has ls 5 [(0, .ref (ad 0)), (1, .int z1)] := hl
  have key : ∀ n : Nat, (∀ (v1 : Int32) (w2 : Int64) (v4 : Int32) (u : St) (H : Heap) (locs : List Loc) (ls : Array Slot), fX5_missOf n 0 v1 w2 v4 u = some r → va_P (dC, dI) vwCl (mw ad cI cL u) H → va_D A (mw ad cI cL u) → va_S A s.heap H locs → lv_has ls 5 [(0, .ref (ad 0)), (1, .int v1)] → W p l e (headSpec wsX5_missOf ({ frames := 1, cells := 0, slots := 0, locals := 25 })).room s m ([.ref (ad 0), .int z1] : List Value).toArray below meth c H locs 0 0 (MQ below (va_Ql (fun a t => (a, t) = r) (fun t => wPost dC dI cI cL A (mw ad cI cL t)) A) ([.ref (ad 0), .int z1] : List Value).toArray s 0 0 A) (F0 m 0 ls [])) ∧ (∀ (v1 : Int32) (w2 : Int64) (v4 : Int32) (u : St) (H : Heap) (locs : List Loc) (ls : Array Slot), fX5_missOf n 15 v1 w2 v4 u = some r → va_P (dC, dI) vwCl (mw ad cI cL u) H → va_D A (mw ad cI cL u) → va_S A s.heap H locs → lv_has ls 5 [(0, .ref (ad 0)), (1, .int v1), (2, .long w2), (4, .int v4)] → W p l e (headSpec wsX5_missOf ({ frames := 1, cells := 0, slots := 0, locals := 25 })).room s m ([.ref (ad 0), .int z1] : List Value).toArray below meth c H locs 0 0 (MQ below (va_Ql (fun a t => (a, t) = r) (fun t => wPost dC dI cI cL A (mw ad cI cL t)) A) ([.ref (ad 0), .int z1] : List Value).toArray s 0 0 A) (F0 m 15 ls [])) := by
    intro n
    induction n with
    | zero => exact ⟨(fun _ _ _ _ _ _ _ hf => nomatch (show (none : Option (Int64 × St)) = some r from hf)), (fun _ _ _ _ _ _ _ hf => nomatch (show (none : Option (Int64 × St)) = some r from hf))⟩
    | succ n ih =>
      obtain ⟨ih0, ih1⟩ := ih
      refine ⟨?_, ?_⟩
      · intro v1 w2 v4 u H locs ls hf hP hD hS hl
        have hf := (eX5_missOf_0 n v1 w2 v4 u).symm.trans hf
        refine lv_ldc2 (v := 100) hx hb hown k_0 dX5_missOf_0 ?_
        refine lv_aload_n hx hb dX5_missOf_3 rfl (lv_at hl 0 rfl) ?_
        refine va_get (D := (dC, dI)) (ci := 5) (v := .ref (ad 12)) (C := RX5) (T := TX5) (N := 36) hx hb hts iX5 hown hK hP 0 rfl rfl 15 (by decide) k_1 (fun _ h9 => h9) rfl dX5_missOf_4 ?_
        refine lv_iload_n hx hb dX5_missOf_7 rfl (lv_at hl 1 rfl) ?_
        obtain ⟨h_1, hf⟩ := ck_of hf
        refine va_iald (f := (gA u 11)) hx hb hK hP 12 0 rfl rfl h_1 dX5_missOf_8 ?_
        refine lv_i2l (v := ((gA u 11) v1.toNatClampNeg).toInt64) hx hb dX5_missOf_9 rfl ?_
        refine lv_lmul hx hb dX5_missOf_10 ?_
        refine lv_lstore_n (lv' := [(2, .long ((100 : Int64) * ((gA u 11) v1.toNatClampNeg).toInt64)), (0, .ref (ad 0)), (1, .int v1)]) hx hb dX5_missOf_11 rfl hl (by decide) rfl (fun ls hl => ?_)
        refine lv_iconst (v := 0) hx hb dX5_missOf_12 (by decide) ?_
        refine lv_istore (lv' := [(4, .int (0 : Int32)), (2, .long ((100 : Int64) * ((gA u 11) v1.toNatClampNeg).toInt64)), (0, .ref (ad 0)), (1, .int v1)]) hx hb dX5_missOf_13 hl (by decide) rfl (fun ls hl => ?_)
        exact ih1 v1 ((100 : Int64) * ((gA u 11) v1.toNatClampNeg).toInt64) (0 : Int32) u H locs ls hf hP hD hS (lv_sub hl [2, 3, 1, 0] rfl)
      · intro v1 w2 v4 u H locs ls hf hP hD hS hl
        have hf := (eX5_missOf_15 n v1 w2 v4 u).symm.trans hf
        refine lv_iload hx hb dX5_missOf_15 (lv_at hl 3 rfl) ?_
        refine lv_aload_n hx hb dX5_missOf_17 rfl (lv_at hl 0 rfl) ?_
        refine va_get (D := (dC, dI)) (ci := 5) (v := .int (gI u 2)) (C := RX5) (T := TX5) (N := 36) hx hb hts iX5 hown hK hP 0 rfl rfl 6 (by decide) k_2 (fun _ h9 => h9) rfl dX5_missOf_18 ?_
        refine lv_icmp_ge (tgt := 70) hx hb dX5_missOf_21 (by decide) (fun c_2 => ?_) (fun c_2 => ?_)
        · have hf := (if_pos c_2).symm.trans hf
          refine lv_lload_n hx hb dX5_missOf_70 rfl (lv_at hl 2 rfl) ?_
          have hf := Option.some.inj hf
          exact W.lret (v := w2) hx hb hr (fun t ht hW => ⟨⟨w2, u, rfl, hf, ⟨by rw [ht]; exact hP, va_K.moved hW.alike hK, hD⟩⟩, hS.F ht⟩) hS.2.2 dX5_missOf_71
        · have hf := (if_neg c_2).symm.trans hf
          refine lv_lload_n hx hb dX5_missOf_24 rfl (lv_at hl 2 rfl) ?_
          refine lv_aload_n hx hb dX5_missOf_25 rfl (lv_at hl 0 rfl) ?_
          refine lv_iload hx hb dX5_missOf_26 (lv_at hl 3 rfl) ?_
          obtain ⟨w_3, hw_3, hf⟩ := ob hf
          have hFc := freeAll hD hS hA
          refine va_calli (va_runV (As := [.int v4]) (rest := [.long w2]) ⟨hx, hb, hml, hown, hts⟩ (mX5_hasLamp l dC dI cI cL ad H.size u v4 n w_3 hw_3) (cwV 1 hts gX5_missOf_X5_hasLamp rfl rfl rfl (by decide +kernel) ⟨Nat.le_of_ble_eq_true rfl, Nat.le_of_ble_eq_true rfl⟩) ⟨wPre_blind, va_recv hK hP (ci := 5) (q0 := 0) rfl rfl, wPre_of hP hK hD hZ⟩ rfl rfl hl.1 rfl (lv_room (Nat.le_of_ble_eq_true rfl)) dX5_missOf_28 ⟨Nat.zero_le _, Nat.zero_le _⟩) hS (fun q _ h => hFc q h) hFc (fun r2 u2 t H1 locs ht hvm hw hB hz1 hk1 hS => ?_)
          obtain ⟨hP1, hK1, hD1⟩ := hB
          rw [ht] at hP1
          have e1 : r2 = w_3.1 := congrArg Prod.fst hw
          have e2 : u2 = w_3.2 := congrArg Prod.snd hw
          subst r2 u2
          have hP : va_P (dC, dI) vwCl (mw ad cI cL w_3.2) H1 := hP1
          have hD : va_D A (mw ad cI cL w_3.2) := hD1.weaken (fun _ _ _ h => hFc _ h)
          clear hP1 hD1 hK1 hFc hk1
          generalize H1 = H at hP hS ⊢
          refine lv_if_eq (tgt := 61) hx hb dX5_missOf_31 (by decide) (fun c_4 => ?_) (fun c_4 => ?_)
          · have hf := (if_pos c_4).symm.trans hf
            refine lv_lconst (v := 0) hx hb dX5_missOf_61 (by decide) ?_
            refine lv_lsub hx hb dX5_missOf_62 ?_
            refine lv_lstore_n (lv' := [(2, .long (w2 - (0 : Int64))), (0, .ref (ad 0)), (1, .int v1), (4, .int v4)]) hx hb dX5_missOf_63 rfl hl (by decide) rfl (fun ls hl => ?_)
            refine lv_iinc (v := (v4 + 1)) (lv' := [(4, .int (v4 + 1)), (2, .long (w2 - (0 : Int64))), (0, .ref (ad 0)), (1, .int v1)]) hx hb dX5_missOf_64 hl (k := 3) rfl rfl (by decide) rfl (fun ls hl => ?_)
            refine lv_goto (tgt := 15) hx hb dX5_missOf_67 (by decide) ?_
            exact ih1 v1 (w2 - (0 : Int64)) (v4 + 1) w_3.2 H locs ls hf hP hD hS (lv_sub hl [2, 3, 1, 0] rfl)
          · have hf := (if_neg c_4).symm.trans hf
            refine lv_aload_n hx hb dX5_missOf_34 rfl (lv_at hl 0 rfl) ?_
            refine lv_aload_n hx hb dX5_missOf_35 rfl (lv_at hl 0 rfl) ?_
            refine va_get (D := (dC, dI)) (ci := 5) (v := .ref (ad 14)) (C := RX5) (T := TX5) (N := 36) hx hb hts iX5 hown hK hP 0 rfl rfl 21 (by decide) k_3 (fun _ h9 => h9) rfl dX5_missOf_36 ?_
            refine lv_iload hx hb dX5_missOf_39 (lv_at hl 3 rfl) ?_
            obtain ⟨h_5, hf⟩ := ck_of hf
            refine va_iald (f := (gA w_3.2 13)) hx hb hK hP 14 0 rfl rfl h_5 dX5_missOf_41 ?_
            refine lv_iload hx hb dX5_missOf_42 (lv_at hl 3 rfl) ?_
            refine lv_iload_n hx hb dX5_missOf_44 rfl (lv_at hl 1 rfl) ?_
            obtain ⟨w_6, hw_6, hf⟩ := ob hf
            have hFc := freeAll hD hS hA
            refine va_calli (va_runV (As := [.int ((gA w_3.2 13) v4.toNatClampNeg), .int v4, .int v1]) (rest := [.long w2]) ⟨hx, hb, hml, hown, hts⟩ (mX5_lightOf l dC dI cI cL ad H.size w_3.2 ((gA w_3.2 13) v4.toNatClampNeg) v4 v1 n w_6 hw_6) (cwV 3 hts gX5_missOf_X5_lightOf rfl rfl rfl (by decide +kernel) ⟨Nat.le_of_ble_eq_true rfl, Nat.le_of_ble_eq_true rfl⟩) ⟨wPre_blind, va_recv hK hP (ci := 5) (q0 := 0) rfl rfl, wPre_of hP hK hD hZ⟩ rfl rfl hl.1 rfl (lv_room (Nat.le_of_ble_eq_true rfl)) dX5_missOf_45 ⟨Nat.zero_le _, Nat.zero_le _⟩) hS (fun q _ h => hFc q h) hFc (fun r2 u2 t H1 locs ht hvm hw hB hz1 hk1 hS => ?_)
            obtain ⟨hP1, hK1, hD1⟩ := hB
            rw [ht] at hP1
            have e1 : r2 = w_6.1 := congrArg Prod.fst hw
            have e2 : u2 = w_6.2 := congrArg Prod.snd hw
            subst r2 u2
            have hP : va_P (dC, dI) vwCl (mw ad cI cL w_6.2) H1 := hP1
            have hD : va_D A (mw ad cI cL w_6.2) := hD1.weaken (fun _ _ _ h => hFc _ h)
            clear hP1 hD1 hK1 hFc hk1
            generalize H1 = H at hP hS ⊢
            refine lv_i2l (v := w_6.1.toInt64) hx hb dX5_missOf_48 rfl ?_
            refine lv_aload_n hx hb dX5_missOf_49 rfl (lv_at hl 0 rfl) ?_
            refine va_get (D := (dC, dI)) (ci := 5) (v := .ref (ad 19)) (C := RX5) (T := TX5) (N := 36) hx hb hts iX5 hown hK hP 0 rfl rfl 29 (by decide) k_4 (fun _ h9 => h9) rfl dX5_missOf_50 ?_
            refine lv_iload hx hb dX5_missOf_53 (lv_at hl 3 rfl) ?_
            refine va_iald (f := (gA w_6.2 18)) hx hb hK hP 19 0 rfl rfl h_5 dX5_missOf_55 ?_
            refine lv_i2l (v := ((gA w_6.2 18) v4.toNatClampNeg).toInt64) hx hb dX5_missOf_56 rfl ?_
            refine lv_lmul hx hb dX5_missOf_57 ?_
            refine lv_goto (tgt := 62) hx hb dX5_missOf_58 (by decide) ?_
            refine lv_lsub hx hb dX5_missOf_62 ?_
            refine lv_lstore_n (lv' := [(2, .long (w2 - (w_6.1.toInt64 * ((gA w_6.2 18) v4.toNatClampNeg).toInt64))), (0, .ref (ad 0)), (1, .int v1), (4, .int v4)]) hx hb dX5_missOf_63 rfl hl (by decide) rfl (fun ls hl => ?_)
            refine lv_iinc (v := (v4 + 1)) (lv' := [(4, .int (v4 + 1)), (2, .long (w2 - (w_6.1.toInt64 * ((gA w_6.2 18) v4.toNatClampNeg).toInt64))), (0, .ref (ad 0)), (1, .int v1)]) hx hb dX5_missOf_64 hl (k := 3) rfl rfl (by decide) rfl (fun ls hl => ?_)
            refine lv_goto (tgt := 15) hx hb dX5_missOf_67 (by decide) ?_
            exact ih1 v1 (w2 - (w_6.1.toInt64 * ((gA w_6.2 18) v4.toNatClampNeg).toInt64)) (v4 + 1) w_6.2 H locs ls hf hP hD hS (lv_sub hl [2, 3, 1, 0] rfl)
  exact (key n).1 z1 0 0 u _ _ ls hf0 hP hD hS (lv_sub hl [0, 1] rfl)

def fX5_dimOf (n pc : Nat) (v1 : Int32) (w2 : Int64) (w4 : Int64) (v6 : Int32) (u : St) : Option (Int32 × St) := match n with
  | 0 => none
  | n + 1 => match pc with
    | 0 => (if ck v1 7 = true then fX5_dimOf n 15 v1 (0 : Int64) (0 : Int64) (0 : Int32) (sA u 18 (upd (gA u 18) v1.toNatClampNeg (0 : Int32))) else none)
    | 15 => (if (gI u 3) ≤ v6 then fX5_dimOf n 71 0 w2 w4 (0 : Int32) u else (if ck v1 7 = true then ((FX5_lightOf n ((gA u 13) v1.toNatClampNeg) v1 v6 u).bind fun w_4 => ((FX5_missOf n v6 w_4.2).bind fun w_5 => fX5_dimOf n 15 v1 (w2 + (w_4.1.toInt64 * w_5.1)) (w4 + (w_4.1.toInt64 * w_4.1.toInt64)) (v6 + 1) w_5.2)) else none))
    | 71 => (if (100 : Int32) ≤ v6 then some (v6, u) else (if (0 : Int64) ≤ (((((2 : Int64) * v6.toInt64) + (1 : Int64)) * w4) - ((2 : Int64) * w2)) then some (v6, u) else fX5_dimOf n 71 0 w2 w4 (v6 + 1) u))
    | _ => none
theorem eX5_dimOf_0 (n : Nat) (v1 : Int32) (w2 : Int64) (w4 : Int64) (v6 : Int32) (u : St) : fX5_dimOf (n + 1) 0 v1 w2 w4 v6 u = (if ck v1 7 = true then fX5_dimOf n 15 v1 (0 : Int64) (0 : Int64) (0 : Int32) (sA u 18 (upd (gA u 18) v1.toNatClampNeg (0 : Int32))) else none) := rfl
theorem eX5_dimOf_15 (n : Nat) (v1 : Int32) (w2 : Int64) (w4 : Int64) (v6 : Int32) (u : St) : fX5_dimOf (n + 1) 15 v1 w2 w4 v6 u = (if (gI u 3) ≤ v6 then fX5_dimOf n 71 0 w2 w4 (0 : Int32) u else (if ck v1 7 = true then ((FX5_lightOf n ((gA u 13) v1.toNatClampNeg) v1 v6 u).bind fun w_4 => ((FX5_missOf n v6 w_4.2).bind fun w_5 => fX5_dimOf n 15 v1 (w2 + (w_4.1.toInt64 * w_5.1)) (w4 + (w_4.1.toInt64 * w_4.1.toInt64)) (v6 + 1) w_5.2)) else none)) := rfl
theorem eX5_dimOf_71 (n : Nat) (v1 : Int32) (w2 : Int64) (w4 : Int64) (v6 : Int32) (u : St) : fX5_dimOf (n + 1) 71 v1 w2 w4 v6 u = (if (100 : Int32) ≤ v6 then some (v6, u) else (if (0 : Int64) ≤ (((((2 : Int64) * v6.toInt64) + (1 : Int64)) * w4) - ((2 : Int64) * w2)) then some (v6, u) else fX5_dimOf n 71 0 w2 w4 (v6 + 1) u)) := rfl
theorem vX5_dimOf_0 (v1 : Int32) (w2 : Int64) (w4 : Int64) (v6 : Int32) (u : St) (r : Int32 × St) : Ev (fun n => fX5_dimOf n 0 v1 w2 w4 v6 u) r ↔ Ev (fun n => (if ck v1 7 = true then fX5_dimOf n 15 v1 (0 : Int64) (0 : Int64) (0 : Int32) (sA u 18 (upd (gA u 18) v1.toNatClampNeg (0 : Int32))) else none)) r := Ev_succ (fun n => fX5_dimOf n 0 v1 w2 w4 v6 u) r
theorem vX5_dimOf_15 (v1 : Int32) (w2 : Int64) (w4 : Int64) (v6 : Int32) (u : St) (r : Int32 × St) : Ev (fun n => fX5_dimOf n 15 v1 w2 w4 v6 u) r ↔ Ev (fun n => (if (gI u 3) ≤ v6 then fX5_dimOf n 71 0 w2 w4 (0 : Int32) u else (if ck v1 7 = true then ((FX5_lightOf n ((gA u 13) v1.toNatClampNeg) v1 v6 u).bind fun w_4 => ((FX5_missOf n v6 w_4.2).bind fun w_5 => fX5_dimOf n 15 v1 (w2 + (w_4.1.toInt64 * w_5.1)) (w4 + (w_4.1.toInt64 * w_4.1.toInt64)) (v6 + 1) w_5.2)) else none))) r := Ev_succ (fun n => fX5_dimOf n 15 v1 w2 w4 v6 u) r
theorem vX5_dimOf_71 (v1 : Int32) (w2 : Int64) (w4 : Int64) (v6 : Int32) (u : St) (r : Int32 × St) : Ev (fun n => fX5_dimOf n 71 v1 w2 w4 v6 u) r ↔ Ev (fun n => (if (100 : Int32) ≤ v6 then some (v6, u) else (if (0 : Int64) ≤ (((((2 : Int64) * v6.toInt64) + (1 : Int64)) * w4) - ((2 : Int64) * w2)) then some (v6, u) else fX5_dimOf n 71 0 w2 w4 (v6 + 1) u))) r := Ev_succ (fun n => fX5_dimOf n 71 v1 w2 w4 v6 u) r
def FX5_dimOf (n : Nat) (v1 : Int32) (u : St) : Option (Int32 × St) := fX5_dimOf n 0 v1 0 0 0 u
set_option maxHeartbeats 4000000 in
set_option maxRecDepth 100000 in
theorem mX5_dimOf (l : Launch) (dC : Nat → ClassId) (dI : Nat → Nat → Nat) (cI cL : ClassId) (ad : Nat → Nat) (sz : Nat) (u : St) (z1 : Int32) (n : Nat) (r : Int32 × St) (hf0 : FX5_dimOf n z1 u = some r) : Met l yX5_dimOf wsX5_dimOf ({ frames := 2, cells := 0, slots := 0, locals := 49 }) (va_Pc [.ref (ad 0), .int z1] (wPre dC dI cI cL (mw ad cI cL u) sz)) (va_Qi (fun a t => (a, t) = r) (fun t => wPost dC dI cI cL (va_A (mw ad cI cL u) sz) (mw ad cI cL t)) (va_A (mw ad cI cL u) sz)) 0 0 (va_A (mw ad cI cL u) sz) := by
  refine Met.ofW (cc := cX5_dimOf) (maxL := 9) (ret := (some .int)) (by decide) rfl ?_
  intro p e s m args below meth c s₁ B hml hv
  obtain ⟨rfl, hsz, hP, hK, hD0, hZ⟩ := hv
  have hx := B.exec
  have hb := B.bytes
  have hr := B.returns
  have hts := atoms_spec (ws := wsX5_dimOf) B.pre
  have hown : s.vm.findClass RX5 = some m.cls := findClass_of_methodNamed B.named
  have hlocks := B.notSynchronized
  subst hsz
  have hD := hD0.self (sz := s.heap.size)
  generalize hAe : va_A (mw ad cI cL u) s.heap.size = A at hD ⊢
  have hA : ∀ q : Nat, s.heap.size ≤ q → A q := fun q h => by rw [← hAe]; exact Or.inr h
  have hS : va_S A s.heap s.heap [] := va_S.rf
  have iX5 : ∀ w ∈ u_ws RX5 TX5 36, w ∈ wsX5_dimOf := fun _ h => List.mem_cons_of_mem _ (List.mem_append_right _ h)
  have k_0 := hts (.fieldLink RX5 71 "LampChoiceModel" "dims" "[I") (by decide +kernel)
  have k_1 := hts (.fieldLink RX5 93 "LampChoiceModel" "points" "I") (by decide +kernel)
  have k_2 := hts (.fieldLink RX5 56 "LampChoiceModel" "best" "[I") (by decide +kernel)
  have k_3 := hts (.constantLong RX5 165 (2)) (by decide +kernel)
  have hl := lv_entry ([.ref (ad 0), .int z1]) (n := 9) (Nat.le_of_ble_eq_true rfl)
  rw [lg_entry_eq]
  generalize (lg_sl ([.ref (ad 0), .int z1]) ++ List.replicate (9 - (lg_sl ([.ref (ad 0), .int z1])).length) Slot.unset).toArray = ls at hl ⊢
  have hl : lv_has ls 9 [(0, .ref (ad 0)), (1, .int z1)] := hl
  have key : ∀ n : Nat, (∀ (v1 : Int32) (w2 : Int64) (w4 : Int64) (v6 : Int32) (u : St) (H : Heap) (locs : List Loc) (ls : Array Slot), fX5_dimOf n 0 v1 w2 w4 v6 u = some r → va_P (dC, dI) vwCl (mw ad cI cL u) H → va_D A (mw ad cI cL u) → va_S A s.heap H locs → lv_has ls 9 [(0, .ref (ad 0)), (1, .int v1)] → W p l e (headSpec wsX5_dimOf ({ frames := 2, cells := 0, slots := 0, locals := 49 })).room s m ([.ref (ad 0), .int z1] : List Value).toArray below meth c H locs 0 0 (MQ below (va_Qi (fun a t => (a, t) = r) (fun t => wPost dC dI cI cL A (mw ad cI cL t)) A) ([.ref (ad 0), .int z1] : List Value).toArray s 0 0 A) (F0 m 0 ls [])) ∧ (∀ (v1 : Int32) (w2 : Int64) (w4 : Int64) (v6 : Int32) (u : St) (H : Heap) (locs : List Loc) (ls : Array Slot), fX5_dimOf n 15 v1 w2 w4 v6 u = some r → va_P (dC, dI) vwCl (mw ad cI cL u) H → va_D A (mw ad cI cL u) → va_S A s.heap H locs → lv_has ls 9 [(0, .ref (ad 0)), (1, .int v1), (2, .long w2), (4, .long w4), (6, .int v6)] → W p l e (headSpec wsX5_dimOf ({ frames := 2, cells := 0, slots := 0, locals := 49 })).room s m ([.ref (ad 0), .int z1] : List Value).toArray below meth c H locs 0 0 (MQ below (va_Qi (fun a t => (a, t) = r) (fun t => wPost dC dI cI cL A (mw ad cI cL t)) A) ([.ref (ad 0), .int z1] : List Value).toArray s 0 0 A) (F0 m 15 ls [])) ∧ (∀ (v1 : Int32) (w2 : Int64) (w4 : Int64) (v6 : Int32) (u : St) (H : Heap) (locs : List Loc) (ls : Array Slot), fX5_dimOf n 71 v1 w2 w4 v6 u = some r → va_P (dC, dI) vwCl (mw ad cI cL u) H → va_D A (mw ad cI cL u) → va_S A s.heap H locs → lv_has ls 9 [(0, .ref (ad 0)), (2, .long w2), (4, .long w4), (6, .int v6)] → W p l e (headSpec wsX5_dimOf ({ frames := 2, cells := 0, slots := 0, locals := 49 })).room s m ([.ref (ad 0), .int z1] : List Value).toArray below meth c H locs 0 0 (MQ below (va_Qi (fun a t => (a, t) = r) (fun t => wPost dC dI cI cL A (mw ad cI cL t)) A) ([.ref (ad 0), .int z1] : List Value).toArray s 0 0 A) (F0 m 71 ls [])) := by
    intro n
    induction n with
    | zero => exact ⟨(fun _ _ _ _ _ _ _ _ hf => nomatch (show (none : Option (Int32 × St)) = some r from hf)), (fun _ _ _ _ _ _ _ _ hf => nomatch (show (none : Option (Int32 × St)) = some r from hf)), (fun _ _ _ _ _ _ _ _ hf => nomatch (show (none : Option (Int32 × St)) = some r from hf))⟩
    | succ n ih =>
      obtain ⟨ih0, ih1, ih2⟩ := ih
      refine ⟨?_, ?_, ?_⟩
      · intro v1 w2 w4 v6 u H locs ls hf hP hD hS hl
        have hf := (eX5_dimOf_0 n v1 w2 w4 v6 u).symm.trans hf
        refine lv_aload_n hx hb dX5_dimOf_0 rfl (lv_at hl 0 rfl) ?_
        refine va_get (D := (dC, dI)) (ci := 5) (v := .ref (ad 19)) (C := RX5) (T := TX5) (N := 36) hx hb hts iX5 hown hK hP 0 rfl rfl 29 (by decide) k_0 (fun _ h9 => h9) rfl dX5_dimOf_1 ?_
        refine lv_iload_n hx hb dX5_dimOf_4 rfl (lv_at hl 1 rfl) ?_
        refine lv_iconst (v := 0) hx hb dX5_dimOf_5 (by decide) ?_
        obtain ⟨h_1, hf⟩ := ck_of hf
        refine va_iast (f := (gA u 18)) hx hb hK hP hD hS 19 0 rfl rfl h_1 dX5_dimOf_6 (fun H locs hP hD hS => ?_)
        have hP : va_P (dC, dI) vwCl (mw ad cI cL (sA u 18 (upd (gA u 18) v1.toNatClampNeg (0 : Int32)))) H := hP
        have hD : va_D A (mw ad cI cL (sA u 18 (upd (gA u 18) v1.toNatClampNeg (0 : Int32)))) := hD
        refine lv_lconst (v := 0) hx hb dX5_dimOf_7 (by decide) ?_
        refine lv_lstore_n (lv' := [(2, .long (0 : Int64)), (0, .ref (ad 0)), (1, .int v1)]) hx hb dX5_dimOf_8 rfl hl (by decide) rfl (fun ls hl => ?_)
        refine lv_lconst (v := 0) hx hb dX5_dimOf_9 (by decide) ?_
        refine lv_lstore (lv' := [(4, .long (0 : Int64)), (2, .long (0 : Int64)), (0, .ref (ad 0)), (1, .int v1)]) hx hb dX5_dimOf_10 hl (by decide) rfl (fun ls hl => ?_)
        refine lv_iconst (v := 0) hx hb dX5_dimOf_12 (by decide) ?_
        refine lv_istore (lv' := [(6, .int (0 : Int32)), (4, .long (0 : Int64)), (2, .long (0 : Int64)), (0, .ref (ad 0)), (1, .int v1)]) hx hb dX5_dimOf_13 hl (by decide) rfl (fun ls hl => ?_)
        exact ih1 v1 (0 : Int64) (0 : Int64) (0 : Int32) (sA u 18 (upd (gA u 18) v1.toNatClampNeg (0 : Int32))) H locs ls hf hP hD hS (lv_sub hl [3, 4, 2, 1, 0] rfl)
      · intro v1 w2 w4 v6 u H locs ls hf hP hD hS hl
        have hf := (eX5_dimOf_15 n v1 w2 w4 v6 u).symm.trans hf
        refine lv_iload hx hb dX5_dimOf_15 (lv_at hl 4 rfl) ?_
        refine lv_aload_n hx hb dX5_dimOf_17 rfl (lv_at hl 0 rfl) ?_
        refine va_get (D := (dC, dI)) (ci := 5) (v := .int (gI u 3)) (C := RX5) (T := TX5) (N := 36) hx hb hts iX5 hown hK hP 0 rfl rfl 11 (by decide) k_1 (fun _ h9 => h9) rfl dX5_dimOf_18 ?_
        refine lv_icmp_ge (tgt := 68) hx hb dX5_dimOf_21 (by decide) (fun c_2 => ?_) (fun c_2 => ?_)
        · have hf := (if_pos c_2).symm.trans hf
          refine lv_iconst (v := 0) hx hb dX5_dimOf_68 (by decide) ?_
          refine lv_istore (lv' := [(6, .int (0 : Int32)), (0, .ref (ad 0)), (1, .int v1), (2, .long w2), (4, .long w4)]) hx hb dX5_dimOf_69 hl (by decide) rfl (fun ls hl => ?_)
          exact ih2 0 w2 w4 (0 : Int32) u H locs ls hf hP hD hS (lv_sub hl [1, 3, 4, 0] rfl)
        · have hf := (if_neg c_2).symm.trans hf
          refine lv_aload_n hx hb dX5_dimOf_24 rfl (lv_at hl 0 rfl) ?_
          refine lv_aload_n hx hb dX5_dimOf_25 rfl (lv_at hl 0 rfl) ?_
          refine va_get (D := (dC, dI)) (ci := 5) (v := .ref (ad 14)) (C := RX5) (T := TX5) (N := 36) hx hb hts iX5 hown hK hP 0 rfl rfl 21 (by decide) k_2 (fun _ h9 => h9) rfl dX5_dimOf_26 ?_
          refine lv_iload_n hx hb dX5_dimOf_29 rfl (lv_at hl 1 rfl) ?_
          obtain ⟨h_3, hf⟩ := ck_of hf
          refine va_iald (f := (gA u 13)) hx hb hK hP 14 0 rfl rfl h_3 dX5_dimOf_30 ?_
          refine lv_iload_n hx hb dX5_dimOf_31 rfl (lv_at hl 1 rfl) ?_
          refine lv_iload hx hb dX5_dimOf_32 (lv_at hl 4 rfl) ?_
          obtain ⟨w_4, hw_4, hf⟩ := ob hf
          have hFc := freeAll hD hS hA
          refine va_calli (va_runV (As := [.int ((gA u 13) v1.toNatClampNeg), .int v1, .int v6]) (rest := []) ⟨hx, hb, hml, hown, hts⟩ (mX5_lightOf l dC dI cI cL ad H.size u ((gA u 13) v1.toNatClampNeg) v1 v6 n w_4 hw_4) (cwV 3 hts gX5_dimOf_X5_lightOf rfl rfl rfl (by decide +kernel) ⟨Nat.le_of_ble_eq_true rfl, Nat.le_of_ble_eq_true rfl⟩) ⟨wPre_blind, va_recv hK hP (ci := 5) (q0 := 0) rfl rfl, wPre_of hP hK hD hZ⟩ rfl rfl hl.1 rfl (lv_room (Nat.le_of_ble_eq_true rfl)) dX5_dimOf_34 ⟨Nat.zero_le _, Nat.zero_le _⟩) hS (fun q _ h => hFc q h) hFc (fun r2 u2 t H1 locs ht hvm hw hB hz1 hk1 hS => ?_)
          obtain ⟨hP1, hK1, hD1⟩ := hB
          rw [ht] at hP1
          have e1 : r2 = w_4.1 := congrArg Prod.fst hw
          have e2 : u2 = w_4.2 := congrArg Prod.snd hw
          subst r2 u2
          have hP : va_P (dC, dI) vwCl (mw ad cI cL w_4.2) H1 := hP1
          have hD : va_D A (mw ad cI cL w_4.2) := hD1.weaken (fun _ _ _ h => hFc _ h)
          clear hP1 hD1 hK1 hFc hk1
          generalize H1 = H at hP hS ⊢
          refine lv_i2l (v := w_4.1.toInt64) hx hb dX5_dimOf_37 rfl ?_
          refine lv_lstore (lv' := [(7, .long w_4.1.toInt64), (0, .ref (ad 0)), (1, .int v1), (2, .long w2), (4, .long w4), (6, .int v6)]) hx hb dX5_dimOf_38 hl (by decide) rfl (fun ls hl => ?_)
          refine lv_lload_n hx hb dX5_dimOf_40 rfl (lv_at hl 3 rfl) ?_
          refine lv_lload hx hb dX5_dimOf_41 (lv_at hl 0 rfl) ?_
          refine lv_aload_n hx hb dX5_dimOf_43 rfl (lv_at hl 1 rfl) ?_
          refine lv_iload hx hb dX5_dimOf_44 (lv_at hl 5 rfl) ?_
          obtain ⟨w_5, hw_5, hf⟩ := ob hf
          have hFc := freeAll hD hS hA
          refine va_calll (va_runV (As := [.int v6]) (rest := [.long w_4.1.toInt64, .long w2]) ⟨hx, hb, hml, hown, hts⟩ (mX5_missOf l dC dI cI cL ad H.size w_4.2 v6 n w_5 hw_5) (cwV 1 hts gX5_dimOf_X5_missOf rfl rfl rfl (by decide +kernel) ⟨Nat.le_of_ble_eq_true rfl, Nat.le_of_ble_eq_true rfl⟩) ⟨wPre_blind, va_recv hK hP (ci := 5) (q0 := 0) rfl rfl, wPre_of hP hK hD hZ⟩ rfl rfl hl.1 rfl (lv_room (Nat.le_of_ble_eq_true rfl)) dX5_dimOf_46 ⟨Nat.zero_le _, Nat.zero_le _⟩) hS (fun q _ h => hFc q h) hFc (fun r2 u2 t H1 locs ht hvm hw hB hz1 hk1 hS => ?_)
          obtain ⟨hP1, hK1, hD1⟩ := hB
          rw [ht] at hP1
          have e1 : r2 = w_5.1 := congrArg Prod.fst hw
          have e2 : u2 = w_5.2 := congrArg Prod.snd hw
          subst r2 u2
          have hP : va_P (dC, dI) vwCl (mw ad cI cL w_5.2) H1 := hP1
          have hD : va_D A (mw ad cI cL w_5.2) := hD1.weaken (fun _ _ _ h => hFc _ h)
          clear hP1 hD1 hK1 hFc hk1
          generalize H1 = H at hP hS ⊢
          refine lv_lmul hx hb dX5_dimOf_49 ?_
          refine lv_ladd hx hb dX5_dimOf_50 ?_
          refine lv_lstore_n (lv' := [(2, .long (w2 + (w_4.1.toInt64 * w_5.1))), (7, .long w_4.1.toInt64), (0, .ref (ad 0)), (1, .int v1), (4, .long w4), (6, .int v6)]) hx hb dX5_dimOf_51 rfl hl (by decide) rfl (fun ls hl => ?_)
          refine lv_lload hx hb dX5_dimOf_52 (lv_at hl 4 rfl) ?_
          refine lv_lload hx hb dX5_dimOf_54 (lv_at hl 1 rfl) ?_
          refine lv_lload hx hb dX5_dimOf_56 (lv_at hl 1 rfl) ?_
          refine lv_lmul hx hb dX5_dimOf_58 ?_
          refine lv_ladd hx hb dX5_dimOf_59 ?_
          refine lv_lstore (lv' := [(4, .long (w4 + (w_4.1.toInt64 * w_4.1.toInt64))), (2, .long (w2 + (w_4.1.toInt64 * w_5.1))), (7, .long w_4.1.toInt64), (0, .ref (ad 0)), (1, .int v1), (6, .int v6)]) hx hb dX5_dimOf_60 hl (by decide) rfl (fun ls hl => ?_)
          refine lv_iinc (v := (v6 + 1)) (lv' := [(6, .int (v6 + 1)), (4, .long (w4 + (w_4.1.toInt64 * w_4.1.toInt64))), (2, .long (w2 + (w_4.1.toInt64 * w_5.1))), (7, .long w_4.1.toInt64), (0, .ref (ad 0)), (1, .int v1)]) hx hb dX5_dimOf_62 hl (k := 5) rfl rfl (by decide) rfl (fun ls hl => ?_)
          refine lv_goto (tgt := 15) hx hb dX5_dimOf_65 (by decide) ?_
          exact ih1 v1 (w2 + (w_4.1.toInt64 * w_5.1)) (w4 + (w_4.1.toInt64 * w_4.1.toInt64)) (v6 + 1) w_5.2 H locs ls hf hP hD hS (lv_sub hl [4, 5, 2, 1, 0] rfl)
      · intro v1 w2 w4 v6 u H locs ls hf hP hD hS hl
        have hf := (eX5_dimOf_71 n v1 w2 w4 v6 u).symm.trans hf
        refine lv_iload hx hb dX5_dimOf_71 (lv_at hl 3 rfl) ?_
        refine lv_bipush (v := 100) hx hb dX5_dimOf_73 (by decide) ?_
        refine lv_icmp_ge (tgt := 107) hx hb dX5_dimOf_75 (by decide) (fun c_6 => ?_) (fun c_6 => ?_)
        · have hf := (if_pos c_6).symm.trans hf
          refine lv_iload hx hb dX5_dimOf_107 (lv_at hl 3 rfl) ?_
          have hf := Option.some.inj hf
          exact W.iret (v := v6) hx hb hr (fun t ht hW => ⟨⟨v6, u, rfl, hf, ⟨by rw [ht]; exact hP, va_K.moved hW.alike hK, hD⟩⟩, hS.F ht⟩) hS.2.2 dX5_dimOf_109
        · have hf := (if_neg c_6).symm.trans hf
          refine lv_ldc2 (v := 2) hx hb hown k_3 dX5_dimOf_78 ?_
          refine lv_iload hx hb dX5_dimOf_81 (lv_at hl 3 rfl) ?_
          refine lv_i2l (v := v6.toInt64) hx hb dX5_dimOf_83 rfl ?_
          refine lv_lmul hx hb dX5_dimOf_84 ?_
          refine lv_lconst (v := 1) hx hb dX5_dimOf_85 (by decide) ?_
          refine lv_ladd hx hb dX5_dimOf_86 ?_
          refine lv_lload hx hb dX5_dimOf_87 (lv_at hl 2 rfl) ?_
          refine lv_lmul hx hb dX5_dimOf_89 ?_
          refine lv_ldc2 (v := 2) hx hb hown k_3 dX5_dimOf_90 ?_
          refine lv_lload_n hx hb dX5_dimOf_93 rfl (lv_at hl 1 rfl) ?_
          refine lv_lmul hx hb dX5_dimOf_94 ?_
          refine lv_lsub hx hb dX5_dimOf_95 ?_
          refine lv_lconst (v := 0) hx hb dX5_dimOf_96 (by decide) ?_
          refine W.lcmp hx hb dX5_dimOf_97 ?_
          refine lv_if_ge (tgt := 107) hx hb dX5_dimOf_98 (by decide) (fun c_7 => ?_) (fun c_7 => ?_)
          · have c_7 := (lg_cmp_ge (((((2 : Int64) * v6.toInt64) + (1 : Int64)) * w4) - ((2 : Int64) * w2)) (0 : Int64)).mp c_7
            have hf := (if_pos c_7).symm.trans hf
            refine lv_iload hx hb dX5_dimOf_107 (lv_at hl 3 rfl) ?_
            have hf := Option.some.inj hf
            exact W.iret (v := v6) hx hb hr (fun t ht hW => ⟨⟨v6, u, rfl, hf, ⟨by rw [ht]; exact hP, va_K.moved hW.alike hK, hD⟩⟩, hS.F ht⟩) hS.2.2 dX5_dimOf_109
          · have c_7 := fun q => c_7 ((lg_cmp_ge (((((2 : Int64) * v6.toInt64) + (1 : Int64)) * w4) - ((2 : Int64) * w2)) (0 : Int64)).mpr q)
            have hf := (if_neg c_7).symm.trans hf
            refine lv_iinc (v := (v6 + 1)) (lv' := [(6, .int (v6 + 1)), (0, .ref (ad 0)), (2, .long w2), (4, .long w4)]) hx hb dX5_dimOf_101 hl (k := 3) rfl rfl (by decide) rfl (fun ls hl => ?_)
            refine lv_goto (tgt := 71) hx hb dX5_dimOf_104 (by decide) ?_
            exact ih2 0 w2 w4 (v6 + 1) u H locs ls hf hP hD hS (lv_sub hl [1, 2, 3, 0] rfl)
  exact (key n).1 z1 0 0 0 u _ _ ls hf0 hP hD hS (lv_sub hl [0, 1] rfl)

def fX5_sweep (n pc : Nat) (v1 : Int32) (v2 : Int32) (v3 : Int32) (v4 : Int32) (u : St) : Option (Int32 × St) := match n with
  | 0 => none
  | n + 1 => match pc with
    | 0 => ((FX5_findBest n  u).bind fun w_1 => fX5_sweep n 8 (0 : Int32) (0 : Int32) 0 0 w_1)
    | 8 => (if (7 : Int32) ≤ v2 then fX5_sweep n 57 0 (0 : Int32) v1 0 u else (if ck v2 7 = true then (if v1 = 0 then (if (gI u 2) ≤ v2 then fX5_sweep n 8 (0 : Int32) (v2 + 1) 0 0 (sA u 18 (upd (gA u 18) v2.toNatClampNeg (0 : Int32))) else ((FX5_hasLamp n v2 (sA u 18 (upd (gA u 18) v2.toNatClampNeg (0 : Int32)))).bind fun w_6 => (if w_6.1 = 0 then fX5_sweep n 8 (0 : Int32) (v2 + 1) 0 0 w_6.2 else fX5_sweep n 8 (1 : Int32) (v2 + 1) 0 0 w_6.2))) else fX5_sweep n 8 (1 : Int32) (v2 + 1) 0 0 (sA u 18 (upd (gA u 18) v2.toNatClampNeg (0 : Int32)))) else none))
    | 57 => (if v3 = 0 then some (v2, u) else (if (20 : Int32) ≤ v2 then some (v2, u) else fX5_sweep n 75 0 (v2 + 1) (0 : Int32) (0 : Int32) u))
    | 75 => (if (gI u 2) ≤ v4 then fX5_sweep n 57 0 v2 v3 0 u else ((FX5_hasLamp n v4 u).bind fun w_11 => (if w_11.1 = 0 then fX5_sweep n 75 0 v2 v3 (v4 + 1) w_11.2 else (if ck v4 7 = true then ((FX5_dimOf n v4 w_11.2).bind fun w_14 => (if v3 = 0 then (if ((upd (gA w_14.2 18) v4.toNatClampNeg w_14.1) v4.toNatClampNeg) = ((gA w_11.2 18) v4.toNatClampNeg) then fX5_sweep n 75 0 v2 (0 : Int32) (v4 + 1) (sA w_14.2 18 (upd (gA w_14.2 18) v4.toNatClampNeg w_14.1)) else fX5_sweep n 75 0 v2 (1 : Int32) (v4 + 1) (sA w_14.2 18 (upd (gA w_14.2 18) v4.toNatClampNeg w_14.1))) else fX5_sweep n 75 0 v2 (1 : Int32) (v4 + 1) (sA w_14.2 18 (upd (gA w_14.2 18) v4.toNatClampNeg w_14.1)))) else none))))
    | _ => none
theorem eX5_sweep_0 (n : Nat) (v1 : Int32) (v2 : Int32) (v3 : Int32) (v4 : Int32) (u : St) : fX5_sweep (n + 1) 0 v1 v2 v3 v4 u = ((FX5_findBest n  u).bind fun w_1 => fX5_sweep n 8 (0 : Int32) (0 : Int32) 0 0 w_1) := rfl
theorem eX5_sweep_8 (n : Nat) (v1 : Int32) (v2 : Int32) (v3 : Int32) (v4 : Int32) (u : St) : fX5_sweep (n + 1) 8 v1 v2 v3 v4 u = (if (7 : Int32) ≤ v2 then fX5_sweep n 57 0 (0 : Int32) v1 0 u else (if ck v2 7 = true then (if v1 = 0 then (if (gI u 2) ≤ v2 then fX5_sweep n 8 (0 : Int32) (v2 + 1) 0 0 (sA u 18 (upd (gA u 18) v2.toNatClampNeg (0 : Int32))) else ((FX5_hasLamp n v2 (sA u 18 (upd (gA u 18) v2.toNatClampNeg (0 : Int32)))).bind fun w_6 => (if w_6.1 = 0 then fX5_sweep n 8 (0 : Int32) (v2 + 1) 0 0 w_6.2 else fX5_sweep n 8 (1 : Int32) (v2 + 1) 0 0 w_6.2))) else fX5_sweep n 8 (1 : Int32) (v2 + 1) 0 0 (sA u 18 (upd (gA u 18) v2.toNatClampNeg (0 : Int32)))) else none)) := rfl
theorem eX5_sweep_57 (n : Nat) (v1 : Int32) (v2 : Int32) (v3 : Int32) (v4 : Int32) (u : St) : fX5_sweep (n + 1) 57 v1 v2 v3 v4 u = (if v3 = 0 then some (v2, u) else (if (20 : Int32) ≤ v2 then some (v2, u) else fX5_sweep n 75 0 (v2 + 1) (0 : Int32) (0 : Int32) u)) := rfl
theorem eX5_sweep_75 (n : Nat) (v1 : Int32) (v2 : Int32) (v3 : Int32) (v4 : Int32) (u : St) : fX5_sweep (n + 1) 75 v1 v2 v3 v4 u = (if (gI u 2) ≤ v4 then fX5_sweep n 57 0 v2 v3 0 u else ((FX5_hasLamp n v4 u).bind fun w_11 => (if w_11.1 = 0 then fX5_sweep n 75 0 v2 v3 (v4 + 1) w_11.2 else (if ck v4 7 = true then ((FX5_dimOf n v4 w_11.2).bind fun w_14 => (if v3 = 0 then (if ((upd (gA w_14.2 18) v4.toNatClampNeg w_14.1) v4.toNatClampNeg) = ((gA w_11.2 18) v4.toNatClampNeg) then fX5_sweep n 75 0 v2 (0 : Int32) (v4 + 1) (sA w_14.2 18 (upd (gA w_14.2 18) v4.toNatClampNeg w_14.1)) else fX5_sweep n 75 0 v2 (1 : Int32) (v4 + 1) (sA w_14.2 18 (upd (gA w_14.2 18) v4.toNatClampNeg w_14.1))) else fX5_sweep n 75 0 v2 (1 : Int32) (v4 + 1) (sA w_14.2 18 (upd (gA w_14.2 18) v4.toNatClampNeg w_14.1)))) else none)))) := rfl
theorem vX5_sweep_0 (v1 : Int32) (v2 : Int32) (v3 : Int32) (v4 : Int32) (u : St) (r : Int32 × St) : Ev (fun n => fX5_sweep n 0 v1 v2 v3 v4 u) r ↔ Ev (fun n => ((FX5_findBest n  u).bind fun w_1 => fX5_sweep n 8 (0 : Int32) (0 : Int32) 0 0 w_1)) r := Ev_succ (fun n => fX5_sweep n 0 v1 v2 v3 v4 u) r
theorem vX5_sweep_8 (v1 : Int32) (v2 : Int32) (v3 : Int32) (v4 : Int32) (u : St) (r : Int32 × St) : Ev (fun n => fX5_sweep n 8 v1 v2 v3 v4 u) r ↔ Ev (fun n => (if (7 : Int32) ≤ v2 then fX5_sweep n 57 0 (0 : Int32) v1 0 u else (if ck v2 7 = true then (if v1 = 0 then (if (gI u 2) ≤ v2 then fX5_sweep n 8 (0 : Int32) (v2 + 1) 0 0 (sA u 18 (upd (gA u 18) v2.toNatClampNeg (0 : Int32))) else ((FX5_hasLamp n v2 (sA u 18 (upd (gA u 18) v2.toNatClampNeg (0 : Int32)))).bind fun w_6 => (if w_6.1 = 0 then fX5_sweep n 8 (0 : Int32) (v2 + 1) 0 0 w_6.2 else fX5_sweep n 8 (1 : Int32) (v2 + 1) 0 0 w_6.2))) else fX5_sweep n 8 (1 : Int32) (v2 + 1) 0 0 (sA u 18 (upd (gA u 18) v2.toNatClampNeg (0 : Int32)))) else none))) r := Ev_succ (fun n => fX5_sweep n 8 v1 v2 v3 v4 u) r
theorem vX5_sweep_57 (v1 : Int32) (v2 : Int32) (v3 : Int32) (v4 : Int32) (u : St) (r : Int32 × St) : Ev (fun n => fX5_sweep n 57 v1 v2 v3 v4 u) r ↔ Ev (fun n => (if v3 = 0 then some (v2, u) else (if (20 : Int32) ≤ v2 then some (v2, u) else fX5_sweep n 75 0 (v2 + 1) (0 : Int32) (0 : Int32) u))) r := Ev_succ (fun n => fX5_sweep n 57 v1 v2 v3 v4 u) r
theorem vX5_sweep_75 (v1 : Int32) (v2 : Int32) (v3 : Int32) (v4 : Int32) (u : St) (r : Int32 × St) : Ev (fun n => fX5_sweep n 75 v1 v2 v3 v4 u) r ↔ Ev (fun n => (if (gI u 2) ≤ v4 then fX5_sweep n 57 0 v2 v3 0 u else ((FX5_hasLamp n v4 u).bind fun w_11 => (if w_11.1 = 0 then fX5_sweep n 75 0 v2 v3 (v4 + 1) w_11.2 else (if ck v4 7 = true then ((FX5_dimOf n v4 w_11.2).bind fun w_14 => (if v3 = 0 then (if ((upd (gA w_14.2 18) v4.toNatClampNeg w_14.1) v4.toNatClampNeg) = ((gA w_11.2 18) v4.toNatClampNeg) then fX5_sweep n 75 0 v2 (0 : Int32) (v4 + 1) (sA w_14.2 18 (upd (gA w_14.2 18) v4.toNatClampNeg w_14.1)) else fX5_sweep n 75 0 v2 (1 : Int32) (v4 + 1) (sA w_14.2 18 (upd (gA w_14.2 18) v4.toNatClampNeg w_14.1))) else fX5_sweep n 75 0 v2 (1 : Int32) (v4 + 1) (sA w_14.2 18 (upd (gA w_14.2 18) v4.toNatClampNeg w_14.1)))) else none))))) r := Ev_succ (fun n => fX5_sweep n 75 v1 v2 v3 v4 u) r
def FX5_sweep (n : Nat) (u : St) : Option (Int32 × St) := fX5_sweep n 0 0 0 0 0 u
set_option maxHeartbeats 4000000 in
set_option maxRecDepth 100000 in
theorem mX5_sweep (l : Launch) (dC : Nat → ClassId) (dI : Nat → Nat → Nat) (cI cL : ClassId) (ad : Nat → Nat) (sz : Nat) (u : St) (n : Nat) (r : Int32 × St) (hf0 : FX5_sweep n  u = some r) : Met l yX5_sweep wsX5_sweep ({ frames := 3, cells := 0, slots := 0, locals := 77 }) (va_Pc [.ref (ad 0)] (wPre dC dI cI cL (mw ad cI cL u) sz)) (va_Qi (fun a t => (a, t) = r) (fun t => wPost dC dI cI cL (va_A (mw ad cI cL u) sz) (mw ad cI cL t)) (va_A (mw ad cI cL u) sz)) 0 0 (va_A (mw ad cI cL u) sz) := by
  refine Met.ofW (cc := cX5_sweep) (maxL := 6) (ret := (some .int)) (by decide) rfl ?_
  intro p e s m args below meth c s₁ B hml hv
  obtain ⟨rfl, hsz, hP, hK, hD0, hZ⟩ := hv
  have hx := B.exec
  have hb := B.bytes
  have hr := B.returns
  have hts := atoms_spec (ws := wsX5_sweep) B.pre
  have hown : s.vm.findClass RX5 = some m.cls := findClass_of_methodNamed B.named
  have hlocks := B.notSynchronized
  subst hsz
  have hD := hD0.self (sz := s.heap.size)
  generalize hAe : va_A (mw ad cI cL u) s.heap.size = A at hD ⊢
  have hA : ∀ q : Nat, s.heap.size ≤ q → A q := fun q h => by rw [← hAe]; exact Or.inr h
  have hS : va_S A s.heap s.heap [] := va_S.rf
  have iX5 : ∀ w ∈ u_ws RX5 TX5 36, w ∈ wsX5_sweep := fun _ h => List.mem_cons_of_mem _ (List.mem_append_right _ h)
  have k_0 := hts (.fieldLink RX5 71 "LampChoiceModel" "dims" "[I") (by decide +kernel)
  have k_1 := hts (.fieldLink RX5 90 "LampChoiceModel" "places" "I") (by decide +kernel)
  have hl := lv_entry ([.ref (ad 0)]) (n := 6) (Nat.le_of_ble_eq_true rfl)
  rw [lg_entry_eq]
  generalize (lg_sl ([.ref (ad 0)]) ++ List.replicate (6 - (lg_sl ([.ref (ad 0)])).length) Slot.unset).toArray = ls at hl ⊢
  have hl : lv_has ls 6 [(0, .ref (ad 0))] := hl
  have key : ∀ n : Nat, (∀ (v1 : Int32) (v2 : Int32) (v3 : Int32) (v4 : Int32) (u : St) (H : Heap) (locs : List Loc) (ls : Array Slot), fX5_sweep n 0 v1 v2 v3 v4 u = some r → va_P (dC, dI) vwCl (mw ad cI cL u) H → va_D A (mw ad cI cL u) → va_S A s.heap H locs → lv_has ls 6 [(0, .ref (ad 0))] → W p l e (headSpec wsX5_sweep ({ frames := 3, cells := 0, slots := 0, locals := 77 })).room s m ([.ref (ad 0)] : List Value).toArray below meth c H locs 0 0 (MQ below (va_Qi (fun a t => (a, t) = r) (fun t => wPost dC dI cI cL A (mw ad cI cL t)) A) ([.ref (ad 0)] : List Value).toArray s 0 0 A) (F0 m 0 ls [])) ∧ (∀ (v1 : Int32) (v2 : Int32) (v3 : Int32) (v4 : Int32) (u : St) (H : Heap) (locs : List Loc) (ls : Array Slot), fX5_sweep n 8 v1 v2 v3 v4 u = some r → va_P (dC, dI) vwCl (mw ad cI cL u) H → va_D A (mw ad cI cL u) → va_S A s.heap H locs → lv_has ls 6 [(0, .ref (ad 0)), (1, .int v1), (2, .int v2)] → W p l e (headSpec wsX5_sweep ({ frames := 3, cells := 0, slots := 0, locals := 77 })).room s m ([.ref (ad 0)] : List Value).toArray below meth c H locs 0 0 (MQ below (va_Qi (fun a t => (a, t) = r) (fun t => wPost dC dI cI cL A (mw ad cI cL t)) A) ([.ref (ad 0)] : List Value).toArray s 0 0 A) (F0 m 8 ls [])) ∧ (∀ (v1 : Int32) (v2 : Int32) (v3 : Int32) (v4 : Int32) (u : St) (H : Heap) (locs : List Loc) (ls : Array Slot), fX5_sweep n 57 v1 v2 v3 v4 u = some r → va_P (dC, dI) vwCl (mw ad cI cL u) H → va_D A (mw ad cI cL u) → va_S A s.heap H locs → lv_has ls 6 [(0, .ref (ad 0)), (2, .int v2), (3, .int v3)] → W p l e (headSpec wsX5_sweep ({ frames := 3, cells := 0, slots := 0, locals := 77 })).room s m ([.ref (ad 0)] : List Value).toArray below meth c H locs 0 0 (MQ below (va_Qi (fun a t => (a, t) = r) (fun t => wPost dC dI cI cL A (mw ad cI cL t)) A) ([.ref (ad 0)] : List Value).toArray s 0 0 A) (F0 m 57 ls [])) ∧ (∀ (v1 : Int32) (v2 : Int32) (v3 : Int32) (v4 : Int32) (u : St) (H : Heap) (locs : List Loc) (ls : Array Slot), fX5_sweep n 75 v1 v2 v3 v4 u = some r → va_P (dC, dI) vwCl (mw ad cI cL u) H → va_D A (mw ad cI cL u) → va_S A s.heap H locs → lv_has ls 6 [(0, .ref (ad 0)), (2, .int v2), (3, .int v3), (4, .int v4)] → W p l e (headSpec wsX5_sweep ({ frames := 3, cells := 0, slots := 0, locals := 77 })).room s m ([.ref (ad 0)] : List Value).toArray below meth c H locs 0 0 (MQ below (va_Qi (fun a t => (a, t) = r) (fun t => wPost dC dI cI cL A (mw ad cI cL t)) A) ([.ref (ad 0)] : List Value).toArray s 0 0 A) (F0 m 75 ls [])) := by
    intro n
    induction n with
    | zero => exact ⟨(fun _ _ _ _ _ _ _ _ hf => nomatch (show (none : Option (Int32 × St)) = some r from hf)), (fun _ _ _ _ _ _ _ _ hf => nomatch (show (none : Option (Int32 × St)) = some r from hf)), (fun _ _ _ _ _ _ _ _ hf => nomatch (show (none : Option (Int32 × St)) = some r from hf)), (fun _ _ _ _ _ _ _ _ hf => nomatch (show (none : Option (Int32 × St)) = some r from hf))⟩
    | succ n ih =>
      obtain ⟨ih0, ih1, ih2, ih3⟩ := ih
      refine ⟨?_, ?_, ?_, ?_⟩
      · intro v1 v2 v3 v4 u H locs ls hf hP hD hS hl
        have hf := (eX5_sweep_0 n v1 v2 v3 v4 u).symm.trans hf
        refine lv_aload_n hx hb dX5_sweep_0 rfl (lv_at hl 0 rfl) ?_
        obtain ⟨w_1, hw_1, hf⟩ := ob hf
        have hFc := freeAll hD hS hA
        refine va_callv (va_runV (As := []) (rest := []) ⟨hx, hb, hml, hown, hts⟩ (mX5_findBest l dC dI cI cL ad H.size u  n w_1 hw_1) (cwV 0 hts gX5_sweep_X5_findBest rfl rfl rfl (by decide +kernel) ⟨Nat.le_of_ble_eq_true rfl, Nat.le_of_ble_eq_true rfl⟩) ⟨wPre_blind, va_recv hK hP (ci := 5) (q0 := 0) rfl rfl, wPre_of hP hK hD hZ⟩ rfl rfl hl.1 rfl (lv_room (Nat.le_of_ble_eq_true rfl)) dX5_sweep_1 ⟨Nat.zero_le _, Nat.zero_le _⟩) hS (fun q _ h => hFc q h) hFc (fun u2 t H1 locs ht hvm hw hB hz1 hk1 hS => ?_)
        obtain ⟨hP1, hK1, hD1⟩ := hB
        rw [ht] at hP1
        subst u2
        have hP : va_P (dC, dI) vwCl (mw ad cI cL w_1) H1 := hP1
        have hD : va_D A (mw ad cI cL w_1) := hD1.weaken (fun _ _ _ h => hFc _ h)
        clear hP1 hD1 hK1 hFc hk1
        generalize H1 = H at hP hS ⊢
        refine lv_iconst (v := 0) hx hb dX5_sweep_4 (by decide) ?_
        refine lv_istore_n (lv' := [(1, .int (0 : Int32)), (0, .ref (ad 0))]) hx hb dX5_sweep_5 rfl hl (by decide) rfl (fun ls hl => ?_)
        refine lv_iconst (v := 0) hx hb dX5_sweep_6 (by decide) ?_
        refine lv_istore_n (lv' := [(2, .int (0 : Int32)), (1, .int (0 : Int32)), (0, .ref (ad 0))]) hx hb dX5_sweep_7 rfl hl (by decide) rfl (fun ls hl => ?_)
        exact ih1 (0 : Int32) (0 : Int32) 0 0 w_1 H locs ls hf hP hD hS (lv_sub hl [2, 1, 0] rfl)
      · intro v1 v2 v3 v4 u H locs ls hf hP hD hS hl
        have hf := (eX5_sweep_8 n v1 v2 v3 v4 u).symm.trans hf
        refine lv_iload_n hx hb dX5_sweep_8 rfl (lv_at hl 2 rfl) ?_
        refine lv_bipush (v := 7) hx hb dX5_sweep_9 (by decide) ?_
        refine lv_icmp_ge (tgt := 53) hx hb dX5_sweep_11 (by decide) (fun c_2 => ?_) (fun c_2 => ?_)
        · have hf := (if_pos c_2).symm.trans hf
          refine lv_iconst (v := 0) hx hb dX5_sweep_53 (by decide) ?_
          refine lv_istore_n (lv' := [(2, .int (0 : Int32)), (0, .ref (ad 0)), (1, .int v1)]) hx hb dX5_sweep_54 rfl hl (by decide) rfl (fun ls hl => ?_)
          refine lv_iload_n hx hb dX5_sweep_55 rfl (lv_at hl 2 rfl) ?_
          refine lv_istore_n (lv' := [(3, .int v1), (2, .int (0 : Int32)), (0, .ref (ad 0)), (1, .int v1)]) hx hb dX5_sweep_56 rfl hl (by decide) rfl (fun ls hl => ?_)
          exact ih2 0 (0 : Int32) v1 0 u H locs ls hf hP hD hS (lv_sub hl [2, 1, 0] rfl)
        · have hf := (if_neg c_2).symm.trans hf
          refine lv_aload_n hx hb dX5_sweep_14 rfl (lv_at hl 0 rfl) ?_
          refine va_get (D := (dC, dI)) (ci := 5) (v := .ref (ad 19)) (C := RX5) (T := TX5) (N := 36) hx hb hts iX5 hown hK hP 0 rfl rfl 29 (by decide) k_0 (fun _ h9 => h9) rfl dX5_sweep_15 ?_
          refine lv_iload_n hx hb dX5_sweep_18 rfl (lv_at hl 2 rfl) ?_
          refine lv_iconst (v := 0) hx hb dX5_sweep_19 (by decide) ?_
          obtain ⟨h_3, hf⟩ := ck_of hf
          refine va_iast (f := (gA u 18)) hx hb hK hP hD hS 19 0 rfl rfl h_3 dX5_sweep_20 (fun H locs hP hD hS => ?_)
          have hP : va_P (dC, dI) vwCl (mw ad cI cL (sA u 18 (upd (gA u 18) v2.toNatClampNeg (0 : Int32)))) H := hP
          have hD : va_D A (mw ad cI cL (sA u 18 (upd (gA u 18) v2.toNatClampNeg (0 : Int32)))) := hD
          refine lv_iload_n hx hb dX5_sweep_21 rfl (lv_at hl 1 rfl) ?_
          refine lv_if_ne (tgt := 41) hx hb dX5_sweep_22 (by decide) (fun c_4 => ?_) (fun c_4 => ?_)
          · have hf := (if_neg c_4).symm.trans hf
            refine lv_iconst (v := 1) hx hb dX5_sweep_41 (by decide) ?_
            refine lv_goto (tgt := 46) hx hb dX5_sweep_42 (by decide) ?_
            refine lv_istore_n (lv' := [(1, .int (1 : Int32)), (0, .ref (ad 0)), (2, .int v2)]) hx hb dX5_sweep_46 rfl hl (by decide) rfl (fun ls hl => ?_)
            refine lv_iinc (v := (v2 + 1)) (lv' := [(2, .int (v2 + 1)), (1, .int (1 : Int32)), (0, .ref (ad 0))]) hx hb dX5_sweep_47 hl (k := 2) rfl rfl (by decide) rfl (fun ls hl => ?_)
            refine lv_goto (tgt := 8) hx hb dX5_sweep_50 (by decide) ?_
            exact ih1 (1 : Int32) (v2 + 1) 0 0 (sA u 18 (upd (gA u 18) v2.toNatClampNeg (0 : Int32))) H locs ls hf hP hD hS (lv_sub hl [2, 1, 0] rfl)
          · have hf := (if_pos c_4).symm.trans hf
            refine lv_iload_n hx hb dX5_sweep_25 rfl (lv_at hl 2 rfl) ?_
            refine lv_aload_n hx hb dX5_sweep_26 rfl (lv_at hl 0 rfl) ?_
            refine va_get (D := (dC, dI)) (ci := 5) (v := .int (gI u 2)) (C := RX5) (T := TX5) (N := 36) hx hb hts iX5 hown hK hP 0 rfl rfl 6 (by decide) k_1 (fun _ h9 => h9) rfl dX5_sweep_27 ?_
            refine lv_icmp_ge (tgt := 45) hx hb dX5_sweep_30 (by decide) (fun c_5 => ?_) (fun c_5 => ?_)
            · have hf := (if_pos c_5).symm.trans hf
              refine lv_iconst (v := 0) hx hb dX5_sweep_45 (by decide) ?_
              refine lv_istore_n (lv' := [(1, .int (0 : Int32)), (0, .ref (ad 0)), (2, .int v2)]) hx hb dX5_sweep_46 rfl hl (by decide) rfl (fun ls hl => ?_)
              refine lv_iinc (v := (v2 + 1)) (lv' := [(2, .int (v2 + 1)), (1, .int (0 : Int32)), (0, .ref (ad 0))]) hx hb dX5_sweep_47 hl (k := 2) rfl rfl (by decide) rfl (fun ls hl => ?_)
              refine lv_goto (tgt := 8) hx hb dX5_sweep_50 (by decide) ?_
              exact ih1 (0 : Int32) (v2 + 1) 0 0 (sA u 18 (upd (gA u 18) v2.toNatClampNeg (0 : Int32))) H locs ls hf hP hD hS (lv_sub hl [2, 1, 0] rfl)
            · have hf := (if_neg c_5).symm.trans hf
              refine lv_aload_n hx hb dX5_sweep_33 rfl (lv_at hl 0 rfl) ?_
              refine lv_iload_n hx hb dX5_sweep_34 rfl (lv_at hl 2 rfl) ?_
              obtain ⟨w_6, hw_6, hf⟩ := ob hf
              have hFc := freeAll hD hS hA
              refine va_calli (va_runV (As := [.int v2]) (rest := []) ⟨hx, hb, hml, hown, hts⟩ (mX5_hasLamp l dC dI cI cL ad H.size (sA u 18 (upd (gA u 18) v2.toNatClampNeg (0 : Int32))) v2 n w_6 hw_6) (cwV 1 hts gX5_sweep_X5_hasLamp rfl rfl rfl (by decide +kernel) ⟨Nat.le_of_ble_eq_true rfl, Nat.le_of_ble_eq_true rfl⟩) ⟨wPre_blind, va_recv hK hP (ci := 5) (q0 := 0) rfl rfl, wPre_of hP hK hD hZ⟩ rfl rfl hl.1 rfl (lv_room (Nat.le_of_ble_eq_true rfl)) dX5_sweep_35 ⟨Nat.zero_le _, Nat.zero_le _⟩) hS (fun q _ h => hFc q h) hFc (fun r2 u2 t H1 locs ht hvm hw hB hz1 hk1 hS => ?_)
              obtain ⟨hP1, hK1, hD1⟩ := hB
              rw [ht] at hP1
              have e1 : r2 = w_6.1 := congrArg Prod.fst hw
              have e2 : u2 = w_6.2 := congrArg Prod.snd hw
              subst r2 u2
              have hP : va_P (dC, dI) vwCl (mw ad cI cL w_6.2) H1 := hP1
              have hD : va_D A (mw ad cI cL w_6.2) := hD1.weaken (fun _ _ _ h => hFc _ h)
              clear hP1 hD1 hK1 hFc hk1
              generalize H1 = H at hP hS ⊢
              refine lv_if_eq (tgt := 45) hx hb dX5_sweep_38 (by decide) (fun c_7 => ?_) (fun c_7 => ?_)
              · have hf := (if_pos c_7).symm.trans hf
                refine lv_iconst (v := 0) hx hb dX5_sweep_45 (by decide) ?_
                refine lv_istore_n (lv' := [(1, .int (0 : Int32)), (0, .ref (ad 0)), (2, .int v2)]) hx hb dX5_sweep_46 rfl hl (by decide) rfl (fun ls hl => ?_)
                refine lv_iinc (v := (v2 + 1)) (lv' := [(2, .int (v2 + 1)), (1, .int (0 : Int32)), (0, .ref (ad 0))]) hx hb dX5_sweep_47 hl (k := 2) rfl rfl (by decide) rfl (fun ls hl => ?_)
                refine lv_goto (tgt := 8) hx hb dX5_sweep_50 (by decide) ?_
                exact ih1 (0 : Int32) (v2 + 1) 0 0 w_6.2 H locs ls hf hP hD hS (lv_sub hl [2, 1, 0] rfl)
              · have hf := (if_neg c_7).symm.trans hf
                refine lv_iconst (v := 1) hx hb dX5_sweep_41 (by decide) ?_
                refine lv_goto (tgt := 46) hx hb dX5_sweep_42 (by decide) ?_
                refine lv_istore_n (lv' := [(1, .int (1 : Int32)), (0, .ref (ad 0)), (2, .int v2)]) hx hb dX5_sweep_46 rfl hl (by decide) rfl (fun ls hl => ?_)
                refine lv_iinc (v := (v2 + 1)) (lv' := [(2, .int (v2 + 1)), (1, .int (1 : Int32)), (0, .ref (ad 0))]) hx hb dX5_sweep_47 hl (k := 2) rfl rfl (by decide) rfl (fun ls hl => ?_)
                refine lv_goto (tgt := 8) hx hb dX5_sweep_50 (by decide) ?_
                exact ih1 (1 : Int32) (v2 + 1) 0 0 w_6.2 H locs ls hf hP hD hS (lv_sub hl [2, 1, 0] rfl)
      · intro v1 v2 v3 v4 u H locs ls hf hP hD hS hl
        have hf := (eX5_sweep_57 n v1 v2 v3 v4 u).symm.trans hf
        refine lv_iload_n hx hb dX5_sweep_57 rfl (lv_at hl 2 rfl) ?_
        refine lv_if_eq (tgt := 146) hx hb dX5_sweep_58 (by decide) (fun c_8 => ?_) (fun c_8 => ?_)
        · have hf := (if_pos c_8).symm.trans hf
          refine lv_iload_n hx hb dX5_sweep_146 rfl (lv_at hl 1 rfl) ?_
          have hf := Option.some.inj hf
          exact W.iret (v := v2) hx hb hr (fun t ht hW => ⟨⟨v2, u, rfl, hf, ⟨by rw [ht]; exact hP, va_K.moved hW.alike hK, hD⟩⟩, hS.F ht⟩) hS.2.2 dX5_sweep_147
        · have hf := (if_neg c_8).symm.trans hf
          refine lv_iload_n hx hb dX5_sweep_61 rfl (lv_at hl 1 rfl) ?_
          refine lv_bipush (v := 20) hx hb dX5_sweep_62 (by decide) ?_
          refine lv_icmp_ge (tgt := 146) hx hb dX5_sweep_64 (by decide) (fun c_9 => ?_) (fun c_9 => ?_)
          · have hf := (if_pos c_9).symm.trans hf
            refine lv_iload_n hx hb dX5_sweep_146 rfl (lv_at hl 1 rfl) ?_
            have hf := Option.some.inj hf
            exact W.iret (v := v2) hx hb hr (fun t ht hW => ⟨⟨v2, u, rfl, hf, ⟨by rw [ht]; exact hP, va_K.moved hW.alike hK, hD⟩⟩, hS.F ht⟩) hS.2.2 dX5_sweep_147
          · have hf := (if_neg c_9).symm.trans hf
            refine lv_iconst (v := 0) hx hb dX5_sweep_67 (by decide) ?_
            refine lv_istore_n (lv' := [(3, .int (0 : Int32)), (0, .ref (ad 0)), (2, .int v2)]) hx hb dX5_sweep_68 rfl hl (by decide) rfl (fun ls hl => ?_)
            refine lv_iinc (v := (v2 + 1)) (lv' := [(2, .int (v2 + 1)), (3, .int (0 : Int32)), (0, .ref (ad 0))]) hx hb dX5_sweep_69 hl (k := 2) rfl rfl (by decide) rfl (fun ls hl => ?_)
            refine lv_iconst (v := 0) hx hb dX5_sweep_72 (by decide) ?_
            refine lv_istore (lv' := [(4, .int (0 : Int32)), (2, .int (v2 + 1)), (3, .int (0 : Int32)), (0, .ref (ad 0))]) hx hb dX5_sweep_73 hl (by decide) rfl (fun ls hl => ?_)
            exact ih3 0 (v2 + 1) (0 : Int32) (0 : Int32) u H locs ls hf hP hD hS (lv_sub hl [3, 1, 2, 0] rfl)
      · intro v1 v2 v3 v4 u H locs ls hf hP hD hS hl
        have hf := (eX5_sweep_75 n v1 v2 v3 v4 u).symm.trans hf
        refine lv_iload hx hb dX5_sweep_75 (lv_at hl 3 rfl) ?_
        refine lv_aload_n hx hb dX5_sweep_77 rfl (lv_at hl 0 rfl) ?_
        refine va_get (D := (dC, dI)) (ci := 5) (v := .int (gI u 2)) (C := RX5) (T := TX5) (N := 36) hx hb hts iX5 hown hK hP 0 rfl rfl 6 (by decide) k_1 (fun _ h9 => h9) rfl dX5_sweep_78 ?_
        refine lv_icmp_ge (tgt := 143) hx hb dX5_sweep_81 (by decide) (fun c_10 => ?_) (fun c_10 => ?_)
        · have hf := (if_pos c_10).symm.trans hf
          refine lv_goto (tgt := 57) hx hb dX5_sweep_143 (by decide) ?_
          exact ih2 0 v2 v3 0 u H locs ls hf hP hD hS (lv_sub hl [0, 1, 2] rfl)
        · have hf := (if_neg c_10).symm.trans hf
          refine lv_aload_n hx hb dX5_sweep_84 rfl (lv_at hl 0 rfl) ?_
          refine lv_iload hx hb dX5_sweep_85 (lv_at hl 3 rfl) ?_
          obtain ⟨w_11, hw_11, hf⟩ := ob hf
          have hFc := freeAll hD hS hA
          refine va_calli (va_runV (As := [.int v4]) (rest := []) ⟨hx, hb, hml, hown, hts⟩ (mX5_hasLamp l dC dI cI cL ad H.size u v4 n w_11 hw_11) (cwV 1 hts gX5_sweep_X5_hasLamp rfl rfl rfl (by decide +kernel) ⟨Nat.le_of_ble_eq_true rfl, Nat.le_of_ble_eq_true rfl⟩) ⟨wPre_blind, va_recv hK hP (ci := 5) (q0 := 0) rfl rfl, wPre_of hP hK hD hZ⟩ rfl rfl hl.1 rfl (lv_room (Nat.le_of_ble_eq_true rfl)) dX5_sweep_87 ⟨Nat.zero_le _, Nat.zero_le _⟩) hS (fun q _ h => hFc q h) hFc (fun r2 u2 t H1 locs ht hvm hw hB hz1 hk1 hS => ?_)
          obtain ⟨hP1, hK1, hD1⟩ := hB
          rw [ht] at hP1
          have e1 : r2 = w_11.1 := congrArg Prod.fst hw
          have e2 : u2 = w_11.2 := congrArg Prod.snd hw
          subst r2 u2
          have hP : va_P (dC, dI) vwCl (mw ad cI cL w_11.2) H1 := hP1
          have hD : va_D A (mw ad cI cL w_11.2) := hD1.weaken (fun _ _ _ h => hFc _ h)
          clear hP1 hD1 hK1 hFc hk1
          generalize H1 = H at hP hS ⊢
          refine lv_if_eq (tgt := 137) hx hb dX5_sweep_90 (by decide) (fun c_12 => ?_) (fun c_12 => ?_)
          · have hf := (if_pos c_12).symm.trans hf
            refine lv_iinc (v := (v4 + 1)) (lv' := [(4, .int (v4 + 1)), (0, .ref (ad 0)), (2, .int v2), (3, .int v3)]) hx hb dX5_sweep_137 hl (k := 3) rfl rfl (by decide) rfl (fun ls hl => ?_)
            refine lv_goto (tgt := 75) hx hb dX5_sweep_140 (by decide) ?_
            exact ih3 0 v2 v3 (v4 + 1) w_11.2 H locs ls hf hP hD hS (lv_sub hl [1, 2, 3, 0] rfl)
          · have hf := (if_neg c_12).symm.trans hf
            refine lv_aload_n hx hb dX5_sweep_93 rfl (lv_at hl 0 rfl) ?_
            refine va_get (D := (dC, dI)) (ci := 5) (v := .ref (ad 19)) (C := RX5) (T := TX5) (N := 36) hx hb hts iX5 hown hK hP 0 rfl rfl 29 (by decide) k_0 (fun _ h9 => h9) rfl dX5_sweep_94 ?_
            refine lv_iload hx hb dX5_sweep_97 (lv_at hl 3 rfl) ?_
            obtain ⟨h_13, hf⟩ := ck_of hf
            refine va_iald (f := (gA w_11.2 18)) hx hb hK hP 19 0 rfl rfl h_13 dX5_sweep_99 ?_
            refine lv_istore (lv' := [(5, .int ((gA w_11.2 18) v4.toNatClampNeg)), (0, .ref (ad 0)), (2, .int v2), (3, .int v3), (4, .int v4)]) hx hb dX5_sweep_100 hl (by decide) rfl (fun ls hl => ?_)
            refine lv_aload_n hx hb dX5_sweep_102 rfl (lv_at hl 1 rfl) ?_
            refine va_get (D := (dC, dI)) (ci := 5) (v := .ref (ad 19)) (C := RX5) (T := TX5) (N := 36) hx hb hts iX5 hown hK hP 0 rfl rfl 29 (by decide) k_0 (fun _ h9 => h9) rfl dX5_sweep_103 ?_
            refine lv_iload hx hb dX5_sweep_106 (lv_at hl 4 rfl) ?_
            refine lv_aload_n hx hb dX5_sweep_108 rfl (lv_at hl 1 rfl) ?_
            refine lv_iload hx hb dX5_sweep_109 (lv_at hl 4 rfl) ?_
            obtain ⟨w_14, hw_14, hf⟩ := ob hf
            have hFc := freeAll hD hS hA
            refine va_calli (va_runV (As := [.int v4]) (rest := [.int v4, .ref (ad 19)]) ⟨hx, hb, hml, hown, hts⟩ (mX5_dimOf l dC dI cI cL ad H.size w_11.2 v4 n w_14 hw_14) (cwV 1 hts gX5_sweep_X5_dimOf rfl rfl rfl (by decide +kernel) ⟨Nat.le_of_ble_eq_true rfl, Nat.le_of_ble_eq_true rfl⟩) ⟨wPre_blind, va_recv hK hP (ci := 5) (q0 := 0) rfl rfl, wPre_of hP hK hD hZ⟩ rfl rfl hl.1 rfl (lv_room (Nat.le_of_ble_eq_true rfl)) dX5_sweep_111 ⟨Nat.zero_le _, Nat.zero_le _⟩) hS (fun q _ h => hFc q h) hFc (fun r2 u2 t H1 locs ht hvm hw hB hz1 hk1 hS => ?_)
            obtain ⟨hP1, hK1, hD1⟩ := hB
            rw [ht] at hP1
            have e1 : r2 = w_14.1 := congrArg Prod.fst hw
            have e2 : u2 = w_14.2 := congrArg Prod.snd hw
            subst r2 u2
            have hP : va_P (dC, dI) vwCl (mw ad cI cL w_14.2) H1 := hP1
            have hD : va_D A (mw ad cI cL w_14.2) := hD1.weaken (fun _ _ _ h => hFc _ h)
            clear hP1 hD1 hK1 hFc hk1
            generalize H1 = H at hP hS ⊢
            refine va_iast (f := (gA w_14.2 18)) hx hb hK hP hD hS 19 0 rfl rfl h_13 dX5_sweep_114 (fun H locs hP hD hS => ?_)
            have hP : va_P (dC, dI) vwCl (mw ad cI cL (sA w_14.2 18 (upd (gA w_14.2 18) v4.toNatClampNeg w_14.1))) H := hP
            have hD : va_D A (mw ad cI cL (sA w_14.2 18 (upd (gA w_14.2 18) v4.toNatClampNeg w_14.1))) := hD
            refine lv_iload_n hx hb dX5_sweep_115 rfl (lv_at hl 3 rfl) ?_
            refine lv_if_ne (tgt := 131) hx hb dX5_sweep_116 (by decide) (fun c_15 => ?_) (fun c_15 => ?_)
            · have hf := (if_neg c_15).symm.trans hf
              refine lv_iconst (v := 1) hx hb dX5_sweep_131 (by decide) ?_
              refine lv_goto (tgt := 136) hx hb dX5_sweep_132 (by decide) ?_
              refine lv_istore_n (lv' := [(3, .int (1 : Int32)), (5, .int ((gA w_11.2 18) v4.toNatClampNeg)), (0, .ref (ad 0)), (2, .int v2), (4, .int v4)]) hx hb dX5_sweep_136 rfl hl (by decide) rfl (fun ls hl => ?_)
              refine lv_iinc (v := (v4 + 1)) (lv' := [(4, .int (v4 + 1)), (3, .int (1 : Int32)), (5, .int ((gA w_11.2 18) v4.toNatClampNeg)), (0, .ref (ad 0)), (2, .int v2)]) hx hb dX5_sweep_137 hl (k := 4) rfl rfl (by decide) rfl (fun ls hl => ?_)
              refine lv_goto (tgt := 75) hx hb dX5_sweep_140 (by decide) ?_
              exact ih3 0 v2 (1 : Int32) (v4 + 1) (sA w_14.2 18 (upd (gA w_14.2 18) v4.toNatClampNeg w_14.1)) H locs ls hf hP hD hS (lv_sub hl [3, 4, 1, 0] rfl)
            · have hf := (if_pos c_15).symm.trans hf
              refine lv_aload_n hx hb dX5_sweep_119 rfl (lv_at hl 1 rfl) ?_
              refine va_get (D := (dC, dI)) (ci := 5) (v := .ref (ad 19)) (C := RX5) (T := TX5) (N := 36) hx hb hts iX5 hown hK hP 0 rfl rfl 29 (by decide) k_0 (fun _ h9 => h9) rfl dX5_sweep_120 ?_
              refine lv_iload hx hb dX5_sweep_123 (lv_at hl 4 rfl) ?_
              refine va_iald (f := (upd (gA w_14.2 18) v4.toNatClampNeg w_14.1)) hx hb hK hP 19 0 rfl rfl h_13 dX5_sweep_125 ?_
              refine lv_iload hx hb dX5_sweep_126 (lv_at hl 0 rfl) ?_
              refine lv_icmp_eq (tgt := 135) hx hb dX5_sweep_128 (by decide) (fun c_16 => ?_) (fun c_16 => ?_)
              · have hf := (if_pos c_16).symm.trans hf
                refine lv_iconst (v := 0) hx hb dX5_sweep_135 (by decide) ?_
                refine lv_istore_n (lv' := [(3, .int (0 : Int32)), (5, .int ((gA w_11.2 18) v4.toNatClampNeg)), (0, .ref (ad 0)), (2, .int v2), (4, .int v4)]) hx hb dX5_sweep_136 rfl hl (by decide) rfl (fun ls hl => ?_)
                refine lv_iinc (v := (v4 + 1)) (lv' := [(4, .int (v4 + 1)), (3, .int (0 : Int32)), (5, .int ((gA w_11.2 18) v4.toNatClampNeg)), (0, .ref (ad 0)), (2, .int v2)]) hx hb dX5_sweep_137 hl (k := 4) rfl rfl (by decide) rfl (fun ls hl => ?_)
                refine lv_goto (tgt := 75) hx hb dX5_sweep_140 (by decide) ?_
                exact ih3 0 v2 (0 : Int32) (v4 + 1) (sA w_14.2 18 (upd (gA w_14.2 18) v4.toNatClampNeg w_14.1)) H locs ls hf hP hD hS (lv_sub hl [3, 4, 1, 0] rfl)
              · have hf := (if_neg c_16).symm.trans hf
                refine lv_iconst (v := 1) hx hb dX5_sweep_131 (by decide) ?_
                refine lv_goto (tgt := 136) hx hb dX5_sweep_132 (by decide) ?_
                refine lv_istore_n (lv' := [(3, .int (1 : Int32)), (5, .int ((gA w_11.2 18) v4.toNatClampNeg)), (0, .ref (ad 0)), (2, .int v2), (4, .int v4)]) hx hb dX5_sweep_136 rfl hl (by decide) rfl (fun ls hl => ?_)
                refine lv_iinc (v := (v4 + 1)) (lv' := [(4, .int (v4 + 1)), (3, .int (1 : Int32)), (5, .int ((gA w_11.2 18) v4.toNatClampNeg)), (0, .ref (ad 0)), (2, .int v2)]) hx hb dX5_sweep_137 hl (k := 4) rfl rfl (by decide) rfl (fun ls hl => ?_)
                refine lv_goto (tgt := 75) hx hb dX5_sweep_140 (by decide) ?_
                exact ih3 0 v2 (1 : Int32) (v4 + 1) (sA w_14.2 18 (upd (gA w_14.2 18) v4.toNatClampNeg w_14.1)) H locs ls hf hP hD hS (lv_sub hl [3, 4, 1, 0] rfl)
  exact (key n).1 0 0 0 0 u _ _ ls hf0 hP hD hS (lv_sub hl [0] rfl)

def fX5_scene (n pc : Nat) (u : St) : Option (Int32 × St) := match n with
  | 0 => none
  | n + 1 => match pc with
    | 0 => ((FX5_sweep n  (sI u 0 (0 : Int32))).bind fun w_1 => some (w_1.1, w_1.2))
    | _ => none
theorem eX5_scene_0 (n : Nat) (u : St) : fX5_scene (n + 1) 0  u = ((FX5_sweep n  (sI u 0 (0 : Int32))).bind fun w_1 => some (w_1.1, w_1.2)) := rfl
theorem vX5_scene_0 (u : St) (r : Int32 × St) : Ev (fun n => fX5_scene n 0  u) r ↔ Ev (fun n => ((FX5_sweep n  (sI u 0 (0 : Int32))).bind fun w_1 => some (w_1.1, w_1.2))) r := Ev_succ (fun n => fX5_scene n 0  u) r
def FX5_scene (n : Nat) (u : St) : Option (Int32 × St) := fX5_scene n 0  u
set_option maxHeartbeats 4000000 in
set_option maxRecDepth 100000 in
theorem mX5_scene (l : Launch) (dC : Nat → ClassId) (dI : Nat → Nat → Nat) (cI cL : ClassId) (ad : Nat → Nat) (sz : Nat) (u : St) (n : Nat) (r : Int32 × St) (hf0 : FX5_scene n  u = some r) : Met l yX5_scene wsX5_scene ({ frames := 4, cells := 0, slots := 0, locals := 102 }) (va_Pc [.ref (ad 0)] (wPre dC dI cI cL (mw ad cI cL u) sz)) (va_Qi (fun a t => (a, t) = r) (fun t => wPost dC dI cI cL (va_A (mw ad cI cL u) sz) (mw ad cI cL t)) (va_A (mw ad cI cL u) sz)) 0 0 (va_A (mw ad cI cL u) sz) := by
  refine Met.ofW (cc := cX5_scene) (maxL := 1) (ret := (some .int)) (by decide) rfl ?_
  intro p e s m args below meth c s₁ B hml hv
  obtain ⟨rfl, hsz, hP, hK, hD0, hZ⟩ := hv
  have hx := B.exec
  have hb := B.bytes
  have hr := B.returns
  have hts := atoms_spec (ws := wsX5_scene) B.pre
  have hown : s.vm.findClass RX5 = some m.cls := findClass_of_methodNamed B.named
  have hlocks := B.notSynchronized
  subst hsz
  have hD := hD0.self (sz := s.heap.size)
  generalize hAe : va_A (mw ad cI cL u) s.heap.size = A at hD ⊢
  have hA : ∀ q : Nat, s.heap.size ≤ q → A q := fun q h => by rw [← hAe]; exact Or.inr h
  have hS : va_S A s.heap s.heap [] := va_S.rf
  have iX5 : ∀ w ∈ u_ws RX5 TX5 36, w ∈ wsX5_scene := fun _ h => List.mem_cons_of_mem _ (List.mem_append_right _ h)
  have k_0 := hts (.fieldLink RX5 80 "LampChoiceModel" "code" "I") (by decide +kernel)
  have hl := lv_entry ([.ref (ad 0)]) (n := 1) (Nat.le_of_ble_eq_true rfl)
  rw [lg_entry_eq]
  generalize (lg_sl ([.ref (ad 0)]) ++ List.replicate (1 - (lg_sl ([.ref (ad 0)])).length) Slot.unset).toArray = ls at hl ⊢
  have hl : lv_has ls 1 [(0, .ref (ad 0))] := hl
  have key : ∀ n : Nat, (∀ (u : St) (H : Heap) (locs : List Loc) (ls : Array Slot), fX5_scene n 0  u = some r → va_P (dC, dI) vwCl (mw ad cI cL u) H → va_D A (mw ad cI cL u) → va_S A s.heap H locs → lv_has ls 1 [(0, .ref (ad 0))] → W p l e (headSpec wsX5_scene ({ frames := 4, cells := 0, slots := 0, locals := 102 })).room s m ([.ref (ad 0)] : List Value).toArray below meth c H locs 0 0 (MQ below (va_Qi (fun a t => (a, t) = r) (fun t => wPost dC dI cI cL A (mw ad cI cL t)) A) ([.ref (ad 0)] : List Value).toArray s 0 0 A) (F0 m 0 ls [])) := by
    intro n
    induction n with
    | zero => exact (fun _ _ _ _ hf => nomatch (show (none : Option (Int32 × St)) = some r from hf))
    | succ n ih =>
      have ih0 := ih
      · intro  u H locs ls hf hP hD hS hl
        have hf := (eX5_scene_0 n  u).symm.trans hf
        refine lv_aload_n hx hb dX5_scene_0 rfl (lv_at hl 0 rfl) ?_
        refine lv_iconst (v := 0) hx hb dX5_scene_1 (by decide) ?_
        refine va_put (D := (dC, dI)) (ci := 5) (v := .int (0 : Int32)) (ty := .int) (C := RX5) (T := TX5) (N := 36) hx hb hts iX5 tyX5 tyX5_ok nmX5 hown hK hP hD hS 0 rfl rfl 0 (by decide) k_0 (fun _ h9 => h9) rfl (by decide +kernel) rfl rfl (Nat.le_of_ble_eq_true rfl) dX5_scene_2 (fun H locs hP hD hS => ?_)
        have hP : va_P (dC, dI) vwCl (mw ad cI cL (sI u 0 (0 : Int32))) H := hP
        have hD : va_D A (mw ad cI cL (sI u 0 (0 : Int32))) := hD
        refine lv_aload_n hx hb dX5_scene_5 rfl (lv_at hl 0 rfl) ?_
        obtain ⟨w_1, hw_1, hf⟩ := ob hf
        have hFc := freeAll hD hS hA
        refine va_calli (va_runV (As := []) (rest := []) ⟨hx, hb, hml, hown, hts⟩ (mX5_sweep l dC dI cI cL ad H.size (sI u 0 (0 : Int32))  n w_1 hw_1) (cwV 0 hts gX5_scene_X5_sweep rfl rfl rfl (by decide +kernel) ⟨Nat.le_of_ble_eq_true rfl, Nat.le_of_ble_eq_true rfl⟩) ⟨wPre_blind, va_recv hK hP (ci := 5) (q0 := 0) rfl rfl, wPre_of hP hK hD hZ⟩ rfl rfl hl.1 rfl (lv_room (Nat.le_of_ble_eq_true rfl)) dX5_scene_6 ⟨Nat.zero_le _, Nat.zero_le _⟩) hS (fun q _ h => hFc q h) hFc (fun r2 u2 t H1 locs ht hvm hw hB hz1 hk1 hS => ?_)
        obtain ⟨hP1, hK1, hD1⟩ := hB
        rw [ht] at hP1
        have e1 : r2 = w_1.1 := congrArg Prod.fst hw
        have e2 : u2 = w_1.2 := congrArg Prod.snd hw
        subst r2 u2
        have hP : va_P (dC, dI) vwCl (mw ad cI cL w_1.2) H1 := hP1
        have hD : va_D A (mw ad cI cL w_1.2) := hD1.weaken (fun _ _ _ h => hFc _ h)
        clear hP1 hD1 hK1 hFc hk1
        generalize H1 = H at hP hS ⊢
        have hf := Option.some.inj hf
        exact W.iret (v := w_1.1) hx hb hr (fun t ht hW => ⟨⟨w_1.1, w_1.2, rfl, hf, ⟨by rw [ht]; exact hP, va_K.moved hW.alike hK, hD⟩⟩, hS.F ht⟩) hS.2.2 dX5_scene_9
  exact (key n)  u _ _ ls hf0 hP hD hS (lv_sub hl [0] rfl)

def fX5_dim (n pc : Nat) (v1 : Int32) (u : St) : Option (Int32 × St) := match n with
  | 0 => none
  | n + 1 => match pc with
    | 0 => ((FX5_isPlace n v1 u).bind fun w_1 => (if w_1.1 = 0 then some ((0 : Int32), sI w_1.2 0 (1 : Int32)) else ((FX5_sweep n  (sI w_1.2 0 (0 : Int32))).bind fun w_5 => ((FX5_hasLamp n v1 w_5.2).bind fun w_6 => (if w_6.1 = 0 then some ((-1 : Int32), w_6.2) else (if ck v1 7 = true then some (((gA w_6.2 18) v1.toNatClampNeg), w_6.2) else none))))))
    | _ => none
theorem eX5_dim_0 (n : Nat) (v1 : Int32) (u : St) : fX5_dim (n + 1) 0 v1 u = ((FX5_isPlace n v1 u).bind fun w_1 => (if w_1.1 = 0 then some ((0 : Int32), sI w_1.2 0 (1 : Int32)) else ((FX5_sweep n  (sI w_1.2 0 (0 : Int32))).bind fun w_5 => ((FX5_hasLamp n v1 w_5.2).bind fun w_6 => (if w_6.1 = 0 then some ((-1 : Int32), w_6.2) else (if ck v1 7 = true then some (((gA w_6.2 18) v1.toNatClampNeg), w_6.2) else none)))))) := rfl
theorem vX5_dim_0 (v1 : Int32) (u : St) (r : Int32 × St) : Ev (fun n => fX5_dim n 0 v1 u) r ↔ Ev (fun n => ((FX5_isPlace n v1 u).bind fun w_1 => (if w_1.1 = 0 then some ((0 : Int32), sI w_1.2 0 (1 : Int32)) else ((FX5_sweep n  (sI w_1.2 0 (0 : Int32))).bind fun w_5 => ((FX5_hasLamp n v1 w_5.2).bind fun w_6 => (if w_6.1 = 0 then some ((-1 : Int32), w_6.2) else (if ck v1 7 = true then some (((gA w_6.2 18) v1.toNatClampNeg), w_6.2) else none))))))) r := Ev_succ (fun n => fX5_dim n 0 v1 u) r
def FX5_dim (n : Nat) (v1 : Int32) (u : St) : Option (Int32 × St) := fX5_dim n 0 v1 u
set_option maxHeartbeats 4000000 in
set_option maxRecDepth 100000 in
theorem mX5_dim (l : Launch) (dC : Nat → ClassId) (dI : Nat → Nat → Nat) (cI cL : ClassId) (ad : Nat → Nat) (sz : Nat) (u : St) (z1 : Int32) (n : Nat) (r : Int32 × St) (hf0 : FX5_dim n z1 u = some r) : Met l yX5_dim wsX5_dim ({ frames := 4, cells := 0, slots := 0, locals := 102 }) (va_Pc [.ref (ad 0), .int z1] (wPre dC dI cI cL (mw ad cI cL u) sz)) (va_Qi (fun a t => (a, t) = r) (fun t => wPost dC dI cI cL (va_A (mw ad cI cL u) sz) (mw ad cI cL t)) (va_A (mw ad cI cL u) sz)) 0 0 (va_A (mw ad cI cL u) sz) := by
  refine Met.ofW (cc := cX5_dim) (maxL := 2) (ret := (some .int)) (by decide) rfl ?_
  intro p e s m args below meth c s₁ B hml hv
  obtain ⟨rfl, hsz, hP, hK, hD0, hZ⟩ := hv
  have hx := B.exec
  have hb := B.bytes
  have hr := B.returns
  have hts := atoms_spec (ws := wsX5_dim) B.pre
  have hown : s.vm.findClass RX5 = some m.cls := findClass_of_methodNamed B.named
  have hlocks := B.notSynchronized
  subst hsz
  have hD := hD0.self (sz := s.heap.size)
  generalize hAe : va_A (mw ad cI cL u) s.heap.size = A at hD ⊢
  have hA : ∀ q : Nat, s.heap.size ≤ q → A q := fun q h => by rw [← hAe]; exact Or.inr h
  have hS : va_S A s.heap s.heap [] := va_S.rf
  have iX5 : ∀ w ∈ u_ws RX5 TX5 36, w ∈ wsX5_dim := fun _ h => List.mem_cons_of_mem _ (List.mem_append_right _ h)
  have k_0 := hts (.fieldLink RX5 80 "LampChoiceModel" "code" "I") (by decide +kernel)
  have k_1 := hts (.fieldLink RX5 71 "LampChoiceModel" "dims" "[I") (by decide +kernel)
  have hl := lv_entry ([.ref (ad 0), .int z1]) (n := 2) (Nat.le_of_ble_eq_true rfl)
  rw [lg_entry_eq]
  generalize (lg_sl ([.ref (ad 0), .int z1]) ++ List.replicate (2 - (lg_sl ([.ref (ad 0), .int z1])).length) Slot.unset).toArray = ls at hl ⊢
  have hl : lv_has ls 2 [(0, .ref (ad 0)), (1, .int z1)] := hl
  have key : ∀ n : Nat, (∀ (v1 : Int32) (u : St) (H : Heap) (locs : List Loc) (ls : Array Slot), fX5_dim n 0 v1 u = some r → va_P (dC, dI) vwCl (mw ad cI cL u) H → va_D A (mw ad cI cL u) → va_S A s.heap H locs → lv_has ls 2 [(0, .ref (ad 0)), (1, .int v1)] → W p l e (headSpec wsX5_dim ({ frames := 4, cells := 0, slots := 0, locals := 102 })).room s m ([.ref (ad 0), .int z1] : List Value).toArray below meth c H locs 0 0 (MQ below (va_Qi (fun a t => (a, t) = r) (fun t => wPost dC dI cI cL A (mw ad cI cL t)) A) ([.ref (ad 0), .int z1] : List Value).toArray s 0 0 A) (F0 m 0 ls [])) := by
    intro n
    induction n with
    | zero => exact (fun _ _ _ _ _ hf => nomatch (show (none : Option (Int32 × St)) = some r from hf))
    | succ n ih =>
      have ih0 := ih
      · intro v1 u H locs ls hf hP hD hS hl
        have hf := (eX5_dim_0 n v1 u).symm.trans hf
        refine lv_aload_n hx hb dX5_dim_0 rfl (lv_at hl 0 rfl) ?_
        refine lv_aload_n hx hb dX5_dim_1 rfl (lv_at hl 0 rfl) ?_
        refine lv_iload_n hx hb dX5_dim_2 rfl (lv_at hl 1 rfl) ?_
        obtain ⟨w_1, hw_1, hf⟩ := ob hf
        have hFc := freeAll hD hS hA
        refine va_calli (va_runV (As := [.int v1]) (rest := [.ref (ad 0)]) ⟨hx, hb, hml, hown, hts⟩ (mX5_isPlace l dC dI cI cL ad H.size u v1 n w_1 hw_1) (cwV 1 hts gX5_dim_X5_isPlace rfl rfl rfl (by decide +kernel) ⟨Nat.le_of_ble_eq_true rfl, Nat.le_of_ble_eq_true rfl⟩) ⟨wPre_blind, va_recv hK hP (ci := 5) (q0 := 0) rfl rfl, wPre_of hP hK hD hZ⟩ rfl rfl hl.1 rfl (lv_room (Nat.le_of_ble_eq_true rfl)) dX5_dim_3 ⟨Nat.zero_le _, Nat.zero_le _⟩) hS (fun q _ h => hFc q h) hFc (fun r2 u2 t H1 locs ht hvm hw hB hz1 hk1 hS => ?_)
        obtain ⟨hP1, hK1, hD1⟩ := hB
        rw [ht] at hP1
        have e1 : r2 = w_1.1 := congrArg Prod.fst hw
        have e2 : u2 = w_1.2 := congrArg Prod.snd hw
        subst r2 u2
        have hP : va_P (dC, dI) vwCl (mw ad cI cL w_1.2) H1 := hP1
        have hD : va_D A (mw ad cI cL w_1.2) := hD1.weaken (fun _ _ _ h => hFc _ h)
        clear hP1 hD1 hK1 hFc hk1
        generalize H1 = H at hP hS ⊢
        refine lv_if_eq (tgt := 13) hx hb dX5_dim_6 (by decide) (fun c_2 => ?_) (fun c_2 => ?_)
        · have hf := (if_pos c_2).symm.trans hf
          refine lv_iconst (v := 1) hx hb dX5_dim_13 (by decide) ?_
          refine va_put (D := (dC, dI)) (ci := 5) (v := .int (1 : Int32)) (ty := .int) (C := RX5) (T := TX5) (N := 36) hx hb hts iX5 tyX5 tyX5_ok nmX5 hown hK hP hD hS 0 rfl rfl 0 (by decide) k_0 (fun _ h9 => h9) rfl (by decide +kernel) rfl rfl (Nat.le_of_ble_eq_true rfl) dX5_dim_14 (fun H locs hP hD hS => ?_)
          have hP : va_P (dC, dI) vwCl (mw ad cI cL (sI w_1.2 0 (1 : Int32))) H := hP
          have hD : va_D A (mw ad cI cL (sI w_1.2 0 (1 : Int32))) := hD
          refine lv_aload_n hx hb dX5_dim_17 rfl (lv_at hl 0 rfl) ?_
          refine va_get (D := (dC, dI)) (ci := 5) (v := .int ((1 : Int32))) (C := RX5) (T := TX5) (N := 36) hx hb hts iX5 hown hK hP 0 rfl rfl 0 (by decide) k_0 (fun _ h9 => h9) rfl dX5_dim_18 ?_
          refine lv_if_le (tgt := 26) hx hb dX5_dim_21 (by decide) (fun c_3 => ?_) (fun c_3 => ?_)
          · exact absurd c_3 (by decide)
          · refine lv_iconst (v := 0) hx hb dX5_dim_24 (by decide) ?_
            have hf := Option.some.inj hf
            exact W.iret (v := (0 : Int32)) hx hb hr (fun t ht hW => ⟨⟨(0 : Int32), (sI w_1.2 0 (1 : Int32)), rfl, hf, ⟨by rw [ht]; exact hP, va_K.moved hW.alike hK, hD⟩⟩, hS.F ht⟩) hS.2.2 dX5_dim_25
        · have hf := (if_neg c_2).symm.trans hf
          refine lv_iconst (v := 0) hx hb dX5_dim_9 (by decide) ?_
          refine lv_goto (tgt := 14) hx hb dX5_dim_10 (by decide) ?_
          refine va_put (D := (dC, dI)) (ci := 5) (v := .int (0 : Int32)) (ty := .int) (C := RX5) (T := TX5) (N := 36) hx hb hts iX5 tyX5 tyX5_ok nmX5 hown hK hP hD hS 0 rfl rfl 0 (by decide) k_0 (fun _ h9 => h9) rfl (by decide +kernel) rfl rfl (Nat.le_of_ble_eq_true rfl) dX5_dim_14 (fun H locs hP hD hS => ?_)
          have hP : va_P (dC, dI) vwCl (mw ad cI cL (sI w_1.2 0 (0 : Int32))) H := hP
          have hD : va_D A (mw ad cI cL (sI w_1.2 0 (0 : Int32))) := hD
          refine lv_aload_n hx hb dX5_dim_17 rfl (lv_at hl 0 rfl) ?_
          refine va_get (D := (dC, dI)) (ci := 5) (v := .int ((0 : Int32))) (C := RX5) (T := TX5) (N := 36) hx hb hts iX5 hown hK hP 0 rfl rfl 0 (by decide) k_0 (fun _ h9 => h9) rfl dX5_dim_18 ?_
          refine lv_if_le (tgt := 26) hx hb dX5_dim_21 (by decide) (fun c_4 => ?_) (fun c_4 => ?_)
          · refine lv_aload_n hx hb dX5_dim_26 rfl (lv_at hl 0 rfl) ?_
            obtain ⟨w_5, hw_5, hf⟩ := ob hf
            have hFc := freeAll hD hS hA
            refine va_calli (va_runV (As := []) (rest := []) ⟨hx, hb, hml, hown, hts⟩ (mX5_sweep l dC dI cI cL ad H.size (sI w_1.2 0 (0 : Int32))  n w_5 hw_5) (cwV 0 hts gX5_dim_X5_sweep rfl rfl rfl (by decide +kernel) ⟨Nat.le_of_ble_eq_true rfl, Nat.le_of_ble_eq_true rfl⟩) ⟨wPre_blind, va_recv hK hP (ci := 5) (q0 := 0) rfl rfl, wPre_of hP hK hD hZ⟩ rfl rfl hl.1 rfl (lv_room (Nat.le_of_ble_eq_true rfl)) dX5_dim_27 ⟨Nat.zero_le _, Nat.zero_le _⟩) hS (fun q _ h => hFc q h) hFc (fun r2 u2 t H1 locs ht hvm hw hB hz1 hk1 hS => ?_)
            obtain ⟨hP1, hK1, hD1⟩ := hB
            rw [ht] at hP1
            have e1 : r2 = w_5.1 := congrArg Prod.fst hw
            have e2 : u2 = w_5.2 := congrArg Prod.snd hw
            subst r2 u2
            have hP : va_P (dC, dI) vwCl (mw ad cI cL w_5.2) H1 := hP1
            have hD : va_D A (mw ad cI cL w_5.2) := hD1.weaken (fun _ _ _ h => hFc _ h)
            clear hP1 hD1 hK1 hFc hk1
            generalize H1 = H at hP hS ⊢
            refine lv_pop hx hb dX5_dim_30 rfl ?_
            refine lv_aload_n hx hb dX5_dim_31 rfl (lv_at hl 0 rfl) ?_
            refine lv_iload_n hx hb dX5_dim_32 rfl (lv_at hl 1 rfl) ?_
            obtain ⟨w_6, hw_6, hf⟩ := ob hf
            have hFc := freeAll hD hS hA
            refine va_calli (va_runV (As := [.int v1]) (rest := []) ⟨hx, hb, hml, hown, hts⟩ (mX5_hasLamp l dC dI cI cL ad H.size w_5.2 v1 n w_6 hw_6) (cwV 1 hts gX5_dim_X5_hasLamp rfl rfl rfl (by decide +kernel) ⟨Nat.le_of_ble_eq_true rfl, Nat.le_of_ble_eq_true rfl⟩) ⟨wPre_blind, va_recv hK hP (ci := 5) (q0 := 0) rfl rfl, wPre_of hP hK hD hZ⟩ rfl rfl hl.1 rfl (lv_room (Nat.le_of_ble_eq_true rfl)) dX5_dim_33 ⟨Nat.zero_le _, Nat.zero_le _⟩) hS (fun q _ h => hFc q h) hFc (fun r2 u2 t H1 locs ht hvm hw hB hz1 hk1 hS => ?_)
            obtain ⟨hP1, hK1, hD1⟩ := hB
            rw [ht] at hP1
            have e1 : r2 = w_6.1 := congrArg Prod.fst hw
            have e2 : u2 = w_6.2 := congrArg Prod.snd hw
            subst r2 u2
            have hP : va_P (dC, dI) vwCl (mw ad cI cL w_6.2) H1 := hP1
            have hD : va_D A (mw ad cI cL w_6.2) := hD1.weaken (fun _ _ _ h => hFc _ h)
            clear hP1 hD1 hK1 hFc hk1
            generalize H1 = H at hP hS ⊢
            refine lv_if_eq (tgt := 48) hx hb dX5_dim_36 (by decide) (fun c_7 => ?_) (fun c_7 => ?_)
            · have hf := (if_pos c_7).symm.trans hf
              refine lv_iconst (v := -1) hx hb dX5_dim_48 (by decide) ?_
              have hf := Option.some.inj hf
              exact W.iret (v := (-1 : Int32)) hx hb hr (fun t ht hW => ⟨⟨(-1 : Int32), w_6.2, rfl, hf, ⟨by rw [ht]; exact hP, va_K.moved hW.alike hK, hD⟩⟩, hS.F ht⟩) hS.2.2 dX5_dim_49
            · have hf := (if_neg c_7).symm.trans hf
              refine lv_aload_n hx hb dX5_dim_39 rfl (lv_at hl 0 rfl) ?_
              refine va_get (D := (dC, dI)) (ci := 5) (v := .ref (ad 19)) (C := RX5) (T := TX5) (N := 36) hx hb hts iX5 hown hK hP 0 rfl rfl 29 (by decide) k_1 (fun _ h9 => h9) rfl dX5_dim_40 ?_
              refine lv_iload_n hx hb dX5_dim_43 rfl (lv_at hl 1 rfl) ?_
              obtain ⟨h_8, hf⟩ := ck_of hf
              refine va_iald (f := (gA w_6.2 18)) hx hb hK hP 19 0 rfl rfl h_8 dX5_dim_44 ?_
              refine lv_goto (tgt := 49) hx hb dX5_dim_45 (by decide) ?_
              have hf := Option.some.inj hf
              exact W.iret (v := ((gA w_6.2 18) v1.toNatClampNeg)) hx hb hr (fun t ht hW => ⟨⟨((gA w_6.2 18) v1.toNatClampNeg), w_6.2, rfl, hf, ⟨by rw [ht]; exact hP, va_K.moved hW.alike hK, hD⟩⟩, hS.F ht⟩) hS.2.2 dX5_dim_49
          · exact absurd c_4 (by decide)
  exact (key n) z1 u _ _ ls hf0 hP hD hS (lv_sub hl [0, 1] rfl)

def fX5_miss (n pc : Nat) (v1 : Int32) (u : St) : Option (Int64 × St) := match n with
  | 0 => none
  | n + 1 => match pc with
    | 0 => ((FX5_isPoint n v1 u).bind fun w_1 => (if w_1.1 = 0 then some ((0 : Int64), sI w_1.2 0 (1 : Int32)) else ((FX5_sweep n  (sI w_1.2 0 (0 : Int32))).bind fun w_5 => ((FX5_missOf n v1 w_5.2).bind fun w_6 => some (w_6.1, w_6.2)))))
    | _ => none
theorem eX5_miss_0 (n : Nat) (v1 : Int32) (u : St) : fX5_miss (n + 1) 0 v1 u = ((FX5_isPoint n v1 u).bind fun w_1 => (if w_1.1 = 0 then some ((0 : Int64), sI w_1.2 0 (1 : Int32)) else ((FX5_sweep n  (sI w_1.2 0 (0 : Int32))).bind fun w_5 => ((FX5_missOf n v1 w_5.2).bind fun w_6 => some (w_6.1, w_6.2))))) := rfl
theorem vX5_miss_0 (v1 : Int32) (u : St) (r : Int64 × St) : Ev (fun n => fX5_miss n 0 v1 u) r ↔ Ev (fun n => ((FX5_isPoint n v1 u).bind fun w_1 => (if w_1.1 = 0 then some ((0 : Int64), sI w_1.2 0 (1 : Int32)) else ((FX5_sweep n  (sI w_1.2 0 (0 : Int32))).bind fun w_5 => ((FX5_missOf n v1 w_5.2).bind fun w_6 => some (w_6.1, w_6.2)))))) r := Ev_succ (fun n => fX5_miss n 0 v1 u) r
def FX5_miss (n : Nat) (v1 : Int32) (u : St) : Option (Int64 × St) := fX5_miss n 0 v1 u
set_option maxHeartbeats 4000000 in
set_option maxRecDepth 100000 in
theorem mX5_miss (l : Launch) (dC : Nat → ClassId) (dI : Nat → Nat → Nat) (cI cL : ClassId) (ad : Nat → Nat) (sz : Nat) (u : St) (z1 : Int32) (n : Nat) (r : Int64 × St) (hf0 : FX5_miss n z1 u = some r) : Met l yX5_miss wsX5_miss ({ frames := 4, cells := 0, slots := 0, locals := 102 }) (va_Pc [.ref (ad 0), .int z1] (wPre dC dI cI cL (mw ad cI cL u) sz)) (va_Ql (fun a t => (a, t) = r) (fun t => wPost dC dI cI cL (va_A (mw ad cI cL u) sz) (mw ad cI cL t)) (va_A (mw ad cI cL u) sz)) 0 0 (va_A (mw ad cI cL u) sz) := by
  refine Met.ofW (cc := cX5_miss) (maxL := 2) (ret := (some .long)) (by decide) rfl ?_
  intro p e s m args below meth c s₁ B hml hv
  obtain ⟨rfl, hsz, hP, hK, hD0, hZ⟩ := hv
  have hx := B.exec
  have hb := B.bytes
  have hr := B.returns
  have hts := atoms_spec (ws := wsX5_miss) B.pre
  have hown : s.vm.findClass RX5 = some m.cls := findClass_of_methodNamed B.named
  have hlocks := B.notSynchronized
  subst hsz
  have hD := hD0.self (sz := s.heap.size)
  generalize hAe : va_A (mw ad cI cL u) s.heap.size = A at hD ⊢
  have hA : ∀ q : Nat, s.heap.size ≤ q → A q := fun q h => by rw [← hAe]; exact Or.inr h
  have hS : va_S A s.heap s.heap [] := va_S.rf
  have iX5 : ∀ w ∈ u_ws RX5 TX5 36, w ∈ wsX5_miss := fun _ h => List.mem_cons_of_mem _ (List.mem_append_right _ h)
  have k_0 := hts (.fieldLink RX5 80 "LampChoiceModel" "code" "I") (by decide +kernel)
  have hl := lv_entry ([.ref (ad 0), .int z1]) (n := 2) (Nat.le_of_ble_eq_true rfl)
  rw [lg_entry_eq]
  generalize (lg_sl ([.ref (ad 0), .int z1]) ++ List.replicate (2 - (lg_sl ([.ref (ad 0), .int z1])).length) Slot.unset).toArray = ls at hl ⊢
  have hl : lv_has ls 2 [(0, .ref (ad 0)), (1, .int z1)] := hl
  have key : ∀ n : Nat, (∀ (v1 : Int32) (u : St) (H : Heap) (locs : List Loc) (ls : Array Slot), fX5_miss n 0 v1 u = some r → va_P (dC, dI) vwCl (mw ad cI cL u) H → va_D A (mw ad cI cL u) → va_S A s.heap H locs → lv_has ls 2 [(0, .ref (ad 0)), (1, .int v1)] → W p l e (headSpec wsX5_miss ({ frames := 4, cells := 0, slots := 0, locals := 102 })).room s m ([.ref (ad 0), .int z1] : List Value).toArray below meth c H locs 0 0 (MQ below (va_Ql (fun a t => (a, t) = r) (fun t => wPost dC dI cI cL A (mw ad cI cL t)) A) ([.ref (ad 0), .int z1] : List Value).toArray s 0 0 A) (F0 m 0 ls [])) := by
    intro n
    induction n with
    | zero => exact (fun _ _ _ _ _ hf => nomatch (show (none : Option (Int64 × St)) = some r from hf))
    | succ n ih =>
      have ih0 := ih
      · intro v1 u H locs ls hf hP hD hS hl
        have hf := (eX5_miss_0 n v1 u).symm.trans hf
        refine lv_aload_n hx hb dX5_miss_0 rfl (lv_at hl 0 rfl) ?_
        refine lv_aload_n hx hb dX5_miss_1 rfl (lv_at hl 0 rfl) ?_
        refine lv_iload_n hx hb dX5_miss_2 rfl (lv_at hl 1 rfl) ?_
        obtain ⟨w_1, hw_1, hf⟩ := ob hf
        have hFc := freeAll hD hS hA
        refine va_calli (va_runV (As := [.int v1]) (rest := [.ref (ad 0)]) ⟨hx, hb, hml, hown, hts⟩ (mX5_isPoint l dC dI cI cL ad H.size u v1 n w_1 hw_1) (cwV 1 hts gX5_miss_X5_isPoint rfl rfl rfl (by decide +kernel) ⟨Nat.le_of_ble_eq_true rfl, Nat.le_of_ble_eq_true rfl⟩) ⟨wPre_blind, va_recv hK hP (ci := 5) (q0 := 0) rfl rfl, wPre_of hP hK hD hZ⟩ rfl rfl hl.1 rfl (lv_room (Nat.le_of_ble_eq_true rfl)) dX5_miss_3 ⟨Nat.zero_le _, Nat.zero_le _⟩) hS (fun q _ h => hFc q h) hFc (fun r2 u2 t H1 locs ht hvm hw hB hz1 hk1 hS => ?_)
        obtain ⟨hP1, hK1, hD1⟩ := hB
        rw [ht] at hP1
        have e1 : r2 = w_1.1 := congrArg Prod.fst hw
        have e2 : u2 = w_1.2 := congrArg Prod.snd hw
        subst r2 u2
        have hP : va_P (dC, dI) vwCl (mw ad cI cL w_1.2) H1 := hP1
        have hD : va_D A (mw ad cI cL w_1.2) := hD1.weaken (fun _ _ _ h => hFc _ h)
        clear hP1 hD1 hK1 hFc hk1
        generalize H1 = H at hP hS ⊢
        refine lv_if_eq (tgt := 13) hx hb dX5_miss_6 (by decide) (fun c_2 => ?_) (fun c_2 => ?_)
        · have hf := (if_pos c_2).symm.trans hf
          refine lv_iconst (v := 1) hx hb dX5_miss_13 (by decide) ?_
          refine va_put (D := (dC, dI)) (ci := 5) (v := .int (1 : Int32)) (ty := .int) (C := RX5) (T := TX5) (N := 36) hx hb hts iX5 tyX5 tyX5_ok nmX5 hown hK hP hD hS 0 rfl rfl 0 (by decide) k_0 (fun _ h9 => h9) rfl (by decide +kernel) rfl rfl (Nat.le_of_ble_eq_true rfl) dX5_miss_14 (fun H locs hP hD hS => ?_)
          have hP : va_P (dC, dI) vwCl (mw ad cI cL (sI w_1.2 0 (1 : Int32))) H := hP
          have hD : va_D A (mw ad cI cL (sI w_1.2 0 (1 : Int32))) := hD
          refine lv_aload_n hx hb dX5_miss_17 rfl (lv_at hl 0 rfl) ?_
          refine va_get (D := (dC, dI)) (ci := 5) (v := .int ((1 : Int32))) (C := RX5) (T := TX5) (N := 36) hx hb hts iX5 hown hK hP 0 rfl rfl 0 (by decide) k_0 (fun _ h9 => h9) rfl dX5_miss_18 ?_
          refine lv_if_le (tgt := 26) hx hb dX5_miss_21 (by decide) (fun c_3 => ?_) (fun c_3 => ?_)
          · exact absurd c_3 (by decide)
          · refine lv_lconst (v := 0) hx hb dX5_miss_24 (by decide) ?_
            have hf := Option.some.inj hf
            exact W.lret (v := (0 : Int64)) hx hb hr (fun t ht hW => ⟨⟨(0 : Int64), (sI w_1.2 0 (1 : Int32)), rfl, hf, ⟨by rw [ht]; exact hP, va_K.moved hW.alike hK, hD⟩⟩, hS.F ht⟩) hS.2.2 dX5_miss_25
        · have hf := (if_neg c_2).symm.trans hf
          refine lv_iconst (v := 0) hx hb dX5_miss_9 (by decide) ?_
          refine lv_goto (tgt := 14) hx hb dX5_miss_10 (by decide) ?_
          refine va_put (D := (dC, dI)) (ci := 5) (v := .int (0 : Int32)) (ty := .int) (C := RX5) (T := TX5) (N := 36) hx hb hts iX5 tyX5 tyX5_ok nmX5 hown hK hP hD hS 0 rfl rfl 0 (by decide) k_0 (fun _ h9 => h9) rfl (by decide +kernel) rfl rfl (Nat.le_of_ble_eq_true rfl) dX5_miss_14 (fun H locs hP hD hS => ?_)
          have hP : va_P (dC, dI) vwCl (mw ad cI cL (sI w_1.2 0 (0 : Int32))) H := hP
          have hD : va_D A (mw ad cI cL (sI w_1.2 0 (0 : Int32))) := hD
          refine lv_aload_n hx hb dX5_miss_17 rfl (lv_at hl 0 rfl) ?_
          refine va_get (D := (dC, dI)) (ci := 5) (v := .int ((0 : Int32))) (C := RX5) (T := TX5) (N := 36) hx hb hts iX5 hown hK hP 0 rfl rfl 0 (by decide) k_0 (fun _ h9 => h9) rfl dX5_miss_18 ?_
          refine lv_if_le (tgt := 26) hx hb dX5_miss_21 (by decide) (fun c_4 => ?_) (fun c_4 => ?_)
          · refine lv_aload_n hx hb dX5_miss_26 rfl (lv_at hl 0 rfl) ?_
            obtain ⟨w_5, hw_5, hf⟩ := ob hf
            have hFc := freeAll hD hS hA
            refine va_calli (va_runV (As := []) (rest := []) ⟨hx, hb, hml, hown, hts⟩ (mX5_sweep l dC dI cI cL ad H.size (sI w_1.2 0 (0 : Int32))  n w_5 hw_5) (cwV 0 hts gX5_miss_X5_sweep rfl rfl rfl (by decide +kernel) ⟨Nat.le_of_ble_eq_true rfl, Nat.le_of_ble_eq_true rfl⟩) ⟨wPre_blind, va_recv hK hP (ci := 5) (q0 := 0) rfl rfl, wPre_of hP hK hD hZ⟩ rfl rfl hl.1 rfl (lv_room (Nat.le_of_ble_eq_true rfl)) dX5_miss_27 ⟨Nat.zero_le _, Nat.zero_le _⟩) hS (fun q _ h => hFc q h) hFc (fun r2 u2 t H1 locs ht hvm hw hB hz1 hk1 hS => ?_)
            obtain ⟨hP1, hK1, hD1⟩ := hB
            rw [ht] at hP1
            have e1 : r2 = w_5.1 := congrArg Prod.fst hw
            have e2 : u2 = w_5.2 := congrArg Prod.snd hw
            subst r2 u2
            have hP : va_P (dC, dI) vwCl (mw ad cI cL w_5.2) H1 := hP1
            have hD : va_D A (mw ad cI cL w_5.2) := hD1.weaken (fun _ _ _ h => hFc _ h)
            clear hP1 hD1 hK1 hFc hk1
            generalize H1 = H at hP hS ⊢
            refine lv_pop hx hb dX5_miss_30 rfl ?_
            refine lv_aload_n hx hb dX5_miss_31 rfl (lv_at hl 0 rfl) ?_
            refine lv_iload_n hx hb dX5_miss_32 rfl (lv_at hl 1 rfl) ?_
            obtain ⟨w_6, hw_6, hf⟩ := ob hf
            have hFc := freeAll hD hS hA
            refine va_calll (va_runV (As := [.int v1]) (rest := []) ⟨hx, hb, hml, hown, hts⟩ (mX5_missOf l dC dI cI cL ad H.size w_5.2 v1 n w_6 hw_6) (cwV 1 hts gX5_miss_X5_missOf rfl rfl rfl (by decide +kernel) ⟨Nat.le_of_ble_eq_true rfl, Nat.le_of_ble_eq_true rfl⟩) ⟨wPre_blind, va_recv hK hP (ci := 5) (q0 := 0) rfl rfl, wPre_of hP hK hD hZ⟩ rfl rfl hl.1 rfl (lv_room (Nat.le_of_ble_eq_true rfl)) dX5_miss_33 ⟨Nat.zero_le _, Nat.zero_le _⟩) hS (fun q _ h => hFc q h) hFc (fun r2 u2 t H1 locs ht hvm hw hB hz1 hk1 hS => ?_)
            obtain ⟨hP1, hK1, hD1⟩ := hB
            rw [ht] at hP1
            have e1 : r2 = w_6.1 := congrArg Prod.fst hw
            have e2 : u2 = w_6.2 := congrArg Prod.snd hw
            subst r2 u2
            have hP : va_P (dC, dI) vwCl (mw ad cI cL w_6.2) H1 := hP1
            have hD : va_D A (mw ad cI cL w_6.2) := hD1.weaken (fun _ _ _ h => hFc _ h)
            clear hP1 hD1 hK1 hFc hk1
            generalize H1 = H at hP hS ⊢
            have hf := Option.some.inj hf
            exact W.lret (v := w_6.1) hx hb hr (fun t ht hW => ⟨⟨w_6.1, w_6.2, rfl, hf, ⟨by rw [ht]; exact hP, va_K.moved hW.alike hK, hD⟩⟩, hS.F ht⟩) hS.2.2 dX5_miss_36
          · exact absurd c_4 (by decide)
  exact (key n) z1 u _ _ ls hf0 hP hD hS (lv_sub hl [0, 1] rfl)

def fX5_sensor (n pc : Nat) (v1 : Int32) (v2 : Int32) (u : St) : Option (St) := match n with
  | 0 => none
  | n + 1 => match pc with
    | 0 => ((FX5_isPlace n v1 u).bind fun w_1 => (if w_1.1 = 0 then some (sI w_1.2 0 (1 : Int32)) else ((FX5_isPoint n v2 w_1.2).bind fun w_4 => (if w_4.1 = 0 then (if v2 = (-1 : Int32) then (if ck v1 7 = true then ((FX5_renew n  (sA (sI w_4.2 0 (0 : Int32)) 7 (upd (gA w_4.2 7) v1.toNatClampNeg v2))).bind fun w_13 => some w_13) else none) else some (sI w_4.2 0 (1 : Int32))) else (if ck v1 7 = true then ((FX5_renew n  (sA (sI w_4.2 0 (0 : Int32)) 7 (upd (gA w_4.2 7) v1.toNatClampNeg v2))).bind fun w_8 => some w_8) else none)))))
    | _ => none
theorem eX5_sensor_0 (n : Nat) (v1 : Int32) (v2 : Int32) (u : St) : fX5_sensor (n + 1) 0 v1 v2 u = ((FX5_isPlace n v1 u).bind fun w_1 => (if w_1.1 = 0 then some (sI w_1.2 0 (1 : Int32)) else ((FX5_isPoint n v2 w_1.2).bind fun w_4 => (if w_4.1 = 0 then (if v2 = (-1 : Int32) then (if ck v1 7 = true then ((FX5_renew n  (sA (sI w_4.2 0 (0 : Int32)) 7 (upd (gA w_4.2 7) v1.toNatClampNeg v2))).bind fun w_13 => some w_13) else none) else some (sI w_4.2 0 (1 : Int32))) else (if ck v1 7 = true then ((FX5_renew n  (sA (sI w_4.2 0 (0 : Int32)) 7 (upd (gA w_4.2 7) v1.toNatClampNeg v2))).bind fun w_8 => some w_8) else none))))) := rfl
theorem vX5_sensor_0 (v1 : Int32) (v2 : Int32) (u : St) (r : St) : Ev (fun n => fX5_sensor n 0 v1 v2 u) r ↔ Ev (fun n => ((FX5_isPlace n v1 u).bind fun w_1 => (if w_1.1 = 0 then some (sI w_1.2 0 (1 : Int32)) else ((FX5_isPoint n v2 w_1.2).bind fun w_4 => (if w_4.1 = 0 then (if v2 = (-1 : Int32) then (if ck v1 7 = true then ((FX5_renew n  (sA (sI w_4.2 0 (0 : Int32)) 7 (upd (gA w_4.2 7) v1.toNatClampNeg v2))).bind fun w_13 => some w_13) else none) else some (sI w_4.2 0 (1 : Int32))) else (if ck v1 7 = true then ((FX5_renew n  (sA (sI w_4.2 0 (0 : Int32)) 7 (upd (gA w_4.2 7) v1.toNatClampNeg v2))).bind fun w_8 => some w_8) else none)))))) r := Ev_succ (fun n => fX5_sensor n 0 v1 v2 u) r
def FX5_sensor (n : Nat) (v1 : Int32) (v2 : Int32) (u : St) : Option (St) := fX5_sensor n 0 v1 v2 u
set_option maxHeartbeats 4000000 in
set_option maxRecDepth 100000 in
theorem mX5_sensor (l : Launch) (dC : Nat → ClassId) (dI : Nat → Nat → Nat) (cI cL : ClassId) (ad : Nat → Nat) (sz : Nat) (u : St) (z1 : Int32) (z2 : Int32) (n : Nat) (r : St) (hf0 : FX5_sensor n z1 z2 u = some r) : Met l yX5_sensor wsX5_sensor ({ frames := 2, cells := 0, slots := 0, locals := 43 }) (va_Pc [.ref (ad 0), .int z1, .int z2] (wPre dC dI cI cL (mw ad cI cL u) sz)) (va_Qv (fun t => t = r) (fun t => wPost dC dI cI cL (va_A (mw ad cI cL u) sz) (mw ad cI cL t)) (va_A (mw ad cI cL u) sz)) 0 0 (va_A (mw ad cI cL u) sz) := by
  refine Met.ofW (cc := cX5_sensor) (maxL := 3) (ret := none) (by decide) rfl ?_
  intro p e s m args below meth c s₁ B hml hv
  obtain ⟨rfl, hsz, hP, hK, hD0, hZ⟩ := hv
  have hx := B.exec
  have hb := B.bytes
  have hr := B.returns
  have hts := atoms_spec (ws := wsX5_sensor) B.pre
  have hown : s.vm.findClass RX5 = some m.cls := findClass_of_methodNamed B.named
  have hlocks := B.notSynchronized
  subst hsz
  have hD := hD0.self (sz := s.heap.size)
  generalize hAe : va_A (mw ad cI cL u) s.heap.size = A at hD ⊢
  have hA : ∀ q : Nat, s.heap.size ≤ q → A q := fun q h => by rw [← hAe]; exact Or.inr h
  have hS : va_S A s.heap s.heap [] := va_S.rf
  have iX5 : ∀ w ∈ u_ws RX5 TX5 36, w ∈ wsX5_sensor := fun _ h => List.mem_cons_of_mem _ (List.mem_append_right _ h)
  have k_0 := hts (.fieldLink RX5 80 "LampChoiceModel" "code" "I") (by decide +kernel)
  have k_1 := hts (.fieldLink RX5 31 "LampChoiceModel" "sensors" "[I") (by decide +kernel)
  have hl := lv_entry ([.ref (ad 0), .int z1, .int z2]) (n := 3) (Nat.le_of_ble_eq_true rfl)
  rw [lg_entry_eq]
  generalize (lg_sl ([.ref (ad 0), .int z1, .int z2]) ++ List.replicate (3 - (lg_sl ([.ref (ad 0), .int z1, .int z2])).length) Slot.unset).toArray = ls at hl ⊢
  have hl : lv_has ls 3 [(0, .ref (ad 0)), (1, .int z1), (2, .int z2)] := hl
  have key : ∀ n : Nat, (∀ (v1 : Int32) (v2 : Int32) (u : St) (H : Heap) (locs : List Loc) (ls : Array Slot), fX5_sensor n 0 v1 v2 u = some r → va_P (dC, dI) vwCl (mw ad cI cL u) H → va_D A (mw ad cI cL u) → va_S A s.heap H locs → lv_has ls 3 [(0, .ref (ad 0)), (1, .int v1), (2, .int v2)] → W p l e (headSpec wsX5_sensor ({ frames := 2, cells := 0, slots := 0, locals := 43 })).room s m ([.ref (ad 0), .int z1, .int z2] : List Value).toArray below meth c H locs 0 0 (MQ below (va_Qv (fun t => t = r) (fun t => wPost dC dI cI cL A (mw ad cI cL t)) A) ([.ref (ad 0), .int z1, .int z2] : List Value).toArray s 0 0 A) (F0 m 0 ls [])) := by
    intro n
    induction n with
    | zero => exact (fun _ _ _ _ _ _ hf => nomatch (show (none : Option (St)) = some r from hf))
    | succ n ih =>
      have ih0 := ih
      · intro v1 v2 u H locs ls hf hP hD hS hl
        have hf := (eX5_sensor_0 n v1 v2 u).symm.trans hf
        refine lv_aload_n hx hb dX5_sensor_0 rfl (lv_at hl 0 rfl) ?_
        refine lv_aload_n hx hb dX5_sensor_1 rfl (lv_at hl 0 rfl) ?_
        refine lv_iload_n hx hb dX5_sensor_2 rfl (lv_at hl 1 rfl) ?_
        obtain ⟨w_1, hw_1, hf⟩ := ob hf
        have hFc := freeAll hD hS hA
        refine va_calli (va_runV (As := [.int v1]) (rest := [.ref (ad 0)]) ⟨hx, hb, hml, hown, hts⟩ (mX5_isPlace l dC dI cI cL ad H.size u v1 n w_1 hw_1) (cwV 1 hts gX5_sensor_X5_isPlace rfl rfl rfl (by decide +kernel) ⟨Nat.le_of_ble_eq_true rfl, Nat.le_of_ble_eq_true rfl⟩) ⟨wPre_blind, va_recv hK hP (ci := 5) (q0 := 0) rfl rfl, wPre_of hP hK hD hZ⟩ rfl rfl hl.1 rfl (lv_room (Nat.le_of_ble_eq_true rfl)) dX5_sensor_3 ⟨Nat.zero_le _, Nat.zero_le _⟩) hS (fun q _ h => hFc q h) hFc (fun r2 u2 t H1 locs ht hvm hw hB hz1 hk1 hS => ?_)
        obtain ⟨hP1, hK1, hD1⟩ := hB
        rw [ht] at hP1
        have e1 : r2 = w_1.1 := congrArg Prod.fst hw
        have e2 : u2 = w_1.2 := congrArg Prod.snd hw
        subst r2 u2
        have hP : va_P (dC, dI) vwCl (mw ad cI cL w_1.2) H1 := hP1
        have hD : va_D A (mw ad cI cL w_1.2) := hD1.weaken (fun _ _ _ h => hFc _ h)
        clear hP1 hD1 hK1 hFc hk1
        generalize H1 = H at hP hS ⊢
        refine lv_if_eq (tgt := 26) hx hb dX5_sensor_6 (by decide) (fun c_2 => ?_) (fun c_2 => ?_)
        · have hf := (if_pos c_2).symm.trans hf
          refine lv_iconst (v := 1) hx hb dX5_sensor_26 (by decide) ?_
          refine va_put (D := (dC, dI)) (ci := 5) (v := .int (1 : Int32)) (ty := .int) (C := RX5) (T := TX5) (N := 36) hx hb hts iX5 tyX5 tyX5_ok nmX5 hown hK hP hD hS 0 rfl rfl 0 (by decide) k_0 (fun _ h9 => h9) rfl (by decide +kernel) rfl rfl (Nat.le_of_ble_eq_true rfl) dX5_sensor_27 (fun H locs hP hD hS => ?_)
          have hP : va_P (dC, dI) vwCl (mw ad cI cL (sI w_1.2 0 (1 : Int32))) H := hP
          have hD : va_D A (mw ad cI cL (sI w_1.2 0 (1 : Int32))) := hD
          refine lv_aload_n hx hb dX5_sensor_30 rfl (lv_at hl 0 rfl) ?_
          refine va_get (D := (dC, dI)) (ci := 5) (v := .int ((1 : Int32))) (C := RX5) (T := TX5) (N := 36) hx hb hts iX5 hown hK hP 0 rfl rfl 0 (by decide) k_0 (fun _ h9 => h9) rfl dX5_sensor_31 ?_
          refine lv_if_ne (tgt := 48) hx hb dX5_sensor_34 (by decide) (fun c_3 => ?_) (fun c_3 => ?_)
          · have hf := Option.some.inj hf
            exact W.vret hx hb hr (fun t ht hW => ⟨⟨(sI w_1.2 0 (1 : Int32)), rfl, hf, ⟨by rw [ht]; exact hP, va_K.moved hW.alike hK, hD⟩⟩, hS.F ht⟩) hS.2.2 dX5_sensor_48
          · exact absurd c_3 (by decide)
        · have hf := (if_neg c_2).symm.trans hf
          refine lv_aload_n hx hb dX5_sensor_9 rfl (lv_at hl 0 rfl) ?_
          refine lv_iload_n hx hb dX5_sensor_10 rfl (lv_at hl 2 rfl) ?_
          obtain ⟨w_4, hw_4, hf⟩ := ob hf
          have hFc := freeAll hD hS hA
          refine va_calli (va_runV (As := [.int v2]) (rest := [.ref (ad 0)]) ⟨hx, hb, hml, hown, hts⟩ (mX5_isPoint l dC dI cI cL ad H.size w_1.2 v2 n w_4 hw_4) (cwV 1 hts gX5_sensor_X5_isPoint rfl rfl rfl (by decide +kernel) ⟨Nat.le_of_ble_eq_true rfl, Nat.le_of_ble_eq_true rfl⟩) ⟨wPre_blind, va_recv hK hP (ci := 5) (q0 := 0) rfl rfl, wPre_of hP hK hD hZ⟩ rfl rfl hl.1 rfl (lv_room (Nat.le_of_ble_eq_true rfl)) dX5_sensor_11 ⟨Nat.zero_le _, Nat.zero_le _⟩) hS (fun q _ h => hFc q h) hFc (fun r2 u2 t H1 locs ht hvm hw hB hz1 hk1 hS => ?_)
          obtain ⟨hP1, hK1, hD1⟩ := hB
          rw [ht] at hP1
          have e1 : r2 = w_4.1 := congrArg Prod.fst hw
          have e2 : u2 = w_4.2 := congrArg Prod.snd hw
          subst r2 u2
          have hP : va_P (dC, dI) vwCl (mw ad cI cL w_4.2) H1 := hP1
          have hD : va_D A (mw ad cI cL w_4.2) := hD1.weaken (fun _ _ _ h => hFc _ h)
          clear hP1 hD1 hK1 hFc hk1
          generalize H1 = H at hP hS ⊢
          refine lv_if_ne (tgt := 22) hx hb dX5_sensor_14 (by decide) (fun c_5 => ?_) (fun c_5 => ?_)
          · have hf := (if_neg c_5).symm.trans hf
            refine lv_iconst (v := 0) hx hb dX5_sensor_22 (by decide) ?_
            refine lv_goto (tgt := 27) hx hb dX5_sensor_23 (by decide) ?_
            refine va_put (D := (dC, dI)) (ci := 5) (v := .int (0 : Int32)) (ty := .int) (C := RX5) (T := TX5) (N := 36) hx hb hts iX5 tyX5 tyX5_ok nmX5 hown hK hP hD hS 0 rfl rfl 0 (by decide) k_0 (fun _ h9 => h9) rfl (by decide +kernel) rfl rfl (Nat.le_of_ble_eq_true rfl) dX5_sensor_27 (fun H locs hP hD hS => ?_)
            have hP : va_P (dC, dI) vwCl (mw ad cI cL (sI w_4.2 0 (0 : Int32))) H := hP
            have hD : va_D A (mw ad cI cL (sI w_4.2 0 (0 : Int32))) := hD
            refine lv_aload_n hx hb dX5_sensor_30 rfl (lv_at hl 0 rfl) ?_
            refine va_get (D := (dC, dI)) (ci := 5) (v := .int ((0 : Int32))) (C := RX5) (T := TX5) (N := 36) hx hb hts iX5 hown hK hP 0 rfl rfl 0 (by decide) k_0 (fun _ h9 => h9) rfl dX5_sensor_31 ?_
            refine lv_if_ne (tgt := 48) hx hb dX5_sensor_34 (by decide) (fun c_6 => ?_) (fun c_6 => ?_)
            · exact absurd c_6 (by decide)
            · refine lv_aload_n hx hb dX5_sensor_37 rfl (lv_at hl 0 rfl) ?_
              refine va_get (D := (dC, dI)) (ci := 5) (v := .ref (ad 8)) (C := RX5) (T := TX5) (N := 36) hx hb hts iX5 hown hK hP 0 rfl rfl 10 (by decide) k_1 (fun _ h9 => h9) rfl dX5_sensor_38 ?_
              refine lv_iload_n hx hb dX5_sensor_41 rfl (lv_at hl 1 rfl) ?_
              refine lv_iload_n hx hb dX5_sensor_42 rfl (lv_at hl 2 rfl) ?_
              obtain ⟨h_7, hf⟩ := ck_of hf
              refine va_iast (f := (gA w_4.2 7)) hx hb hK hP hD hS 8 0 rfl rfl h_7 dX5_sensor_43 (fun H locs hP hD hS => ?_)
              have hP : va_P (dC, dI) vwCl (mw ad cI cL (sA (sI w_4.2 0 (0 : Int32)) 7 (upd (gA w_4.2 7) v1.toNatClampNeg v2))) H := hP
              have hD : va_D A (mw ad cI cL (sA (sI w_4.2 0 (0 : Int32)) 7 (upd (gA w_4.2 7) v1.toNatClampNeg v2))) := hD
              refine lv_aload_n hx hb dX5_sensor_44 rfl (lv_at hl 0 rfl) ?_
              obtain ⟨w_8, hw_8, hf⟩ := ob hf
              have hFc := freeAll hD hS hA
              refine va_callv (va_runV (As := []) (rest := []) ⟨hx, hb, hml, hown, hts⟩ (mX5_renew l dC dI cI cL ad H.size (sA (sI w_4.2 0 (0 : Int32)) 7 (upd (gA w_4.2 7) v1.toNatClampNeg v2))  n w_8 hw_8) (cwV 0 hts gX5_sensor_X5_renew rfl rfl rfl (by decide +kernel) ⟨Nat.le_of_ble_eq_true rfl, Nat.le_of_ble_eq_true rfl⟩) ⟨wPre_blind, va_recv hK hP (ci := 5) (q0 := 0) rfl rfl, wPre_of hP hK hD hZ⟩ rfl rfl hl.1 rfl (lv_room (Nat.le_of_ble_eq_true rfl)) dX5_sensor_45 ⟨Nat.zero_le _, Nat.zero_le _⟩) hS (fun q _ h => hFc q h) hFc (fun u2 t H1 locs ht hvm hw hB hz1 hk1 hS => ?_)
              obtain ⟨hP1, hK1, hD1⟩ := hB
              rw [ht] at hP1
              subst u2
              have hP : va_P (dC, dI) vwCl (mw ad cI cL w_8) H1 := hP1
              have hD : va_D A (mw ad cI cL w_8) := hD1.weaken (fun _ _ _ h => hFc _ h)
              clear hP1 hD1 hK1 hFc hk1
              generalize H1 = H at hP hS ⊢
              have hf := Option.some.inj hf
              exact W.vret hx hb hr (fun t ht hW => ⟨⟨w_8, rfl, hf, ⟨by rw [ht]; exact hP, va_K.moved hW.alike hK, hD⟩⟩, hS.F ht⟩) hS.2.2 dX5_sensor_48
          · have hf := (if_pos c_5).symm.trans hf
            refine lv_iload_n hx hb dX5_sensor_17 rfl (lv_at hl 2 rfl) ?_
            refine lv_iconst (v := -1) hx hb dX5_sensor_18 (by decide) ?_
            refine lv_icmp_ne (tgt := 26) hx hb dX5_sensor_19 (by decide) (fun c_9 => ?_) (fun c_9 => ?_)
            · have hf := (if_neg c_9).symm.trans hf
              refine lv_iconst (v := 1) hx hb dX5_sensor_26 (by decide) ?_
              refine va_put (D := (dC, dI)) (ci := 5) (v := .int (1 : Int32)) (ty := .int) (C := RX5) (T := TX5) (N := 36) hx hb hts iX5 tyX5 tyX5_ok nmX5 hown hK hP hD hS 0 rfl rfl 0 (by decide) k_0 (fun _ h9 => h9) rfl (by decide +kernel) rfl rfl (Nat.le_of_ble_eq_true rfl) dX5_sensor_27 (fun H locs hP hD hS => ?_)
              have hP : va_P (dC, dI) vwCl (mw ad cI cL (sI w_4.2 0 (1 : Int32))) H := hP
              have hD : va_D A (mw ad cI cL (sI w_4.2 0 (1 : Int32))) := hD
              refine lv_aload_n hx hb dX5_sensor_30 rfl (lv_at hl 0 rfl) ?_
              refine va_get (D := (dC, dI)) (ci := 5) (v := .int ((1 : Int32))) (C := RX5) (T := TX5) (N := 36) hx hb hts iX5 hown hK hP 0 rfl rfl 0 (by decide) k_0 (fun _ h9 => h9) rfl dX5_sensor_31 ?_
              refine lv_if_ne (tgt := 48) hx hb dX5_sensor_34 (by decide) (fun c_10 => ?_) (fun c_10 => ?_)
              · have hf := Option.some.inj hf
                exact W.vret hx hb hr (fun t ht hW => ⟨⟨(sI w_4.2 0 (1 : Int32)), rfl, hf, ⟨by rw [ht]; exact hP, va_K.moved hW.alike hK, hD⟩⟩, hS.F ht⟩) hS.2.2 dX5_sensor_48
              · exact absurd c_10 (by decide)
            · have hf := (if_pos c_9).symm.trans hf
              refine lv_iconst (v := 0) hx hb dX5_sensor_22 (by decide) ?_
              refine lv_goto (tgt := 27) hx hb dX5_sensor_23 (by decide) ?_
              refine va_put (D := (dC, dI)) (ci := 5) (v := .int (0 : Int32)) (ty := .int) (C := RX5) (T := TX5) (N := 36) hx hb hts iX5 tyX5 tyX5_ok nmX5 hown hK hP hD hS 0 rfl rfl 0 (by decide) k_0 (fun _ h9 => h9) rfl (by decide +kernel) rfl rfl (Nat.le_of_ble_eq_true rfl) dX5_sensor_27 (fun H locs hP hD hS => ?_)
              have hP : va_P (dC, dI) vwCl (mw ad cI cL (sI w_4.2 0 (0 : Int32))) H := hP
              have hD : va_D A (mw ad cI cL (sI w_4.2 0 (0 : Int32))) := hD
              refine lv_aload_n hx hb dX5_sensor_30 rfl (lv_at hl 0 rfl) ?_
              refine va_get (D := (dC, dI)) (ci := 5) (v := .int ((0 : Int32))) (C := RX5) (T := TX5) (N := 36) hx hb hts iX5 hown hK hP 0 rfl rfl 0 (by decide) k_0 (fun _ h9 => h9) rfl dX5_sensor_31 ?_
              refine lv_if_ne (tgt := 48) hx hb dX5_sensor_34 (by decide) (fun c_11 => ?_) (fun c_11 => ?_)
              · exact absurd c_11 (by decide)
              · refine lv_aload_n hx hb dX5_sensor_37 rfl (lv_at hl 0 rfl) ?_
                refine va_get (D := (dC, dI)) (ci := 5) (v := .ref (ad 8)) (C := RX5) (T := TX5) (N := 36) hx hb hts iX5 hown hK hP 0 rfl rfl 10 (by decide) k_1 (fun _ h9 => h9) rfl dX5_sensor_38 ?_
                refine lv_iload_n hx hb dX5_sensor_41 rfl (lv_at hl 1 rfl) ?_
                refine lv_iload_n hx hb dX5_sensor_42 rfl (lv_at hl 2 rfl) ?_
                obtain ⟨h_12, hf⟩ := ck_of hf
                refine va_iast (f := (gA w_4.2 7)) hx hb hK hP hD hS 8 0 rfl rfl h_12 dX5_sensor_43 (fun H locs hP hD hS => ?_)
                have hP : va_P (dC, dI) vwCl (mw ad cI cL (sA (sI w_4.2 0 (0 : Int32)) 7 (upd (gA w_4.2 7) v1.toNatClampNeg v2))) H := hP
                have hD : va_D A (mw ad cI cL (sA (sI w_4.2 0 (0 : Int32)) 7 (upd (gA w_4.2 7) v1.toNatClampNeg v2))) := hD
                refine lv_aload_n hx hb dX5_sensor_44 rfl (lv_at hl 0 rfl) ?_
                obtain ⟨w_13, hw_13, hf⟩ := ob hf
                have hFc := freeAll hD hS hA
                refine va_callv (va_runV (As := []) (rest := []) ⟨hx, hb, hml, hown, hts⟩ (mX5_renew l dC dI cI cL ad H.size (sA (sI w_4.2 0 (0 : Int32)) 7 (upd (gA w_4.2 7) v1.toNatClampNeg v2))  n w_13 hw_13) (cwV 0 hts gX5_sensor_X5_renew rfl rfl rfl (by decide +kernel) ⟨Nat.le_of_ble_eq_true rfl, Nat.le_of_ble_eq_true rfl⟩) ⟨wPre_blind, va_recv hK hP (ci := 5) (q0 := 0) rfl rfl, wPre_of hP hK hD hZ⟩ rfl rfl hl.1 rfl (lv_room (Nat.le_of_ble_eq_true rfl)) dX5_sensor_45 ⟨Nat.zero_le _, Nat.zero_le _⟩) hS (fun q _ h => hFc q h) hFc (fun u2 t H1 locs ht hvm hw hB hz1 hk1 hS => ?_)
                obtain ⟨hP1, hK1, hD1⟩ := hB
                rw [ht] at hP1
                subst u2
                have hP : va_P (dC, dI) vwCl (mw ad cI cL w_13) H1 := hP1
                have hD : va_D A (mw ad cI cL w_13) := hD1.weaken (fun _ _ _ h => hFc _ h)
                clear hP1 hD1 hK1 hFc hk1
                generalize H1 = H at hP hS ⊢
                have hf := Option.some.inj hf
                exact W.vret hx hb hr (fun t ht hW => ⟨⟨w_13, rfl, hf, ⟨by rw [ht]; exact hP, va_K.moved hW.alike hK, hD⟩⟩, hS.F ht⟩) hS.2.2 dX5_sensor_48
  exact (key n) z1 z2 u _ _ ls hf0 hP hD hS (lv_sub hl [0, 1, 2] rfl)

def fX5_daylight (n pc : Nat) (v1 : Int32) (v2 : Int32) (u : St) : Option (Int32 × St) := match n with
  | 0 => none
  | n + 1 => match pc with
    | 0 => ((FX5_isPoint n v1 u).bind fun w_1 => (if w_1.1 = 0 then some ((0 : Int32), sI w_1.2 0 (1 : Int32)) else ((FX5_isIn n v2 (0 : Int32) (100000 : Int32)).bind fun w_4 => (if w_4 = 0 then some ((0 : Int32), sI w_1.2 0 (1 : Int32)) else (if ck v1 16 = true then some (((gA w_1.2 12) v1.toNatClampNeg), sA (sI w_1.2 0 (0 : Int32)) 12 (upd (gA w_1.2 12) v1.toNatClampNeg v2)) else none)))))
    | _ => none
theorem eX5_daylight_0 (n : Nat) (v1 : Int32) (v2 : Int32) (u : St) : fX5_daylight (n + 1) 0 v1 v2 u = ((FX5_isPoint n v1 u).bind fun w_1 => (if w_1.1 = 0 then some ((0 : Int32), sI w_1.2 0 (1 : Int32)) else ((FX5_isIn n v2 (0 : Int32) (100000 : Int32)).bind fun w_4 => (if w_4 = 0 then some ((0 : Int32), sI w_1.2 0 (1 : Int32)) else (if ck v1 16 = true then some (((gA w_1.2 12) v1.toNatClampNeg), sA (sI w_1.2 0 (0 : Int32)) 12 (upd (gA w_1.2 12) v1.toNatClampNeg v2)) else none))))) := rfl
theorem vX5_daylight_0 (v1 : Int32) (v2 : Int32) (u : St) (r : Int32 × St) : Ev (fun n => fX5_daylight n 0 v1 v2 u) r ↔ Ev (fun n => ((FX5_isPoint n v1 u).bind fun w_1 => (if w_1.1 = 0 then some ((0 : Int32), sI w_1.2 0 (1 : Int32)) else ((FX5_isIn n v2 (0 : Int32) (100000 : Int32)).bind fun w_4 => (if w_4 = 0 then some ((0 : Int32), sI w_1.2 0 (1 : Int32)) else (if ck v1 16 = true then some (((gA w_1.2 12) v1.toNatClampNeg), sA (sI w_1.2 0 (0 : Int32)) 12 (upd (gA w_1.2 12) v1.toNatClampNeg v2)) else none)))))) r := Ev_succ (fun n => fX5_daylight n 0 v1 v2 u) r
def FX5_daylight (n : Nat) (v1 : Int32) (v2 : Int32) (u : St) : Option (Int32 × St) := fX5_daylight n 0 v1 v2 u
set_option maxHeartbeats 4000000 in
set_option maxRecDepth 100000 in
theorem mX5_daylight (l : Launch) (dC : Nat → ClassId) (dI : Nat → Nat → Nat) (cI cL : ClassId) (ad : Nat → Nat) (sz : Nat) (u : St) (z1 : Int32) (z2 : Int32) (n : Nat) (r : Int32 × St) (hf0 : FX5_daylight n z1 z2 u = some r) : Met l yX5_daylight wsX5_daylight ({ frames := 2, cells := 0, slots := 0, locals := 43 }) (va_Pc [.ref (ad 0), .int z1, .int z2] (wPre dC dI cI cL (mw ad cI cL u) sz)) (va_Qi (fun a t => (a, t) = r) (fun t => wPost dC dI cI cL (va_A (mw ad cI cL u) sz) (mw ad cI cL t)) (va_A (mw ad cI cL u) sz)) 0 0 (va_A (mw ad cI cL u) sz) := by
  refine Met.ofW (cc := cX5_daylight) (maxL := 4) (ret := (some .int)) (by decide) rfl ?_
  intro p e s m args below meth c s₁ B hml hv
  obtain ⟨rfl, hsz, hP, hK, hD0, hZ⟩ := hv
  have hx := B.exec
  have hb := B.bytes
  have hr := B.returns
  have hts := atoms_spec (ws := wsX5_daylight) B.pre
  have hown : s.vm.findClass RX5 = some m.cls := findClass_of_methodNamed B.named
  have hlocks := B.notSynchronized
  subst hsz
  have hD := hD0.self (sz := s.heap.size)
  generalize hAe : va_A (mw ad cI cL u) s.heap.size = A at hD ⊢
  have hA : ∀ q : Nat, s.heap.size ≤ q → A q := fun q h => by rw [← hAe]; exact Or.inr h
  have hS : va_S A s.heap s.heap [] := va_S.rf
  have iX5 : ∀ w ∈ u_ws RX5 TX5 36, w ∈ wsX5_daylight := fun _ h => List.mem_cons_of_mem _ (List.mem_append_right _ h)
  have k_0 := hts (.fieldLink RX5 80 "LampChoiceModel" "code" "I") (by decide +kernel)
  have k_1 := hts (.constant RX5 100 (100000)) (by decide +kernel)
  have k_2 := hts (.fieldLink RX5 46 "LampChoiceModel" "daylights" "[I") (by decide +kernel)
  have hl := lv_entry ([.ref (ad 0), .int z1, .int z2]) (n := 4) (Nat.le_of_ble_eq_true rfl)
  rw [lg_entry_eq]
  generalize (lg_sl ([.ref (ad 0), .int z1, .int z2]) ++ List.replicate (4 - (lg_sl ([.ref (ad 0), .int z1, .int z2])).length) Slot.unset).toArray = ls at hl ⊢
  have hl : lv_has ls 4 [(0, .ref (ad 0)), (1, .int z1), (2, .int z2)] := hl
  have key : ∀ n : Nat, (∀ (v1 : Int32) (v2 : Int32) (u : St) (H : Heap) (locs : List Loc) (ls : Array Slot), fX5_daylight n 0 v1 v2 u = some r → va_P (dC, dI) vwCl (mw ad cI cL u) H → va_D A (mw ad cI cL u) → va_S A s.heap H locs → lv_has ls 4 [(0, .ref (ad 0)), (1, .int v1), (2, .int v2)] → W p l e (headSpec wsX5_daylight ({ frames := 2, cells := 0, slots := 0, locals := 43 })).room s m ([.ref (ad 0), .int z1, .int z2] : List Value).toArray below meth c H locs 0 0 (MQ below (va_Qi (fun a t => (a, t) = r) (fun t => wPost dC dI cI cL A (mw ad cI cL t)) A) ([.ref (ad 0), .int z1, .int z2] : List Value).toArray s 0 0 A) (F0 m 0 ls [])) := by
    intro n
    induction n with
    | zero => exact (fun _ _ _ _ _ _ hf => nomatch (show (none : Option (Int32 × St)) = some r from hf))
    | succ n ih =>
      have ih0 := ih
      · intro v1 v2 u H locs ls hf hP hD hS hl
        have hf := (eX5_daylight_0 n v1 v2 u).symm.trans hf
        refine lv_aload_n hx hb dX5_daylight_0 rfl (lv_at hl 0 rfl) ?_
        refine lv_aload_n hx hb dX5_daylight_1 rfl (lv_at hl 0 rfl) ?_
        refine lv_iload_n hx hb dX5_daylight_2 rfl (lv_at hl 1 rfl) ?_
        obtain ⟨w_1, hw_1, hf⟩ := ob hf
        have hFc := freeAll hD hS hA
        refine va_calli (va_runV (As := [.int v1]) (rest := [.ref (ad 0)]) ⟨hx, hb, hml, hown, hts⟩ (mX5_isPoint l dC dI cI cL ad H.size u v1 n w_1 hw_1) (cwV 1 hts gX5_daylight_X5_isPoint rfl rfl rfl (by decide +kernel) ⟨Nat.le_of_ble_eq_true rfl, Nat.le_of_ble_eq_true rfl⟩) ⟨wPre_blind, va_recv hK hP (ci := 5) (q0 := 0) rfl rfl, wPre_of hP hK hD hZ⟩ rfl rfl hl.1 rfl (lv_room (Nat.le_of_ble_eq_true rfl)) dX5_daylight_3 ⟨Nat.zero_le _, Nat.zero_le _⟩) hS (fun q _ h => hFc q h) hFc (fun r2 u2 t H1 locs ht hvm hw hB hz1 hk1 hS => ?_)
        obtain ⟨hP1, hK1, hD1⟩ := hB
        rw [ht] at hP1
        have e1 : r2 = w_1.1 := congrArg Prod.fst hw
        have e2 : u2 = w_1.2 := congrArg Prod.snd hw
        subst r2 u2
        have hP : va_P (dC, dI) vwCl (mw ad cI cL w_1.2) H1 := hP1
        have hD : va_D A (mw ad cI cL w_1.2) := hD1.weaken (fun _ _ _ h => hFc _ h)
        clear hP1 hD1 hK1 hFc hk1
        generalize H1 = H at hP hS ⊢
        refine lv_if_eq (tgt := 23) hx hb dX5_daylight_6 (by decide) (fun c_2 => ?_) (fun c_2 => ?_)
        · have hf := (if_pos c_2).symm.trans hf
          refine lv_iconst (v := 1) hx hb dX5_daylight_23 (by decide) ?_
          refine va_put (D := (dC, dI)) (ci := 5) (v := .int (1 : Int32)) (ty := .int) (C := RX5) (T := TX5) (N := 36) hx hb hts iX5 tyX5 tyX5_ok nmX5 hown hK hP hD hS 0 rfl rfl 0 (by decide) k_0 (fun _ h9 => h9) rfl (by decide +kernel) rfl rfl (Nat.le_of_ble_eq_true rfl) dX5_daylight_24 (fun H locs hP hD hS => ?_)
          have hP : va_P (dC, dI) vwCl (mw ad cI cL (sI w_1.2 0 (1 : Int32))) H := hP
          have hD : va_D A (mw ad cI cL (sI w_1.2 0 (1 : Int32))) := hD
          refine lv_aload_n hx hb dX5_daylight_27 rfl (lv_at hl 0 rfl) ?_
          refine va_get (D := (dC, dI)) (ci := 5) (v := .int ((1 : Int32))) (C := RX5) (T := TX5) (N := 36) hx hb hts iX5 hown hK hP 0 rfl rfl 0 (by decide) k_0 (fun _ h9 => h9) rfl dX5_daylight_28 ?_
          refine lv_if_le (tgt := 36) hx hb dX5_daylight_31 (by decide) (fun c_3 => ?_) (fun c_3 => ?_)
          · exact absurd c_3 (by decide)
          · refine lv_iconst (v := 0) hx hb dX5_daylight_34 (by decide) ?_
            have hf := Option.some.inj hf
            exact W.iret (v := (0 : Int32)) hx hb hr (fun t ht hW => ⟨⟨(0 : Int32), (sI w_1.2 0 (1 : Int32)), rfl, hf, ⟨by rw [ht]; exact hP, va_K.moved hW.alike hK, hD⟩⟩, hS.F ht⟩) hS.2.2 dX5_daylight_35
        · have hf := (if_neg c_2).symm.trans hf
          refine lv_iload_n hx hb dX5_daylight_9 rfl (lv_at hl 2 rfl) ?_
          refine lv_iconst (v := 0) hx hb dX5_daylight_10 (by decide) ?_
          refine lv_ldc (v := 100000) hx hb hown k_1 dX5_daylight_11 ?_
          obtain ⟨w_4, hw_4, hf⟩ := ob hf
          have hFc := freeNil hS hA
          refine va_calli (va_runS (As := [.int v2, .int (0 : Int32), .int (100000 : Int32)]) (rest := [.ref (ad 0)]) ⟨hx, hb, hml, hown, hts⟩ (mX5_isIn l H.size v2 (0 : Int32) (100000 : Int32) n w_4 hw_4) (va_cwS 3 hts gX5_daylight_X5_isIn rfl rfl rfl (by decide +kernel) ⟨Nat.le_of_ble_eq_true rfl, Nat.le_of_ble_eq_true rfl⟩) ⟨nPre_blind, nPre_of⟩ rfl rfl hl.1 rfl (lv_room (Nat.le_of_ble_eq_true rfl)) dX5_daylight_13 ⟨Nat.zero_le _, Nat.zero_le _⟩) hS (fun q _ h => hFc q h) hFc (fun r2 u2 t H1 locs ht hvm hw hB hz1 hk1 hS => ?_)
          subst r2
          have hP := keepP hP hk1
          clear hFc hk1 hB
          generalize H1 = H at hP hS ⊢
          refine lv_if_eq (tgt := 23) hx hb dX5_daylight_16 (by decide) (fun c_5 => ?_) (fun c_5 => ?_)
          · have hf := (if_pos c_5).symm.trans hf
            refine lv_iconst (v := 1) hx hb dX5_daylight_23 (by decide) ?_
            refine va_put (D := (dC, dI)) (ci := 5) (v := .int (1 : Int32)) (ty := .int) (C := RX5) (T := TX5) (N := 36) hx hb hts iX5 tyX5 tyX5_ok nmX5 hown hK hP hD hS 0 rfl rfl 0 (by decide) k_0 (fun _ h9 => h9) rfl (by decide +kernel) rfl rfl (Nat.le_of_ble_eq_true rfl) dX5_daylight_24 (fun H locs hP hD hS => ?_)
            have hP : va_P (dC, dI) vwCl (mw ad cI cL (sI w_1.2 0 (1 : Int32))) H := hP
            have hD : va_D A (mw ad cI cL (sI w_1.2 0 (1 : Int32))) := hD
            refine lv_aload_n hx hb dX5_daylight_27 rfl (lv_at hl 0 rfl) ?_
            refine va_get (D := (dC, dI)) (ci := 5) (v := .int ((1 : Int32))) (C := RX5) (T := TX5) (N := 36) hx hb hts iX5 hown hK hP 0 rfl rfl 0 (by decide) k_0 (fun _ h9 => h9) rfl dX5_daylight_28 ?_
            refine lv_if_le (tgt := 36) hx hb dX5_daylight_31 (by decide) (fun c_6 => ?_) (fun c_6 => ?_)
            · exact absurd c_6 (by decide)
            · refine lv_iconst (v := 0) hx hb dX5_daylight_34 (by decide) ?_
              have hf := Option.some.inj hf
              exact W.iret (v := (0 : Int32)) hx hb hr (fun t ht hW => ⟨⟨(0 : Int32), (sI w_1.2 0 (1 : Int32)), rfl, hf, ⟨by rw [ht]; exact hP, va_K.moved hW.alike hK, hD⟩⟩, hS.F ht⟩) hS.2.2 dX5_daylight_35
          · have hf := (if_neg c_5).symm.trans hf
            refine lv_iconst (v := 0) hx hb dX5_daylight_19 (by decide) ?_
            refine lv_goto (tgt := 24) hx hb dX5_daylight_20 (by decide) ?_
            refine va_put (D := (dC, dI)) (ci := 5) (v := .int (0 : Int32)) (ty := .int) (C := RX5) (T := TX5) (N := 36) hx hb hts iX5 tyX5 tyX5_ok nmX5 hown hK hP hD hS 0 rfl rfl 0 (by decide) k_0 (fun _ h9 => h9) rfl (by decide +kernel) rfl rfl (Nat.le_of_ble_eq_true rfl) dX5_daylight_24 (fun H locs hP hD hS => ?_)
            have hP : va_P (dC, dI) vwCl (mw ad cI cL (sI w_1.2 0 (0 : Int32))) H := hP
            have hD : va_D A (mw ad cI cL (sI w_1.2 0 (0 : Int32))) := hD
            refine lv_aload_n hx hb dX5_daylight_27 rfl (lv_at hl 0 rfl) ?_
            refine va_get (D := (dC, dI)) (ci := 5) (v := .int ((0 : Int32))) (C := RX5) (T := TX5) (N := 36) hx hb hts iX5 hown hK hP 0 rfl rfl 0 (by decide) k_0 (fun _ h9 => h9) rfl dX5_daylight_28 ?_
            refine lv_if_le (tgt := 36) hx hb dX5_daylight_31 (by decide) (fun c_7 => ?_) (fun c_7 => ?_)
            · refine lv_aload_n hx hb dX5_daylight_36 rfl (lv_at hl 0 rfl) ?_
              refine va_get (D := (dC, dI)) (ci := 5) (v := .ref (ad 13)) (C := RX5) (T := TX5) (N := 36) hx hb hts iX5 hown hK hP 0 rfl rfl 16 (by decide) k_2 (fun _ h9 => h9) rfl dX5_daylight_37 ?_
              refine lv_iload_n hx hb dX5_daylight_40 rfl (lv_at hl 1 rfl) ?_
              obtain ⟨h_8, hf⟩ := ck_of hf
              refine va_iald (f := (gA w_1.2 12)) hx hb hK hP 13 0 rfl rfl h_8 dX5_daylight_41 ?_
              refine lv_istore_n (lv' := [(3, .int ((gA w_1.2 12) v1.toNatClampNeg)), (0, .ref (ad 0)), (1, .int v1), (2, .int v2)]) hx hb dX5_daylight_42 rfl hl (by decide) rfl (fun ls hl => ?_)
              refine lv_aload_n hx hb dX5_daylight_43 rfl (lv_at hl 1 rfl) ?_
              refine va_get (D := (dC, dI)) (ci := 5) (v := .ref (ad 13)) (C := RX5) (T := TX5) (N := 36) hx hb hts iX5 hown hK hP 0 rfl rfl 16 (by decide) k_2 (fun _ h9 => h9) rfl dX5_daylight_44 ?_
              refine lv_iload_n hx hb dX5_daylight_47 rfl (lv_at hl 2 rfl) ?_
              refine lv_iload_n hx hb dX5_daylight_48 rfl (lv_at hl 3 rfl) ?_
              refine va_iast (f := (gA w_1.2 12)) hx hb hK hP hD hS 13 0 rfl rfl h_8 dX5_daylight_49 (fun H locs hP hD hS => ?_)
              have hP : va_P (dC, dI) vwCl (mw ad cI cL (sA (sI w_1.2 0 (0 : Int32)) 12 (upd (gA w_1.2 12) v1.toNatClampNeg v2))) H := hP
              have hD : va_D A (mw ad cI cL (sA (sI w_1.2 0 (0 : Int32)) 12 (upd (gA w_1.2 12) v1.toNatClampNeg v2))) := hD
              refine lv_iload_n hx hb dX5_daylight_50 rfl (lv_at hl 0 rfl) ?_
              have hf := Option.some.inj hf
              exact W.iret (v := ((gA w_1.2 12) v1.toNatClampNeg)) hx hb hr (fun t ht hW => ⟨⟨((gA w_1.2 12) v1.toNatClampNeg), (sA (sI w_1.2 0 (0 : Int32)) 12 (upd (gA w_1.2 12) v1.toNatClampNeg v2)), rfl, hf, ⟨by rw [ht]; exact hP, va_K.moved hW.alike hK, hD⟩⟩, hS.F ht⟩) hS.2.2 dX5_daylight_51
            · exact absurd c_7 (by decide)
  exact (key n) z1 z2 u _ _ ls hf0 hP hD hS (lv_sub hl [0, 1, 2] rfl)

def fX5_step (n pc : Nat) (v1 : Int32) (u : St) : Option (Int32 × St) := match n with
  | 0 => none
  | n + 1 => match pc with
    | 0 => ((FX5_isIn n v1 (1 : Int32) (100 : Int32)).bind fun w_1 => (if w_1 = 0 then some ((0 : Int32), sI u 0 (1 : Int32)) else some ((gI u 5), sI (sI u 0 (0 : Int32)) 5 v1)))
    | _ => none
theorem eX5_step_0 (n : Nat) (v1 : Int32) (u : St) : fX5_step (n + 1) 0 v1 u = ((FX5_isIn n v1 (1 : Int32) (100 : Int32)).bind fun w_1 => (if w_1 = 0 then some ((0 : Int32), sI u 0 (1 : Int32)) else some ((gI u 5), sI (sI u 0 (0 : Int32)) 5 v1))) := rfl
theorem vX5_step_0 (v1 : Int32) (u : St) (r : Int32 × St) : Ev (fun n => fX5_step n 0 v1 u) r ↔ Ev (fun n => ((FX5_isIn n v1 (1 : Int32) (100 : Int32)).bind fun w_1 => (if w_1 = 0 then some ((0 : Int32), sI u 0 (1 : Int32)) else some ((gI u 5), sI (sI u 0 (0 : Int32)) 5 v1)))) r := Ev_succ (fun n => fX5_step n 0 v1 u) r
def FX5_step (n : Nat) (v1 : Int32) (u : St) : Option (Int32 × St) := fX5_step n 0 v1 u
set_option maxHeartbeats 4000000 in
set_option maxRecDepth 100000 in
theorem mX5_step (l : Launch) (dC : Nat → ClassId) (dI : Nat → Nat → Nat) (cI cL : ClassId) (ad : Nat → Nat) (sz : Nat) (u : St) (z1 : Int32) (n : Nat) (r : Int32 × St) (hf0 : FX5_step n z1 u = some r) : Met l yX5_step wsX5_step ({ frames := 1, cells := 0, slots := 0, locals := 22 }) (va_Pc [.ref (ad 0), .int z1] (wPre dC dI cI cL (mw ad cI cL u) sz)) (va_Qi (fun a t => (a, t) = r) (fun t => wPost dC dI cI cL (va_A (mw ad cI cL u) sz) (mw ad cI cL t)) (va_A (mw ad cI cL u) sz)) 0 0 (va_A (mw ad cI cL u) sz) := by
  refine Met.ofW (cc := cX5_step) (maxL := 3) (ret := (some .int)) (by decide) rfl ?_
  intro p e s m args below meth c s₁ B hml hv
  obtain ⟨rfl, hsz, hP, hK, hD0, hZ⟩ := hv
  have hx := B.exec
  have hb := B.bytes
  have hr := B.returns
  have hts := atoms_spec (ws := wsX5_step) B.pre
  have hown : s.vm.findClass RX5 = some m.cls := findClass_of_methodNamed B.named
  have hlocks := B.notSynchronized
  subst hsz
  have hD := hD0.self (sz := s.heap.size)
  generalize hAe : va_A (mw ad cI cL u) s.heap.size = A at hD ⊢
  have hA : ∀ q : Nat, s.heap.size ≤ q → A q := fun q h => by rw [← hAe]; exact Or.inr h
  have hS : va_S A s.heap s.heap [] := va_S.rf
  have iX5 : ∀ w ∈ u_ws RX5 TX5 36, w ∈ wsX5_step := fun _ h => List.mem_cons_of_mem _ (List.mem_append_right _ h)
  have k_0 := hts (.fieldLink RX5 80 "LampChoiceModel" "code" "I") (by decide +kernel)
  have k_1 := hts (.fieldLink RX5 53 "LampChoiceModel" "most" "I") (by decide +kernel)
  have hl := lv_entry ([.ref (ad 0), .int z1]) (n := 3) (Nat.le_of_ble_eq_true rfl)
  rw [lg_entry_eq]
  generalize (lg_sl ([.ref (ad 0), .int z1]) ++ List.replicate (3 - (lg_sl ([.ref (ad 0), .int z1])).length) Slot.unset).toArray = ls at hl ⊢
  have hl : lv_has ls 3 [(0, .ref (ad 0)), (1, .int z1)] := hl
  have key : ∀ n : Nat, (∀ (v1 : Int32) (u : St) (H : Heap) (locs : List Loc) (ls : Array Slot), fX5_step n 0 v1 u = some r → va_P (dC, dI) vwCl (mw ad cI cL u) H → va_D A (mw ad cI cL u) → va_S A s.heap H locs → lv_has ls 3 [(0, .ref (ad 0)), (1, .int v1)] → W p l e (headSpec wsX5_step ({ frames := 1, cells := 0, slots := 0, locals := 22 })).room s m ([.ref (ad 0), .int z1] : List Value).toArray below meth c H locs 0 0 (MQ below (va_Qi (fun a t => (a, t) = r) (fun t => wPost dC dI cI cL A (mw ad cI cL t)) A) ([.ref (ad 0), .int z1] : List Value).toArray s 0 0 A) (F0 m 0 ls [])) := by
    intro n
    induction n with
    | zero => exact (fun _ _ _ _ _ hf => nomatch (show (none : Option (Int32 × St)) = some r from hf))
    | succ n ih =>
      have ih0 := ih
      · intro v1 u H locs ls hf hP hD hS hl
        have hf := (eX5_step_0 n v1 u).symm.trans hf
        refine lv_aload_n hx hb dX5_step_0 rfl (lv_at hl 0 rfl) ?_
        refine lv_iload_n hx hb dX5_step_1 rfl (lv_at hl 1 rfl) ?_
        refine lv_iconst (v := 1) hx hb dX5_step_2 (by decide) ?_
        refine lv_bipush (v := 100) hx hb dX5_step_3 (by decide) ?_
        obtain ⟨w_1, hw_1, hf⟩ := ob hf
        have hFc := freeNil hS hA
        refine va_calli (va_runS (As := [.int v1, .int (1 : Int32), .int (100 : Int32)]) (rest := [.ref (ad 0)]) ⟨hx, hb, hml, hown, hts⟩ (mX5_isIn l H.size v1 (1 : Int32) (100 : Int32) n w_1 hw_1) (va_cwS 3 hts gX5_step_X5_isIn rfl rfl rfl (by decide +kernel) ⟨Nat.le_of_ble_eq_true rfl, Nat.le_of_ble_eq_true rfl⟩) ⟨nPre_blind, nPre_of⟩ rfl rfl hl.1 rfl (lv_room (Nat.le_of_ble_eq_true rfl)) dX5_step_5 ⟨Nat.zero_le _, Nat.zero_le _⟩) hS (fun q _ h => hFc q h) hFc (fun r2 u2 t H1 locs ht hvm hw hB hz1 hk1 hS => ?_)
        subst r2
        have hP := keepP hP hk1
        clear hFc hk1 hB
        generalize H1 = H at hP hS ⊢
        refine lv_if_eq (tgt := 15) hx hb dX5_step_8 (by decide) (fun c_2 => ?_) (fun c_2 => ?_)
        · have hf := (if_pos c_2).symm.trans hf
          refine lv_iconst (v := 1) hx hb dX5_step_15 (by decide) ?_
          refine va_put (D := (dC, dI)) (ci := 5) (v := .int (1 : Int32)) (ty := .int) (C := RX5) (T := TX5) (N := 36) hx hb hts iX5 tyX5 tyX5_ok nmX5 hown hK hP hD hS 0 rfl rfl 0 (by decide) k_0 (fun _ h9 => h9) rfl (by decide +kernel) rfl rfl (Nat.le_of_ble_eq_true rfl) dX5_step_16 (fun H locs hP hD hS => ?_)
          have hP : va_P (dC, dI) vwCl (mw ad cI cL (sI u 0 (1 : Int32))) H := hP
          have hD : va_D A (mw ad cI cL (sI u 0 (1 : Int32))) := hD
          refine lv_aload_n hx hb dX5_step_19 rfl (lv_at hl 0 rfl) ?_
          refine va_get (D := (dC, dI)) (ci := 5) (v := .int ((1 : Int32))) (C := RX5) (T := TX5) (N := 36) hx hb hts iX5 hown hK hP 0 rfl rfl 0 (by decide) k_0 (fun _ h9 => h9) rfl dX5_step_20 ?_
          refine lv_if_le (tgt := 28) hx hb dX5_step_23 (by decide) (fun c_3 => ?_) (fun c_3 => ?_)
          · exact absurd c_3 (by decide)
          · refine lv_iconst (v := 0) hx hb dX5_step_26 (by decide) ?_
            have hf := Option.some.inj hf
            exact W.iret (v := (0 : Int32)) hx hb hr (fun t ht hW => ⟨⟨(0 : Int32), (sI u 0 (1 : Int32)), rfl, hf, ⟨by rw [ht]; exact hP, va_K.moved hW.alike hK, hD⟩⟩, hS.F ht⟩) hS.2.2 dX5_step_27
        · have hf := (if_neg c_2).symm.trans hf
          refine lv_iconst (v := 0) hx hb dX5_step_11 (by decide) ?_
          refine lv_goto (tgt := 16) hx hb dX5_step_12 (by decide) ?_
          refine va_put (D := (dC, dI)) (ci := 5) (v := .int (0 : Int32)) (ty := .int) (C := RX5) (T := TX5) (N := 36) hx hb hts iX5 tyX5 tyX5_ok nmX5 hown hK hP hD hS 0 rfl rfl 0 (by decide) k_0 (fun _ h9 => h9) rfl (by decide +kernel) rfl rfl (Nat.le_of_ble_eq_true rfl) dX5_step_16 (fun H locs hP hD hS => ?_)
          have hP : va_P (dC, dI) vwCl (mw ad cI cL (sI u 0 (0 : Int32))) H := hP
          have hD : va_D A (mw ad cI cL (sI u 0 (0 : Int32))) := hD
          refine lv_aload_n hx hb dX5_step_19 rfl (lv_at hl 0 rfl) ?_
          refine va_get (D := (dC, dI)) (ci := 5) (v := .int ((0 : Int32))) (C := RX5) (T := TX5) (N := 36) hx hb hts iX5 hown hK hP 0 rfl rfl 0 (by decide) k_0 (fun _ h9 => h9) rfl dX5_step_20 ?_
          refine lv_if_le (tgt := 28) hx hb dX5_step_23 (by decide) (fun c_4 => ?_) (fun c_4 => ?_)
          · refine lv_aload_n hx hb dX5_step_28 rfl (lv_at hl 0 rfl) ?_
            refine va_get (D := (dC, dI)) (ci := 5) (v := .int (gI u 5)) (C := RX5) (T := TX5) (N := 36) hx hb hts iX5 hown hK hP 0 rfl rfl 18 (by decide) k_1 (fun _ h9 => h9) rfl dX5_step_29 ?_
            refine lv_istore_n (lv' := [(2, .int (gI u 5)), (0, .ref (ad 0)), (1, .int v1)]) hx hb dX5_step_32 rfl hl (by decide) rfl (fun ls hl => ?_)
            refine lv_aload_n hx hb dX5_step_33 rfl (lv_at hl 1 rfl) ?_
            refine lv_iload_n hx hb dX5_step_34 rfl (lv_at hl 2 rfl) ?_
            refine va_put (D := (dC, dI)) (ci := 5) (v := .int v1) (ty := .int) (C := RX5) (T := TX5) (N := 36) hx hb hts iX5 tyX5 tyX5_ok nmX5 hown hK hP hD hS 0 rfl rfl 18 (by decide) k_1 (fun _ h9 => h9) rfl (by decide +kernel) rfl rfl (Nat.le_of_ble_eq_true rfl) dX5_step_35 (fun H locs hP hD hS => ?_)
            have hP : va_P (dC, dI) vwCl (mw ad cI cL (sI (sI u 0 (0 : Int32)) 5 v1)) H := hP
            have hD : va_D A (mw ad cI cL (sI (sI u 0 (0 : Int32)) 5 v1)) := hD
            refine lv_iload_n hx hb dX5_step_38 rfl (lv_at hl 0 rfl) ?_
            have hf := Option.some.inj hf
            exact W.iret (v := (gI u 5)) hx hb hr (fun t ht hW => ⟨⟨(gI u 5), (sI (sI u 0 (0 : Int32)) 5 v1), rfl, hf, ⟨by rw [ht]; exact hP, va_K.moved hW.alike hK, hD⟩⟩, hS.F ht⟩) hS.2.2 dX5_step_39
          · exact absurd c_4 (by decide)
  exact (key n) z1 u _ _ ls hf0 hP hD hS (lv_sub hl [0, 1] rfl)

def fX5_needOf (n pc : Nat) (v1 : Int32) (v2 : Int32) (w3 : Int64) (v5 : Int32) (u : St) : Option (Int32 × St) := match n with
  | 0 => none
  | n + 1 => match pc with
    | 0 => (if ck v1 7 = true then (if 0 ≤ ((gA u 7) v1.toNatClampNeg) then ((FX5_lightOf n ((gA u 13) v1.toNatClampNeg) v1 ((gA u 7) v1.toNatClampNeg) u).bind fun w_3 => fX5_needOf n 31 0 ((gA u 7) v1.toNatClampNeg) w_3.1.toInt64 (0 : Int32) w_3.2) else some ((100 : Int32), u)) else none)
    | 31 => (if (100 : Int32) ≤ v5 then some (v5, u) else (if ck v2 16 = true then (if (100 : Int64) = 0 then none else (if ((gA u 10) v2.toNatClampNeg).toInt64 ≤ (((gA u 12) v2.toNatClampNeg).toInt64 + ((w3 * v5.toInt64) / (100 : Int64))) then some (v5, u) else fX5_needOf n 31 0 v2 w3 (v5 + 1) u)) else none))
    | _ => none
theorem eX5_needOf_0 (n : Nat) (v1 : Int32) (v2 : Int32) (w3 : Int64) (v5 : Int32) (u : St) : fX5_needOf (n + 1) 0 v1 v2 w3 v5 u = (if ck v1 7 = true then (if 0 ≤ ((gA u 7) v1.toNatClampNeg) then ((FX5_lightOf n ((gA u 13) v1.toNatClampNeg) v1 ((gA u 7) v1.toNatClampNeg) u).bind fun w_3 => fX5_needOf n 31 0 ((gA u 7) v1.toNatClampNeg) w_3.1.toInt64 (0 : Int32) w_3.2) else some ((100 : Int32), u)) else none) := rfl
theorem eX5_needOf_31 (n : Nat) (v1 : Int32) (v2 : Int32) (w3 : Int64) (v5 : Int32) (u : St) : fX5_needOf (n + 1) 31 v1 v2 w3 v5 u = (if (100 : Int32) ≤ v5 then some (v5, u) else (if ck v2 16 = true then (if (100 : Int64) = 0 then none else (if ((gA u 10) v2.toNatClampNeg).toInt64 ≤ (((gA u 12) v2.toNatClampNeg).toInt64 + ((w3 * v5.toInt64) / (100 : Int64))) then some (v5, u) else fX5_needOf n 31 0 v2 w3 (v5 + 1) u)) else none)) := rfl
theorem vX5_needOf_0 (v1 : Int32) (v2 : Int32) (w3 : Int64) (v5 : Int32) (u : St) (r : Int32 × St) : Ev (fun n => fX5_needOf n 0 v1 v2 w3 v5 u) r ↔ Ev (fun n => (if ck v1 7 = true then (if 0 ≤ ((gA u 7) v1.toNatClampNeg) then ((FX5_lightOf n ((gA u 13) v1.toNatClampNeg) v1 ((gA u 7) v1.toNatClampNeg) u).bind fun w_3 => fX5_needOf n 31 0 ((gA u 7) v1.toNatClampNeg) w_3.1.toInt64 (0 : Int32) w_3.2) else some ((100 : Int32), u)) else none)) r := Ev_succ (fun n => fX5_needOf n 0 v1 v2 w3 v5 u) r
theorem vX5_needOf_31 (v1 : Int32) (v2 : Int32) (w3 : Int64) (v5 : Int32) (u : St) (r : Int32 × St) : Ev (fun n => fX5_needOf n 31 v1 v2 w3 v5 u) r ↔ Ev (fun n => (if (100 : Int32) ≤ v5 then some (v5, u) else (if ck v2 16 = true then (if (100 : Int64) = 0 then none else (if ((gA u 10) v2.toNatClampNeg).toInt64 ≤ (((gA u 12) v2.toNatClampNeg).toInt64 + ((w3 * v5.toInt64) / (100 : Int64))) then some (v5, u) else fX5_needOf n 31 0 v2 w3 (v5 + 1) u)) else none))) r := Ev_succ (fun n => fX5_needOf n 31 v1 v2 w3 v5 u) r
def FX5_needOf (n : Nat) (v1 : Int32) (u : St) : Option (Int32 × St) := fX5_needOf n 0 v1 0 0 0 u
set_option maxHeartbeats 4000000 in
set_option maxRecDepth 100000 in
theorem mX5_needOf (l : Launch) (dC : Nat → ClassId) (dI : Nat → Nat → Nat) (cI cL : ClassId) (ad : Nat → Nat) (sz : Nat) (u : St) (z1 : Int32) (n : Nat) (r : Int32 × St) (hf0 : FX5_needOf n z1 u = some r) : Met l yX5_needOf wsX5_needOf ({ frames := 1, cells := 0, slots := 0, locals := 25 }) (va_Pc [.ref (ad 0), .int z1] (wPre dC dI cI cL (mw ad cI cL u) sz)) (va_Qi (fun a t => (a, t) = r) (fun t => wPost dC dI cI cL (va_A (mw ad cI cL u) sz) (mw ad cI cL t)) (va_A (mw ad cI cL u) sz)) 0 0 (va_A (mw ad cI cL u) sz) := by
  refine Met.ofW (cc := cX5_needOf) (maxL := 6) (ret := (some .int)) (by decide) rfl ?_
  intro p e s m args below meth c s₁ B hml hv
  obtain ⟨rfl, hsz, hP, hK, hD0, hZ⟩ := hv
  have hx := B.exec
  have hb := B.bytes
  have hr := B.returns
  have hts := atoms_spec (ws := wsX5_needOf) B.pre
  have hown : s.vm.findClass RX5 = some m.cls := findClass_of_methodNamed B.named
  have hlocks := B.notSynchronized
  subst hsz
  have hD := hD0.self (sz := s.heap.size)
  generalize hAe : va_A (mw ad cI cL u) s.heap.size = A at hD ⊢
  have hA : ∀ q : Nat, s.heap.size ≤ q → A q := fun q h => by rw [← hAe]; exact Or.inr h
  have hS : va_S A s.heap s.heap [] := va_S.rf
  have iX5 : ∀ w ∈ u_ws RX5 TX5 36, w ∈ wsX5_needOf := fun _ h => List.mem_cons_of_mem _ (List.mem_append_right _ h)
  have k_0 := hts (.fieldLink RX5 31 "LampChoiceModel" "sensors" "[I") (by decide +kernel)
  have k_1 := hts (.fieldLink RX5 56 "LampChoiceModel" "best" "[I") (by decide +kernel)
  have k_2 := hts (.fieldLink RX5 46 "LampChoiceModel" "daylights" "[I") (by decide +kernel)
  have k_3 := hts (.constantLong RX5 156 (100)) (by decide +kernel)
  have k_4 := hts (.fieldLink RX5 40 "LampChoiceModel" "wanted" "[I") (by decide +kernel)
  have hl := lv_entry ([.ref (ad 0), .int z1]) (n := 6) (Nat.le_of_ble_eq_true rfl)
  rw [lg_entry_eq]
  generalize (lg_sl ([.ref (ad 0), .int z1]) ++ List.replicate (6 - (lg_sl ([.ref (ad 0), .int z1])).length) Slot.unset).toArray = ls at hl ⊢
  have hl : lv_has ls 6 [(0, .ref (ad 0)), (1, .int z1)] := hl
  have key : ∀ n : Nat, (∀ (v1 : Int32) (v2 : Int32) (w3 : Int64) (v5 : Int32) (u : St) (H : Heap) (locs : List Loc) (ls : Array Slot), fX5_needOf n 0 v1 v2 w3 v5 u = some r → va_P (dC, dI) vwCl (mw ad cI cL u) H → va_D A (mw ad cI cL u) → va_S A s.heap H locs → lv_has ls 6 [(0, .ref (ad 0)), (1, .int v1)] → W p l e (headSpec wsX5_needOf ({ frames := 1, cells := 0, slots := 0, locals := 25 })).room s m ([.ref (ad 0), .int z1] : List Value).toArray below meth c H locs 0 0 (MQ below (va_Qi (fun a t => (a, t) = r) (fun t => wPost dC dI cI cL A (mw ad cI cL t)) A) ([.ref (ad 0), .int z1] : List Value).toArray s 0 0 A) (F0 m 0 ls [])) ∧ (∀ (v1 : Int32) (v2 : Int32) (w3 : Int64) (v5 : Int32) (u : St) (H : Heap) (locs : List Loc) (ls : Array Slot), fX5_needOf n 31 v1 v2 w3 v5 u = some r → va_P (dC, dI) vwCl (mw ad cI cL u) H → va_D A (mw ad cI cL u) → va_S A s.heap H locs → lv_has ls 6 [(0, .ref (ad 0)), (2, .int v2), (3, .long w3), (5, .int v5)] → W p l e (headSpec wsX5_needOf ({ frames := 1, cells := 0, slots := 0, locals := 25 })).room s m ([.ref (ad 0), .int z1] : List Value).toArray below meth c H locs 0 0 (MQ below (va_Qi (fun a t => (a, t) = r) (fun t => wPost dC dI cI cL A (mw ad cI cL t)) A) ([.ref (ad 0), .int z1] : List Value).toArray s 0 0 A) (F0 m 31 ls [])) := by
    intro n
    induction n with
    | zero => exact ⟨(fun _ _ _ _ _ _ _ _ hf => nomatch (show (none : Option (Int32 × St)) = some r from hf)), (fun _ _ _ _ _ _ _ _ hf => nomatch (show (none : Option (Int32 × St)) = some r from hf))⟩
    | succ n ih =>
      obtain ⟨ih0, ih1⟩ := ih
      refine ⟨?_, ?_⟩
      · intro v1 v2 w3 v5 u H locs ls hf hP hD hS hl
        have hf := (eX5_needOf_0 n v1 v2 w3 v5 u).symm.trans hf
        refine lv_aload_n hx hb dX5_needOf_0 rfl (lv_at hl 0 rfl) ?_
        refine va_get (D := (dC, dI)) (ci := 5) (v := .ref (ad 8)) (C := RX5) (T := TX5) (N := 36) hx hb hts iX5 hown hK hP 0 rfl rfl 10 (by decide) k_0 (fun _ h9 => h9) rfl dX5_needOf_1 ?_
        refine lv_iload_n hx hb dX5_needOf_4 rfl (lv_at hl 1 rfl) ?_
        obtain ⟨h_1, hf⟩ := ck_of hf
        refine va_iald (f := (gA u 7)) hx hb hK hP 8 0 rfl rfl h_1 dX5_needOf_5 ?_
        refine lv_istore_n (lv' := [(2, .int ((gA u 7) v1.toNatClampNeg)), (0, .ref (ad 0)), (1, .int v1)]) hx hb dX5_needOf_6 rfl hl (by decide) rfl (fun ls hl => ?_)
        refine lv_iload_n hx hb dX5_needOf_7 rfl (lv_at hl 0 rfl) ?_
        refine lv_if_ge (tgt := 14) hx hb dX5_needOf_8 (by decide) (fun c_2 => ?_) (fun c_2 => ?_)
        · have hf := (if_pos c_2).symm.trans hf
          refine lv_aload_n hx hb dX5_needOf_14 rfl (lv_at hl 1 rfl) ?_
          refine lv_aload_n hx hb dX5_needOf_15 rfl (lv_at hl 1 rfl) ?_
          refine va_get (D := (dC, dI)) (ci := 5) (v := .ref (ad 14)) (C := RX5) (T := TX5) (N := 36) hx hb hts iX5 hown hK hP 0 rfl rfl 21 (by decide) k_1 (fun _ h9 => h9) rfl dX5_needOf_16 ?_
          refine lv_iload_n hx hb dX5_needOf_19 rfl (lv_at hl 2 rfl) ?_
          refine va_iald (f := (gA u 13)) hx hb hK hP 14 0 rfl rfl h_1 dX5_needOf_20 ?_
          refine lv_iload_n hx hb dX5_needOf_21 rfl (lv_at hl 2 rfl) ?_
          refine lv_iload_n hx hb dX5_needOf_22 rfl (lv_at hl 0 rfl) ?_
          obtain ⟨w_3, hw_3, hf⟩ := ob hf
          have hFc := freeAll hD hS hA
          refine va_calli (va_runV (As := [.int ((gA u 13) v1.toNatClampNeg), .int v1, .int ((gA u 7) v1.toNatClampNeg)]) (rest := []) ⟨hx, hb, hml, hown, hts⟩ (mX5_lightOf l dC dI cI cL ad H.size u ((gA u 13) v1.toNatClampNeg) v1 ((gA u 7) v1.toNatClampNeg) n w_3 hw_3) (cwV 3 hts gX5_needOf_X5_lightOf rfl rfl rfl (by decide +kernel) ⟨Nat.le_of_ble_eq_true rfl, Nat.le_of_ble_eq_true rfl⟩) ⟨wPre_blind, va_recv hK hP (ci := 5) (q0 := 0) rfl rfl, wPre_of hP hK hD hZ⟩ rfl rfl hl.1 rfl (lv_room (Nat.le_of_ble_eq_true rfl)) dX5_needOf_23 ⟨Nat.zero_le _, Nat.zero_le _⟩) hS (fun q _ h => hFc q h) hFc (fun r2 u2 t H1 locs ht hvm hw hB hz1 hk1 hS => ?_)
          obtain ⟨hP1, hK1, hD1⟩ := hB
          rw [ht] at hP1
          have e1 : r2 = w_3.1 := congrArg Prod.fst hw
          have e2 : u2 = w_3.2 := congrArg Prod.snd hw
          subst r2 u2
          have hP : va_P (dC, dI) vwCl (mw ad cI cL w_3.2) H1 := hP1
          have hD : va_D A (mw ad cI cL w_3.2) := hD1.weaken (fun _ _ _ h => hFc _ h)
          clear hP1 hD1 hK1 hFc hk1
          generalize H1 = H at hP hS ⊢
          refine lv_i2l (v := w_3.1.toInt64) hx hb dX5_needOf_26 rfl ?_
          refine lv_lstore_n (lv' := [(3, .long w_3.1.toInt64), (2, .int ((gA u 7) v1.toNatClampNeg)), (0, .ref (ad 0)), (1, .int v1)]) hx hb dX5_needOf_27 rfl hl (by decide) rfl (fun ls hl => ?_)
          refine lv_iconst (v := 0) hx hb dX5_needOf_28 (by decide) ?_
          refine lv_istore (lv' := [(5, .int (0 : Int32)), (3, .long w_3.1.toInt64), (2, .int ((gA u 7) v1.toNatClampNeg)), (0, .ref (ad 0)), (1, .int v1)]) hx hb dX5_needOf_29 hl (by decide) rfl (fun ls hl => ?_)
          exact ih1 0 ((gA u 7) v1.toNatClampNeg) w_3.1.toInt64 (0 : Int32) w_3.2 H locs ls hf hP hD hS (lv_sub hl [3, 2, 1, 0] rfl)
        · have hf := (if_neg c_2).symm.trans hf
          refine lv_bipush (v := 100) hx hb dX5_needOf_11 (by decide) ?_
          have hf := Option.some.inj hf
          exact W.iret (v := (100 : Int32)) hx hb hr (fun t ht hW => ⟨⟨(100 : Int32), u, rfl, hf, ⟨by rw [ht]; exact hP, va_K.moved hW.alike hK, hD⟩⟩, hS.F ht⟩) hS.2.2 dX5_needOf_13
      · intro v1 v2 w3 v5 u H locs ls hf hP hD hS hl
        have hf := (eX5_needOf_31 n v1 v2 w3 v5 u).symm.trans hf
        refine lv_iload hx hb dX5_needOf_31 (lv_at hl 3 rfl) ?_
        refine lv_bipush (v := 100) hx hb dX5_needOf_33 (by decide) ?_
        refine lv_icmp_ge (tgt := 72) hx hb dX5_needOf_35 (by decide) (fun c_4 => ?_) (fun c_4 => ?_)
        · have hf := (if_pos c_4).symm.trans hf
          refine lv_iload hx hb dX5_needOf_72 (lv_at hl 3 rfl) ?_
          have hf := Option.some.inj hf
          exact W.iret (v := v5) hx hb hr (fun t ht hW => ⟨⟨v5, u, rfl, hf, ⟨by rw [ht]; exact hP, va_K.moved hW.alike hK, hD⟩⟩, hS.F ht⟩) hS.2.2 dX5_needOf_74
        · have hf := (if_neg c_4).symm.trans hf
          refine lv_aload_n hx hb dX5_needOf_38 rfl (lv_at hl 0 rfl) ?_
          refine va_get (D := (dC, dI)) (ci := 5) (v := .ref (ad 13)) (C := RX5) (T := TX5) (N := 36) hx hb hts iX5 hown hK hP 0 rfl rfl 16 (by decide) k_2 (fun _ h9 => h9) rfl dX5_needOf_39 ?_
          refine lv_iload_n hx hb dX5_needOf_42 rfl (lv_at hl 1 rfl) ?_
          obtain ⟨h_5, hf⟩ := ck_of hf
          refine va_iald (f := (gA u 12)) hx hb hK hP 13 0 rfl rfl h_5 dX5_needOf_43 ?_
          refine lv_i2l (v := ((gA u 12) v2.toNatClampNeg).toInt64) hx hb dX5_needOf_44 rfl ?_
          refine lv_lload_n hx hb dX5_needOf_45 rfl (lv_at hl 2 rfl) ?_
          refine lv_iload hx hb dX5_needOf_46 (lv_at hl 3 rfl) ?_
          refine lv_i2l (v := v5.toInt64) hx hb dX5_needOf_48 rfl ?_
          refine lv_lmul hx hb dX5_needOf_49 ?_
          refine lv_ldc2 (v := 100) hx hb hown k_3 dX5_needOf_50 ?_
          obtain ⟨h_6, hf⟩ := nz_of hf
          refine lv_ldiv hx hb dX5_needOf_53 h_6 ?_
          refine lv_ladd hx hb dX5_needOf_54 ?_
          refine lv_aload_n hx hb dX5_needOf_55 rfl (lv_at hl 0 rfl) ?_
          refine va_get (D := (dC, dI)) (ci := 5) (v := .ref (ad 11)) (C := RX5) (T := TX5) (N := 36) hx hb hts iX5 hown hK hP 0 rfl rfl 14 (by decide) k_4 (fun _ h9 => h9) rfl dX5_needOf_56 ?_
          refine lv_iload_n hx hb dX5_needOf_59 rfl (lv_at hl 1 rfl) ?_
          refine va_iald (f := (gA u 10)) hx hb hK hP 11 0 rfl rfl h_5 dX5_needOf_60 ?_
          refine lv_i2l (v := ((gA u 10) v2.toNatClampNeg).toInt64) hx hb dX5_needOf_61 rfl ?_
          refine W.lcmp hx hb dX5_needOf_62 ?_
          refine lv_if_ge (tgt := 72) hx hb dX5_needOf_63 (by decide) (fun c_7 => ?_) (fun c_7 => ?_)
          · have c_7 := (lg_cmp_ge (((gA u 12) v2.toNatClampNeg).toInt64 + ((w3 * v5.toInt64) / (100 : Int64))) (((gA u 10) v2.toNatClampNeg).toInt64)).mp c_7
            have hf := (if_pos c_7).symm.trans hf
            refine lv_iload hx hb dX5_needOf_72 (lv_at hl 3 rfl) ?_
            have hf := Option.some.inj hf
            exact W.iret (v := v5) hx hb hr (fun t ht hW => ⟨⟨v5, u, rfl, hf, ⟨by rw [ht]; exact hP, va_K.moved hW.alike hK, hD⟩⟩, hS.F ht⟩) hS.2.2 dX5_needOf_74
          · have c_7 := fun q => c_7 ((lg_cmp_ge (((gA u 12) v2.toNatClampNeg).toInt64 + ((w3 * v5.toInt64) / (100 : Int64))) (((gA u 10) v2.toNatClampNeg).toInt64)).mpr q)
            have hf := (if_neg c_7).symm.trans hf
            refine lv_iinc (v := (v5 + 1)) (lv' := [(5, .int (v5 + 1)), (0, .ref (ad 0)), (2, .int v2), (3, .long w3)]) hx hb dX5_needOf_66 hl (k := 3) rfl rfl (by decide) rfl (fun ls hl => ?_)
            refine lv_goto (tgt := 31) hx hb dX5_needOf_69 (by decide) ?_
            exact ih1 0 v2 w3 (v5 + 1) u H locs ls hf hP hD hS (lv_sub hl [1, 2, 3, 0] rfl)
  exact (key n).1 z1 0 0 0 u _ _ ls hf0 hP hD hS (lv_sub hl [0, 1] rfl)

def fX5_minute (n pc : Nat) (v1 : Int32) (v2 : Int32) (v3 : Int32) (u : St) : Option (St) := match n with
  | 0 => none
  | n + 1 => match pc with
    | 0 => (if ck v1 7 = true then (if (v2 - ((gA u 19) v1.toNatClampNeg)) ≤ (gI u 5) then (if (-(gI u 5)) ≤ (v2 - ((gA u 19) v1.toNatClampNeg)) then (if ((upd (gA u 19) v1.toNatClampNeg (((gA u 19) v1.toNatClampNeg) + (v2 - ((gA u 19) v1.toNatClampNeg)))) v1.toNatClampNeg) ≤ 0 then fX5_minute n 132 v1 0 ((gA u 13) v1.toNatClampNeg) (sA u 19 (upd (gA u 19) v1.toNatClampNeg (((gA u 19) v1.toNatClampNeg) + (v2 - ((gA u 19) v1.toNatClampNeg))))) else (if ck ((gA u 13) v1.toNatClampNeg) 3 = true then (if ((gA u 20) v1.toNatClampNeg) = ((60 : Int32) * ((gA u 2) ((gA u 13) v1.toNatClampNeg).toNatClampNeg)) then fX5_minute n 122 v1 0 ((gA u 13) v1.toNatClampNeg) (sJ (sJ (sA (sA u 19 (upd (gA u 19) v1.toNatClampNeg (((gA u 19) v1.toNatClampNeg) + (v2 - ((gA u 19) v1.toNatClampNeg))))) 20 (upd (gA u 20) v1.toNatClampNeg (0 : Int32))) 3 ((gJ u 3) + ((gA u 3) ((gA u 13) v1.toNatClampNeg).toNatClampNeg).toInt64)) 4 ((gJ u 4) + (1 : Int64))) else fX5_minute n 122 v1 0 ((gA u 13) v1.toNatClampNeg) (sA u 19 (upd (gA u 19) v1.toNatClampNeg (((gA u 19) v1.toNatClampNeg) + (v2 - ((gA u 19) v1.toNatClampNeg)))))) else none)) else (if ((upd (gA u 19) v1.toNatClampNeg (((gA u 19) v1.toNatClampNeg) + (-(gI u 5)))) v1.toNatClampNeg) ≤ 0 then fX5_minute n 132 v1 0 ((gA u 13) v1.toNatClampNeg) (sA u 19 (upd (gA u 19) v1.toNatClampNeg (((gA u 19) v1.toNatClampNeg) + (-(gI u 5))))) else (if ck ((gA u 13) v1.toNatClampNeg) 3 = true then (if ((gA u 20) v1.toNatClampNeg) = ((60 : Int32) * ((gA u 2) ((gA u 13) v1.toNatClampNeg).toNatClampNeg)) then fX5_minute n 122 v1 0 ((gA u 13) v1.toNatClampNeg) (sJ (sJ (sA (sA u 19 (upd (gA u 19) v1.toNatClampNeg (((gA u 19) v1.toNatClampNeg) + (-(gI u 5))))) 20 (upd (gA u 20) v1.toNatClampNeg (0 : Int32))) 3 ((gJ u 3) + ((gA u 3) ((gA u 13) v1.toNatClampNeg).toNatClampNeg).toInt64)) 4 ((gJ u 4) + (1 : Int64))) else fX5_minute n 122 v1 0 ((gA u 13) v1.toNatClampNeg) (sA u 19 (upd (gA u 19) v1.toNatClampNeg (((gA u 19) v1.toNatClampNeg) + (-(gI u 5)))))) else none))) else (if ((upd (gA u 19) v1.toNatClampNeg (((gA u 19) v1.toNatClampNeg) + (gI u 5))) v1.toNatClampNeg) ≤ 0 then fX5_minute n 132 v1 0 ((gA u 13) v1.toNatClampNeg) (sA u 19 (upd (gA u 19) v1.toNatClampNeg (((gA u 19) v1.toNatClampNeg) + (gI u 5)))) else (if ck ((gA u 13) v1.toNatClampNeg) 3 = true then (if ((gA u 20) v1.toNatClampNeg) = ((60 : Int32) * ((gA u 2) ((gA u 13) v1.toNatClampNeg).toNatClampNeg)) then fX5_minute n 122 v1 0 ((gA u 13) v1.toNatClampNeg) (sJ (sJ (sA (sA u 19 (upd (gA u 19) v1.toNatClampNeg (((gA u 19) v1.toNatClampNeg) + (gI u 5)))) 20 (upd (gA u 20) v1.toNatClampNeg (0 : Int32))) 3 ((gJ u 3) + ((gA u 3) ((gA u 13) v1.toNatClampNeg).toNatClampNeg).toInt64)) 4 ((gJ u 4) + (1 : Int64))) else fX5_minute n 122 v1 0 ((gA u 13) v1.toNatClampNeg) (sA u 19 (upd (gA u 19) v1.toNatClampNeg (((gA u 19) v1.toNatClampNeg) + (gI u 5))))) else none))) else none)
    | 122 => (if ck v1 7 = true then fX5_minute n 132 v1 0 v3 (sA u 20 (upd (gA u 20) v1.toNatClampNeg (((gA u 20) v1.toNatClampNeg) + (1 : Int32)))) else none)
    | 132 => (if ck v1 7 = true then (if ck v3 3 = true then some (sJ u 2 ((gJ u 2) + (((gA u 19) v1.toNatClampNeg).toInt64 * ((gA u 1) v3.toNatClampNeg).toInt64))) else none) else none)
    | _ => none
theorem eX5_minute_0 (n : Nat) (v1 : Int32) (v2 : Int32) (v3 : Int32) (u : St) : fX5_minute (n + 1) 0 v1 v2 v3 u = (if ck v1 7 = true then (if (v2 - ((gA u 19) v1.toNatClampNeg)) ≤ (gI u 5) then (if (-(gI u 5)) ≤ (v2 - ((gA u 19) v1.toNatClampNeg)) then (if ((upd (gA u 19) v1.toNatClampNeg (((gA u 19) v1.toNatClampNeg) + (v2 - ((gA u 19) v1.toNatClampNeg)))) v1.toNatClampNeg) ≤ 0 then fX5_minute n 132 v1 0 ((gA u 13) v1.toNatClampNeg) (sA u 19 (upd (gA u 19) v1.toNatClampNeg (((gA u 19) v1.toNatClampNeg) + (v2 - ((gA u 19) v1.toNatClampNeg))))) else (if ck ((gA u 13) v1.toNatClampNeg) 3 = true then (if ((gA u 20) v1.toNatClampNeg) = ((60 : Int32) * ((gA u 2) ((gA u 13) v1.toNatClampNeg).toNatClampNeg)) then fX5_minute n 122 v1 0 ((gA u 13) v1.toNatClampNeg) (sJ (sJ (sA (sA u 19 (upd (gA u 19) v1.toNatClampNeg (((gA u 19) v1.toNatClampNeg) + (v2 - ((gA u 19) v1.toNatClampNeg))))) 20 (upd (gA u 20) v1.toNatClampNeg (0 : Int32))) 3 ((gJ u 3) + ((gA u 3) ((gA u 13) v1.toNatClampNeg).toNatClampNeg).toInt64)) 4 ((gJ u 4) + (1 : Int64))) else fX5_minute n 122 v1 0 ((gA u 13) v1.toNatClampNeg) (sA u 19 (upd (gA u 19) v1.toNatClampNeg (((gA u 19) v1.toNatClampNeg) + (v2 - ((gA u 19) v1.toNatClampNeg)))))) else none)) else (if ((upd (gA u 19) v1.toNatClampNeg (((gA u 19) v1.toNatClampNeg) + (-(gI u 5)))) v1.toNatClampNeg) ≤ 0 then fX5_minute n 132 v1 0 ((gA u 13) v1.toNatClampNeg) (sA u 19 (upd (gA u 19) v1.toNatClampNeg (((gA u 19) v1.toNatClampNeg) + (-(gI u 5))))) else (if ck ((gA u 13) v1.toNatClampNeg) 3 = true then (if ((gA u 20) v1.toNatClampNeg) = ((60 : Int32) * ((gA u 2) ((gA u 13) v1.toNatClampNeg).toNatClampNeg)) then fX5_minute n 122 v1 0 ((gA u 13) v1.toNatClampNeg) (sJ (sJ (sA (sA u 19 (upd (gA u 19) v1.toNatClampNeg (((gA u 19) v1.toNatClampNeg) + (-(gI u 5))))) 20 (upd (gA u 20) v1.toNatClampNeg (0 : Int32))) 3 ((gJ u 3) + ((gA u 3) ((gA u 13) v1.toNatClampNeg).toNatClampNeg).toInt64)) 4 ((gJ u 4) + (1 : Int64))) else fX5_minute n 122 v1 0 ((gA u 13) v1.toNatClampNeg) (sA u 19 (upd (gA u 19) v1.toNatClampNeg (((gA u 19) v1.toNatClampNeg) + (-(gI u 5)))))) else none))) else (if ((upd (gA u 19) v1.toNatClampNeg (((gA u 19) v1.toNatClampNeg) + (gI u 5))) v1.toNatClampNeg) ≤ 0 then fX5_minute n 132 v1 0 ((gA u 13) v1.toNatClampNeg) (sA u 19 (upd (gA u 19) v1.toNatClampNeg (((gA u 19) v1.toNatClampNeg) + (gI u 5)))) else (if ck ((gA u 13) v1.toNatClampNeg) 3 = true then (if ((gA u 20) v1.toNatClampNeg) = ((60 : Int32) * ((gA u 2) ((gA u 13) v1.toNatClampNeg).toNatClampNeg)) then fX5_minute n 122 v1 0 ((gA u 13) v1.toNatClampNeg) (sJ (sJ (sA (sA u 19 (upd (gA u 19) v1.toNatClampNeg (((gA u 19) v1.toNatClampNeg) + (gI u 5)))) 20 (upd (gA u 20) v1.toNatClampNeg (0 : Int32))) 3 ((gJ u 3) + ((gA u 3) ((gA u 13) v1.toNatClampNeg).toNatClampNeg).toInt64)) 4 ((gJ u 4) + (1 : Int64))) else fX5_minute n 122 v1 0 ((gA u 13) v1.toNatClampNeg) (sA u 19 (upd (gA u 19) v1.toNatClampNeg (((gA u 19) v1.toNatClampNeg) + (gI u 5))))) else none))) else none) := rfl
theorem eX5_minute_122 (n : Nat) (v1 : Int32) (v2 : Int32) (v3 : Int32) (u : St) : fX5_minute (n + 1) 122 v1 v2 v3 u = (if ck v1 7 = true then fX5_minute n 132 v1 0 v3 (sA u 20 (upd (gA u 20) v1.toNatClampNeg (((gA u 20) v1.toNatClampNeg) + (1 : Int32)))) else none) := rfl
theorem eX5_minute_132 (n : Nat) (v1 : Int32) (v2 : Int32) (v3 : Int32) (u : St) : fX5_minute (n + 1) 132 v1 v2 v3 u = (if ck v1 7 = true then (if ck v3 3 = true then some (sJ u 2 ((gJ u 2) + (((gA u 19) v1.toNatClampNeg).toInt64 * ((gA u 1) v3.toNatClampNeg).toInt64))) else none) else none) := rfl
theorem vX5_minute_0 (v1 : Int32) (v2 : Int32) (v3 : Int32) (u : St) (r : St) : Ev (fun n => fX5_minute n 0 v1 v2 v3 u) r ↔ Ev (fun n => (if ck v1 7 = true then (if (v2 - ((gA u 19) v1.toNatClampNeg)) ≤ (gI u 5) then (if (-(gI u 5)) ≤ (v2 - ((gA u 19) v1.toNatClampNeg)) then (if ((upd (gA u 19) v1.toNatClampNeg (((gA u 19) v1.toNatClampNeg) + (v2 - ((gA u 19) v1.toNatClampNeg)))) v1.toNatClampNeg) ≤ 0 then fX5_minute n 132 v1 0 ((gA u 13) v1.toNatClampNeg) (sA u 19 (upd (gA u 19) v1.toNatClampNeg (((gA u 19) v1.toNatClampNeg) + (v2 - ((gA u 19) v1.toNatClampNeg))))) else (if ck ((gA u 13) v1.toNatClampNeg) 3 = true then (if ((gA u 20) v1.toNatClampNeg) = ((60 : Int32) * ((gA u 2) ((gA u 13) v1.toNatClampNeg).toNatClampNeg)) then fX5_minute n 122 v1 0 ((gA u 13) v1.toNatClampNeg) (sJ (sJ (sA (sA u 19 (upd (gA u 19) v1.toNatClampNeg (((gA u 19) v1.toNatClampNeg) + (v2 - ((gA u 19) v1.toNatClampNeg))))) 20 (upd (gA u 20) v1.toNatClampNeg (0 : Int32))) 3 ((gJ u 3) + ((gA u 3) ((gA u 13) v1.toNatClampNeg).toNatClampNeg).toInt64)) 4 ((gJ u 4) + (1 : Int64))) else fX5_minute n 122 v1 0 ((gA u 13) v1.toNatClampNeg) (sA u 19 (upd (gA u 19) v1.toNatClampNeg (((gA u 19) v1.toNatClampNeg) + (v2 - ((gA u 19) v1.toNatClampNeg)))))) else none)) else (if ((upd (gA u 19) v1.toNatClampNeg (((gA u 19) v1.toNatClampNeg) + (-(gI u 5)))) v1.toNatClampNeg) ≤ 0 then fX5_minute n 132 v1 0 ((gA u 13) v1.toNatClampNeg) (sA u 19 (upd (gA u 19) v1.toNatClampNeg (((gA u 19) v1.toNatClampNeg) + (-(gI u 5))))) else (if ck ((gA u 13) v1.toNatClampNeg) 3 = true then (if ((gA u 20) v1.toNatClampNeg) = ((60 : Int32) * ((gA u 2) ((gA u 13) v1.toNatClampNeg).toNatClampNeg)) then fX5_minute n 122 v1 0 ((gA u 13) v1.toNatClampNeg) (sJ (sJ (sA (sA u 19 (upd (gA u 19) v1.toNatClampNeg (((gA u 19) v1.toNatClampNeg) + (-(gI u 5))))) 20 (upd (gA u 20) v1.toNatClampNeg (0 : Int32))) 3 ((gJ u 3) + ((gA u 3) ((gA u 13) v1.toNatClampNeg).toNatClampNeg).toInt64)) 4 ((gJ u 4) + (1 : Int64))) else fX5_minute n 122 v1 0 ((gA u 13) v1.toNatClampNeg) (sA u 19 (upd (gA u 19) v1.toNatClampNeg (((gA u 19) v1.toNatClampNeg) + (-(gI u 5)))))) else none))) else (if ((upd (gA u 19) v1.toNatClampNeg (((gA u 19) v1.toNatClampNeg) + (gI u 5))) v1.toNatClampNeg) ≤ 0 then fX5_minute n 132 v1 0 ((gA u 13) v1.toNatClampNeg) (sA u 19 (upd (gA u 19) v1.toNatClampNeg (((gA u 19) v1.toNatClampNeg) + (gI u 5)))) else (if ck ((gA u 13) v1.toNatClampNeg) 3 = true then (if ((gA u 20) v1.toNatClampNeg) = ((60 : Int32) * ((gA u 2) ((gA u 13) v1.toNatClampNeg).toNatClampNeg)) then fX5_minute n 122 v1 0 ((gA u 13) v1.toNatClampNeg) (sJ (sJ (sA (sA u 19 (upd (gA u 19) v1.toNatClampNeg (((gA u 19) v1.toNatClampNeg) + (gI u 5)))) 20 (upd (gA u 20) v1.toNatClampNeg (0 : Int32))) 3 ((gJ u 3) + ((gA u 3) ((gA u 13) v1.toNatClampNeg).toNatClampNeg).toInt64)) 4 ((gJ u 4) + (1 : Int64))) else fX5_minute n 122 v1 0 ((gA u 13) v1.toNatClampNeg) (sA u 19 (upd (gA u 19) v1.toNatClampNeg (((gA u 19) v1.toNatClampNeg) + (gI u 5))))) else none))) else none)) r := Ev_succ (fun n => fX5_minute n 0 v1 v2 v3 u) r
theorem vX5_minute_122 (v1 : Int32) (v2 : Int32) (v3 : Int32) (u : St) (r : St) : Ev (fun n => fX5_minute n 122 v1 v2 v3 u) r ↔ Ev (fun n => (if ck v1 7 = true then fX5_minute n 132 v1 0 v3 (sA u 20 (upd (gA u 20) v1.toNatClampNeg (((gA u 20) v1.toNatClampNeg) + (1 : Int32)))) else none)) r := Ev_succ (fun n => fX5_minute n 122 v1 v2 v3 u) r
theorem vX5_minute_132 (v1 : Int32) (v2 : Int32) (v3 : Int32) (u : St) (r : St) : Ev (fun n => fX5_minute n 132 v1 v2 v3 u) r ↔ Ev (fun n => (if ck v1 7 = true then (if ck v3 3 = true then some (sJ u 2 ((gJ u 2) + (((gA u 19) v1.toNatClampNeg).toInt64 * ((gA u 1) v3.toNatClampNeg).toInt64))) else none) else none)) r := Ev_succ (fun n => fX5_minute n 132 v1 v2 v3 u) r
def FX5_minute (n : Nat) (v1 : Int32) (v2 : Int32) (u : St) : Option (St) := fX5_minute n 0 v1 v2 0 u
set_option maxHeartbeats 4000000 in
set_option maxRecDepth 100000 in
theorem mX5_minute (l : Launch) (dC : Nat → ClassId) (dI : Nat → Nat → Nat) (cI cL : ClassId) (ad : Nat → Nat) (sz : Nat) (u : St) (z1 : Int32) (z2 : Int32) (n : Nat) (r : St) (hf0 : FX5_minute n z1 z2 u = some r) : Met l yX5_minute wsX5_minute ({ frames := 0, cells := 0, slots := 0, locals := 0 }) (va_Pc [.ref (ad 0), .int z1, .int z2] (wPre dC dI cI cL (mw ad cI cL u) sz)) (va_Qv (fun t => t = r) (fun t => wPost dC dI cI cL (va_A (mw ad cI cL u) sz) (mw ad cI cL t)) (va_A (mw ad cI cL u) sz)) 0 0 (va_A (mw ad cI cL u) sz) := by
  refine Met.ofW (cc := cX5_minute) (maxL := 5) (ret := none) (by decide) rfl ?_
  intro p e s m args below meth c s₁ B hml hv
  obtain ⟨rfl, hsz, hP, hK, hD0, hZ⟩ := hv
  have hx := B.exec
  have hb := B.bytes
  have hr := B.returns
  have hts := atoms_spec (ws := wsX5_minute) B.pre
  have hown : s.vm.findClass RX5 = some m.cls := findClass_of_methodNamed B.named
  have hlocks := B.notSynchronized
  subst hsz
  have hD := hD0.self (sz := s.heap.size)
  generalize hAe : va_A (mw ad cI cL u) s.heap.size = A at hD ⊢
  have hA : ∀ q : Nat, s.heap.size ≤ q → A q := fun q h => by rw [← hAe]; exact Or.inr h
  have hS : va_S A s.heap s.heap [] := va_S.rf
  have iX5 : ∀ w ∈ u_ws RX5 TX5 36, w ∈ wsX5_minute := fun _ h => List.mem_cons_of_mem _ (List.mem_append_right _ h)
  have k_0 := hts (.fieldLink RX5 56 "LampChoiceModel" "best" "[I") (by decide +kernel)
  have k_1 := hts (.fieldLink RX5 74 "LampChoiceModel" "levels" "[I") (by decide +kernel)
  have k_2 := hts (.fieldLink RX5 53 "LampChoiceModel" "most" "I") (by decide +kernel)
  have k_3 := hts (.fieldLink RX5 77 "LampChoiceModel" "lasted" "[I") (by decide +kernel)
  have k_4 := hts (.fieldLink RX5 16 "LampChoiceModel" "lives" "[I") (by decide +kernel)
  have k_5 := hts (.fieldLink RX5 173 "LampChoiceModel" "paid" "J") (by decide +kernel)
  have k_6 := hts (.fieldLink RX5 19 "LampChoiceModel" "cents" "[I") (by decide +kernel)
  have k_7 := hts (.fieldLink RX5 176 "LampChoiceModel" "renewed" "J") (by decide +kernel)
  have k_8 := hts (.fieldLink RX5 179 "LampChoiceModel" "energy" "J") (by decide +kernel)
  have k_9 := hts (.fieldLink RX5 13 "LampChoiceModel" "watts" "[I") (by decide +kernel)
  have hl := lv_entry ([.ref (ad 0), .int z1, .int z2]) (n := 5) (Nat.le_of_ble_eq_true rfl)
  rw [lg_entry_eq]
  generalize (lg_sl ([.ref (ad 0), .int z1, .int z2]) ++ List.replicate (5 - (lg_sl ([.ref (ad 0), .int z1, .int z2])).length) Slot.unset).toArray = ls at hl ⊢
  have hl : lv_has ls 5 [(0, .ref (ad 0)), (1, .int z1), (2, .int z2)] := hl
  have key : ∀ n : Nat, (∀ (v1 : Int32) (v2 : Int32) (v3 : Int32) (u : St) (H : Heap) (locs : List Loc) (ls : Array Slot), fX5_minute n 0 v1 v2 v3 u = some r → va_P (dC, dI) vwCl (mw ad cI cL u) H → va_D A (mw ad cI cL u) → va_S A s.heap H locs → lv_has ls 5 [(0, .ref (ad 0)), (1, .int v1), (2, .int v2)] → W p l e (headSpec wsX5_minute ({ frames := 0, cells := 0, slots := 0, locals := 0 })).room s m ([.ref (ad 0), .int z1, .int z2] : List Value).toArray below meth c H locs 0 0 (MQ below (va_Qv (fun t => t = r) (fun t => wPost dC dI cI cL A (mw ad cI cL t)) A) ([.ref (ad 0), .int z1, .int z2] : List Value).toArray s 0 0 A) (F0 m 0 ls [])) ∧ (∀ (v1 : Int32) (v2 : Int32) (v3 : Int32) (u : St) (H : Heap) (locs : List Loc) (ls : Array Slot), fX5_minute n 122 v1 v2 v3 u = some r → va_P (dC, dI) vwCl (mw ad cI cL u) H → va_D A (mw ad cI cL u) → va_S A s.heap H locs → lv_has ls 5 [(0, .ref (ad 0)), (1, .int v1), (3, .int v3)] → W p l e (headSpec wsX5_minute ({ frames := 0, cells := 0, slots := 0, locals := 0 })).room s m ([.ref (ad 0), .int z1, .int z2] : List Value).toArray below meth c H locs 0 0 (MQ below (va_Qv (fun t => t = r) (fun t => wPost dC dI cI cL A (mw ad cI cL t)) A) ([.ref (ad 0), .int z1, .int z2] : List Value).toArray s 0 0 A) (F0 m 122 ls [])) ∧ (∀ (v1 : Int32) (v2 : Int32) (v3 : Int32) (u : St) (H : Heap) (locs : List Loc) (ls : Array Slot), fX5_minute n 132 v1 v2 v3 u = some r → va_P (dC, dI) vwCl (mw ad cI cL u) H → va_D A (mw ad cI cL u) → va_S A s.heap H locs → lv_has ls 5 [(0, .ref (ad 0)), (1, .int v1), (3, .int v3)] → W p l e (headSpec wsX5_minute ({ frames := 0, cells := 0, slots := 0, locals := 0 })).room s m ([.ref (ad 0), .int z1, .int z2] : List Value).toArray below meth c H locs 0 0 (MQ below (va_Qv (fun t => t = r) (fun t => wPost dC dI cI cL A (mw ad cI cL t)) A) ([.ref (ad 0), .int z1, .int z2] : List Value).toArray s 0 0 A) (F0 m 132 ls [])) := by
    intro n
    induction n with
    | zero => exact ⟨(fun _ _ _ _ _ _ _ hf => nomatch (show (none : Option (St)) = some r from hf)), (fun _ _ _ _ _ _ _ hf => nomatch (show (none : Option (St)) = some r from hf)), (fun _ _ _ _ _ _ _ hf => nomatch (show (none : Option (St)) = some r from hf))⟩
    | succ n ih =>
      obtain ⟨ih0, ih1, ih2⟩ := ih
      refine ⟨?_, ?_, ?_⟩
      · intro v1 v2 v3 u H locs ls hf hP hD hS hl
        have hf := (eX5_minute_0 n v1 v2 v3 u).symm.trans hf
        refine lv_aload_n hx hb dX5_minute_0 rfl (lv_at hl 0 rfl) ?_
        refine va_get (D := (dC, dI)) (ci := 5) (v := .ref (ad 14)) (C := RX5) (T := TX5) (N := 36) hx hb hts iX5 hown hK hP 0 rfl rfl 21 (by decide) k_0 (fun _ h9 => h9) rfl dX5_minute_1 ?_
        refine lv_iload_n hx hb dX5_minute_4 rfl (lv_at hl 1 rfl) ?_
        obtain ⟨h_1, hf⟩ := ck_of hf
        refine va_iald (f := (gA u 13)) hx hb hK hP 14 0 rfl rfl h_1 dX5_minute_5 ?_
        refine lv_istore_n (lv' := [(3, .int ((gA u 13) v1.toNatClampNeg)), (0, .ref (ad 0)), (1, .int v1), (2, .int v2)]) hx hb dX5_minute_6 rfl hl (by decide) rfl (fun ls hl => ?_)
        refine lv_iload_n hx hb dX5_minute_7 rfl (lv_at hl 3 rfl) ?_
        refine lv_aload_n hx hb dX5_minute_8 rfl (lv_at hl 1 rfl) ?_
        refine va_get (D := (dC, dI)) (ci := 5) (v := .ref (ad 20)) (C := RX5) (T := TX5) (N := 36) hx hb hts iX5 hown hK hP 0 rfl rfl 30 (by decide) k_1 (fun _ h9 => h9) rfl dX5_minute_9 ?_
        refine lv_iload_n hx hb dX5_minute_12 rfl (lv_at hl 2 rfl) ?_
        refine va_iald (f := (gA u 19)) hx hb hK hP 20 0 rfl rfl h_1 dX5_minute_13 ?_
        refine lv_isub hx hb dX5_minute_14 ?_
        refine lv_istore (lv' := [(4, .int (v2 - ((gA u 19) v1.toNatClampNeg))), (3, .int ((gA u 13) v1.toNatClampNeg)), (0, .ref (ad 0)), (1, .int v1), (2, .int v2)]) hx hb dX5_minute_15 hl (by decide) rfl (fun ls hl => ?_)
        refine lv_aload_n hx hb dX5_minute_17 rfl (lv_at hl 2 rfl) ?_
        refine va_get (D := (dC, dI)) (ci := 5) (v := .ref (ad 20)) (C := RX5) (T := TX5) (N := 36) hx hb hts iX5 hown hK hP 0 rfl rfl 30 (by decide) k_1 (fun _ h9 => h9) rfl dX5_minute_18 ?_
        refine lv_iload_n hx hb dX5_minute_21 rfl (lv_at hl 3 rfl) ?_
        refine lv_dup2_11 hx hb dX5_minute_22 rfl rfl ?_
        refine va_iald (f := (gA u 19)) hx hb hK hP 20 0 rfl rfl h_1 dX5_minute_23 ?_
        refine lv_iload hx hb dX5_minute_24 (lv_at hl 0 rfl) ?_
        refine lv_aload_n hx hb dX5_minute_26 rfl (lv_at hl 2 rfl) ?_
        refine va_get (D := (dC, dI)) (ci := 5) (v := .int (gI u 5)) (C := RX5) (T := TX5) (N := 36) hx hb hts iX5 hown hK hP 0 rfl rfl 18 (by decide) k_2 (fun _ h9 => h9) rfl dX5_minute_27 ?_
        refine lv_icmp_le (tgt := 40) hx hb dX5_minute_30 (by decide) (fun c_2 => ?_) (fun c_2 => ?_)
        · have hf := (if_pos c_2).symm.trans hf
          refine lv_iload hx hb dX5_minute_40 (lv_at hl 0 rfl) ?_
          refine lv_aload_n hx hb dX5_minute_42 rfl (lv_at hl 2 rfl) ?_
          refine va_get (D := (dC, dI)) (ci := 5) (v := .int (gI u 5)) (C := RX5) (T := TX5) (N := 36) hx hb hts iX5 hown hK hP 0 rfl rfl 18 (by decide) k_2 (fun _ h9 => h9) rfl dX5_minute_43 ?_
          refine lv_ineg hx hb dX5_minute_46 ?_
          refine lv_icmp_ge (tgt := 58) hx hb dX5_minute_47 (by decide) (fun c_3 => ?_) (fun c_3 => ?_)
          · have hf := (if_pos c_3).symm.trans hf
            refine lv_iload hx hb dX5_minute_58 (lv_at hl 0 rfl) ?_
            refine lv_iadd hx hb dX5_minute_60 ?_
            refine va_iast (f := (gA u 19)) hx hb hK hP hD hS 20 0 rfl rfl h_1 dX5_minute_61 (fun H locs hP hD hS => ?_)
            have hP : va_P (dC, dI) vwCl (mw ad cI cL (sA u 19 (upd (gA u 19) v1.toNatClampNeg (((gA u 19) v1.toNatClampNeg) + (v2 - ((gA u 19) v1.toNatClampNeg)))))) H := hP
            have hD : va_D A (mw ad cI cL (sA u 19 (upd (gA u 19) v1.toNatClampNeg (((gA u 19) v1.toNatClampNeg) + (v2 - ((gA u 19) v1.toNatClampNeg)))))) := hD
            refine lv_aload_n hx hb dX5_minute_62 rfl (lv_at hl 2 rfl) ?_
            refine va_get (D := (dC, dI)) (ci := 5) (v := .ref (ad 20)) (C := RX5) (T := TX5) (N := 36) hx hb hts iX5 hown hK hP 0 rfl rfl 30 (by decide) k_1 (fun _ h9 => h9) rfl dX5_minute_63 ?_
            refine lv_iload_n hx hb dX5_minute_66 rfl (lv_at hl 3 rfl) ?_
            refine va_iald (f := (upd (gA u 19) v1.toNatClampNeg (((gA u 19) v1.toNatClampNeg) + (v2 - ((gA u 19) v1.toNatClampNeg))))) hx hb hK hP 20 0 rfl rfl h_1 dX5_minute_67 ?_
            refine lv_if_le (tgt := 132) hx hb dX5_minute_68 (by decide) (fun c_4 => ?_) (fun c_4 => ?_)
            · have hf := (if_pos c_4).symm.trans hf
              exact ih2 v1 0 ((gA u 13) v1.toNatClampNeg) (sA u 19 (upd (gA u 19) v1.toNatClampNeg (((gA u 19) v1.toNatClampNeg) + (v2 - ((gA u 19) v1.toNatClampNeg))))) H locs ls hf hP hD hS (lv_sub hl [2, 3, 1] rfl)
            · have hf := (if_neg c_4).symm.trans hf
              refine lv_aload_n hx hb dX5_minute_71 rfl (lv_at hl 2 rfl) ?_
              refine va_get (D := (dC, dI)) (ci := 5) (v := .ref (ad 21)) (C := RX5) (T := TX5) (N := 36) hx hb hts iX5 hown hK hP 0 rfl rfl 31 (by decide) k_3 (fun _ h9 => h9) rfl dX5_minute_72 ?_
              refine lv_iload_n hx hb dX5_minute_75 rfl (lv_at hl 3 rfl) ?_
              refine va_iald (f := (gA u 20)) hx hb hK hP 21 0 rfl rfl h_1 dX5_minute_76 ?_
              refine lv_bipush (v := 60) hx hb dX5_minute_77 (by decide) ?_
              refine lv_aload_n hx hb dX5_minute_79 rfl (lv_at hl 2 rfl) ?_
              refine va_get (D := (dC, dI)) (ci := 5) (v := .ref (ad 3)) (C := RX5) (T := TX5) (N := 36) hx hb hts iX5 hown hK hP 0 rfl rfl 4 (by decide) k_4 (fun _ h9 => h9) rfl dX5_minute_80 ?_
              refine lv_iload_n hx hb dX5_minute_83 rfl (lv_at hl 1 rfl) ?_
              obtain ⟨h_5, hf⟩ := ck_of hf
              refine va_iald (f := (gA u 2)) hx hb hK hP 3 0 rfl rfl h_5 dX5_minute_84 ?_
              refine lv_imul hx hb dX5_minute_85 ?_
              refine lv_icmp_ne (tgt := 122) hx hb dX5_minute_86 (by decide) (fun c_6 => ?_) (fun c_6 => ?_)
              · have hf := (if_neg c_6).symm.trans hf
                exact ih1 v1 0 ((gA u 13) v1.toNatClampNeg) (sA u 19 (upd (gA u 19) v1.toNatClampNeg (((gA u 19) v1.toNatClampNeg) + (v2 - ((gA u 19) v1.toNatClampNeg))))) H locs ls hf hP hD hS (lv_sub hl [2, 3, 1] rfl)
              · have hf := (if_pos c_6).symm.trans hf
                refine lv_aload_n hx hb dX5_minute_89 rfl (lv_at hl 2 rfl) ?_
                refine va_get (D := (dC, dI)) (ci := 5) (v := .ref (ad 21)) (C := RX5) (T := TX5) (N := 36) hx hb hts iX5 hown hK hP 0 rfl rfl 31 (by decide) k_3 (fun _ h9 => h9) rfl dX5_minute_90 ?_
                refine lv_iload_n hx hb dX5_minute_93 rfl (lv_at hl 3 rfl) ?_
                refine lv_iconst (v := 0) hx hb dX5_minute_94 (by decide) ?_
                refine va_iast (f := (gA u 20)) hx hb hK hP hD hS 21 0 rfl rfl h_1 dX5_minute_95 (fun H locs hP hD hS => ?_)
                have hP : va_P (dC, dI) vwCl (mw ad cI cL (sA (sA u 19 (upd (gA u 19) v1.toNatClampNeg (((gA u 19) v1.toNatClampNeg) + (v2 - ((gA u 19) v1.toNatClampNeg))))) 20 (upd (gA u 20) v1.toNatClampNeg (0 : Int32)))) H := hP
                have hD : va_D A (mw ad cI cL (sA (sA u 19 (upd (gA u 19) v1.toNatClampNeg (((gA u 19) v1.toNatClampNeg) + (v2 - ((gA u 19) v1.toNatClampNeg))))) 20 (upd (gA u 20) v1.toNatClampNeg (0 : Int32)))) := hD
                refine lv_aload_n hx hb dX5_minute_96 rfl (lv_at hl 2 rfl) ?_
                refine lv_dup hx hb dX5_minute_97 rfl ?_
                refine va_get (D := (dC, dI)) (ci := 5) (v := .long (gJ u 3)) (C := RX5) (T := TX5) (N := 36) hx hb hts iX5 hown hK hP 0 rfl rfl 34 (by decide) k_5 (fun _ h9 => h9) rfl dX5_minute_98 ?_
                refine lv_aload_n hx hb dX5_minute_101 rfl (lv_at hl 2 rfl) ?_
                refine va_get (D := (dC, dI)) (ci := 5) (v := .ref (ad 4)) (C := RX5) (T := TX5) (N := 36) hx hb hts iX5 hown hK hP 0 rfl rfl 5 (by decide) k_6 (fun _ h9 => h9) rfl dX5_minute_102 ?_
                refine lv_iload_n hx hb dX5_minute_105 rfl (lv_at hl 1 rfl) ?_
                refine va_iald (f := (gA u 3)) hx hb hK hP 4 0 rfl rfl h_5 dX5_minute_106 ?_
                refine lv_i2l (v := ((gA u 3) ((gA u 13) v1.toNatClampNeg).toNatClampNeg).toInt64) hx hb dX5_minute_107 rfl ?_
                refine lv_ladd hx hb dX5_minute_108 ?_
                refine va_put (D := (dC, dI)) (ci := 5) (v := .long ((gJ u 3) + ((gA u 3) ((gA u 13) v1.toNatClampNeg).toNatClampNeg).toInt64)) (ty := .long) (C := RX5) (T := TX5) (N := 36) hx hb hts iX5 tyX5 tyX5_ok nmX5 hown hK hP hD hS 0 rfl rfl 34 (by decide) k_5 (fun _ h9 => h9) rfl (by decide +kernel) rfl rfl (Nat.le_of_ble_eq_true rfl) dX5_minute_109 (fun H locs hP hD hS => ?_)
                have hP : va_P (dC, dI) vwCl (mw ad cI cL (sJ (sA (sA u 19 (upd (gA u 19) v1.toNatClampNeg (((gA u 19) v1.toNatClampNeg) + (v2 - ((gA u 19) v1.toNatClampNeg))))) 20 (upd (gA u 20) v1.toNatClampNeg (0 : Int32))) 3 ((gJ u 3) + ((gA u 3) ((gA u 13) v1.toNatClampNeg).toNatClampNeg).toInt64))) H := hP
                have hD : va_D A (mw ad cI cL (sJ (sA (sA u 19 (upd (gA u 19) v1.toNatClampNeg (((gA u 19) v1.toNatClampNeg) + (v2 - ((gA u 19) v1.toNatClampNeg))))) 20 (upd (gA u 20) v1.toNatClampNeg (0 : Int32))) 3 ((gJ u 3) + ((gA u 3) ((gA u 13) v1.toNatClampNeg).toNatClampNeg).toInt64))) := hD
                refine lv_aload_n hx hb dX5_minute_112 rfl (lv_at hl 2 rfl) ?_
                refine lv_dup hx hb dX5_minute_113 rfl ?_
                refine va_get (D := (dC, dI)) (ci := 5) (v := .long (gJ u 4)) (C := RX5) (T := TX5) (N := 36) hx hb hts iX5 hown hK hP 0 rfl rfl 35 (by decide) k_7 (fun _ h9 => h9) rfl dX5_minute_114 ?_
                refine lv_lconst (v := 1) hx hb dX5_minute_117 (by decide) ?_
                refine lv_ladd hx hb dX5_minute_118 ?_
                refine va_put (D := (dC, dI)) (ci := 5) (v := .long ((gJ u 4) + (1 : Int64))) (ty := .long) (C := RX5) (T := TX5) (N := 36) hx hb hts iX5 tyX5 tyX5_ok nmX5 hown hK hP hD hS 0 rfl rfl 35 (by decide) k_7 (fun _ h9 => h9) rfl (by decide +kernel) rfl rfl (Nat.le_of_ble_eq_true rfl) dX5_minute_119 (fun H locs hP hD hS => ?_)
                have hP : va_P (dC, dI) vwCl (mw ad cI cL (sJ (sJ (sA (sA u 19 (upd (gA u 19) v1.toNatClampNeg (((gA u 19) v1.toNatClampNeg) + (v2 - ((gA u 19) v1.toNatClampNeg))))) 20 (upd (gA u 20) v1.toNatClampNeg (0 : Int32))) 3 ((gJ u 3) + ((gA u 3) ((gA u 13) v1.toNatClampNeg).toNatClampNeg).toInt64)) 4 ((gJ u 4) + (1 : Int64)))) H := hP
                have hD : va_D A (mw ad cI cL (sJ (sJ (sA (sA u 19 (upd (gA u 19) v1.toNatClampNeg (((gA u 19) v1.toNatClampNeg) + (v2 - ((gA u 19) v1.toNatClampNeg))))) 20 (upd (gA u 20) v1.toNatClampNeg (0 : Int32))) 3 ((gJ u 3) + ((gA u 3) ((gA u 13) v1.toNatClampNeg).toNatClampNeg).toInt64)) 4 ((gJ u 4) + (1 : Int64)))) := hD
                exact ih1 v1 0 ((gA u 13) v1.toNatClampNeg) (sJ (sJ (sA (sA u 19 (upd (gA u 19) v1.toNatClampNeg (((gA u 19) v1.toNatClampNeg) + (v2 - ((gA u 19) v1.toNatClampNeg))))) 20 (upd (gA u 20) v1.toNatClampNeg (0 : Int32))) 3 ((gJ u 3) + ((gA u 3) ((gA u 13) v1.toNatClampNeg).toNatClampNeg).toInt64)) 4 ((gJ u 4) + (1 : Int64))) H locs ls hf hP hD hS (lv_sub hl [2, 3, 1] rfl)
          · have hf := (if_neg c_3).symm.trans hf
            refine lv_aload_n hx hb dX5_minute_50 rfl (lv_at hl 2 rfl) ?_
            refine va_get (D := (dC, dI)) (ci := 5) (v := .int (gI u 5)) (C := RX5) (T := TX5) (N := 36) hx hb hts iX5 hown hK hP 0 rfl rfl 18 (by decide) k_2 (fun _ h9 => h9) rfl dX5_minute_51 ?_
            refine lv_ineg hx hb dX5_minute_54 ?_
            refine lv_goto (tgt := 60) hx hb dX5_minute_55 (by decide) ?_
            refine lv_iadd hx hb dX5_minute_60 ?_
            refine va_iast (f := (gA u 19)) hx hb hK hP hD hS 20 0 rfl rfl h_1 dX5_minute_61 (fun H locs hP hD hS => ?_)
            have hP : va_P (dC, dI) vwCl (mw ad cI cL (sA u 19 (upd (gA u 19) v1.toNatClampNeg (((gA u 19) v1.toNatClampNeg) + (-(gI u 5)))))) H := hP
            have hD : va_D A (mw ad cI cL (sA u 19 (upd (gA u 19) v1.toNatClampNeg (((gA u 19) v1.toNatClampNeg) + (-(gI u 5)))))) := hD
            refine lv_aload_n hx hb dX5_minute_62 rfl (lv_at hl 2 rfl) ?_
            refine va_get (D := (dC, dI)) (ci := 5) (v := .ref (ad 20)) (C := RX5) (T := TX5) (N := 36) hx hb hts iX5 hown hK hP 0 rfl rfl 30 (by decide) k_1 (fun _ h9 => h9) rfl dX5_minute_63 ?_
            refine lv_iload_n hx hb dX5_minute_66 rfl (lv_at hl 3 rfl) ?_
            refine va_iald (f := (upd (gA u 19) v1.toNatClampNeg (((gA u 19) v1.toNatClampNeg) + (-(gI u 5))))) hx hb hK hP 20 0 rfl rfl h_1 dX5_minute_67 ?_
            refine lv_if_le (tgt := 132) hx hb dX5_minute_68 (by decide) (fun c_7 => ?_) (fun c_7 => ?_)
            · have hf := (if_pos c_7).symm.trans hf
              exact ih2 v1 0 ((gA u 13) v1.toNatClampNeg) (sA u 19 (upd (gA u 19) v1.toNatClampNeg (((gA u 19) v1.toNatClampNeg) + (-(gI u 5))))) H locs ls hf hP hD hS (lv_sub hl [2, 3, 1] rfl)
            · have hf := (if_neg c_7).symm.trans hf
              refine lv_aload_n hx hb dX5_minute_71 rfl (lv_at hl 2 rfl) ?_
              refine va_get (D := (dC, dI)) (ci := 5) (v := .ref (ad 21)) (C := RX5) (T := TX5) (N := 36) hx hb hts iX5 hown hK hP 0 rfl rfl 31 (by decide) k_3 (fun _ h9 => h9) rfl dX5_minute_72 ?_
              refine lv_iload_n hx hb dX5_minute_75 rfl (lv_at hl 3 rfl) ?_
              refine va_iald (f := (gA u 20)) hx hb hK hP 21 0 rfl rfl h_1 dX5_minute_76 ?_
              refine lv_bipush (v := 60) hx hb dX5_minute_77 (by decide) ?_
              refine lv_aload_n hx hb dX5_minute_79 rfl (lv_at hl 2 rfl) ?_
              refine va_get (D := (dC, dI)) (ci := 5) (v := .ref (ad 3)) (C := RX5) (T := TX5) (N := 36) hx hb hts iX5 hown hK hP 0 rfl rfl 4 (by decide) k_4 (fun _ h9 => h9) rfl dX5_minute_80 ?_
              refine lv_iload_n hx hb dX5_minute_83 rfl (lv_at hl 1 rfl) ?_
              obtain ⟨h_8, hf⟩ := ck_of hf
              refine va_iald (f := (gA u 2)) hx hb hK hP 3 0 rfl rfl h_8 dX5_minute_84 ?_
              refine lv_imul hx hb dX5_minute_85 ?_
              refine lv_icmp_ne (tgt := 122) hx hb dX5_minute_86 (by decide) (fun c_9 => ?_) (fun c_9 => ?_)
              · have hf := (if_neg c_9).symm.trans hf
                exact ih1 v1 0 ((gA u 13) v1.toNatClampNeg) (sA u 19 (upd (gA u 19) v1.toNatClampNeg (((gA u 19) v1.toNatClampNeg) + (-(gI u 5))))) H locs ls hf hP hD hS (lv_sub hl [2, 3, 1] rfl)
              · have hf := (if_pos c_9).symm.trans hf
                refine lv_aload_n hx hb dX5_minute_89 rfl (lv_at hl 2 rfl) ?_
                refine va_get (D := (dC, dI)) (ci := 5) (v := .ref (ad 21)) (C := RX5) (T := TX5) (N := 36) hx hb hts iX5 hown hK hP 0 rfl rfl 31 (by decide) k_3 (fun _ h9 => h9) rfl dX5_minute_90 ?_
                refine lv_iload_n hx hb dX5_minute_93 rfl (lv_at hl 3 rfl) ?_
                refine lv_iconst (v := 0) hx hb dX5_minute_94 (by decide) ?_
                refine va_iast (f := (gA u 20)) hx hb hK hP hD hS 21 0 rfl rfl h_1 dX5_minute_95 (fun H locs hP hD hS => ?_)
                have hP : va_P (dC, dI) vwCl (mw ad cI cL (sA (sA u 19 (upd (gA u 19) v1.toNatClampNeg (((gA u 19) v1.toNatClampNeg) + (-(gI u 5))))) 20 (upd (gA u 20) v1.toNatClampNeg (0 : Int32)))) H := hP
                have hD : va_D A (mw ad cI cL (sA (sA u 19 (upd (gA u 19) v1.toNatClampNeg (((gA u 19) v1.toNatClampNeg) + (-(gI u 5))))) 20 (upd (gA u 20) v1.toNatClampNeg (0 : Int32)))) := hD
                refine lv_aload_n hx hb dX5_minute_96 rfl (lv_at hl 2 rfl) ?_
                refine lv_dup hx hb dX5_minute_97 rfl ?_
                refine va_get (D := (dC, dI)) (ci := 5) (v := .long (gJ u 3)) (C := RX5) (T := TX5) (N := 36) hx hb hts iX5 hown hK hP 0 rfl rfl 34 (by decide) k_5 (fun _ h9 => h9) rfl dX5_minute_98 ?_
                refine lv_aload_n hx hb dX5_minute_101 rfl (lv_at hl 2 rfl) ?_
                refine va_get (D := (dC, dI)) (ci := 5) (v := .ref (ad 4)) (C := RX5) (T := TX5) (N := 36) hx hb hts iX5 hown hK hP 0 rfl rfl 5 (by decide) k_6 (fun _ h9 => h9) rfl dX5_minute_102 ?_
                refine lv_iload_n hx hb dX5_minute_105 rfl (lv_at hl 1 rfl) ?_
                refine va_iald (f := (gA u 3)) hx hb hK hP 4 0 rfl rfl h_8 dX5_minute_106 ?_
                refine lv_i2l (v := ((gA u 3) ((gA u 13) v1.toNatClampNeg).toNatClampNeg).toInt64) hx hb dX5_minute_107 rfl ?_
                refine lv_ladd hx hb dX5_minute_108 ?_
                refine va_put (D := (dC, dI)) (ci := 5) (v := .long ((gJ u 3) + ((gA u 3) ((gA u 13) v1.toNatClampNeg).toNatClampNeg).toInt64)) (ty := .long) (C := RX5) (T := TX5) (N := 36) hx hb hts iX5 tyX5 tyX5_ok nmX5 hown hK hP hD hS 0 rfl rfl 34 (by decide) k_5 (fun _ h9 => h9) rfl (by decide +kernel) rfl rfl (Nat.le_of_ble_eq_true rfl) dX5_minute_109 (fun H locs hP hD hS => ?_)
                have hP : va_P (dC, dI) vwCl (mw ad cI cL (sJ (sA (sA u 19 (upd (gA u 19) v1.toNatClampNeg (((gA u 19) v1.toNatClampNeg) + (-(gI u 5))))) 20 (upd (gA u 20) v1.toNatClampNeg (0 : Int32))) 3 ((gJ u 3) + ((gA u 3) ((gA u 13) v1.toNatClampNeg).toNatClampNeg).toInt64))) H := hP
                have hD : va_D A (mw ad cI cL (sJ (sA (sA u 19 (upd (gA u 19) v1.toNatClampNeg (((gA u 19) v1.toNatClampNeg) + (-(gI u 5))))) 20 (upd (gA u 20) v1.toNatClampNeg (0 : Int32))) 3 ((gJ u 3) + ((gA u 3) ((gA u 13) v1.toNatClampNeg).toNatClampNeg).toInt64))) := hD
                refine lv_aload_n hx hb dX5_minute_112 rfl (lv_at hl 2 rfl) ?_
                refine lv_dup hx hb dX5_minute_113 rfl ?_
                refine va_get (D := (dC, dI)) (ci := 5) (v := .long (gJ u 4)) (C := RX5) (T := TX5) (N := 36) hx hb hts iX5 hown hK hP 0 rfl rfl 35 (by decide) k_7 (fun _ h9 => h9) rfl dX5_minute_114 ?_
                refine lv_lconst (v := 1) hx hb dX5_minute_117 (by decide) ?_
                refine lv_ladd hx hb dX5_minute_118 ?_
                refine va_put (D := (dC, dI)) (ci := 5) (v := .long ((gJ u 4) + (1 : Int64))) (ty := .long) (C := RX5) (T := TX5) (N := 36) hx hb hts iX5 tyX5 tyX5_ok nmX5 hown hK hP hD hS 0 rfl rfl 35 (by decide) k_7 (fun _ h9 => h9) rfl (by decide +kernel) rfl rfl (Nat.le_of_ble_eq_true rfl) dX5_minute_119 (fun H locs hP hD hS => ?_)
                have hP : va_P (dC, dI) vwCl (mw ad cI cL (sJ (sJ (sA (sA u 19 (upd (gA u 19) v1.toNatClampNeg (((gA u 19) v1.toNatClampNeg) + (-(gI u 5))))) 20 (upd (gA u 20) v1.toNatClampNeg (0 : Int32))) 3 ((gJ u 3) + ((gA u 3) ((gA u 13) v1.toNatClampNeg).toNatClampNeg).toInt64)) 4 ((gJ u 4) + (1 : Int64)))) H := hP
                have hD : va_D A (mw ad cI cL (sJ (sJ (sA (sA u 19 (upd (gA u 19) v1.toNatClampNeg (((gA u 19) v1.toNatClampNeg) + (-(gI u 5))))) 20 (upd (gA u 20) v1.toNatClampNeg (0 : Int32))) 3 ((gJ u 3) + ((gA u 3) ((gA u 13) v1.toNatClampNeg).toNatClampNeg).toInt64)) 4 ((gJ u 4) + (1 : Int64)))) := hD
                exact ih1 v1 0 ((gA u 13) v1.toNatClampNeg) (sJ (sJ (sA (sA u 19 (upd (gA u 19) v1.toNatClampNeg (((gA u 19) v1.toNatClampNeg) + (-(gI u 5))))) 20 (upd (gA u 20) v1.toNatClampNeg (0 : Int32))) 3 ((gJ u 3) + ((gA u 3) ((gA u 13) v1.toNatClampNeg).toNatClampNeg).toInt64)) 4 ((gJ u 4) + (1 : Int64))) H locs ls hf hP hD hS (lv_sub hl [2, 3, 1] rfl)
        · have hf := (if_neg c_2).symm.trans hf
          refine lv_aload_n hx hb dX5_minute_33 rfl (lv_at hl 2 rfl) ?_
          refine va_get (D := (dC, dI)) (ci := 5) (v := .int (gI u 5)) (C := RX5) (T := TX5) (N := 36) hx hb hts iX5 hown hK hP 0 rfl rfl 18 (by decide) k_2 (fun _ h9 => h9) rfl dX5_minute_34 ?_
          refine lv_goto (tgt := 60) hx hb dX5_minute_37 (by decide) ?_
          refine lv_iadd hx hb dX5_minute_60 ?_
          refine va_iast (f := (gA u 19)) hx hb hK hP hD hS 20 0 rfl rfl h_1 dX5_minute_61 (fun H locs hP hD hS => ?_)
          have hP : va_P (dC, dI) vwCl (mw ad cI cL (sA u 19 (upd (gA u 19) v1.toNatClampNeg (((gA u 19) v1.toNatClampNeg) + (gI u 5))))) H := hP
          have hD : va_D A (mw ad cI cL (sA u 19 (upd (gA u 19) v1.toNatClampNeg (((gA u 19) v1.toNatClampNeg) + (gI u 5))))) := hD
          refine lv_aload_n hx hb dX5_minute_62 rfl (lv_at hl 2 rfl) ?_
          refine va_get (D := (dC, dI)) (ci := 5) (v := .ref (ad 20)) (C := RX5) (T := TX5) (N := 36) hx hb hts iX5 hown hK hP 0 rfl rfl 30 (by decide) k_1 (fun _ h9 => h9) rfl dX5_minute_63 ?_
          refine lv_iload_n hx hb dX5_minute_66 rfl (lv_at hl 3 rfl) ?_
          refine va_iald (f := (upd (gA u 19) v1.toNatClampNeg (((gA u 19) v1.toNatClampNeg) + (gI u 5)))) hx hb hK hP 20 0 rfl rfl h_1 dX5_minute_67 ?_
          refine lv_if_le (tgt := 132) hx hb dX5_minute_68 (by decide) (fun c_10 => ?_) (fun c_10 => ?_)
          · have hf := (if_pos c_10).symm.trans hf
            exact ih2 v1 0 ((gA u 13) v1.toNatClampNeg) (sA u 19 (upd (gA u 19) v1.toNatClampNeg (((gA u 19) v1.toNatClampNeg) + (gI u 5)))) H locs ls hf hP hD hS (lv_sub hl [2, 3, 1] rfl)
          · have hf := (if_neg c_10).symm.trans hf
            refine lv_aload_n hx hb dX5_minute_71 rfl (lv_at hl 2 rfl) ?_
            refine va_get (D := (dC, dI)) (ci := 5) (v := .ref (ad 21)) (C := RX5) (T := TX5) (N := 36) hx hb hts iX5 hown hK hP 0 rfl rfl 31 (by decide) k_3 (fun _ h9 => h9) rfl dX5_minute_72 ?_
            refine lv_iload_n hx hb dX5_minute_75 rfl (lv_at hl 3 rfl) ?_
            refine va_iald (f := (gA u 20)) hx hb hK hP 21 0 rfl rfl h_1 dX5_minute_76 ?_
            refine lv_bipush (v := 60) hx hb dX5_minute_77 (by decide) ?_
            refine lv_aload_n hx hb dX5_minute_79 rfl (lv_at hl 2 rfl) ?_
            refine va_get (D := (dC, dI)) (ci := 5) (v := .ref (ad 3)) (C := RX5) (T := TX5) (N := 36) hx hb hts iX5 hown hK hP 0 rfl rfl 4 (by decide) k_4 (fun _ h9 => h9) rfl dX5_minute_80 ?_
            refine lv_iload_n hx hb dX5_minute_83 rfl (lv_at hl 1 rfl) ?_
            obtain ⟨h_11, hf⟩ := ck_of hf
            refine va_iald (f := (gA u 2)) hx hb hK hP 3 0 rfl rfl h_11 dX5_minute_84 ?_
            refine lv_imul hx hb dX5_minute_85 ?_
            refine lv_icmp_ne (tgt := 122) hx hb dX5_minute_86 (by decide) (fun c_12 => ?_) (fun c_12 => ?_)
            · have hf := (if_neg c_12).symm.trans hf
              exact ih1 v1 0 ((gA u 13) v1.toNatClampNeg) (sA u 19 (upd (gA u 19) v1.toNatClampNeg (((gA u 19) v1.toNatClampNeg) + (gI u 5)))) H locs ls hf hP hD hS (lv_sub hl [2, 3, 1] rfl)
            · have hf := (if_pos c_12).symm.trans hf
              refine lv_aload_n hx hb dX5_minute_89 rfl (lv_at hl 2 rfl) ?_
              refine va_get (D := (dC, dI)) (ci := 5) (v := .ref (ad 21)) (C := RX5) (T := TX5) (N := 36) hx hb hts iX5 hown hK hP 0 rfl rfl 31 (by decide) k_3 (fun _ h9 => h9) rfl dX5_minute_90 ?_
              refine lv_iload_n hx hb dX5_minute_93 rfl (lv_at hl 3 rfl) ?_
              refine lv_iconst (v := 0) hx hb dX5_minute_94 (by decide) ?_
              refine va_iast (f := (gA u 20)) hx hb hK hP hD hS 21 0 rfl rfl h_1 dX5_minute_95 (fun H locs hP hD hS => ?_)
              have hP : va_P (dC, dI) vwCl (mw ad cI cL (sA (sA u 19 (upd (gA u 19) v1.toNatClampNeg (((gA u 19) v1.toNatClampNeg) + (gI u 5)))) 20 (upd (gA u 20) v1.toNatClampNeg (0 : Int32)))) H := hP
              have hD : va_D A (mw ad cI cL (sA (sA u 19 (upd (gA u 19) v1.toNatClampNeg (((gA u 19) v1.toNatClampNeg) + (gI u 5)))) 20 (upd (gA u 20) v1.toNatClampNeg (0 : Int32)))) := hD
              refine lv_aload_n hx hb dX5_minute_96 rfl (lv_at hl 2 rfl) ?_
              refine lv_dup hx hb dX5_minute_97 rfl ?_
              refine va_get (D := (dC, dI)) (ci := 5) (v := .long (gJ u 3)) (C := RX5) (T := TX5) (N := 36) hx hb hts iX5 hown hK hP 0 rfl rfl 34 (by decide) k_5 (fun _ h9 => h9) rfl dX5_minute_98 ?_
              refine lv_aload_n hx hb dX5_minute_101 rfl (lv_at hl 2 rfl) ?_
              refine va_get (D := (dC, dI)) (ci := 5) (v := .ref (ad 4)) (C := RX5) (T := TX5) (N := 36) hx hb hts iX5 hown hK hP 0 rfl rfl 5 (by decide) k_6 (fun _ h9 => h9) rfl dX5_minute_102 ?_
              refine lv_iload_n hx hb dX5_minute_105 rfl (lv_at hl 1 rfl) ?_
              refine va_iald (f := (gA u 3)) hx hb hK hP 4 0 rfl rfl h_11 dX5_minute_106 ?_
              refine lv_i2l (v := ((gA u 3) ((gA u 13) v1.toNatClampNeg).toNatClampNeg).toInt64) hx hb dX5_minute_107 rfl ?_
              refine lv_ladd hx hb dX5_minute_108 ?_
              refine va_put (D := (dC, dI)) (ci := 5) (v := .long ((gJ u 3) + ((gA u 3) ((gA u 13) v1.toNatClampNeg).toNatClampNeg).toInt64)) (ty := .long) (C := RX5) (T := TX5) (N := 36) hx hb hts iX5 tyX5 tyX5_ok nmX5 hown hK hP hD hS 0 rfl rfl 34 (by decide) k_5 (fun _ h9 => h9) rfl (by decide +kernel) rfl rfl (Nat.le_of_ble_eq_true rfl) dX5_minute_109 (fun H locs hP hD hS => ?_)
              have hP : va_P (dC, dI) vwCl (mw ad cI cL (sJ (sA (sA u 19 (upd (gA u 19) v1.toNatClampNeg (((gA u 19) v1.toNatClampNeg) + (gI u 5)))) 20 (upd (gA u 20) v1.toNatClampNeg (0 : Int32))) 3 ((gJ u 3) + ((gA u 3) ((gA u 13) v1.toNatClampNeg).toNatClampNeg).toInt64))) H := hP
              have hD : va_D A (mw ad cI cL (sJ (sA (sA u 19 (upd (gA u 19) v1.toNatClampNeg (((gA u 19) v1.toNatClampNeg) + (gI u 5)))) 20 (upd (gA u 20) v1.toNatClampNeg (0 : Int32))) 3 ((gJ u 3) + ((gA u 3) ((gA u 13) v1.toNatClampNeg).toNatClampNeg).toInt64))) := hD
              refine lv_aload_n hx hb dX5_minute_112 rfl (lv_at hl 2 rfl) ?_
              refine lv_dup hx hb dX5_minute_113 rfl ?_
              refine va_get (D := (dC, dI)) (ci := 5) (v := .long (gJ u 4)) (C := RX5) (T := TX5) (N := 36) hx hb hts iX5 hown hK hP 0 rfl rfl 35 (by decide) k_7 (fun _ h9 => h9) rfl dX5_minute_114 ?_
              refine lv_lconst (v := 1) hx hb dX5_minute_117 (by decide) ?_
              refine lv_ladd hx hb dX5_minute_118 ?_
              refine va_put (D := (dC, dI)) (ci := 5) (v := .long ((gJ u 4) + (1 : Int64))) (ty := .long) (C := RX5) (T := TX5) (N := 36) hx hb hts iX5 tyX5 tyX5_ok nmX5 hown hK hP hD hS 0 rfl rfl 35 (by decide) k_7 (fun _ h9 => h9) rfl (by decide +kernel) rfl rfl (Nat.le_of_ble_eq_true rfl) dX5_minute_119 (fun H locs hP hD hS => ?_)
              have hP : va_P (dC, dI) vwCl (mw ad cI cL (sJ (sJ (sA (sA u 19 (upd (gA u 19) v1.toNatClampNeg (((gA u 19) v1.toNatClampNeg) + (gI u 5)))) 20 (upd (gA u 20) v1.toNatClampNeg (0 : Int32))) 3 ((gJ u 3) + ((gA u 3) ((gA u 13) v1.toNatClampNeg).toNatClampNeg).toInt64)) 4 ((gJ u 4) + (1 : Int64)))) H := hP
              have hD : va_D A (mw ad cI cL (sJ (sJ (sA (sA u 19 (upd (gA u 19) v1.toNatClampNeg (((gA u 19) v1.toNatClampNeg) + (gI u 5)))) 20 (upd (gA u 20) v1.toNatClampNeg (0 : Int32))) 3 ((gJ u 3) + ((gA u 3) ((gA u 13) v1.toNatClampNeg).toNatClampNeg).toInt64)) 4 ((gJ u 4) + (1 : Int64)))) := hD
              exact ih1 v1 0 ((gA u 13) v1.toNatClampNeg) (sJ (sJ (sA (sA u 19 (upd (gA u 19) v1.toNatClampNeg (((gA u 19) v1.toNatClampNeg) + (gI u 5)))) 20 (upd (gA u 20) v1.toNatClampNeg (0 : Int32))) 3 ((gJ u 3) + ((gA u 3) ((gA u 13) v1.toNatClampNeg).toNatClampNeg).toInt64)) 4 ((gJ u 4) + (1 : Int64))) H locs ls hf hP hD hS (lv_sub hl [2, 3, 1] rfl)
      · intro v1 v2 v3 u H locs ls hf hP hD hS hl
        have hf := (eX5_minute_122 n v1 v2 v3 u).symm.trans hf
        refine lv_aload_n hx hb dX5_minute_122 rfl (lv_at hl 0 rfl) ?_
        refine va_get (D := (dC, dI)) (ci := 5) (v := .ref (ad 21)) (C := RX5) (T := TX5) (N := 36) hx hb hts iX5 hown hK hP 0 rfl rfl 31 (by decide) k_3 (fun _ h9 => h9) rfl dX5_minute_123 ?_
        refine lv_iload_n hx hb dX5_minute_126 rfl (lv_at hl 1 rfl) ?_
        refine lv_dup2_11 hx hb dX5_minute_127 rfl rfl ?_
        obtain ⟨h_13, hf⟩ := ck_of hf
        refine va_iald (f := (gA u 20)) hx hb hK hP 21 0 rfl rfl h_13 dX5_minute_128 ?_
        refine lv_iconst (v := 1) hx hb dX5_minute_129 (by decide) ?_
        refine lv_iadd hx hb dX5_minute_130 ?_
        refine va_iast (f := (gA u 20)) hx hb hK hP hD hS 21 0 rfl rfl h_13 dX5_minute_131 (fun H locs hP hD hS => ?_)
        have hP : va_P (dC, dI) vwCl (mw ad cI cL (sA u 20 (upd (gA u 20) v1.toNatClampNeg (((gA u 20) v1.toNatClampNeg) + (1 : Int32))))) H := hP
        have hD : va_D A (mw ad cI cL (sA u 20 (upd (gA u 20) v1.toNatClampNeg (((gA u 20) v1.toNatClampNeg) + (1 : Int32))))) := hD
        exact ih2 v1 0 v3 (sA u 20 (upd (gA u 20) v1.toNatClampNeg (((gA u 20) v1.toNatClampNeg) + (1 : Int32)))) H locs ls hf hP hD hS (lv_sub hl [0, 1, 2] rfl)
      · intro v1 v2 v3 u H locs ls hf hP hD hS hl
        have hf := (eX5_minute_132 n v1 v2 v3 u).symm.trans hf
        refine lv_aload_n hx hb dX5_minute_132 rfl (lv_at hl 0 rfl) ?_
        refine lv_dup hx hb dX5_minute_133 rfl ?_
        refine va_get (D := (dC, dI)) (ci := 5) (v := .long (gJ u 2)) (C := RX5) (T := TX5) (N := 36) hx hb hts iX5 hown hK hP 0 rfl rfl 33 (by decide) k_8 (fun _ h9 => h9) rfl dX5_minute_134 ?_
        refine lv_aload_n hx hb dX5_minute_137 rfl (lv_at hl 0 rfl) ?_
        refine va_get (D := (dC, dI)) (ci := 5) (v := .ref (ad 20)) (C := RX5) (T := TX5) (N := 36) hx hb hts iX5 hown hK hP 0 rfl rfl 30 (by decide) k_1 (fun _ h9 => h9) rfl dX5_minute_138 ?_
        refine lv_iload_n hx hb dX5_minute_141 rfl (lv_at hl 1 rfl) ?_
        obtain ⟨h_14, hf⟩ := ck_of hf
        refine va_iald (f := (gA u 19)) hx hb hK hP 20 0 rfl rfl h_14 dX5_minute_142 ?_
        refine lv_i2l (v := ((gA u 19) v1.toNatClampNeg).toInt64) hx hb dX5_minute_143 rfl ?_
        refine lv_aload_n hx hb dX5_minute_144 rfl (lv_at hl 0 rfl) ?_
        refine va_get (D := (dC, dI)) (ci := 5) (v := .ref (ad 2)) (C := RX5) (T := TX5) (N := 36) hx hb hts iX5 hown hK hP 0 rfl rfl 3 (by decide) k_9 (fun _ h9 => h9) rfl dX5_minute_145 ?_
        refine lv_iload_n hx hb dX5_minute_148 rfl (lv_at hl 2 rfl) ?_
        obtain ⟨h_15, hf⟩ := ck_of hf
        refine va_iald (f := (gA u 1)) hx hb hK hP 2 0 rfl rfl h_15 dX5_minute_149 ?_
        refine lv_i2l (v := ((gA u 1) v3.toNatClampNeg).toInt64) hx hb dX5_minute_150 rfl ?_
        refine lv_lmul hx hb dX5_minute_151 ?_
        refine lv_ladd hx hb dX5_minute_152 ?_
        refine va_put (D := (dC, dI)) (ci := 5) (v := .long ((gJ u 2) + (((gA u 19) v1.toNatClampNeg).toInt64 * ((gA u 1) v3.toNatClampNeg).toInt64))) (ty := .long) (C := RX5) (T := TX5) (N := 36) hx hb hts iX5 tyX5 tyX5_ok nmX5 hown hK hP hD hS 0 rfl rfl 33 (by decide) k_8 (fun _ h9 => h9) rfl (by decide +kernel) rfl rfl (Nat.le_of_ble_eq_true rfl) dX5_minute_153 (fun H locs hP hD hS => ?_)
        have hP : va_P (dC, dI) vwCl (mw ad cI cL (sJ u 2 ((gJ u 2) + (((gA u 19) v1.toNatClampNeg).toInt64 * ((gA u 1) v3.toNatClampNeg).toInt64)))) H := hP
        have hD : va_D A (mw ad cI cL (sJ u 2 ((gJ u 2) + (((gA u 19) v1.toNatClampNeg).toInt64 * ((gA u 1) v3.toNatClampNeg).toInt64)))) := hD
        have hf := Option.some.inj hf
        exact W.vret hx hb hr (fun t ht hW => ⟨⟨(sJ u 2 ((gJ u 2) + (((gA u 19) v1.toNatClampNeg).toInt64 * ((gA u 1) v3.toNatClampNeg).toInt64))), rfl, hf, ⟨by rw [ht]; exact hP, va_K.moved hW.alike hK, hD⟩⟩, hS.F ht⟩) hS.2.2 dX5_minute_156
  exact (key n).1 z1 z2 0 u _ _ ls hf0 hP hD hS (lv_sub hl [0, 1, 2] rfl)

def fX5_run (n pc : Nat) (v1 : Int32) (v2 : Int32) (v3 : Int32) (v4 : Int32) (u : St) : Option (Int32 × St) := match n with
  | 0 => none
  | n + 1 => match pc with
    | 0 => ((FX5_isIn n v1 (1 : Int32) (10000 : Int32)).bind fun w_1 => (if w_1 = 0 then some ((0 : Int32), sI u 0 (1 : Int32)) else (if ((gI u 9) + v1) ≤ (1000000 : Int32) then ((FX5_findBest n  (sI u 0 (0 : Int32))).bind fun w_5 => fX5_run n 50 v1 (0 : Int32) 0 0 w_5) else some ((0 : Int32), sI u 0 (2 : Int32)))))
    | 50 => (if (gI u 2) ≤ v2 then some ((((gI u 9) + v1)), sI u 9 ((gI u 9) + v1)) else ((FX5_hasLamp n v2 u).bind fun w_9 => (if w_9.1 = 0 then fX5_run n 50 v1 (v2 + 1) 0 0 w_9.2 else ((FX5_needOf n v2 w_9.2).bind fun w_11 => fX5_run n 75 v1 v2 w_11.1 (0 : Int32) w_11.2))))
    | 75 => (if v1 ≤ v4 then fX5_run n 50 v1 (v2 + 1) 0 0 u else ((FX5_minute n v2 v3 u).bind fun w_13 => fX5_run n 75 v1 v2 v3 (v4 + 1) w_13))
    | _ => none
theorem eX5_run_0 (n : Nat) (v1 : Int32) (v2 : Int32) (v3 : Int32) (v4 : Int32) (u : St) : fX5_run (n + 1) 0 v1 v2 v3 v4 u = ((FX5_isIn n v1 (1 : Int32) (10000 : Int32)).bind fun w_1 => (if w_1 = 0 then some ((0 : Int32), sI u 0 (1 : Int32)) else (if ((gI u 9) + v1) ≤ (1000000 : Int32) then ((FX5_findBest n  (sI u 0 (0 : Int32))).bind fun w_5 => fX5_run n 50 v1 (0 : Int32) 0 0 w_5) else some ((0 : Int32), sI u 0 (2 : Int32))))) := rfl
theorem eX5_run_50 (n : Nat) (v1 : Int32) (v2 : Int32) (v3 : Int32) (v4 : Int32) (u : St) : fX5_run (n + 1) 50 v1 v2 v3 v4 u = (if (gI u 2) ≤ v2 then some ((((gI u 9) + v1)), sI u 9 ((gI u 9) + v1)) else ((FX5_hasLamp n v2 u).bind fun w_9 => (if w_9.1 = 0 then fX5_run n 50 v1 (v2 + 1) 0 0 w_9.2 else ((FX5_needOf n v2 w_9.2).bind fun w_11 => fX5_run n 75 v1 v2 w_11.1 (0 : Int32) w_11.2)))) := rfl
theorem eX5_run_75 (n : Nat) (v1 : Int32) (v2 : Int32) (v3 : Int32) (v4 : Int32) (u : St) : fX5_run (n + 1) 75 v1 v2 v3 v4 u = (if v1 ≤ v4 then fX5_run n 50 v1 (v2 + 1) 0 0 u else ((FX5_minute n v2 v3 u).bind fun w_13 => fX5_run n 75 v1 v2 v3 (v4 + 1) w_13)) := rfl
theorem vX5_run_0 (v1 : Int32) (v2 : Int32) (v3 : Int32) (v4 : Int32) (u : St) (r : Int32 × St) : Ev (fun n => fX5_run n 0 v1 v2 v3 v4 u) r ↔ Ev (fun n => ((FX5_isIn n v1 (1 : Int32) (10000 : Int32)).bind fun w_1 => (if w_1 = 0 then some ((0 : Int32), sI u 0 (1 : Int32)) else (if ((gI u 9) + v1) ≤ (1000000 : Int32) then ((FX5_findBest n  (sI u 0 (0 : Int32))).bind fun w_5 => fX5_run n 50 v1 (0 : Int32) 0 0 w_5) else some ((0 : Int32), sI u 0 (2 : Int32)))))) r := Ev_succ (fun n => fX5_run n 0 v1 v2 v3 v4 u) r
theorem vX5_run_50 (v1 : Int32) (v2 : Int32) (v3 : Int32) (v4 : Int32) (u : St) (r : Int32 × St) : Ev (fun n => fX5_run n 50 v1 v2 v3 v4 u) r ↔ Ev (fun n => (if (gI u 2) ≤ v2 then some ((((gI u 9) + v1)), sI u 9 ((gI u 9) + v1)) else ((FX5_hasLamp n v2 u).bind fun w_9 => (if w_9.1 = 0 then fX5_run n 50 v1 (v2 + 1) 0 0 w_9.2 else ((FX5_needOf n v2 w_9.2).bind fun w_11 => fX5_run n 75 v1 v2 w_11.1 (0 : Int32) w_11.2))))) r := Ev_succ (fun n => fX5_run n 50 v1 v2 v3 v4 u) r
theorem vX5_run_75 (v1 : Int32) (v2 : Int32) (v3 : Int32) (v4 : Int32) (u : St) (r : Int32 × St) : Ev (fun n => fX5_run n 75 v1 v2 v3 v4 u) r ↔ Ev (fun n => (if v1 ≤ v4 then fX5_run n 50 v1 (v2 + 1) 0 0 u else ((FX5_minute n v2 v3 u).bind fun w_13 => fX5_run n 75 v1 v2 v3 (v4 + 1) w_13))) r := Ev_succ (fun n => fX5_run n 75 v1 v2 v3 v4 u) r
def FX5_run (n : Nat) (v1 : Int32) (u : St) : Option (Int32 × St) := fX5_run n 0 v1 0 0 0 u
set_option maxHeartbeats 4000000 in
set_option maxRecDepth 100000 in
theorem mX5_run (l : Launch) (dC : Nat → ClassId) (dI : Nat → Nat → Nat) (cI cL : ClassId) (ad : Nat → Nat) (sz : Nat) (u : St) (z1 : Int32) (n : Nat) (r : Int32 × St) (hf0 : FX5_run n z1 u = some r) : Met l yX5_run wsX5_run ({ frames := 3, cells := 0, slots := 0, locals := 65 }) (va_Pc [.ref (ad 0), .int z1] (wPre dC dI cI cL (mw ad cI cL u) sz)) (va_Qi (fun a t => (a, t) = r) (fun t => wPost dC dI cI cL (va_A (mw ad cI cL u) sz) (mw ad cI cL t)) (va_A (mw ad cI cL u) sz)) 0 0 (va_A (mw ad cI cL u) sz) := by
  refine Met.ofW (cc := cX5_run) (maxL := 5) (ret := (some .int)) (by decide) rfl ?_
  intro p e s m args below meth c s₁ B hml hv
  obtain ⟨rfl, hsz, hP, hK, hD0, hZ⟩ := hv
  have hx := B.exec
  have hb := B.bytes
  have hr := B.returns
  have hts := atoms_spec (ws := wsX5_run) B.pre
  have hown : s.vm.findClass RX5 = some m.cls := findClass_of_methodNamed B.named
  have hlocks := B.notSynchronized
  subst hsz
  have hD := hD0.self (sz := s.heap.size)
  generalize hAe : va_A (mw ad cI cL u) s.heap.size = A at hD ⊢
  have hA : ∀ q : Nat, s.heap.size ≤ q → A q := fun q h => by rw [← hAe]; exact Or.inr h
  have hS : va_S A s.heap s.heap [] := va_S.rf
  have iX5 : ∀ w ∈ u_ws RX5 TX5 36, w ∈ wsX5_run := fun _ h => List.mem_cons_of_mem _ (List.mem_append_right _ h)
  have k_0 := hts (.fieldLink RX5 182 "LampChoiceModel" "minutes" "I") (by decide +kernel)
  have k_1 := hts (.constant RX5 155 (1000000)) (by decide +kernel)
  have k_2 := hts (.fieldLink RX5 80 "LampChoiceModel" "code" "I") (by decide +kernel)
  have k_3 := hts (.fieldLink RX5 90 "LampChoiceModel" "places" "I") (by decide +kernel)
  have hl := lv_entry ([.ref (ad 0), .int z1]) (n := 5) (Nat.le_of_ble_eq_true rfl)
  rw [lg_entry_eq]
  generalize (lg_sl ([.ref (ad 0), .int z1]) ++ List.replicate (5 - (lg_sl ([.ref (ad 0), .int z1])).length) Slot.unset).toArray = ls at hl ⊢
  have hl : lv_has ls 5 [(0, .ref (ad 0)), (1, .int z1)] := hl
  have key : ∀ n : Nat, (∀ (v1 : Int32) (v2 : Int32) (v3 : Int32) (v4 : Int32) (u : St) (H : Heap) (locs : List Loc) (ls : Array Slot), fX5_run n 0 v1 v2 v3 v4 u = some r → va_P (dC, dI) vwCl (mw ad cI cL u) H → va_D A (mw ad cI cL u) → va_S A s.heap H locs → lv_has ls 5 [(0, .ref (ad 0)), (1, .int v1)] → W p l e (headSpec wsX5_run ({ frames := 3, cells := 0, slots := 0, locals := 65 })).room s m ([.ref (ad 0), .int z1] : List Value).toArray below meth c H locs 0 0 (MQ below (va_Qi (fun a t => (a, t) = r) (fun t => wPost dC dI cI cL A (mw ad cI cL t)) A) ([.ref (ad 0), .int z1] : List Value).toArray s 0 0 A) (F0 m 0 ls [])) ∧ (∀ (v1 : Int32) (v2 : Int32) (v3 : Int32) (v4 : Int32) (u : St) (H : Heap) (locs : List Loc) (ls : Array Slot), fX5_run n 50 v1 v2 v3 v4 u = some r → va_P (dC, dI) vwCl (mw ad cI cL u) H → va_D A (mw ad cI cL u) → va_S A s.heap H locs → lv_has ls 5 [(0, .ref (ad 0)), (1, .int v1), (2, .int v2)] → W p l e (headSpec wsX5_run ({ frames := 3, cells := 0, slots := 0, locals := 65 })).room s m ([.ref (ad 0), .int z1] : List Value).toArray below meth c H locs 0 0 (MQ below (va_Qi (fun a t => (a, t) = r) (fun t => wPost dC dI cI cL A (mw ad cI cL t)) A) ([.ref (ad 0), .int z1] : List Value).toArray s 0 0 A) (F0 m 50 ls [])) ∧ (∀ (v1 : Int32) (v2 : Int32) (v3 : Int32) (v4 : Int32) (u : St) (H : Heap) (locs : List Loc) (ls : Array Slot), fX5_run n 75 v1 v2 v3 v4 u = some r → va_P (dC, dI) vwCl (mw ad cI cL u) H → va_D A (mw ad cI cL u) → va_S A s.heap H locs → lv_has ls 5 [(0, .ref (ad 0)), (1, .int v1), (2, .int v2), (3, .int v3), (4, .int v4)] → W p l e (headSpec wsX5_run ({ frames := 3, cells := 0, slots := 0, locals := 65 })).room s m ([.ref (ad 0), .int z1] : List Value).toArray below meth c H locs 0 0 (MQ below (va_Qi (fun a t => (a, t) = r) (fun t => wPost dC dI cI cL A (mw ad cI cL t)) A) ([.ref (ad 0), .int z1] : List Value).toArray s 0 0 A) (F0 m 75 ls [])) := by
    intro n
    induction n with
    | zero => exact ⟨(fun _ _ _ _ _ _ _ _ hf => nomatch (show (none : Option (Int32 × St)) = some r from hf)), (fun _ _ _ _ _ _ _ _ hf => nomatch (show (none : Option (Int32 × St)) = some r from hf)), (fun _ _ _ _ _ _ _ _ hf => nomatch (show (none : Option (Int32 × St)) = some r from hf))⟩
    | succ n ih =>
      obtain ⟨ih0, ih1, ih2⟩ := ih
      refine ⟨?_, ?_, ?_⟩
      · intro v1 v2 v3 v4 u H locs ls hf hP hD hS hl
        have hf := (eX5_run_0 n v1 v2 v3 v4 u).symm.trans hf
        refine lv_aload_n hx hb dX5_run_0 rfl (lv_at hl 0 rfl) ?_
        refine lv_iload_n hx hb dX5_run_1 rfl (lv_at hl 1 rfl) ?_
        refine lv_iconst (v := 1) hx hb dX5_run_2 (by decide) ?_
        refine lv_sipush (v := 10000) hx hb dX5_run_3 (by decide) ?_
        obtain ⟨w_1, hw_1, hf⟩ := ob hf
        have hFc := freeNil hS hA
        refine va_calli (va_runS (As := [.int v1, .int (1 : Int32), .int (10000 : Int32)]) (rest := [.ref (ad 0)]) ⟨hx, hb, hml, hown, hts⟩ (mX5_isIn l H.size v1 (1 : Int32) (10000 : Int32) n w_1 hw_1) (va_cwS 3 hts gX5_run_X5_isIn rfl rfl rfl (by decide +kernel) ⟨Nat.le_of_ble_eq_true rfl, Nat.le_of_ble_eq_true rfl⟩) ⟨nPre_blind, nPre_of⟩ rfl rfl hl.1 rfl (lv_room (Nat.le_of_ble_eq_true rfl)) dX5_run_6 ⟨Nat.zero_le _, Nat.zero_le _⟩) hS (fun q _ h => hFc q h) hFc (fun r2 u2 t H1 locs ht hvm hw hB hz1 hk1 hS => ?_)
        subst r2
        have hP := keepP hP hk1
        clear hFc hk1 hB
        generalize H1 = H at hP hS ⊢
        refine lv_if_ne (tgt := 16) hx hb dX5_run_9 (by decide) (fun c_2 => ?_) (fun c_2 => ?_)
        · have hf := (if_neg c_2).symm.trans hf
          refine lv_aload_n hx hb dX5_run_16 rfl (lv_at hl 0 rfl) ?_
          refine va_get (D := (dC, dI)) (ci := 5) (v := .int (gI u 9)) (C := RX5) (T := TX5) (N := 36) hx hb hts iX5 hown hK hP 0 rfl rfl 32 (by decide) k_0 (fun _ h9 => h9) rfl dX5_run_17 ?_
          refine lv_iload_n hx hb dX5_run_20 rfl (lv_at hl 1 rfl) ?_
          refine lv_iadd hx hb dX5_run_21 ?_
          refine lv_ldc (v := 1000000) hx hb hown k_1 dX5_run_22 ?_
          refine lv_icmp_le (tgt := 31) hx hb dX5_run_24 (by decide) (fun c_3 => ?_) (fun c_3 => ?_)
          · have hf := (if_pos c_3).symm.trans hf
            refine lv_iconst (v := 0) hx hb dX5_run_31 (by decide) ?_
            refine va_put (D := (dC, dI)) (ci := 5) (v := .int (0 : Int32)) (ty := .int) (C := RX5) (T := TX5) (N := 36) hx hb hts iX5 tyX5 tyX5_ok nmX5 hown hK hP hD hS 0 rfl rfl 0 (by decide) k_2 (fun _ h9 => h9) rfl (by decide +kernel) rfl rfl (Nat.le_of_ble_eq_true rfl) dX5_run_32 (fun H locs hP hD hS => ?_)
            have hP : va_P (dC, dI) vwCl (mw ad cI cL (sI u 0 (0 : Int32))) H := hP
            have hD : va_D A (mw ad cI cL (sI u 0 (0 : Int32))) := hD
            refine lv_aload_n hx hb dX5_run_35 rfl (lv_at hl 0 rfl) ?_
            refine va_get (D := (dC, dI)) (ci := 5) (v := .int ((0 : Int32))) (C := RX5) (T := TX5) (N := 36) hx hb hts iX5 hown hK hP 0 rfl rfl 0 (by decide) k_2 (fun _ h9 => h9) rfl dX5_run_36 ?_
            refine lv_if_le (tgt := 44) hx hb dX5_run_39 (by decide) (fun c_4 => ?_) (fun c_4 => ?_)
            · refine lv_aload_n hx hb dX5_run_44 rfl (lv_at hl 0 rfl) ?_
              obtain ⟨w_5, hw_5, hf⟩ := ob hf
              have hFc := freeAll hD hS hA
              refine va_callv (va_runV (As := []) (rest := []) ⟨hx, hb, hml, hown, hts⟩ (mX5_findBest l dC dI cI cL ad H.size (sI u 0 (0 : Int32))  n w_5 hw_5) (cwV 0 hts gX5_run_X5_findBest rfl rfl rfl (by decide +kernel) ⟨Nat.le_of_ble_eq_true rfl, Nat.le_of_ble_eq_true rfl⟩) ⟨wPre_blind, va_recv hK hP (ci := 5) (q0 := 0) rfl rfl, wPre_of hP hK hD hZ⟩ rfl rfl hl.1 rfl (lv_room (Nat.le_of_ble_eq_true rfl)) dX5_run_45 ⟨Nat.zero_le _, Nat.zero_le _⟩) hS (fun q _ h => hFc q h) hFc (fun u2 t H1 locs ht hvm hw hB hz1 hk1 hS => ?_)
              obtain ⟨hP1, hK1, hD1⟩ := hB
              rw [ht] at hP1
              subst u2
              have hP : va_P (dC, dI) vwCl (mw ad cI cL w_5) H1 := hP1
              have hD : va_D A (mw ad cI cL w_5) := hD1.weaken (fun _ _ _ h => hFc _ h)
              clear hP1 hD1 hK1 hFc hk1
              generalize H1 = H at hP hS ⊢
              refine lv_iconst (v := 0) hx hb dX5_run_48 (by decide) ?_
              refine lv_istore_n (lv' := [(2, .int (0 : Int32)), (0, .ref (ad 0)), (1, .int v1)]) hx hb dX5_run_49 rfl hl (by decide) rfl (fun ls hl => ?_)
              exact ih1 v1 (0 : Int32) 0 0 w_5 H locs ls hf hP hD hS (lv_sub hl [1, 2, 0] rfl)
            · exact absurd c_4 (by decide)
          · have hf := (if_neg c_3).symm.trans hf
            refine lv_iconst (v := 2) hx hb dX5_run_27 (by decide) ?_
            refine lv_goto (tgt := 32) hx hb dX5_run_28 (by decide) ?_
            refine va_put (D := (dC, dI)) (ci := 5) (v := .int (2 : Int32)) (ty := .int) (C := RX5) (T := TX5) (N := 36) hx hb hts iX5 tyX5 tyX5_ok nmX5 hown hK hP hD hS 0 rfl rfl 0 (by decide) k_2 (fun _ h9 => h9) rfl (by decide +kernel) rfl rfl (Nat.le_of_ble_eq_true rfl) dX5_run_32 (fun H locs hP hD hS => ?_)
            have hP : va_P (dC, dI) vwCl (mw ad cI cL (sI u 0 (2 : Int32))) H := hP
            have hD : va_D A (mw ad cI cL (sI u 0 (2 : Int32))) := hD
            refine lv_aload_n hx hb dX5_run_35 rfl (lv_at hl 0 rfl) ?_
            refine va_get (D := (dC, dI)) (ci := 5) (v := .int ((2 : Int32))) (C := RX5) (T := TX5) (N := 36) hx hb hts iX5 hown hK hP 0 rfl rfl 0 (by decide) k_2 (fun _ h9 => h9) rfl dX5_run_36 ?_
            refine lv_if_le (tgt := 44) hx hb dX5_run_39 (by decide) (fun c_6 => ?_) (fun c_6 => ?_)
            · exact absurd c_6 (by decide)
            · refine lv_iconst (v := 0) hx hb dX5_run_42 (by decide) ?_
              have hf := Option.some.inj hf
              exact W.iret (v := (0 : Int32)) hx hb hr (fun t ht hW => ⟨⟨(0 : Int32), (sI u 0 (2 : Int32)), rfl, hf, ⟨by rw [ht]; exact hP, va_K.moved hW.alike hK, hD⟩⟩, hS.F ht⟩) hS.2.2 dX5_run_43
        · have hf := (if_pos c_2).symm.trans hf
          refine lv_iconst (v := 1) hx hb dX5_run_12 (by decide) ?_
          refine lv_goto (tgt := 32) hx hb dX5_run_13 (by decide) ?_
          refine va_put (D := (dC, dI)) (ci := 5) (v := .int (1 : Int32)) (ty := .int) (C := RX5) (T := TX5) (N := 36) hx hb hts iX5 tyX5 tyX5_ok nmX5 hown hK hP hD hS 0 rfl rfl 0 (by decide) k_2 (fun _ h9 => h9) rfl (by decide +kernel) rfl rfl (Nat.le_of_ble_eq_true rfl) dX5_run_32 (fun H locs hP hD hS => ?_)
          have hP : va_P (dC, dI) vwCl (mw ad cI cL (sI u 0 (1 : Int32))) H := hP
          have hD : va_D A (mw ad cI cL (sI u 0 (1 : Int32))) := hD
          refine lv_aload_n hx hb dX5_run_35 rfl (lv_at hl 0 rfl) ?_
          refine va_get (D := (dC, dI)) (ci := 5) (v := .int ((1 : Int32))) (C := RX5) (T := TX5) (N := 36) hx hb hts iX5 hown hK hP 0 rfl rfl 0 (by decide) k_2 (fun _ h9 => h9) rfl dX5_run_36 ?_
          refine lv_if_le (tgt := 44) hx hb dX5_run_39 (by decide) (fun c_7 => ?_) (fun c_7 => ?_)
          · exact absurd c_7 (by decide)
          · refine lv_iconst (v := 0) hx hb dX5_run_42 (by decide) ?_
            have hf := Option.some.inj hf
            exact W.iret (v := (0 : Int32)) hx hb hr (fun t ht hW => ⟨⟨(0 : Int32), (sI u 0 (1 : Int32)), rfl, hf, ⟨by rw [ht]; exact hP, va_K.moved hW.alike hK, hD⟩⟩, hS.F ht⟩) hS.2.2 dX5_run_43
      · intro v1 v2 v3 v4 u H locs ls hf hP hD hS hl
        have hf := (eX5_run_50 n v1 v2 v3 v4 u).symm.trans hf
        refine lv_iload_n hx hb dX5_run_50 rfl (lv_at hl 2 rfl) ?_
        refine lv_aload_n hx hb dX5_run_51 rfl (lv_at hl 0 rfl) ?_
        refine va_get (D := (dC, dI)) (ci := 5) (v := .int (gI u 2)) (C := RX5) (T := TX5) (N := 36) hx hb hts iX5 hown hK hP 0 rfl rfl 6 (by decide) k_3 (fun _ h9 => h9) rfl dX5_run_52 ?_
        refine lv_icmp_ge (tgt := 99) hx hb dX5_run_55 (by decide) (fun c_8 => ?_) (fun c_8 => ?_)
        · have hf := (if_pos c_8).symm.trans hf
          refine lv_aload_n hx hb dX5_run_99 rfl (lv_at hl 0 rfl) ?_
          refine lv_dup hx hb dX5_run_100 rfl ?_
          refine va_get (D := (dC, dI)) (ci := 5) (v := .int (gI u 9)) (C := RX5) (T := TX5) (N := 36) hx hb hts iX5 hown hK hP 0 rfl rfl 32 (by decide) k_0 (fun _ h9 => h9) rfl dX5_run_101 ?_
          refine lv_iload_n hx hb dX5_run_104 rfl (lv_at hl 1 rfl) ?_
          refine lv_iadd hx hb dX5_run_105 ?_
          refine va_put (D := (dC, dI)) (ci := 5) (v := .int ((gI u 9) + v1)) (ty := .int) (C := RX5) (T := TX5) (N := 36) hx hb hts iX5 tyX5 tyX5_ok nmX5 hown hK hP hD hS 0 rfl rfl 32 (by decide) k_0 (fun _ h9 => h9) rfl (by decide +kernel) rfl rfl (Nat.le_of_ble_eq_true rfl) dX5_run_106 (fun H locs hP hD hS => ?_)
          have hP : va_P (dC, dI) vwCl (mw ad cI cL (sI u 9 ((gI u 9) + v1))) H := hP
          have hD : va_D A (mw ad cI cL (sI u 9 ((gI u 9) + v1))) := hD
          refine lv_aload_n hx hb dX5_run_109 rfl (lv_at hl 0 rfl) ?_
          refine va_get (D := (dC, dI)) (ci := 5) (v := .int (((gI u 9) + v1))) (C := RX5) (T := TX5) (N := 36) hx hb hts iX5 hown hK hP 0 rfl rfl 32 (by decide) k_0 (fun _ h9 => h9) rfl dX5_run_110 ?_
          have hf := Option.some.inj hf
          exact W.iret (v := (((gI u 9) + v1))) hx hb hr (fun t ht hW => ⟨⟨(((gI u 9) + v1)), (sI u 9 ((gI u 9) + v1)), rfl, hf, ⟨by rw [ht]; exact hP, va_K.moved hW.alike hK, hD⟩⟩, hS.F ht⟩) hS.2.2 dX5_run_113
        · have hf := (if_neg c_8).symm.trans hf
          refine lv_aload_n hx hb dX5_run_58 rfl (lv_at hl 0 rfl) ?_
          refine lv_iload_n hx hb dX5_run_59 rfl (lv_at hl 2 rfl) ?_
          obtain ⟨w_9, hw_9, hf⟩ := ob hf
          have hFc := freeAll hD hS hA
          refine va_calli (va_runV (As := [.int v2]) (rest := []) ⟨hx, hb, hml, hown, hts⟩ (mX5_hasLamp l dC dI cI cL ad H.size u v2 n w_9 hw_9) (cwV 1 hts gX5_run_X5_hasLamp rfl rfl rfl (by decide +kernel) ⟨Nat.le_of_ble_eq_true rfl, Nat.le_of_ble_eq_true rfl⟩) ⟨wPre_blind, va_recv hK hP (ci := 5) (q0 := 0) rfl rfl, wPre_of hP hK hD hZ⟩ rfl rfl hl.1 rfl (lv_room (Nat.le_of_ble_eq_true rfl)) dX5_run_60 ⟨Nat.zero_le _, Nat.zero_le _⟩) hS (fun q _ h => hFc q h) hFc (fun r2 u2 t H1 locs ht hvm hw hB hz1 hk1 hS => ?_)
          obtain ⟨hP1, hK1, hD1⟩ := hB
          rw [ht] at hP1
          have e1 : r2 = w_9.1 := congrArg Prod.fst hw
          have e2 : u2 = w_9.2 := congrArg Prod.snd hw
          subst r2 u2
          have hP : va_P (dC, dI) vwCl (mw ad cI cL w_9.2) H1 := hP1
          have hD : va_D A (mw ad cI cL w_9.2) := hD1.weaken (fun _ _ _ h => hFc _ h)
          clear hP1 hD1 hK1 hFc hk1
          generalize H1 = H at hP hS ⊢
          refine lv_if_eq (tgt := 93) hx hb dX5_run_63 (by decide) (fun c_10 => ?_) (fun c_10 => ?_)
          · have hf := (if_pos c_10).symm.trans hf
            refine lv_iinc (v := (v2 + 1)) (lv' := [(2, .int (v2 + 1)), (0, .ref (ad 0)), (1, .int v1)]) hx hb dX5_run_93 hl (k := 2) rfl rfl (by decide) rfl (fun ls hl => ?_)
            refine lv_goto (tgt := 50) hx hb dX5_run_96 (by decide) ?_
            exact ih1 v1 (v2 + 1) 0 0 w_9.2 H locs ls hf hP hD hS (lv_sub hl [1, 2, 0] rfl)
          · have hf := (if_neg c_10).symm.trans hf
            refine lv_aload_n hx hb dX5_run_66 rfl (lv_at hl 0 rfl) ?_
            refine lv_iload_n hx hb dX5_run_67 rfl (lv_at hl 2 rfl) ?_
            obtain ⟨w_11, hw_11, hf⟩ := ob hf
            have hFc := freeAll hD hS hA
            refine va_calli (va_runV (As := [.int v2]) (rest := []) ⟨hx, hb, hml, hown, hts⟩ (mX5_needOf l dC dI cI cL ad H.size w_9.2 v2 n w_11 hw_11) (cwV 1 hts gX5_run_X5_needOf rfl rfl rfl (by decide +kernel) ⟨Nat.le_of_ble_eq_true rfl, Nat.le_of_ble_eq_true rfl⟩) ⟨wPre_blind, va_recv hK hP (ci := 5) (q0 := 0) rfl rfl, wPre_of hP hK hD hZ⟩ rfl rfl hl.1 rfl (lv_room (Nat.le_of_ble_eq_true rfl)) dX5_run_68 ⟨Nat.zero_le _, Nat.zero_le _⟩) hS (fun q _ h => hFc q h) hFc (fun r2 u2 t H1 locs ht hvm hw hB hz1 hk1 hS => ?_)
            obtain ⟨hP1, hK1, hD1⟩ := hB
            rw [ht] at hP1
            have e1 : r2 = w_11.1 := congrArg Prod.fst hw
            have e2 : u2 = w_11.2 := congrArg Prod.snd hw
            subst r2 u2
            have hP : va_P (dC, dI) vwCl (mw ad cI cL w_11.2) H1 := hP1
            have hD : va_D A (mw ad cI cL w_11.2) := hD1.weaken (fun _ _ _ h => hFc _ h)
            clear hP1 hD1 hK1 hFc hk1
            generalize H1 = H at hP hS ⊢
            refine lv_istore_n (lv' := [(3, .int w_11.1), (0, .ref (ad 0)), (1, .int v1), (2, .int v2)]) hx hb dX5_run_71 rfl hl (by decide) rfl (fun ls hl => ?_)
            refine lv_iconst (v := 0) hx hb dX5_run_72 (by decide) ?_
            refine lv_istore (lv' := [(4, .int (0 : Int32)), (3, .int w_11.1), (0, .ref (ad 0)), (1, .int v1), (2, .int v2)]) hx hb dX5_run_73 hl (by decide) rfl (fun ls hl => ?_)
            exact ih2 v1 v2 w_11.1 (0 : Int32) w_11.2 H locs ls hf hP hD hS (lv_sub hl [2, 3, 4, 1, 0] rfl)
      · intro v1 v2 v3 v4 u H locs ls hf hP hD hS hl
        have hf := (eX5_run_75 n v1 v2 v3 v4 u).symm.trans hf
        refine lv_iload hx hb dX5_run_75 (lv_at hl 4 rfl) ?_
        refine lv_iload_n hx hb dX5_run_77 rfl (lv_at hl 1 rfl) ?_
        refine lv_icmp_ge (tgt := 93) hx hb dX5_run_78 (by decide) (fun c_12 => ?_) (fun c_12 => ?_)
        · have hf := (if_pos c_12).symm.trans hf
          refine lv_iinc (v := (v2 + 1)) (lv' := [(2, .int (v2 + 1)), (0, .ref (ad 0)), (1, .int v1), (3, .int v3), (4, .int v4)]) hx hb dX5_run_93 hl (k := 2) rfl rfl (by decide) rfl (fun ls hl => ?_)
          refine lv_goto (tgt := 50) hx hb dX5_run_96 (by decide) ?_
          exact ih1 v1 (v2 + 1) 0 0 u H locs ls hf hP hD hS (lv_sub hl [1, 2, 0] rfl)
        · have hf := (if_neg c_12).symm.trans hf
          refine lv_aload_n hx hb dX5_run_81 rfl (lv_at hl 0 rfl) ?_
          refine lv_iload_n hx hb dX5_run_82 rfl (lv_at hl 2 rfl) ?_
          refine lv_iload_n hx hb dX5_run_83 rfl (lv_at hl 3 rfl) ?_
          obtain ⟨w_13, hw_13, hf⟩ := ob hf
          have hFc := freeAll hD hS hA
          refine va_callv (va_runV (As := [.int v2, .int v3]) (rest := []) ⟨hx, hb, hml, hown, hts⟩ (mX5_minute l dC dI cI cL ad H.size u v2 v3 n w_13 hw_13) (cwV 2 hts gX5_run_X5_minute rfl rfl rfl (by decide +kernel) ⟨Nat.le_of_ble_eq_true rfl, Nat.le_of_ble_eq_true rfl⟩) ⟨wPre_blind, va_recv hK hP (ci := 5) (q0 := 0) rfl rfl, wPre_of hP hK hD hZ⟩ rfl rfl hl.1 rfl (lv_room (Nat.le_of_ble_eq_true rfl)) dX5_run_84 ⟨Nat.zero_le _, Nat.zero_le _⟩) hS (fun q _ h => hFc q h) hFc (fun u2 t H1 locs ht hvm hw hB hz1 hk1 hS => ?_)
          obtain ⟨hP1, hK1, hD1⟩ := hB
          rw [ht] at hP1
          subst u2
          have hP : va_P (dC, dI) vwCl (mw ad cI cL w_13) H1 := hP1
          have hD : va_D A (mw ad cI cL w_13) := hD1.weaken (fun _ _ _ h => hFc _ h)
          clear hP1 hD1 hK1 hFc hk1
          generalize H1 = H at hP hS ⊢
          refine lv_iinc (v := (v4 + 1)) (lv' := [(4, .int (v4 + 1)), (0, .ref (ad 0)), (1, .int v1), (2, .int v2), (3, .int v3)]) hx hb dX5_run_87 hl (k := 4) rfl rfl (by decide) rfl (fun ls hl => ?_)
          refine lv_goto (tgt := 75) hx hb dX5_run_90 (by decide) ?_
          exact ih2 v1 v2 v3 (v4 + 1) w_13 H locs ls hf hP hD hS (lv_sub hl [1, 2, 3, 4, 0] rfl)
  exact (key n).1 z1 0 0 0 u _ _ ls hf0 hP hD hS (lv_sub hl [0, 1] rfl)

def fX5_own (n pc : Nat) (v1 : Int32) (v2 : Int32) (u : St) : Option (Int32 × St) := match n with
  | 0 => none
  | n + 1 => match pc with
    | 0 => ((FX5_isPlace n v1 u).bind fun w_1 => (if w_1.1 = 0 then some ((0 : Int32), sI w_1.2 0 (1 : Int32)) else ((FX5_isIn n v2 (0 : Int32) (1 : Int32)).bind fun w_4 => (if w_4 = 0 then some ((0 : Int32), sI w_1.2 0 (1 : Int32)) else ((FX5_findBest n  (sI w_1.2 0 (0 : Int32))).bind fun w_8 => ((FX5_hasLamp n v1 w_8).bind fun w_9 => (if w_9.1 = 0 then some ((-1 : Int32), w_9.2) else (if v2 = 0 then (if ck v1 7 = true then some (((gA w_9.2 19) v1.toNatClampNeg), w_9.2) else none) else (if ck v1 7 = true then some (((gA w_9.2 20) v1.toNatClampNeg), w_9.2) else none)))))))))
    | _ => none
theorem eX5_own_0 (n : Nat) (v1 : Int32) (v2 : Int32) (u : St) : fX5_own (n + 1) 0 v1 v2 u = ((FX5_isPlace n v1 u).bind fun w_1 => (if w_1.1 = 0 then some ((0 : Int32), sI w_1.2 0 (1 : Int32)) else ((FX5_isIn n v2 (0 : Int32) (1 : Int32)).bind fun w_4 => (if w_4 = 0 then some ((0 : Int32), sI w_1.2 0 (1 : Int32)) else ((FX5_findBest n  (sI w_1.2 0 (0 : Int32))).bind fun w_8 => ((FX5_hasLamp n v1 w_8).bind fun w_9 => (if w_9.1 = 0 then some ((-1 : Int32), w_9.2) else (if v2 = 0 then (if ck v1 7 = true then some (((gA w_9.2 19) v1.toNatClampNeg), w_9.2) else none) else (if ck v1 7 = true then some (((gA w_9.2 20) v1.toNatClampNeg), w_9.2) else none))))))))) := rfl
theorem vX5_own_0 (v1 : Int32) (v2 : Int32) (u : St) (r : Int32 × St) : Ev (fun n => fX5_own n 0 v1 v2 u) r ↔ Ev (fun n => ((FX5_isPlace n v1 u).bind fun w_1 => (if w_1.1 = 0 then some ((0 : Int32), sI w_1.2 0 (1 : Int32)) else ((FX5_isIn n v2 (0 : Int32) (1 : Int32)).bind fun w_4 => (if w_4 = 0 then some ((0 : Int32), sI w_1.2 0 (1 : Int32)) else ((FX5_findBest n  (sI w_1.2 0 (0 : Int32))).bind fun w_8 => ((FX5_hasLamp n v1 w_8).bind fun w_9 => (if w_9.1 = 0 then some ((-1 : Int32), w_9.2) else (if v2 = 0 then (if ck v1 7 = true then some (((gA w_9.2 19) v1.toNatClampNeg), w_9.2) else none) else (if ck v1 7 = true then some (((gA w_9.2 20) v1.toNatClampNeg), w_9.2) else none)))))))))) r := Ev_succ (fun n => fX5_own n 0 v1 v2 u) r
def FX5_own (n : Nat) (v1 : Int32) (v2 : Int32) (u : St) : Option (Int32 × St) := fX5_own n 0 v1 v2 u
set_option maxHeartbeats 4000000 in
set_option maxRecDepth 100000 in
theorem mX5_own (l : Launch) (dC : Nat → ClassId) (dI : Nat → Nat → Nat) (cI cL : ClassId) (ad : Nat → Nat) (sz : Nat) (u : St) (z1 : Int32) (z2 : Int32) (n : Nat) (r : Int32 × St) (hf0 : FX5_own n z1 z2 u = some r) : Met l yX5_own wsX5_own ({ frames := 3, cells := 0, slots := 0, locals := 65 }) (va_Pc [.ref (ad 0), .int z1, .int z2] (wPre dC dI cI cL (mw ad cI cL u) sz)) (va_Qi (fun a t => (a, t) = r) (fun t => wPost dC dI cI cL (va_A (mw ad cI cL u) sz) (mw ad cI cL t)) (va_A (mw ad cI cL u) sz)) 0 0 (va_A (mw ad cI cL u) sz) := by
  refine Met.ofW (cc := cX5_own) (maxL := 3) (ret := (some .int)) (by decide) rfl ?_
  intro p e s m args below meth c s₁ B hml hv
  obtain ⟨rfl, hsz, hP, hK, hD0, hZ⟩ := hv
  have hx := B.exec
  have hb := B.bytes
  have hr := B.returns
  have hts := atoms_spec (ws := wsX5_own) B.pre
  have hown : s.vm.findClass RX5 = some m.cls := findClass_of_methodNamed B.named
  have hlocks := B.notSynchronized
  subst hsz
  have hD := hD0.self (sz := s.heap.size)
  generalize hAe : va_A (mw ad cI cL u) s.heap.size = A at hD ⊢
  have hA : ∀ q : Nat, s.heap.size ≤ q → A q := fun q h => by rw [← hAe]; exact Or.inr h
  have hS : va_S A s.heap s.heap [] := va_S.rf
  have iX5 : ∀ w ∈ u_ws RX5 TX5 36, w ∈ wsX5_own := fun _ h => List.mem_cons_of_mem _ (List.mem_append_right _ h)
  have k_0 := hts (.fieldLink RX5 80 "LampChoiceModel" "code" "I") (by decide +kernel)
  have k_1 := hts (.fieldLink RX5 77 "LampChoiceModel" "lasted" "[I") (by decide +kernel)
  have k_2 := hts (.fieldLink RX5 74 "LampChoiceModel" "levels" "[I") (by decide +kernel)
  have hl := lv_entry ([.ref (ad 0), .int z1, .int z2]) (n := 3) (Nat.le_of_ble_eq_true rfl)
  rw [lg_entry_eq]
  generalize (lg_sl ([.ref (ad 0), .int z1, .int z2]) ++ List.replicate (3 - (lg_sl ([.ref (ad 0), .int z1, .int z2])).length) Slot.unset).toArray = ls at hl ⊢
  have hl : lv_has ls 3 [(0, .ref (ad 0)), (1, .int z1), (2, .int z2)] := hl
  have key : ∀ n : Nat, (∀ (v1 : Int32) (v2 : Int32) (u : St) (H : Heap) (locs : List Loc) (ls : Array Slot), fX5_own n 0 v1 v2 u = some r → va_P (dC, dI) vwCl (mw ad cI cL u) H → va_D A (mw ad cI cL u) → va_S A s.heap H locs → lv_has ls 3 [(0, .ref (ad 0)), (1, .int v1), (2, .int v2)] → W p l e (headSpec wsX5_own ({ frames := 3, cells := 0, slots := 0, locals := 65 })).room s m ([.ref (ad 0), .int z1, .int z2] : List Value).toArray below meth c H locs 0 0 (MQ below (va_Qi (fun a t => (a, t) = r) (fun t => wPost dC dI cI cL A (mw ad cI cL t)) A) ([.ref (ad 0), .int z1, .int z2] : List Value).toArray s 0 0 A) (F0 m 0 ls [])) := by
    intro n
    induction n with
    | zero => exact (fun _ _ _ _ _ _ hf => nomatch (show (none : Option (Int32 × St)) = some r from hf))
    | succ n ih =>
      have ih0 := ih
      · intro v1 v2 u H locs ls hf hP hD hS hl
        have hf := (eX5_own_0 n v1 v2 u).symm.trans hf
        refine lv_aload_n hx hb dX5_own_0 rfl (lv_at hl 0 rfl) ?_
        refine lv_aload_n hx hb dX5_own_1 rfl (lv_at hl 0 rfl) ?_
        refine lv_iload_n hx hb dX5_own_2 rfl (lv_at hl 1 rfl) ?_
        obtain ⟨w_1, hw_1, hf⟩ := ob hf
        have hFc := freeAll hD hS hA
        refine va_calli (va_runV (As := [.int v1]) (rest := [.ref (ad 0)]) ⟨hx, hb, hml, hown, hts⟩ (mX5_isPlace l dC dI cI cL ad H.size u v1 n w_1 hw_1) (cwV 1 hts gX5_own_X5_isPlace rfl rfl rfl (by decide +kernel) ⟨Nat.le_of_ble_eq_true rfl, Nat.le_of_ble_eq_true rfl⟩) ⟨wPre_blind, va_recv hK hP (ci := 5) (q0 := 0) rfl rfl, wPre_of hP hK hD hZ⟩ rfl rfl hl.1 rfl (lv_room (Nat.le_of_ble_eq_true rfl)) dX5_own_3 ⟨Nat.zero_le _, Nat.zero_le _⟩) hS (fun q _ h => hFc q h) hFc (fun r2 u2 t H1 locs ht hvm hw hB hz1 hk1 hS => ?_)
        obtain ⟨hP1, hK1, hD1⟩ := hB
        rw [ht] at hP1
        have e1 : r2 = w_1.1 := congrArg Prod.fst hw
        have e2 : u2 = w_1.2 := congrArg Prod.snd hw
        subst r2 u2
        have hP : va_P (dC, dI) vwCl (mw ad cI cL w_1.2) H1 := hP1
        have hD : va_D A (mw ad cI cL w_1.2) := hD1.weaken (fun _ _ _ h => hFc _ h)
        clear hP1 hD1 hK1 hFc hk1
        generalize H1 = H at hP hS ⊢
        refine lv_if_eq (tgt := 22) hx hb dX5_own_6 (by decide) (fun c_2 => ?_) (fun c_2 => ?_)
        · have hf := (if_pos c_2).symm.trans hf
          refine lv_iconst (v := 1) hx hb dX5_own_22 (by decide) ?_
          refine va_put (D := (dC, dI)) (ci := 5) (v := .int (1 : Int32)) (ty := .int) (C := RX5) (T := TX5) (N := 36) hx hb hts iX5 tyX5 tyX5_ok nmX5 hown hK hP hD hS 0 rfl rfl 0 (by decide) k_0 (fun _ h9 => h9) rfl (by decide +kernel) rfl rfl (Nat.le_of_ble_eq_true rfl) dX5_own_23 (fun H locs hP hD hS => ?_)
          have hP : va_P (dC, dI) vwCl (mw ad cI cL (sI w_1.2 0 (1 : Int32))) H := hP
          have hD : va_D A (mw ad cI cL (sI w_1.2 0 (1 : Int32))) := hD
          refine lv_aload_n hx hb dX5_own_26 rfl (lv_at hl 0 rfl) ?_
          refine va_get (D := (dC, dI)) (ci := 5) (v := .int ((1 : Int32))) (C := RX5) (T := TX5) (N := 36) hx hb hts iX5 hown hK hP 0 rfl rfl 0 (by decide) k_0 (fun _ h9 => h9) rfl dX5_own_27 ?_
          refine lv_if_le (tgt := 35) hx hb dX5_own_30 (by decide) (fun c_3 => ?_) (fun c_3 => ?_)
          · exact absurd c_3 (by decide)
          · refine lv_iconst (v := 0) hx hb dX5_own_33 (by decide) ?_
            have hf := Option.some.inj hf
            exact W.iret (v := (0 : Int32)) hx hb hr (fun t ht hW => ⟨⟨(0 : Int32), (sI w_1.2 0 (1 : Int32)), rfl, hf, ⟨by rw [ht]; exact hP, va_K.moved hW.alike hK, hD⟩⟩, hS.F ht⟩) hS.2.2 dX5_own_34
        · have hf := (if_neg c_2).symm.trans hf
          refine lv_iload_n hx hb dX5_own_9 rfl (lv_at hl 2 rfl) ?_
          refine lv_iconst (v := 0) hx hb dX5_own_10 (by decide) ?_
          refine lv_iconst (v := 1) hx hb dX5_own_11 (by decide) ?_
          obtain ⟨w_4, hw_4, hf⟩ := ob hf
          have hFc := freeNil hS hA
          refine va_calli (va_runS (As := [.int v2, .int (0 : Int32), .int (1 : Int32)]) (rest := [.ref (ad 0)]) ⟨hx, hb, hml, hown, hts⟩ (mX5_isIn l H.size v2 (0 : Int32) (1 : Int32) n w_4 hw_4) (va_cwS 3 hts gX5_own_X5_isIn rfl rfl rfl (by decide +kernel) ⟨Nat.le_of_ble_eq_true rfl, Nat.le_of_ble_eq_true rfl⟩) ⟨nPre_blind, nPre_of⟩ rfl rfl hl.1 rfl (lv_room (Nat.le_of_ble_eq_true rfl)) dX5_own_12 ⟨Nat.zero_le _, Nat.zero_le _⟩) hS (fun q _ h => hFc q h) hFc (fun r2 u2 t H1 locs ht hvm hw hB hz1 hk1 hS => ?_)
          subst r2
          have hP := keepP hP hk1
          clear hFc hk1 hB
          generalize H1 = H at hP hS ⊢
          refine lv_if_eq (tgt := 22) hx hb dX5_own_15 (by decide) (fun c_5 => ?_) (fun c_5 => ?_)
          · have hf := (if_pos c_5).symm.trans hf
            refine lv_iconst (v := 1) hx hb dX5_own_22 (by decide) ?_
            refine va_put (D := (dC, dI)) (ci := 5) (v := .int (1 : Int32)) (ty := .int) (C := RX5) (T := TX5) (N := 36) hx hb hts iX5 tyX5 tyX5_ok nmX5 hown hK hP hD hS 0 rfl rfl 0 (by decide) k_0 (fun _ h9 => h9) rfl (by decide +kernel) rfl rfl (Nat.le_of_ble_eq_true rfl) dX5_own_23 (fun H locs hP hD hS => ?_)
            have hP : va_P (dC, dI) vwCl (mw ad cI cL (sI w_1.2 0 (1 : Int32))) H := hP
            have hD : va_D A (mw ad cI cL (sI w_1.2 0 (1 : Int32))) := hD
            refine lv_aload_n hx hb dX5_own_26 rfl (lv_at hl 0 rfl) ?_
            refine va_get (D := (dC, dI)) (ci := 5) (v := .int ((1 : Int32))) (C := RX5) (T := TX5) (N := 36) hx hb hts iX5 hown hK hP 0 rfl rfl 0 (by decide) k_0 (fun _ h9 => h9) rfl dX5_own_27 ?_
            refine lv_if_le (tgt := 35) hx hb dX5_own_30 (by decide) (fun c_6 => ?_) (fun c_6 => ?_)
            · exact absurd c_6 (by decide)
            · refine lv_iconst (v := 0) hx hb dX5_own_33 (by decide) ?_
              have hf := Option.some.inj hf
              exact W.iret (v := (0 : Int32)) hx hb hr (fun t ht hW => ⟨⟨(0 : Int32), (sI w_1.2 0 (1 : Int32)), rfl, hf, ⟨by rw [ht]; exact hP, va_K.moved hW.alike hK, hD⟩⟩, hS.F ht⟩) hS.2.2 dX5_own_34
          · have hf := (if_neg c_5).symm.trans hf
            refine lv_iconst (v := 0) hx hb dX5_own_18 (by decide) ?_
            refine lv_goto (tgt := 23) hx hb dX5_own_19 (by decide) ?_
            refine va_put (D := (dC, dI)) (ci := 5) (v := .int (0 : Int32)) (ty := .int) (C := RX5) (T := TX5) (N := 36) hx hb hts iX5 tyX5 tyX5_ok nmX5 hown hK hP hD hS 0 rfl rfl 0 (by decide) k_0 (fun _ h9 => h9) rfl (by decide +kernel) rfl rfl (Nat.le_of_ble_eq_true rfl) dX5_own_23 (fun H locs hP hD hS => ?_)
            have hP : va_P (dC, dI) vwCl (mw ad cI cL (sI w_1.2 0 (0 : Int32))) H := hP
            have hD : va_D A (mw ad cI cL (sI w_1.2 0 (0 : Int32))) := hD
            refine lv_aload_n hx hb dX5_own_26 rfl (lv_at hl 0 rfl) ?_
            refine va_get (D := (dC, dI)) (ci := 5) (v := .int ((0 : Int32))) (C := RX5) (T := TX5) (N := 36) hx hb hts iX5 hown hK hP 0 rfl rfl 0 (by decide) k_0 (fun _ h9 => h9) rfl dX5_own_27 ?_
            refine lv_if_le (tgt := 35) hx hb dX5_own_30 (by decide) (fun c_7 => ?_) (fun c_7 => ?_)
            · refine lv_aload_n hx hb dX5_own_35 rfl (lv_at hl 0 rfl) ?_
              obtain ⟨w_8, hw_8, hf⟩ := ob hf
              have hFc := freeAll hD hS hA
              refine va_callv (va_runV (As := []) (rest := []) ⟨hx, hb, hml, hown, hts⟩ (mX5_findBest l dC dI cI cL ad H.size (sI w_1.2 0 (0 : Int32))  n w_8 hw_8) (cwV 0 hts gX5_own_X5_findBest rfl rfl rfl (by decide +kernel) ⟨Nat.le_of_ble_eq_true rfl, Nat.le_of_ble_eq_true rfl⟩) ⟨wPre_blind, va_recv hK hP (ci := 5) (q0 := 0) rfl rfl, wPre_of hP hK hD hZ⟩ rfl rfl hl.1 rfl (lv_room (Nat.le_of_ble_eq_true rfl)) dX5_own_36 ⟨Nat.zero_le _, Nat.zero_le _⟩) hS (fun q _ h => hFc q h) hFc (fun u2 t H1 locs ht hvm hw hB hz1 hk1 hS => ?_)
              obtain ⟨hP1, hK1, hD1⟩ := hB
              rw [ht] at hP1
              subst u2
              have hP : va_P (dC, dI) vwCl (mw ad cI cL w_8) H1 := hP1
              have hD : va_D A (mw ad cI cL w_8) := hD1.weaken (fun _ _ _ h => hFc _ h)
              clear hP1 hD1 hK1 hFc hk1
              generalize H1 = H at hP hS ⊢
              refine lv_aload_n hx hb dX5_own_39 rfl (lv_at hl 0 rfl) ?_
              refine lv_iload_n hx hb dX5_own_40 rfl (lv_at hl 1 rfl) ?_
              obtain ⟨w_9, hw_9, hf⟩ := ob hf
              have hFc := freeAll hD hS hA
              refine va_calli (va_runV (As := [.int v1]) (rest := []) ⟨hx, hb, hml, hown, hts⟩ (mX5_hasLamp l dC dI cI cL ad H.size w_8 v1 n w_9 hw_9) (cwV 1 hts gX5_own_X5_hasLamp rfl rfl rfl (by decide +kernel) ⟨Nat.le_of_ble_eq_true rfl, Nat.le_of_ble_eq_true rfl⟩) ⟨wPre_blind, va_recv hK hP (ci := 5) (q0 := 0) rfl rfl, wPre_of hP hK hD hZ⟩ rfl rfl hl.1 rfl (lv_room (Nat.le_of_ble_eq_true rfl)) dX5_own_41 ⟨Nat.zero_le _, Nat.zero_le _⟩) hS (fun q _ h => hFc q h) hFc (fun r2 u2 t H1 locs ht hvm hw hB hz1 hk1 hS => ?_)
              obtain ⟨hP1, hK1, hD1⟩ := hB
              rw [ht] at hP1
              have e1 : r2 = w_9.1 := congrArg Prod.fst hw
              have e2 : u2 = w_9.2 := congrArg Prod.snd hw
              subst r2 u2
              have hP : va_P (dC, dI) vwCl (mw ad cI cL w_9.2) H1 := hP1
              have hD : va_D A (mw ad cI cL w_9.2) := hD1.weaken (fun _ _ _ h => hFc _ h)
              clear hP1 hD1 hK1 hFc hk1
              generalize H1 = H at hP hS ⊢
              refine lv_if_ne (tgt := 51) hx hb dX5_own_44 (by decide) (fun c_10 => ?_) (fun c_10 => ?_)
              · have hf := (if_neg c_10).symm.trans hf
                refine lv_iload_n hx hb dX5_own_51 rfl (lv_at hl 2 rfl) ?_
                refine lv_if_ne (tgt := 64) hx hb dX5_own_52 (by decide) (fun c_11 => ?_) (fun c_11 => ?_)
                · have hf := (if_neg c_11).symm.trans hf
                  refine lv_aload_n hx hb dX5_own_64 rfl (lv_at hl 0 rfl) ?_
                  refine va_get (D := (dC, dI)) (ci := 5) (v := .ref (ad 21)) (C := RX5) (T := TX5) (N := 36) hx hb hts iX5 hown hK hP 0 rfl rfl 31 (by decide) k_1 (fun _ h9 => h9) rfl dX5_own_65 ?_
                  refine lv_iload_n hx hb dX5_own_68 rfl (lv_at hl 1 rfl) ?_
                  obtain ⟨h_12, hf⟩ := ck_of hf
                  refine va_iald (f := (gA w_9.2 20)) hx hb hK hP 21 0 rfl rfl h_12 dX5_own_69 ?_
                  have hf := Option.some.inj hf
                  exact W.iret (v := ((gA w_9.2 20) v1.toNatClampNeg)) hx hb hr (fun t ht hW => ⟨⟨((gA w_9.2 20) v1.toNatClampNeg), w_9.2, rfl, hf, ⟨by rw [ht]; exact hP, va_K.moved hW.alike hK, hD⟩⟩, hS.F ht⟩) hS.2.2 dX5_own_70
                · have hf := (if_pos c_11).symm.trans hf
                  refine lv_aload_n hx hb dX5_own_55 rfl (lv_at hl 0 rfl) ?_
                  refine va_get (D := (dC, dI)) (ci := 5) (v := .ref (ad 20)) (C := RX5) (T := TX5) (N := 36) hx hb hts iX5 hown hK hP 0 rfl rfl 30 (by decide) k_2 (fun _ h9 => h9) rfl dX5_own_56 ?_
                  refine lv_iload_n hx hb dX5_own_59 rfl (lv_at hl 1 rfl) ?_
                  obtain ⟨h_13, hf⟩ := ck_of hf
                  refine va_iald (f := (gA w_9.2 19)) hx hb hK hP 20 0 rfl rfl h_13 dX5_own_60 ?_
                  refine lv_goto (tgt := 70) hx hb dX5_own_61 (by decide) ?_
                  have hf := Option.some.inj hf
                  exact W.iret (v := ((gA w_9.2 19) v1.toNatClampNeg)) hx hb hr (fun t ht hW => ⟨⟨((gA w_9.2 19) v1.toNatClampNeg), w_9.2, rfl, hf, ⟨by rw [ht]; exact hP, va_K.moved hW.alike hK, hD⟩⟩, hS.F ht⟩) hS.2.2 dX5_own_70
              · have hf := (if_pos c_10).symm.trans hf
                refine lv_iconst (v := -1) hx hb dX5_own_47 (by decide) ?_
                refine lv_goto (tgt := 70) hx hb dX5_own_48 (by decide) ?_
                have hf := Option.some.inj hf
                exact W.iret (v := (-1 : Int32)) hx hb hr (fun t ht hW => ⟨⟨(-1 : Int32), w_9.2, rfl, hf, ⟨by rw [ht]; exact hP, va_K.moved hW.alike hK, hD⟩⟩, hS.F ht⟩) hS.2.2 dX5_own_70
            · exact absurd c_7 (by decide)
  exact (key n) z1 z2 u _ _ ls hf0 hP hD hS (lv_sub hl [0, 1, 2] rfl)

def fX5_used (n pc : Nat) (v1 : Int32) (u : St) : Option (Int64 × St) := match n with
  | 0 => none
  | n + 1 => match pc with
    | 0 => ((FX5_isIn n v1 (0 : Int32) (2 : Int32)).bind fun w_1 => (if w_1 = 0 then some ((0 : Int64), sI u 0 (1 : Int32)) else (if v1 = 0 then some ((gJ u 2), sI u 0 (0 : Int32)) else (if v1 = (1 : Int32) then some ((gJ u 3), sI u 0 (0 : Int32)) else some ((gJ u 4), sI u 0 (0 : Int32))))))
    | _ => none
theorem eX5_used_0 (n : Nat) (v1 : Int32) (u : St) : fX5_used (n + 1) 0 v1 u = ((FX5_isIn n v1 (0 : Int32) (2 : Int32)).bind fun w_1 => (if w_1 = 0 then some ((0 : Int64), sI u 0 (1 : Int32)) else (if v1 = 0 then some ((gJ u 2), sI u 0 (0 : Int32)) else (if v1 = (1 : Int32) then some ((gJ u 3), sI u 0 (0 : Int32)) else some ((gJ u 4), sI u 0 (0 : Int32)))))) := rfl
theorem vX5_used_0 (v1 : Int32) (u : St) (r : Int64 × St) : Ev (fun n => fX5_used n 0 v1 u) r ↔ Ev (fun n => ((FX5_isIn n v1 (0 : Int32) (2 : Int32)).bind fun w_1 => (if w_1 = 0 then some ((0 : Int64), sI u 0 (1 : Int32)) else (if v1 = 0 then some ((gJ u 2), sI u 0 (0 : Int32)) else (if v1 = (1 : Int32) then some ((gJ u 3), sI u 0 (0 : Int32)) else some ((gJ u 4), sI u 0 (0 : Int32))))))) r := Ev_succ (fun n => fX5_used n 0 v1 u) r
def FX5_used (n : Nat) (v1 : Int32) (u : St) : Option (Int64 × St) := fX5_used n 0 v1 u
set_option maxHeartbeats 4000000 in
set_option maxRecDepth 100000 in
theorem mX5_used (l : Launch) (dC : Nat → ClassId) (dI : Nat → Nat → Nat) (cI cL : ClassId) (ad : Nat → Nat) (sz : Nat) (u : St) (z1 : Int32) (n : Nat) (r : Int64 × St) (hf0 : FX5_used n z1 u = some r) : Met l yX5_used wsX5_used ({ frames := 1, cells := 0, slots := 0, locals := 22 }) (va_Pc [.ref (ad 0), .int z1] (wPre dC dI cI cL (mw ad cI cL u) sz)) (va_Ql (fun a t => (a, t) = r) (fun t => wPost dC dI cI cL (va_A (mw ad cI cL u) sz) (mw ad cI cL t)) (va_A (mw ad cI cL u) sz)) 0 0 (va_A (mw ad cI cL u) sz) := by
  refine Met.ofW (cc := cX5_used) (maxL := 2) (ret := (some .long)) (by decide) rfl ?_
  intro p e s m args below meth c s₁ B hml hv
  obtain ⟨rfl, hsz, hP, hK, hD0, hZ⟩ := hv
  have hx := B.exec
  have hb := B.bytes
  have hr := B.returns
  have hts := atoms_spec (ws := wsX5_used) B.pre
  have hown : s.vm.findClass RX5 = some m.cls := findClass_of_methodNamed B.named
  have hlocks := B.notSynchronized
  subst hsz
  have hD := hD0.self (sz := s.heap.size)
  generalize hAe : va_A (mw ad cI cL u) s.heap.size = A at hD ⊢
  have hA : ∀ q : Nat, s.heap.size ≤ q → A q := fun q h => by rw [← hAe]; exact Or.inr h
  have hS : va_S A s.heap s.heap [] := va_S.rf
  have iX5 : ∀ w ∈ u_ws RX5 TX5 36, w ∈ wsX5_used := fun _ h => List.mem_cons_of_mem _ (List.mem_append_right _ h)
  have k_0 := hts (.fieldLink RX5 80 "LampChoiceModel" "code" "I") (by decide +kernel)
  have k_1 := hts (.fieldLink RX5 176 "LampChoiceModel" "renewed" "J") (by decide +kernel)
  have k_2 := hts (.fieldLink RX5 173 "LampChoiceModel" "paid" "J") (by decide +kernel)
  have k_3 := hts (.fieldLink RX5 179 "LampChoiceModel" "energy" "J") (by decide +kernel)
  have hl := lv_entry ([.ref (ad 0), .int z1]) (n := 2) (Nat.le_of_ble_eq_true rfl)
  rw [lg_entry_eq]
  generalize (lg_sl ([.ref (ad 0), .int z1]) ++ List.replicate (2 - (lg_sl ([.ref (ad 0), .int z1])).length) Slot.unset).toArray = ls at hl ⊢
  have hl : lv_has ls 2 [(0, .ref (ad 0)), (1, .int z1)] := hl
  have key : ∀ n : Nat, (∀ (v1 : Int32) (u : St) (H : Heap) (locs : List Loc) (ls : Array Slot), fX5_used n 0 v1 u = some r → va_P (dC, dI) vwCl (mw ad cI cL u) H → va_D A (mw ad cI cL u) → va_S A s.heap H locs → lv_has ls 2 [(0, .ref (ad 0)), (1, .int v1)] → W p l e (headSpec wsX5_used ({ frames := 1, cells := 0, slots := 0, locals := 22 })).room s m ([.ref (ad 0), .int z1] : List Value).toArray below meth c H locs 0 0 (MQ below (va_Ql (fun a t => (a, t) = r) (fun t => wPost dC dI cI cL A (mw ad cI cL t)) A) ([.ref (ad 0), .int z1] : List Value).toArray s 0 0 A) (F0 m 0 ls [])) := by
    intro n
    induction n with
    | zero => exact (fun _ _ _ _ _ hf => nomatch (show (none : Option (Int64 × St)) = some r from hf))
    | succ n ih =>
      have ih0 := ih
      · intro v1 u H locs ls hf hP hD hS hl
        have hf := (eX5_used_0 n v1 u).symm.trans hf
        refine lv_aload_n hx hb dX5_used_0 rfl (lv_at hl 0 rfl) ?_
        refine lv_iload_n hx hb dX5_used_1 rfl (lv_at hl 1 rfl) ?_
        refine lv_iconst (v := 0) hx hb dX5_used_2 (by decide) ?_
        refine lv_iconst (v := 2) hx hb dX5_used_3 (by decide) ?_
        obtain ⟨w_1, hw_1, hf⟩ := ob hf
        have hFc := freeNil hS hA
        refine va_calli (va_runS (As := [.int v1, .int (0 : Int32), .int (2 : Int32)]) (rest := [.ref (ad 0)]) ⟨hx, hb, hml, hown, hts⟩ (mX5_isIn l H.size v1 (0 : Int32) (2 : Int32) n w_1 hw_1) (va_cwS 3 hts gX5_used_X5_isIn rfl rfl rfl (by decide +kernel) ⟨Nat.le_of_ble_eq_true rfl, Nat.le_of_ble_eq_true rfl⟩) ⟨nPre_blind, nPre_of⟩ rfl rfl hl.1 rfl (lv_room (Nat.le_of_ble_eq_true rfl)) dX5_used_4 ⟨Nat.zero_le _, Nat.zero_le _⟩) hS (fun q _ h => hFc q h) hFc (fun r2 u2 t H1 locs ht hvm hw hB hz1 hk1 hS => ?_)
        subst r2
        have hP := keepP hP hk1
        clear hFc hk1 hB
        generalize H1 = H at hP hS ⊢
        refine lv_if_eq (tgt := 14) hx hb dX5_used_7 (by decide) (fun c_2 => ?_) (fun c_2 => ?_)
        · have hf := (if_pos c_2).symm.trans hf
          refine lv_iconst (v := 1) hx hb dX5_used_14 (by decide) ?_
          refine va_put (D := (dC, dI)) (ci := 5) (v := .int (1 : Int32)) (ty := .int) (C := RX5) (T := TX5) (N := 36) hx hb hts iX5 tyX5 tyX5_ok nmX5 hown hK hP hD hS 0 rfl rfl 0 (by decide) k_0 (fun _ h9 => h9) rfl (by decide +kernel) rfl rfl (Nat.le_of_ble_eq_true rfl) dX5_used_15 (fun H locs hP hD hS => ?_)
          have hP : va_P (dC, dI) vwCl (mw ad cI cL (sI u 0 (1 : Int32))) H := hP
          have hD : va_D A (mw ad cI cL (sI u 0 (1 : Int32))) := hD
          refine lv_aload_n hx hb dX5_used_18 rfl (lv_at hl 0 rfl) ?_
          refine va_get (D := (dC, dI)) (ci := 5) (v := .int ((1 : Int32))) (C := RX5) (T := TX5) (N := 36) hx hb hts iX5 hown hK hP 0 rfl rfl 0 (by decide) k_0 (fun _ h9 => h9) rfl dX5_used_19 ?_
          refine lv_if_le (tgt := 29) hx hb dX5_used_22 (by decide) (fun c_3 => ?_) (fun c_3 => ?_)
          · exact absurd c_3 (by decide)
          · refine lv_lconst (v := 0) hx hb dX5_used_25 (by decide) ?_
            refine lv_goto (tgt := 56) hx hb dX5_used_26 (by decide) ?_
            have hf := Option.some.inj hf
            exact W.lret (v := (0 : Int64)) hx hb hr (fun t ht hW => ⟨⟨(0 : Int64), (sI u 0 (1 : Int32)), rfl, hf, ⟨by rw [ht]; exact hP, va_K.moved hW.alike hK, hD⟩⟩, hS.F ht⟩) hS.2.2 dX5_used_56
        · have hf := (if_neg c_2).symm.trans hf
          refine lv_iconst (v := 0) hx hb dX5_used_10 (by decide) ?_
          refine lv_goto (tgt := 15) hx hb dX5_used_11 (by decide) ?_
          refine va_put (D := (dC, dI)) (ci := 5) (v := .int (0 : Int32)) (ty := .int) (C := RX5) (T := TX5) (N := 36) hx hb hts iX5 tyX5 tyX5_ok nmX5 hown hK hP hD hS 0 rfl rfl 0 (by decide) k_0 (fun _ h9 => h9) rfl (by decide +kernel) rfl rfl (Nat.le_of_ble_eq_true rfl) dX5_used_15 (fun H locs hP hD hS => ?_)
          have hP : va_P (dC, dI) vwCl (mw ad cI cL (sI u 0 (0 : Int32))) H := hP
          have hD : va_D A (mw ad cI cL (sI u 0 (0 : Int32))) := hD
          refine lv_aload_n hx hb dX5_used_18 rfl (lv_at hl 0 rfl) ?_
          refine va_get (D := (dC, dI)) (ci := 5) (v := .int ((0 : Int32))) (C := RX5) (T := TX5) (N := 36) hx hb hts iX5 hown hK hP 0 rfl rfl 0 (by decide) k_0 (fun _ h9 => h9) rfl dX5_used_19 ?_
          refine lv_if_le (tgt := 29) hx hb dX5_used_22 (by decide) (fun c_4 => ?_) (fun c_4 => ?_)
          · refine lv_iload_n hx hb dX5_used_29 rfl (lv_at hl 1 rfl) ?_
            refine lv_if_ne (tgt := 40) hx hb dX5_used_30 (by decide) (fun c_5 => ?_) (fun c_5 => ?_)
            · have hf := (if_neg c_5).symm.trans hf
              refine lv_iload_n hx hb dX5_used_40 rfl (lv_at hl 1 rfl) ?_
              refine lv_iconst (v := 1) hx hb dX5_used_41 (by decide) ?_
              refine lv_icmp_ne (tgt := 52) hx hb dX5_used_42 (by decide) (fun c_6 => ?_) (fun c_6 => ?_)
              · have hf := (if_neg c_6).symm.trans hf
                refine lv_aload_n hx hb dX5_used_52 rfl (lv_at hl 0 rfl) ?_
                refine va_get (D := (dC, dI)) (ci := 5) (v := .long (gJ u 4)) (C := RX5) (T := TX5) (N := 36) hx hb hts iX5 hown hK hP 0 rfl rfl 35 (by decide) k_1 (fun _ h9 => h9) rfl dX5_used_53 ?_
                have hf := Option.some.inj hf
                exact W.lret (v := (gJ u 4)) hx hb hr (fun t ht hW => ⟨⟨(gJ u 4), (sI u 0 (0 : Int32)), rfl, hf, ⟨by rw [ht]; exact hP, va_K.moved hW.alike hK, hD⟩⟩, hS.F ht⟩) hS.2.2 dX5_used_56
              · have hf := (if_pos c_6).symm.trans hf
                refine lv_aload_n hx hb dX5_used_45 rfl (lv_at hl 0 rfl) ?_
                refine va_get (D := (dC, dI)) (ci := 5) (v := .long (gJ u 3)) (C := RX5) (T := TX5) (N := 36) hx hb hts iX5 hown hK hP 0 rfl rfl 34 (by decide) k_2 (fun _ h9 => h9) rfl dX5_used_46 ?_
                refine lv_goto (tgt := 56) hx hb dX5_used_49 (by decide) ?_
                have hf := Option.some.inj hf
                exact W.lret (v := (gJ u 3)) hx hb hr (fun t ht hW => ⟨⟨(gJ u 3), (sI u 0 (0 : Int32)), rfl, hf, ⟨by rw [ht]; exact hP, va_K.moved hW.alike hK, hD⟩⟩, hS.F ht⟩) hS.2.2 dX5_used_56
            · have hf := (if_pos c_5).symm.trans hf
              refine lv_aload_n hx hb dX5_used_33 rfl (lv_at hl 0 rfl) ?_
              refine va_get (D := (dC, dI)) (ci := 5) (v := .long (gJ u 2)) (C := RX5) (T := TX5) (N := 36) hx hb hts iX5 hown hK hP 0 rfl rfl 33 (by decide) k_3 (fun _ h9 => h9) rfl dX5_used_34 ?_
              refine lv_goto (tgt := 56) hx hb dX5_used_37 (by decide) ?_
              have hf := Option.some.inj hf
              exact W.lret (v := (gJ u 2)) hx hb hr (fun t ht hW => ⟨⟨(gJ u 2), (sI u 0 (0 : Int32)), rfl, hf, ⟨by rw [ht]; exact hP, va_K.moved hW.alike hK, hD⟩⟩, hS.F ht⟩) hS.2.2 dX5_used_56
          · exact absurd c_4 (by decide)
  exact (key n) z1 u _ _ ls hf0 hP hD hS (lv_sub hl [0, 1] rfl)

def fX5_thrown (n pc : Nat) (u : St) : Option (Int32 × St) := match n with
  | 0 => none
  | n + 1 => match pc with
    | 0 => some ((gI u 0), u)
    | _ => none
theorem eX5_thrown_0 (n : Nat) (u : St) : fX5_thrown (n + 1) 0  u = some ((gI u 0), u) := rfl
theorem vX5_thrown_0 (u : St) (r : Int32 × St) : Ev (fun n => fX5_thrown n 0  u) r ↔ Ev (fun n => some ((gI u 0), u)) r := Ev_succ (fun n => fX5_thrown n 0  u) r
def FX5_thrown (n : Nat) (u : St) : Option (Int32 × St) := fX5_thrown n 0  u
set_option maxHeartbeats 4000000 in
set_option maxRecDepth 100000 in
theorem mX5_thrown (l : Launch) (dC : Nat → ClassId) (dI : Nat → Nat → Nat) (cI cL : ClassId) (ad : Nat → Nat) (sz : Nat) (u : St) (n : Nat) (r : Int32 × St) (hf0 : FX5_thrown n  u = some r) : Met l yX5_thrown wsX5_thrown ({ frames := 0, cells := 0, slots := 0, locals := 0 }) (va_Pc [.ref (ad 0)] (wPre dC dI cI cL (mw ad cI cL u) sz)) (va_Qi (fun a t => (a, t) = r) (fun t => wPost dC dI cI cL (va_A (mw ad cI cL u) sz) (mw ad cI cL t)) (va_A (mw ad cI cL u) sz)) 0 0 (va_A (mw ad cI cL u) sz) := by
  refine Met.ofW (cc := cX5_thrown) (maxL := 1) (ret := (some .int)) (by decide) rfl ?_
  intro p e s m args below meth c s₁ B hml hv
  obtain ⟨rfl, hsz, hP, hK, hD0, hZ⟩ := hv
  have hx := B.exec
  have hb := B.bytes
  have hr := B.returns
  have hts := atoms_spec (ws := wsX5_thrown) B.pre
  have hown : s.vm.findClass RX5 = some m.cls := findClass_of_methodNamed B.named
  have hlocks := B.notSynchronized
  subst hsz
  have hD := hD0.self (sz := s.heap.size)
  generalize hAe : va_A (mw ad cI cL u) s.heap.size = A at hD ⊢
  have hA : ∀ q : Nat, s.heap.size ≤ q → A q := fun q h => by rw [← hAe]; exact Or.inr h
  have hS : va_S A s.heap s.heap [] := va_S.rf
  have iX5 : ∀ w ∈ u_ws RX5 TX5 36, w ∈ wsX5_thrown := fun _ h => List.mem_cons_of_mem _ (List.mem_append_right _ h)
  have k_0 := hts (.fieldLink RX5 80 "LampChoiceModel" "code" "I") (by decide +kernel)
  have hl := lv_entry ([.ref (ad 0)]) (n := 1) (Nat.le_of_ble_eq_true rfl)
  rw [lg_entry_eq]
  generalize (lg_sl ([.ref (ad 0)]) ++ List.replicate (1 - (lg_sl ([.ref (ad 0)])).length) Slot.unset).toArray = ls at hl ⊢
  have hl : lv_has ls 1 [(0, .ref (ad 0))] := hl
  have key : ∀ n : Nat, (∀ (u : St) (H : Heap) (locs : List Loc) (ls : Array Slot), fX5_thrown n 0  u = some r → va_P (dC, dI) vwCl (mw ad cI cL u) H → va_D A (mw ad cI cL u) → va_S A s.heap H locs → lv_has ls 1 [(0, .ref (ad 0))] → W p l e (headSpec wsX5_thrown ({ frames := 0, cells := 0, slots := 0, locals := 0 })).room s m ([.ref (ad 0)] : List Value).toArray below meth c H locs 0 0 (MQ below (va_Qi (fun a t => (a, t) = r) (fun t => wPost dC dI cI cL A (mw ad cI cL t)) A) ([.ref (ad 0)] : List Value).toArray s 0 0 A) (F0 m 0 ls [])) := by
    intro n
    induction n with
    | zero => exact (fun _ _ _ _ hf => nomatch (show (none : Option (Int32 × St)) = some r from hf))
    | succ n ih =>
      have ih0 := ih
      · intro  u H locs ls hf hP hD hS hl
        have hf := (eX5_thrown_0 n  u).symm.trans hf
        refine lv_aload_n hx hb dX5_thrown_0 rfl (lv_at hl 0 rfl) ?_
        refine va_get (D := (dC, dI)) (ci := 5) (v := .int (gI u 0)) (C := RX5) (T := TX5) (N := 36) hx hb hts iX5 hown hK hP 0 rfl rfl 0 (by decide) k_0 (fun _ h9 => h9) rfl dX5_thrown_1 ?_
        have hf := Option.some.inj hf
        exact W.iret (v := (gI u 0)) hx hb hr (fun t ht hW => ⟨⟨(gI u 0), u, rfl, hf, ⟨by rw [ht]; exact hP, va_K.moved hW.alike hK, hD⟩⟩, hS.F ht⟩) hS.2.2 dX5_thrown_4
  exact (key n)  u _ _ ls hf0 hP hD hS (lv_sub hl [0] rfl)

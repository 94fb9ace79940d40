def fX0_tryFrom (rec : Nat → Int32 → Int32 → St → Option (St)) (n pc : Nat) (v1 : Int32) (v2 : Int32) (v3 : Int32) (v4 : Int32) (u : St) : Option (St) := match n with
  | 0 => none
  | n + 1 => match pc with
    | 0 => (if v1 < (gI u 1) then fX0_tryFrom rec n 19 v1 v2 (-1 : Int32) 0 u else ((FX0_weigh n v2 u).bind fun w_2 => some w_2))
    | 19 => (if (gI u 0) ≤ v3 then some u else ((FX2_wattsOf n v3 u).bind fun w_4 => ((FX2_mayHave n v1 v3 w_4.2).bind fun w_5 => (if w_5.1 = 0 then fX0_tryFrom rec n 19 v1 v2 (v3 + 1) 0 w_5.2 else (if (gI w_5.2 5) = 0 then fX0_tryFrom rec n 70 v1 v2 v3 (v2 + w_4.1) w_5.2 else (if (gI w_5.2 4) < (v2 + w_4.1) then fX0_tryFrom rec n 19 v1 v2 (v3 + 1) 0 w_5.2 else fX0_tryFrom rec n 70 v1 v2 v3 (v2 + w_4.1) w_5.2))))))
    | 70 => (if ck v1 7 = true then ((FX0_gather n v1 v3 (sA u 13 (upd (gA u 13) v1.toNatClampNeg v3))).bind fun w_10 => ((FX0_canBecomeEnough n (v1 + (1 : Int32)) w_10).bind fun w_11 => (if w_11.1 = 0 then fX0_tryFrom rec n 19 v1 v2 (v3 + 1) 0 w_11.2 else ((rec n (v1 + (1 : Int32)) v4 w_11.2).bind fun w_13 => fX0_tryFrom rec n 19 v1 v2 (v3 + 1) 0 w_13)))) else none)
    | _ => none
theorem eX0_tryFrom_0 (rec : Nat → Int32 → Int32 → St → Option (St)) (n : Nat) (v1 : Int32) (v2 : Int32) (v3 : Int32) (v4 : Int32) (u : St) : fX0_tryFrom rec (n + 1) 0 v1 v2 v3 v4 u = (if v1 < (gI u 1) then fX0_tryFrom rec n 19 v1 v2 (-1 : Int32) 0 u else ((FX0_weigh n v2 u).bind fun w_2 => some w_2)) := rfl
theorem eX0_tryFrom_19 (rec : Nat → Int32 → Int32 → St → Option (St)) (n : Nat) (v1 : Int32) (v2 : Int32) (v3 : Int32) (v4 : Int32) (u : St) : fX0_tryFrom rec (n + 1) 19 v1 v2 v3 v4 u = (if (gI u 0) ≤ v3 then some u else ((FX2_wattsOf n v3 u).bind fun w_4 => ((FX2_mayHave n v1 v3 w_4.2).bind fun w_5 => (if w_5.1 = 0 then fX0_tryFrom rec n 19 v1 v2 (v3 + 1) 0 w_5.2 else (if (gI w_5.2 5) = 0 then fX0_tryFrom rec n 70 v1 v2 v3 (v2 + w_4.1) w_5.2 else (if (gI w_5.2 4) < (v2 + w_4.1) then fX0_tryFrom rec n 19 v1 v2 (v3 + 1) 0 w_5.2 else fX0_tryFrom rec n 70 v1 v2 v3 (v2 + w_4.1) w_5.2)))))) := rfl
theorem eX0_tryFrom_70 (rec : Nat → Int32 → Int32 → St → Option (St)) (n : Nat) (v1 : Int32) (v2 : Int32) (v3 : Int32) (v4 : Int32) (u : St) : fX0_tryFrom rec (n + 1) 70 v1 v2 v3 v4 u = (if ck v1 7 = true then ((FX0_gather n v1 v3 (sA u 13 (upd (gA u 13) v1.toNatClampNeg v3))).bind fun w_10 => ((FX0_canBecomeEnough n (v1 + (1 : Int32)) w_10).bind fun w_11 => (if w_11.1 = 0 then fX0_tryFrom rec n 19 v1 v2 (v3 + 1) 0 w_11.2 else ((rec n (v1 + (1 : Int32)) v4 w_11.2).bind fun w_13 => fX0_tryFrom rec n 19 v1 v2 (v3 + 1) 0 w_13)))) else none) := rfl
theorem vX0_tryFrom_0 (rec : Nat → Int32 → Int32 → St → Option (St)) (v1 : Int32) (v2 : Int32) (v3 : Int32) (v4 : Int32) (u : St) (r : St) : Ev (fun n => fX0_tryFrom rec n 0 v1 v2 v3 v4 u) r ↔ Ev (fun n => (if v1 < (gI u 1) then fX0_tryFrom rec n 19 v1 v2 (-1 : Int32) 0 u else ((FX0_weigh n v2 u).bind fun w_2 => some w_2))) r := Ev_succ (fun n => fX0_tryFrom rec n 0 v1 v2 v3 v4 u) r
theorem vX0_tryFrom_19 (rec : Nat → Int32 → Int32 → St → Option (St)) (v1 : Int32) (v2 : Int32) (v3 : Int32) (v4 : Int32) (u : St) (r : St) : Ev (fun n => fX0_tryFrom rec n 19 v1 v2 v3 v4 u) r ↔ Ev (fun n => (if (gI u 0) ≤ v3 then some u else ((FX2_wattsOf n v3 u).bind fun w_4 => ((FX2_mayHave n v1 v3 w_4.2).bind fun w_5 => (if w_5.1 = 0 then fX0_tryFrom rec n 19 v1 v2 (v3 + 1) 0 w_5.2 else (if (gI w_5.2 5) = 0 then fX0_tryFrom rec n 70 v1 v2 v3 (v2 + w_4.1) w_5.2 else (if (gI w_5.2 4) < (v2 + w_4.1) then fX0_tryFrom rec n 19 v1 v2 (v3 + 1) 0 w_5.2 else fX0_tryFrom rec n 70 v1 v2 v3 (v2 + w_4.1) w_5.2))))))) r := Ev_succ (fun n => fX0_tryFrom rec n 19 v1 v2 v3 v4 u) r
theorem vX0_tryFrom_70 (rec : Nat → Int32 → Int32 → St → Option (St)) (v1 : Int32) (v2 : Int32) (v3 : Int32) (v4 : Int32) (u : St) (r : St) : Ev (fun n => fX0_tryFrom rec n 70 v1 v2 v3 v4 u) r ↔ Ev (fun n => (if ck v1 7 = true then ((FX0_gather n v1 v3 (sA u 13 (upd (gA u 13) v1.toNatClampNeg v3))).bind fun w_10 => ((FX0_canBecomeEnough n (v1 + (1 : Int32)) w_10).bind fun w_11 => (if w_11.1 = 0 then fX0_tryFrom rec n 19 v1 v2 (v3 + 1) 0 w_11.2 else ((rec n (v1 + (1 : Int32)) v4 w_11.2).bind fun w_13 => fX0_tryFrom rec n 19 v1 v2 (v3 + 1) 0 w_13)))) else none)) r := Ev_succ (fun n => fX0_tryFrom rec n 70 v1 v2 v3 v4 u) r
def FX0_tryFrom (d n : Nat) (v1 : Int32) (v2 : Int32) (u : St) : Option (St) := match d with
  | 0 => none
  | d + 1 => fX0_tryFrom (fun n v1 v2 u => FX0_tryFrom d n v1 v2 u) n 0 v1 v2 0 0 u
set_option maxHeartbeats 4000000 in
set_option maxRecDepth 100000 in
theorem mX0_tryFrom (l : Launch) (dC : Nat → ClassId) (dI : Nat → Nat → Nat) (cI cL : ClassId) (ad : Nat → Nat) : ∀ (d sz : Nat) (u : St) (z1 : Int32) (z2 : Int32) (n : Nat) (r : St) (hf0 : FX0_tryFrom d n z1 z2 u = some r), Met l yX0_tryFrom wsX0_tryFrom ({ frames := 2 + d, cells := 0, slots := 0, locals := 87 + 24 * d }) (va_Pc [.ref (ad 2), .int z1, .int z2] (wPre dC dI cI cL (cw ad cI cL u) sz)) (va_Qv (fun t => t = r) (fun t => wPost dC dI cI cL (va_A (cw ad cI cL u) sz) (cw ad cI cL t)) (va_A (cw ad cI cL u) sz)) 0 0 (va_A (cw ad cI cL u) sz) := by
  intro d
  induction d with
  | zero => exact fun _ _ _ _ _ _ hf => nomatch (show (none : Option (St)) = some _ from hf)
  | succ d hrec =>
  intro sz u z1 z2 n r hf0
  generalize hre : (fun n z1 z2 u => FX0_tryFrom d n z1 z2 u) = rec
  have hf0 : fX0_tryFrom rec n 0 z1 z2 0 0 u = some r := by rw [← hre]; exact hf0
  have hrec := fun sz u z1 z2 n r (h : rec n z1 z2 u = some r) => hrec sz u z1 z2 n r (by rw [← hre] at h; exact h)
  refine Met.ofW (cc := cX0_tryFrom) (maxL := 5) (ret := none) (by decide) rfl ?_
  intro p e s m args below meth c s₁ B hml hv
  obtain ⟨rfl, hsz, hP, hK, hD0, hZ⟩ := hv
  have hx := B.exec
  have hb := B.bytes
  have hr := B.returns
  have hts := atoms_spec (ws := wsX0_tryFrom) B.pre
  have hown : s.vm.findClass RX0 = some m.cls := findClass_of_methodNamed B.named
  have hlocks := B.notSynchronized
  subst hsz
  have hD := hD0.self (sz := s.heap.size)
  generalize hAe : va_A (cw ad cI cL u) s.heap.size = A at hD ⊢
  have hA : ∀ q : Nat, s.heap.size ≤ q → A q := fun q h => by rw [← hAe]; exact Or.inr h
  have hS : va_S A s.heap s.heap [] := va_S.rf
  have iX0 : ∀ w ∈ u_ws RX0 TX0 12, w ∈ wsX0_tryFrom := fun _ h => List.mem_cons_of_mem _ (List.mem_append_left _ (List.mem_append_right _ h))
  have iX2 : ∀ w ∈ u_ws RX2 TX2 14, w ∈ wsX0_tryFrom := fun _ h => List.mem_cons_of_mem _ (List.mem_append_right _ h)
  have k_0 := hts (.fieldLink RX0 30 "LampChoice$Choice" "room" "LLampChoice$Room;") (by decide +kernel)
  have k_1 := hts (.fieldLink RX0 65 "LampChoice$Room" "places" "I") (by decide +kernel)
  have k_2 := hts (.fieldLink RX0 88 "LampChoice$Room" "kinds" "I") (by decide +kernel)
  have k_3 := hts (.fieldLink RX0 38 "LampChoice$Choice" "found" "Z") (by decide +kernel)
  have k_4 := hts (.fieldLink RX0 115 "LampChoice$Choice" "watts" "I") (by decide +kernel)
  have k_5 := hts (.fieldLink RX0 21 "LampChoice$Choice" "tried" "[I") (by decide +kernel)
  have hl := lv_entry ([.ref (ad 2), .int z1, .int z2]) (n := 5) (Nat.le_of_ble_eq_true rfl)
  rw [lg_entry_eq]
  generalize (lg_sl ([.ref (ad 2), .int z1, .int z2]) ++ List.replicate (5 - (lg_sl ([.ref (ad 2), .int z1, .int z2])).length) Slot.unset).toArray = ls at hl ⊢
  have hl : lv_has ls 5 [(0, .ref (ad 2)), (1, .int z1), (2, .int z2)] := hl
  have key : ∀ n : Nat, (∀ (v1 : Int32) (v2 : Int32) (v3 : Int32) (v4 : Int32) (u : St) (H : Heap) (locs : List Loc) (ls : Array Slot), fX0_tryFrom rec n 0 v1 v2 v3 v4 u = some r → va_P (dC, dI) vwCl (cw ad cI cL u) H → va_D A (cw ad cI cL u) → va_S A s.heap H locs → lv_has ls 5 [(0, .ref (ad 2)), (1, .int v1), (2, .int v2)] → W p l e (headSpec wsX0_tryFrom ({ frames := 2 + (d + 1), cells := 0, slots := 0, locals := 87 + 24 * (d + 1) })).room s m ([.ref (ad 2), .int z1, .int z2] : List Value).toArray below meth c H locs 0 0 (MQ below (va_Qv (fun t => t = r) (fun t => wPost dC dI cI cL A (cw ad cI cL t)) A) ([.ref (ad 2), .int z1, .int z2] : List Value).toArray s 0 0 A) (F0 m 0 ls [])) ∧ (∀ (v1 : Int32) (v2 : Int32) (v3 : Int32) (v4 : Int32) (u : St) (H : Heap) (locs : List Loc) (ls : Array Slot), fX0_tryFrom rec n 19 v1 v2 v3 v4 u = some r → va_P (dC, dI) vwCl (cw ad cI cL u) H → va_D A (cw ad cI cL u) → va_S A s.heap H locs → lv_has ls 5 [(0, .ref (ad 2)), (1, .int v1), (2, .int v2), (3, .int v3)] → W p l e (headSpec wsX0_tryFrom ({ frames := 2 + (d + 1), cells := 0, slots := 0, locals := 87 + 24 * (d + 1) })).room s m ([.ref (ad 2), .int z1, .int z2] : List Value).toArray below meth c H locs 0 0 (MQ below (va_Qv (fun t => t = r) (fun t => wPost dC dI cI cL A (cw ad cI cL t)) A) ([.ref (ad 2), .int z1, .int z2] : List Value).toArray s 0 0 A) (F0 m 19 ls [])) ∧ (∀ (v1 : Int32) (v2 : Int32) (v3 : Int32) (v4 : Int32) (u : St) (H : Heap) (locs : List Loc) (ls : Array Slot), fX0_tryFrom rec n 70 v1 v2 v3 v4 u = some r → va_P (dC, dI) vwCl (cw ad cI cL u) H → va_D A (cw ad cI cL u) → va_S A s.heap H locs → lv_has ls 5 [(0, .ref (ad 2)), (1, .int v1), (2, .int v2), (3, .int v3), (4, .int v4)] → W p l e (headSpec wsX0_tryFrom ({ frames := 2 + (d + 1), cells := 0, slots := 0, locals := 87 + 24 * (d + 1) })).room s m ([.ref (ad 2), .int z1, .int z2] : List Value).toArray below meth c H locs 0 0 (MQ below (va_Qv (fun t => t = r) (fun t => wPost dC dI cI cL A (cw ad cI cL t)) A) ([.ref (ad 2), .int z1, .int z2] : List Value).toArray s 0 0 A) (F0 m 70 ls [])) := by
    intro n
    induction n with
    | zero => exact ⟨(fun _ _ _ _ _ _ _ _ hf => nomatch (show (none : Option (St)) = some r from hf)), (fun _ _ _ _ _ _ _ _ hf => nomatch (show (none : Option (St)) = some r from hf)), (fun _ _ _ _ _ _ _ _ hf => nomatch (show (none : Option (St)) = some r from hf))⟩
    | succ n ih =>
      obtain ⟨ih0, ih1, ih2⟩ := ih
      refine ⟨?_, ?_, ?_⟩
      · intro v1 v2 v3 v4 u H locs ls hf hP hD hS hl
        have hf := (eX0_tryFrom_0 rec n v1 v2 v3 v4 u).symm.trans hf
        refine lv_iload_n hx hb dX0_tryFrom_0 rfl (lv_at hl 1 rfl) ?_
        refine lv_aload_n hx hb dX0_tryFrom_1 rfl (lv_at hl 0 rfl) ?_
        refine va_get (D := (dC, dI)) (ci := 0) (v := .ref (ad 1)) (C := RX0) (T := TX0) (N := 12) hx hb hts iX0 hown hK hP 2 rfl rfl 0 (by decide) k_0 (fun _ h9 => h9) rfl dX0_tryFrom_2 ?_
        refine va_get (D := (dC, dI)) (ci := 2) (v := .int (gI u 1)) (C := RX2) (T := TX2) (N := 14) hx hb hts iX2 hown hK hP 1 rfl rfl 11 (by decide) k_1 (fun _ h9 => h9) rfl dX0_tryFrom_5 ?_
        refine lv_icmp_lt (tgt := 17) hx hb dX0_tryFrom_8 (by decide) (fun c_1 => ?_) (fun c_1 => ?_)
        · have hf := (if_pos c_1).symm.trans hf
          refine lv_iconst (v := -1) hx hb dX0_tryFrom_17 (by decide) ?_
          refine lv_istore_n (lv' := [(3, .int (-1 : Int32)), (0, .ref (ad 2)), (1, .int v1), (2, .int v2)]) hx hb dX0_tryFrom_18 rfl hl (by decide) rfl (fun ls hl => ?_)
          exact ih1 v1 v2 (-1 : Int32) 0 u H locs ls hf hP hD hS (lv_sub hl [1, 2, 3, 0] rfl)
        · have hf := (if_neg c_1).symm.trans hf
          refine lv_aload_n hx hb dX0_tryFrom_11 rfl (lv_at hl 0 rfl) ?_
          refine lv_iload_n hx hb dX0_tryFrom_12 rfl (lv_at hl 2 rfl) ?_
          obtain ⟨w_2, hw_2, hf⟩ := ob hf
          have hFc := freeAll hD hS hA
          refine va_callv (va_runV (As := [.int v2]) (rest := []) ⟨hx, hb, hml, hown, hts⟩ (mX0_weigh l dC dI cI cL ad H.size u v2 n w_2 hw_2) (cwV 1 hts gX0_tryFrom_X0_weigh rfl rfl rfl (by decide +kernel) ⟨show 1 + 1 ≤ 2 + (d + 1) from by omega, show 8 + (8 + 11) + 60 ≤ 87 + 24 * (d + 1) from by omega⟩) ⟨wPre_blind, va_recv hK hP (ci := 0) (q0 := 2) rfl rfl, wPre_of hP hK hD hZ⟩ rfl rfl hl.1 rfl (lv_room (Nat.le_of_ble_eq_true rfl)) dX0_tryFrom_13 ⟨Nat.zero_le _, Nat.zero_le _⟩) hS (fun q _ h => hFc q h) hFc (fun u2 t H1 locs ht hvm hw hB hz1 hk1 hS => ?_)
          obtain ⟨hP1, hK1, hD1⟩ := hB
          rw [ht] at hP1
          subst u2
          have hP : va_P (dC, dI) vwCl (cw ad cI cL w_2) H1 := hP1
          have hD : va_D A (cw ad cI cL w_2) := hD1.weaken (fun _ _ _ h => hFc _ h)
          clear hP1 hD1 hK1 hFc hk1
          generalize H1 = H at hP hS ⊢
          have hf := Option.some.inj hf
          exact W.vret hx hb hr (fun t ht hW => ⟨⟨w_2, rfl, hf, ⟨by rw [ht]; exact hP, va_K.moved hW.alike hK, hD⟩⟩, hS.F ht⟩) hS.2.2 dX0_tryFrom_16
      · intro v1 v2 v3 v4 u H locs ls hf hP hD hS hl
        have hf := (eX0_tryFrom_19 rec n v1 v2 v3 v4 u).symm.trans hf
        refine lv_iload_n hx hb dX0_tryFrom_19 rfl (lv_at hl 3 rfl) ?_
        refine lv_aload_n hx hb dX0_tryFrom_20 rfl (lv_at hl 0 rfl) ?_
        refine va_get (D := (dC, dI)) (ci := 0) (v := .ref (ad 1)) (C := RX0) (T := TX0) (N := 12) hx hb hts iX0 hown hK hP 2 rfl rfl 0 (by decide) k_0 (fun _ h9 => h9) rfl dX0_tryFrom_21 ?_
        refine va_get (D := (dC, dI)) (ci := 2) (v := .int (gI u 0)) (C := RX2) (T := TX2) (N := 14) hx hb hts iX2 hown hK hP 1 rfl rfl 10 (by decide) k_2 (fun _ h9 => h9) rfl dX0_tryFrom_24 ?_
        refine lv_icmp_ge (tgt := 108) hx hb dX0_tryFrom_27 (by decide) (fun c_3 => ?_) (fun c_3 => ?_)
        · have hf := (if_pos c_3).symm.trans hf
          have hf := Option.some.inj hf
          exact W.vret hx hb hr (fun t ht hW => ⟨⟨u, rfl, hf, ⟨by rw [ht]; exact hP, va_K.moved hW.alike hK, hD⟩⟩, hS.F ht⟩) hS.2.2 dX0_tryFrom_108
        · have hf := (if_neg c_3).symm.trans hf
          refine lv_iload_n hx hb dX0_tryFrom_30 rfl (lv_at hl 2 rfl) ?_
          refine lv_aload_n hx hb dX0_tryFrom_31 rfl (lv_at hl 0 rfl) ?_
          refine va_get (D := (dC, dI)) (ci := 0) (v := .ref (ad 1)) (C := RX0) (T := TX0) (N := 12) hx hb hts iX0 hown hK hP 2 rfl rfl 0 (by decide) k_0 (fun _ h9 => h9) rfl dX0_tryFrom_32 ?_
          refine lv_iload_n hx hb dX0_tryFrom_35 rfl (lv_at hl 3 rfl) ?_
          obtain ⟨w_4, hw_4, hf⟩ := ob hf
          have hFc := freeAll hD hS hA
          refine va_calli (va_runV (As := [.int v3]) (rest := [.int v2]) ⟨hx, hb, hml, hown, hts⟩ (mX2_wattsOf l dC dI cI cL ad H.size u v3 n w_4 hw_4) (cwV 1 hts gX0_tryFrom_X2_wattsOf rfl rfl rfl (by decide +kernel) ⟨show 0 + 1 ≤ 2 + (d + 1) from by omega, show 8 + (2 + 11) + 0 ≤ 87 + 24 * (d + 1) from by omega⟩) ⟨wPre_blind, va_recv hK hP (ci := 2) (q0 := 1) rfl rfl, wPre_of hP hK hD hZ⟩ rfl rfl hl.1 rfl (lv_room (Nat.le_of_ble_eq_true rfl)) dX0_tryFrom_36 ⟨Nat.zero_le _, Nat.zero_le _⟩) hS (fun q _ h => hFc q h) hFc (fun r2 u2 t H1 locs ht hvm hw hB hz1 hk1 hS => ?_)
          obtain ⟨hP1, hK1, hD1⟩ := hB
          rw [ht] at hP1
          have e1 : r2 = w_4.1 := congrArg Prod.fst hw
          have e2 : u2 = w_4.2 := congrArg Prod.snd hw
          subst r2 u2
          have hP : va_P (dC, dI) vwCl (cw ad cI cL w_4.2) H1 := hP1
          have hD : va_D A (cw ad cI cL w_4.2) := hD1.weaken (fun _ _ _ h => hFc _ h)
          clear hP1 hD1 hK1 hFc hk1
          generalize H1 = H at hP hS ⊢
          refine lv_iadd hx hb dX0_tryFrom_39 ?_
          refine lv_istore (lv' := [(4, .int (v2 + w_4.1)), (0, .ref (ad 2)), (1, .int v1), (2, .int v2), (3, .int v3)]) hx hb dX0_tryFrom_40 hl (by decide) rfl (fun ls hl => ?_)
          refine lv_aload_n hx hb dX0_tryFrom_42 rfl (lv_at hl 1 rfl) ?_
          refine va_get (D := (dC, dI)) (ci := 0) (v := .ref (ad 1)) (C := RX0) (T := TX0) (N := 12) hx hb hts iX0 hown hK hP 2 rfl rfl 0 (by decide) k_0 (fun _ h9 => h9) rfl dX0_tryFrom_43 ?_
          refine lv_iload_n hx hb dX0_tryFrom_46 rfl (lv_at hl 2 rfl) ?_
          refine lv_iload_n hx hb dX0_tryFrom_47 rfl (lv_at hl 4 rfl) ?_
          obtain ⟨w_5, hw_5, hf⟩ := ob hf
          have hFc := freeAll hD hS hA
          refine va_calli (va_runV (As := [.int v1, .int v3]) (rest := []) ⟨hx, hb, hml, hown, hts⟩ (mX2_mayHave l dC dI cI cL ad H.size w_4.2 v1 v3 n w_5 hw_5) (cwV 2 hts gX0_tryFrom_X2_mayHave rfl rfl rfl (by decide +kernel) ⟨show 0 + 1 ≤ 2 + (d + 1) from by omega, show 8 + (3 + 11) + 0 ≤ 87 + 24 * (d + 1) from by omega⟩) ⟨wPre_blind, va_recv hK hP (ci := 2) (q0 := 1) rfl rfl, wPre_of hP hK hD hZ⟩ rfl rfl hl.1 rfl (lv_room (Nat.le_of_ble_eq_true rfl)) dX0_tryFrom_48 ⟨Nat.zero_le _, Nat.zero_le _⟩) hS (fun q _ h => hFc q h) hFc (fun r2 u2 t H1 locs ht hvm hw hB hz1 hk1 hS => ?_)
          obtain ⟨hP1, hK1, hD1⟩ := hB
          rw [ht] at hP1
          have e1 : r2 = w_5.1 := congrArg Prod.fst hw
          have e2 : u2 = w_5.2 := congrArg Prod.snd hw
          subst r2 u2
          have hP : va_P (dC, dI) vwCl (cw ad cI cL w_5.2) H1 := hP1
          have hD : va_D A (cw ad cI cL w_5.2) := hD1.weaken (fun _ _ _ h => hFc _ h)
          clear hP1 hD1 hK1 hFc hk1
          generalize H1 = H at hP hS ⊢
          refine lv_if_eq (tgt := 102) hx hb dX0_tryFrom_51 (by decide) (fun c_6 => ?_) (fun c_6 => ?_)
          · have hf := (if_pos c_6).symm.trans hf
            refine lv_iinc (v := (v3 + 1)) (lv' := [(3, .int (v3 + 1)), (4, .int (v2 + w_4.1)), (0, .ref (ad 2)), (1, .int v1), (2, .int v2)]) hx hb dX0_tryFrom_102 hl (k := 4) rfl rfl (by decide) rfl (fun ls hl => ?_)
            refine lv_goto (tgt := 19) hx hb dX0_tryFrom_105 (by decide) ?_
            exact ih1 v1 v2 (v3 + 1) 0 w_5.2 H locs ls hf hP hD hS (lv_sub hl [2, 3, 4, 0] rfl)
          · have hf := (if_neg c_6).symm.trans hf
            refine lv_aload_n hx hb dX0_tryFrom_54 rfl (lv_at hl 1 rfl) ?_
            refine va_get (D := (dC, dI)) (ci := 0) (v := .int (gI w_5.2 5)) (C := RX0) (T := TX0) (N := 12) hx hb hts iX0 hown hK hP 2 rfl rfl 10 (by decide) k_3 (fun _ h9 => h9) rfl dX0_tryFrom_55 ?_
            refine lv_if_eq (tgt := 70) hx hb dX0_tryFrom_58 (by decide) (fun c_7 => ?_) (fun c_7 => ?_)
            · have hf := (if_pos c_7).symm.trans hf
              exact ih2 v1 v2 v3 (v2 + w_4.1) w_5.2 H locs ls hf hP hD hS (lv_sub hl [1, 2, 3, 4, 0] rfl)
            · have hf := (if_neg c_7).symm.trans hf
              refine lv_iload hx hb dX0_tryFrom_61 (lv_at hl 0 rfl) ?_
              refine lv_aload_n hx hb dX0_tryFrom_63 rfl (lv_at hl 1 rfl) ?_
              refine va_get (D := (dC, dI)) (ci := 0) (v := .int (gI w_5.2 4)) (C := RX0) (T := TX0) (N := 12) hx hb hts iX0 hown hK hP 2 rfl rfl 9 (by decide) k_4 (fun _ h9 => h9) rfl dX0_tryFrom_64 ?_
              refine lv_icmp_gt (tgt := 102) hx hb dX0_tryFrom_67 (by decide) (fun c_8 => ?_) (fun c_8 => ?_)
              · have hf := (if_pos c_8).symm.trans hf
                refine lv_iinc (v := (v3 + 1)) (lv' := [(3, .int (v3 + 1)), (4, .int (v2 + w_4.1)), (0, .ref (ad 2)), (1, .int v1), (2, .int v2)]) hx hb dX0_tryFrom_102 hl (k := 4) rfl rfl (by decide) rfl (fun ls hl => ?_)
                refine lv_goto (tgt := 19) hx hb dX0_tryFrom_105 (by decide) ?_
                exact ih1 v1 v2 (v3 + 1) 0 w_5.2 H locs ls hf hP hD hS (lv_sub hl [2, 3, 4, 0] rfl)
              · have hf := (if_neg c_8).symm.trans hf
                exact ih2 v1 v2 v3 (v2 + w_4.1) w_5.2 H locs ls hf hP hD hS (lv_sub hl [1, 2, 3, 4, 0] rfl)
      · intro v1 v2 v3 v4 u H locs ls hf hP hD hS hl
        have hf := (eX0_tryFrom_70 rec n v1 v2 v3 v4 u).symm.trans hf
        refine lv_aload_n hx hb dX0_tryFrom_70 rfl (lv_at hl 0 rfl) ?_
        refine va_get (D := (dC, dI)) (ci := 0) (v := .ref (ad 18)) (C := RX0) (T := TX0) (N := 12) hx hb hts iX0 hown hK hP 2 rfl rfl 4 (by decide) k_5 (fun _ h9 => h9) rfl dX0_tryFrom_71 ?_
        refine lv_iload_n hx hb dX0_tryFrom_74 rfl (lv_at hl 1 rfl) ?_
        refine lv_iload_n hx hb dX0_tryFrom_75 rfl (lv_at hl 3 rfl) ?_
        obtain ⟨h_9, hf⟩ := ck_of hf
        refine va_iast (f := (gA u 13)) hx hb hK hP hD hS 18 0 rfl rfl h_9 dX0_tryFrom_76 (fun H locs hP hD hS => ?_)
        have hP : va_P (dC, dI) vwCl (cw ad cI cL (sA u 13 (upd (gA u 13) v1.toNatClampNeg v3))) H := hP
        have hD : va_D A (cw ad cI cL (sA u 13 (upd (gA u 13) v1.toNatClampNeg v3))) := hD
        refine lv_aload_n hx hb dX0_tryFrom_77 rfl (lv_at hl 0 rfl) ?_
        refine lv_iload_n hx hb dX0_tryFrom_78 rfl (lv_at hl 1 rfl) ?_
        refine lv_iload_n hx hb dX0_tryFrom_79 rfl (lv_at hl 3 rfl) ?_
        obtain ⟨w_10, hw_10, hf⟩ := ob hf
        have hFc := freeAll hD hS hA
        refine va_callv (va_runV (As := [.int v1, .int v3]) (rest := []) ⟨hx, hb, hml, hown, hts⟩ (mX0_gather l dC dI cI cL ad H.size (sA u 13 (upd (gA u 13) v1.toNatClampNeg v3)) v1 v3 n w_10 hw_10) (cwV 2 hts gX0_tryFrom_X0_gather rfl rfl rfl (by decide +kernel) ⟨show 1 + 1 ≤ 2 + (d + 1) from by omega, show 8 + (7 + 11) + 60 ≤ 87 + 24 * (d + 1) from by omega⟩) ⟨wPre_blind, va_recv hK hP (ci := 0) (q0 := 2) rfl rfl, wPre_of hP hK hD hZ⟩ rfl rfl hl.1 rfl (lv_room (Nat.le_of_ble_eq_true rfl)) dX0_tryFrom_80 ⟨Nat.zero_le _, Nat.zero_le _⟩) hS (fun q _ h => hFc q h) hFc (fun u2 t H1 locs ht hvm hw hB hz1 hk1 hS => ?_)
        obtain ⟨hP1, hK1, hD1⟩ := hB
        rw [ht] at hP1
        subst u2
        have hP : va_P (dC, dI) vwCl (cw ad cI cL w_10) H1 := hP1
        have hD : va_D A (cw ad cI cL w_10) := hD1.weaken (fun _ _ _ h => hFc _ h)
        clear hP1 hD1 hK1 hFc hk1
        generalize H1 = H at hP hS ⊢
        refine lv_aload_n hx hb dX0_tryFrom_83 rfl (lv_at hl 0 rfl) ?_
        refine lv_iload_n hx hb dX0_tryFrom_84 rfl (lv_at hl 1 rfl) ?_
        refine lv_iconst (v := 1) hx hb dX0_tryFrom_85 (by decide) ?_
        refine lv_iadd hx hb dX0_tryFrom_86 ?_
        obtain ⟨w_11, hw_11, hf⟩ := ob hf
        have hFc := freeAll hD hS hA
        refine va_calli (va_runV (As := [.int (v1 + (1 : Int32))]) (rest := []) ⟨hx, hb, hml, hown, hts⟩ (mX0_canBecomeEnough l dC dI cI cL ad H.size w_10 (v1 + (1 : Int32)) n w_11 hw_11) (cwV 1 hts gX0_tryFrom_X0_canBecomeEnough rfl rfl rfl (by decide +kernel) ⟨show 0 + 1 ≤ 2 + (d + 1) from by omega, show 8 + (4 + 11) + 0 ≤ 87 + 24 * (d + 1) from by omega⟩) ⟨wPre_blind, va_recv hK hP (ci := 0) (q0 := 2) rfl rfl, wPre_of hP hK hD hZ⟩ rfl rfl hl.1 rfl (lv_room (Nat.le_of_ble_eq_true rfl)) dX0_tryFrom_87 ⟨Nat.zero_le _, Nat.zero_le _⟩) hS (fun q _ h => hFc q h) hFc (fun r2 u2 t H1 locs ht hvm hw hB hz1 hk1 hS => ?_)
        obtain ⟨hP1, hK1, hD1⟩ := hB
        rw [ht] at hP1
        have e1 : r2 = w_11.1 := congrArg Prod.fst hw
        have e2 : u2 = w_11.2 := congrArg Prod.snd hw
        subst r2 u2
        have hP : va_P (dC, dI) vwCl (cw ad cI cL w_11.2) H1 := hP1
        have hD : va_D A (cw ad cI cL w_11.2) := hD1.weaken (fun _ _ _ h => hFc _ h)
        clear hP1 hD1 hK1 hFc hk1
        generalize H1 = H at hP hS ⊢
        refine lv_if_eq (tgt := 102) hx hb dX0_tryFrom_90 (by decide) (fun c_12 => ?_) (fun c_12 => ?_)
        · have hf := (if_pos c_12).symm.trans hf
          refine lv_iinc (v := (v3 + 1)) (lv' := [(3, .int (v3 + 1)), (0, .ref (ad 2)), (1, .int v1), (2, .int v2), (4, .int v4)]) hx hb dX0_tryFrom_102 hl (k := 3) rfl rfl (by decide) rfl (fun ls hl => ?_)
          refine lv_goto (tgt := 19) hx hb dX0_tryFrom_105 (by decide) ?_
          exact ih1 v1 v2 (v3 + 1) 0 w_11.2 H locs ls hf hP hD hS (lv_sub hl [1, 2, 3, 0] rfl)
        · have hf := (if_neg c_12).symm.trans hf
          refine lv_aload_n hx hb dX0_tryFrom_93 rfl (lv_at hl 0 rfl) ?_
          refine lv_iload_n hx hb dX0_tryFrom_94 rfl (lv_at hl 1 rfl) ?_
          refine lv_iconst (v := 1) hx hb dX0_tryFrom_95 (by decide) ?_
          refine lv_iadd hx hb dX0_tryFrom_96 ?_
          refine lv_iload hx hb dX0_tryFrom_97 (lv_at hl 4 rfl) ?_
          obtain ⟨w_13, hw_13, hf⟩ := ob hf
          have hFc := freeAll hD hS hA
          refine va_callv (va_runV (As := [.int (v1 + (1 : Int32)), .int v4]) (rest := []) ⟨hx, hb, hml, hown, hts⟩ (hrec H.size w_11.2 (v1 + (1 : Int32)) v4 n w_13 hw_13) (cwV 2 hts gX0_tryFrom_X0_tryFrom rfl rfl rfl (by decide +kernel) ⟨show (2 + d) + 1 ≤ 2 + (d + 1) from by omega, show 8 + (5 + 11) + (87 + 24 * d) ≤ 87 + 24 * (d + 1) from by omega⟩) ⟨wPre_blind, va_recv hK hP (ci := 0) (q0 := 2) rfl rfl, wPre_of hP hK hD hZ⟩ rfl rfl hl.1 rfl (lv_room (Nat.le_of_ble_eq_true rfl)) dX0_tryFrom_99 ⟨Nat.zero_le _, Nat.zero_le _⟩) hS (fun q _ h => hFc q h) hFc (fun u2 t H1 locs ht hvm hw hB hz1 hk1 hS => ?_)
          obtain ⟨hP1, hK1, hD1⟩ := hB
          rw [ht] at hP1
          subst u2
          have hP : va_P (dC, dI) vwCl (cw ad cI cL w_13) H1 := hP1
          have hD : va_D A (cw ad cI cL w_13) := hD1.weaken (fun _ _ _ h => hFc _ h)
          clear hP1 hD1 hK1 hFc hk1
          generalize H1 = H at hP hS ⊢
          refine lv_iinc (v := (v3 + 1)) (lv' := [(3, .int (v3 + 1)), (0, .ref (ad 2)), (1, .int v1), (2, .int v2), (4, .int v4)]) hx hb dX0_tryFrom_102 hl (k := 3) rfl rfl (by decide) rfl (fun ls hl => ?_)
          refine lv_goto (tgt := 19) hx hb dX0_tryFrom_105 (by decide) ?_
          exact ih1 v1 v2 (v3 + 1) 0 w_13 H locs ls hf hP hD hS (lv_sub hl [1, 2, 3, 0] rfl)
  exact (key n).1 z1 z2 0 0 u _ _ ls hf0 hP hD hS (lv_sub hl [0, 1, 2] rfl)

def fX0_settle (n pc : Nat) (u : St) : Option (St) := match n with
  | 0 => none
  | n + 1 => match pc with
    | 0 => (if (gI u 6) = 0 then ((FJ7_fill n 7 (-1 : Int32) (gA u 14)).bind fun w_2 => ((FX0_fillLights n  (sA (sI (sI u 6 (1 : Int32)) 5 (0 : Int32)) 14 w_2)).bind fun w_3 => ((FX0_fillReach n  w_3).bind fun w_4 => ((FX0_canBecomeEnough n (0 : Int32) w_4).bind fun w_5 => (if w_5.1 = 0 then some w_5.2 else ((FX0_tryFrom 8 n (0 : Int32) (0 : Int32) w_5.2).bind fun w_7 => some w_7)))))) else some u)
    | _ => none
theorem eX0_settle_0 (n : Nat) (u : St) : fX0_settle (n + 1) 0  u = (if (gI u 6) = 0 then ((FJ7_fill n 7 (-1 : Int32) (gA u 14)).bind fun w_2 => ((FX0_fillLights n  (sA (sI (sI u 6 (1 : Int32)) 5 (0 : Int32)) 14 w_2)).bind fun w_3 => ((FX0_fillReach n  w_3).bind fun w_4 => ((FX0_canBecomeEnough n (0 : Int32) w_4).bind fun w_5 => (if w_5.1 = 0 then some w_5.2 else ((FX0_tryFrom 8 n (0 : Int32) (0 : Int32) w_5.2).bind fun w_7 => some w_7)))))) else some u) := rfl
theorem vX0_settle_0 (u : St) (r : St) : Ev (fun n => fX0_settle n 0  u) r ↔ Ev (fun n => (if (gI u 6) = 0 then ((FJ7_fill n 7 (-1 : Int32) (gA u 14)).bind fun w_2 => ((FX0_fillLights n  (sA (sI (sI u 6 (1 : Int32)) 5 (0 : Int32)) 14 w_2)).bind fun w_3 => ((FX0_fillReach n  w_3).bind fun w_4 => ((FX0_canBecomeEnough n (0 : Int32) w_4).bind fun w_5 => (if w_5.1 = 0 then some w_5.2 else ((FX0_tryFrom 8 n (0 : Int32) (0 : Int32) w_5.2).bind fun w_7 => some w_7)))))) else some u)) r := Ev_succ (fun n => fX0_settle n 0  u) r
def FX0_settle (n : Nat) (u : St) : Option (St) := fX0_settle n 0  u
set_option maxHeartbeats 4000000 in
set_option maxRecDepth 100000 in
theorem mX0_settle (l : Launch) (dC : Nat → ClassId) (dI : Nat → Nat → Nat) (cI cL : ClassId) (ad : Nat → Nat) (sz : Nat) (u : St) (n : Nat) (r : St) (hf0 : FX0_settle n  u = some r) : Met l yX0_settle wsX0_settle ({ frames := 11, cells := 0, slots := 0, locals := 303 }) (va_Pc [.ref (ad 2)] (wPre dC dI cI cL (cw ad cI cL u) sz)) (va_Qv (fun t => t = r) (fun t => wPost dC dI cI cL (va_A (cw ad cI cL u) sz) (cw ad cI cL t)) (va_A (cw ad cI cL u) sz)) 0 0 (va_A (cw ad cI cL u) sz) := by
  refine Met.ofW (cc := cX0_settle) (maxL := 1) (ret := none) (by decide) rfl ?_
  intro p e s m args below meth c s₁ B hml hv
  obtain ⟨rfl, hsz, hP, hK, hD0, hZ⟩ := hv
  have hx := B.exec
  have hb := B.bytes
  have hr := B.returns
  have hts := atoms_spec (ws := wsX0_settle) B.pre
  have hown : s.vm.findClass RX0 = some m.cls := findClass_of_methodNamed B.named
  have hlocks := B.notSynchronized
  subst hsz
  have hD := hD0.self (sz := s.heap.size)
  generalize hAe : va_A (cw ad cI cL u) s.heap.size = A at hD ⊢
  have hA : ∀ q : Nat, s.heap.size ≤ q → A q := fun q h => by rw [← hAe]; exact Or.inr h
  have hS : va_S A s.heap s.heap [] := va_S.rf
  have iX0 : ∀ w ∈ u_ws RX0 TX0 12, w ∈ wsX0_settle := fun _ h => List.mem_cons_of_mem _ (List.mem_append_left _ (List.mem_append_right _ h))
  have k_0 := hts (.fieldLink RX0 34 "LampChoice$Choice" "known" "Z") (by decide +kernel)
  have k_1 := hts (.fieldLink RX0 38 "LampChoice$Choice" "found" "Z") (by decide +kernel)
  have k_2 := hts (.fieldLink RX0 24 "LampChoice$Choice" "lamps" "[I") (by decide +kernel)
  have hl := lv_entry ([.ref (ad 2)]) (n := 1) (Nat.le_of_ble_eq_true rfl)
  rw [lg_entry_eq]
  generalize (lg_sl ([.ref (ad 2)]) ++ List.replicate (1 - (lg_sl ([.ref (ad 2)])).length) Slot.unset).toArray = ls at hl ⊢
  have hl : lv_has ls 1 [(0, .ref (ad 2))] := hl
  have key : ∀ n : Nat, (∀ (u : St) (H : Heap) (locs : List Loc) (ls : Array Slot), fX0_settle n 0  u = some r → va_P (dC, dI) vwCl (cw ad cI cL u) H → va_D A (cw ad cI cL u) → va_S A s.heap H locs → lv_has ls 1 [(0, .ref (ad 2))] → W p l e (headSpec wsX0_settle ({ frames := 11, cells := 0, slots := 0, locals := 303 })).room s m ([.ref (ad 2)] : List Value).toArray below meth c H locs 0 0 (MQ below (va_Qv (fun t => t = r) (fun t => wPost dC dI cI cL A (cw ad cI cL t)) A) ([.ref (ad 2)] : List Value).toArray s 0 0 A) (F0 m 0 ls [])) := by
    intro n
    induction n with
    | zero => exact (fun _ _ _ _ hf => nomatch (show (none : Option (St)) = some r from hf))
    | succ n ih =>
      have ih0 := ih
      · intro  u H locs ls hf hP hD hS hl
        have hf := (eX0_settle_0 n  u).symm.trans hf
        refine lv_aload_n hx hb dX0_settle_0 rfl (lv_at hl 0 rfl) ?_
        refine va_get (D := (dC, dI)) (ci := 0) (v := .int (gI u 6)) (C := RX0) (T := TX0) (N := 12) hx hb hts iX0 hown hK hP 2 rfl rfl 11 (by decide) k_0 (fun _ h9 => h9) rfl dX0_settle_1 ?_
        refine lv_if_eq (tgt := 8) hx hb dX0_settle_4 (by decide) (fun c_1 => ?_) (fun c_1 => ?_)
        · have hf := (if_pos c_1).symm.trans hf
          refine lv_aload_n hx hb dX0_settle_8 rfl (lv_at hl 0 rfl) ?_
          refine lv_iconst (v := 1) hx hb dX0_settle_9 (by decide) ?_
          refine va_put (D := (dC, dI)) (ci := 0) (v := .int (1 : Int32)) (ty := .boolean) (C := RX0) (T := TX0) (N := 12) hx hb hts iX0 tyX0 tyX0_ok nmX0 hown hK hP hD hS 2 rfl rfl 11 (by decide) k_0 (fun _ h9 => h9) rfl (by decide +kernel) rfl rfl (Nat.le_of_ble_eq_true rfl) dX0_settle_10 (fun H locs hP hD hS => ?_)
          have hP : va_P (dC, dI) vwCl (cw ad cI cL (sI u 6 (1 : Int32))) H := hP
          have hD : va_D A (cw ad cI cL (sI u 6 (1 : Int32))) := hD
          refine lv_aload_n hx hb dX0_settle_13 rfl (lv_at hl 0 rfl) ?_
          refine lv_iconst (v := 0) hx hb dX0_settle_14 (by decide) ?_
          refine va_put (D := (dC, dI)) (ci := 0) (v := .int (0 : Int32)) (ty := .boolean) (C := RX0) (T := TX0) (N := 12) hx hb hts iX0 tyX0 tyX0_ok nmX0 hown hK hP hD hS 2 rfl rfl 10 (by decide) k_1 (fun _ h9 => h9) rfl (by decide +kernel) rfl rfl (Nat.le_of_ble_eq_true rfl) dX0_settle_15 (fun H locs hP hD hS => ?_)
          have hP : va_P (dC, dI) vwCl (cw ad cI cL (sI (sI u 6 (1 : Int32)) 5 (0 : Int32))) H := hP
          have hD : va_D A (cw ad cI cL (sI (sI u 6 (1 : Int32)) 5 (0 : Int32))) := hD
          refine lv_aload_n hx hb dX0_settle_18 rfl (lv_at hl 0 rfl) ?_
          refine va_get (D := (dC, dI)) (ci := 0) (v := .ref (ad 19)) (C := RX0) (T := TX0) (N := 12) hx hb hts iX0 hown hK hP 2 rfl rfl 7 (by decide) k_2 (fun _ h9 => h9) rfl dX0_settle_19 ?_
          refine lv_iconst (v := -1) hx hb dX0_settle_22 (by decide) ?_
          obtain ⟨w_2, hw_2, hf⟩ := ob hf
          have hPc := hP.sub (ws' := [(ad 19, .inl (cI, 7, .inl (gA u 14)))]) [19] rfl
          have hDc := hD.sub (ws' := [(ad 19, .inl (cI, 7, .inl (gA u 14)))]) [19] (by decide) rfl
          have hFc := va_free (wc := [(ad 19, .inl (cI, 7, .inl (gA u 14)))]) hD hS hA [19] rfl
          refine va_callv (va_runS (As := [.ref (ad 19), .int (-1 : Int32)]) (rest := []) ⟨hx, hb, hml, hown, hts⟩ (mJ7_fill l dC dI cI cL (ad 19) 7 H.size (gA u 14) (-1 : Int32) n w_2 hw_2) (va_cwS 2 hts gX0_settle_J7_fill_53178 rfl rfl rfl (by decide +kernel) ⟨Nat.le_of_ble_eq_true rfl, Nat.le_of_ble_eq_true rfl⟩) ⟨wPre_blind, wPre_of hPc hK hDc hZ⟩ rfl rfl hl.1 rfl (lv_room (Nat.le_of_ble_eq_true rfl)) dX0_settle_23 ⟨Nat.zero_le _, Nat.zero_le _⟩) hS (fun q _ h => hFc q h) hFc (fun u2 t H1 locs ht hvm hw hB hz1 hk1 hS => ?_)
          obtain ⟨hP1, hK1, hD1⟩ := hB
          rw [ht] at hP1
          subst u2
          obtain ⟨hP, hD⟩ := va_join (wr := [0, 1, 2, 3, 4, 5, 6, 7, 8, 9, 10, 11, 12, 13, 14, 15, 16, 17, 18, 20, 21, 22, 23, 24, 25, 26, 27].filterMap (fun i => (cw ad cI cL (sI (sI u 6 (1 : Int32)) 5 (0 : Int32)))[i]?)) (w1 := [(ad 19, .inl (cI, 7, .inl w_2))]) hP hD [19] [0, 1, 2, 3, 4, 5, 6, 7, 8, 9, 10, 11, 12, 13, 14, 15, 16, 17, 18, 20, 21, 22, 23, 24, 25, 26, 27] rfl rfl (by decide) (by decide) hk1 hFc hP1 hD1
          have hP := hP.sub (ws' := cw ad cI cL (sA (sI (sI u 6 (1 : Int32)) 5 (0 : Int32)) 14 w_2)) [0, 1, 2, 3, 4, 5, 6, 7, 8, 9, 10, 11, 12, 13, 14, 15, 16, 17, 18, 27, 19, 20, 21, 22, 23, 24, 25, 26] rfl
          have hD := hD.sub (ws' := cw ad cI cL (sA (sI (sI u 6 (1 : Int32)) 5 (0 : Int32)) 14 w_2)) [0, 1, 2, 3, 4, 5, 6, 7, 8, 9, 10, 11, 12, 13, 14, 15, 16, 17, 18, 27, 19, 20, 21, 22, 23, 24, 25, 26] (by decide) rfl
          clear hP1 hD1 hK1 hPc hDc hFc hk1
          generalize H1 = H at hP hS ⊢
          refine lv_aload_n hx hb dX0_settle_26 rfl (lv_at hl 0 rfl) ?_
          obtain ⟨w_3, hw_3, hf⟩ := ob hf
          have hFc := freeAll hD hS hA
          refine va_callv (va_runV (As := []) (rest := []) ⟨hx, hb, hml, hown, hts⟩ (mX0_fillLights l dC dI cI cL ad H.size (sA (sI (sI u 6 (1 : Int32)) 5 (0 : Int32)) 14 w_2)  n w_3 hw_3) (cwV 0 hts gX0_settle_X0_fillLights rfl rfl rfl (by decide +kernel) ⟨Nat.le_of_ble_eq_true rfl, Nat.le_of_ble_eq_true rfl⟩) ⟨wPre_blind, va_recv hK hP (ci := 0) (q0 := 2) rfl rfl, wPre_of hP hK hD hZ⟩ rfl rfl hl.1 rfl (lv_room (Nat.le_of_ble_eq_true rfl)) dX0_settle_27 ⟨Nat.zero_le _, Nat.zero_le _⟩) hS (fun q _ h => hFc q h) hFc (fun u2 t H1 locs ht hvm hw hB hz1 hk1 hS => ?_)
          obtain ⟨hP1, hK1, hD1⟩ := hB
          rw [ht] at hP1
          subst u2
          have hP : va_P (dC, dI) vwCl (cw ad cI cL w_3) H1 := hP1
          have hD : va_D A (cw ad cI cL w_3) := hD1.weaken (fun _ _ _ h => hFc _ h)
          clear hP1 hD1 hK1 hFc hk1
          generalize H1 = H at hP hS ⊢
          refine lv_aload_n hx hb dX0_settle_30 rfl (lv_at hl 0 rfl) ?_
          obtain ⟨w_4, hw_4, hf⟩ := ob hf
          have hFc := freeAll hD hS hA
          refine va_callv (va_runV (As := []) (rest := []) ⟨hx, hb, hml, hown, hts⟩ (mX0_fillReach l dC dI cI cL ad H.size w_3  n w_4 hw_4) (cwV 0 hts gX0_settle_X0_fillReach rfl rfl rfl (by decide +kernel) ⟨Nat.le_of_ble_eq_true rfl, Nat.le_of_ble_eq_true rfl⟩) ⟨wPre_blind, va_recv hK hP (ci := 0) (q0 := 2) rfl rfl, wPre_of hP hK hD hZ⟩ rfl rfl hl.1 rfl (lv_room (Nat.le_of_ble_eq_true rfl)) dX0_settle_31 ⟨Nat.zero_le _, Nat.zero_le _⟩) hS (fun q _ h => hFc q h) hFc (fun u2 t H1 locs ht hvm hw hB hz1 hk1 hS => ?_)
          obtain ⟨hP1, hK1, hD1⟩ := hB
          rw [ht] at hP1
          subst u2
          have hP : va_P (dC, dI) vwCl (cw ad cI cL w_4) H1 := hP1
          have hD : va_D A (cw ad cI cL w_4) := hD1.weaken (fun _ _ _ h => hFc _ h)
          clear hP1 hD1 hK1 hFc hk1
          generalize H1 = H at hP hS ⊢
          refine lv_aload_n hx hb dX0_settle_34 rfl (lv_at hl 0 rfl) ?_
          refine lv_iconst (v := 0) hx hb dX0_settle_35 (by decide) ?_
          obtain ⟨w_5, hw_5, hf⟩ := ob hf
          have hFc := freeAll hD hS hA
          refine va_calli (va_runV (As := [.int (0 : Int32)]) (rest := []) ⟨hx, hb, hml, hown, hts⟩ (mX0_canBecomeEnough l dC dI cI cL ad H.size w_4 (0 : Int32) n w_5 hw_5) (cwV 1 hts gX0_settle_X0_canBecomeEnough rfl rfl rfl (by decide +kernel) ⟨Nat.le_of_ble_eq_true rfl, Nat.le_of_ble_eq_true rfl⟩) ⟨wPre_blind, va_recv hK hP (ci := 0) (q0 := 2) rfl rfl, wPre_of hP hK hD hZ⟩ rfl rfl hl.1 rfl (lv_room (Nat.le_of_ble_eq_true rfl)) dX0_settle_36 ⟨Nat.zero_le _, Nat.zero_le _⟩) hS (fun q _ h => hFc q h) hFc (fun r2 u2 t H1 locs ht hvm hw hB hz1 hk1 hS => ?_)
          obtain ⟨hP1, hK1, hD1⟩ := hB
          rw [ht] at hP1
          have e1 : r2 = w_5.1 := congrArg Prod.fst hw
          have e2 : u2 = w_5.2 := congrArg Prod.snd hw
          subst r2 u2
          have hP : va_P (dC, dI) vwCl (cw ad cI cL w_5.2) H1 := hP1
          have hD : va_D A (cw ad cI cL w_5.2) := hD1.weaken (fun _ _ _ h => hFc _ h)
          clear hP1 hD1 hK1 hFc hk1
          generalize H1 = H at hP hS ⊢
          refine lv_if_eq (tgt := 48) hx hb dX0_settle_39 (by decide) (fun c_6 => ?_) (fun c_6 => ?_)
          · have hf := (if_pos c_6).symm.trans hf
            have hf := Option.some.inj hf
            exact W.vret hx hb hr (fun t ht hW => ⟨⟨w_5.2, rfl, hf, ⟨by rw [ht]; exact hP, va_K.moved hW.alike hK, hD⟩⟩, hS.F ht⟩) hS.2.2 dX0_settle_48
          · have hf := (if_neg c_6).symm.trans hf
            refine lv_aload_n hx hb dX0_settle_42 rfl (lv_at hl 0 rfl) ?_
            refine lv_iconst (v := 0) hx hb dX0_settle_43 (by decide) ?_
            refine lv_iconst (v := 0) hx hb dX0_settle_44 (by decide) ?_
            obtain ⟨w_7, hw_7, hf⟩ := ob hf
            have hFc := freeAll hD hS hA
            refine va_callv (va_runV (As := [.int (0 : Int32), .int (0 : Int32)]) (rest := []) ⟨hx, hb, hml, hown, hts⟩ (mX0_tryFrom l dC dI cI cL ad 8 H.size w_5.2 (0 : Int32) (0 : Int32) n w_7 hw_7) (cwV 2 hts gX0_settle_X0_tryFrom rfl rfl rfl (by decide +kernel) ⟨show (2 + 8) + 1 ≤ _ from by decide, show 8 + (5 + 11) + (87 + 24 * 8) ≤ _ from by decide⟩) ⟨wPre_blind, va_recv hK hP (ci := 0) (q0 := 2) rfl rfl, wPre_of hP hK hD hZ⟩ rfl rfl hl.1 rfl (lv_room (Nat.le_of_ble_eq_true rfl)) dX0_settle_45 ⟨Nat.zero_le _, Nat.zero_le _⟩) hS (fun q _ h => hFc q h) hFc (fun u2 t H1 locs ht hvm hw hB hz1 hk1 hS => ?_)
            obtain ⟨hP1, hK1, hD1⟩ := hB
            rw [ht] at hP1
            subst u2
            have hP : va_P (dC, dI) vwCl (cw ad cI cL w_7) H1 := hP1
            have hD : va_D A (cw ad cI cL w_7) := hD1.weaken (fun _ _ _ h => hFc _ h)
            clear hP1 hD1 hK1 hFc hk1
            generalize H1 = H at hP hS ⊢
            have hf := Option.some.inj hf
            exact W.vret hx hb hr (fun t ht hW => ⟨⟨w_7, rfl, hf, ⟨by rw [ht]; exact hP, va_K.moved hW.alike hK, hD⟩⟩, hS.F ht⟩) hS.2.2 dX0_settle_48
        · have hf := (if_neg c_1).symm.trans hf
          have hf := Option.some.inj hf
          exact W.vret hx hb hr (fun t ht hW => ⟨⟨u, rfl, hf, ⟨by rw [ht]; exact hP, va_K.moved hW.alike hK, hD⟩⟩, hS.F ht⟩) hS.2.2 dX0_settle_7
  exact (key n)  u _ _ ls hf0 hP hD hS (lv_sub hl [0] rfl)

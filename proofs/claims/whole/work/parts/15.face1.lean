def fX4_checkBounds (n pc : Nat) (v0 : Int32) (v1 : Int32) (v2 : Int32) : Option (Nat) := match n with
  | 0 => none
  | n + 1 => match pc with
    | 0 => (if v0 < v1 then some 1 else (if v0 ≤ v2 then some 0 else some 1))
    | _ => none
theorem eX4_checkBounds_0 (n : Nat) (v0 : Int32) (v1 : Int32) (v2 : Int32) : fX4_checkBounds (n + 1) 0 v0 v1 v2 = (if v0 < v1 then some 1 else (if v0 ≤ v2 then some 0 else some 1)) := rfl
theorem vX4_checkBounds_0 (v0 : Int32) (v1 : Int32) (v2 : Int32) (r : Nat) : Ev (fun n => fX4_checkBounds n 0 v0 v1 v2) r ↔ Ev (fun n => (if v0 < v1 then some 1 else (if v0 ≤ v2 then some 0 else some 1))) r := Ev_succ (fun n => fX4_checkBounds n 0 v0 v1 v2) r
def FX4_checkBounds (n : Nat) (v0 : Int32) (v1 : Int32) (v2 : Int32) : Option (Nat) := fX4_checkBounds n 0 v0 v1 v2
set_option maxHeartbeats 4000000 in
set_option maxRecDepth 100000 in
theorem mX4_checkBounds (l : Launch) (lt : l.stackTraces = false) (sa : Nat → Nat) (sz : Nat) (z0 : Int32) (z1 : Int32) (z2 : Int32) (n : Nat) (r : Nat) (hf0 : FX4_checkBounds n z0 z1 z2 = some r) : vx_Met l yX4_checkBounds wsX4_checkBounds ({ frames := 7, cells := 1, slots := 6, locals := 90 }) (va_Pc [.int z0, .int z1, .int z2] (nxPre sa sz)) (va_Qv (fun (_ : Unit) => 0 = r) (fun _ _ => True) (va_A [] sz)) (vx_X (fun _ : Unit => True) (fun E _ _ => xcode E = r ∧ 0 < xcode E) (va_A [] sz)) 1 6 (va_A [] sz) := by
  refine vx_ofW (cc := cX4_checkBounds) (maxL := 3) (ret := none) (by decide) rfl ?_
  intro p e s m args below meth c s₁ B hml ht0 hv
  obtain ⟨rfl, hsz, hX, hq⟩ := hv
  have hx := B.exec
  have hb := B.bytes
  have hr := B.returns
  have hts := atoms_spec (ws := wsX4_checkBounds) B.pre
  have hown : s.vm.findClass RX4 = some m.cls := findClass_of_methodNamed B.named
  have hlocks := B.notSynchronized
  subst hsz
  generalize hAe : va_A ([]) s.heap.size = A at hq ⊢
  have hA : ∀ q : Nat, s.heap.size ≤ q → A q := fun q h => by rw [← hAe]; exact Or.inr h
  have hS : va_S A s.heap s.heap [] := va_S.rf
  have k_0 := hts (.classLink RX4 172 "java/lang/IllegalArgumentException") (by decide +kernel)
  have k_1 := hts (.initialized "java/lang/IllegalArgumentException") (by decide +kernel)
  have hl := lv_entry ([.int z0, .int z1, .int z2]) (n := 3) (Nat.le_of_ble_eq_true rfl)
  rw [lg_entry_eq]
  generalize (lg_sl ([.int z0, .int z1, .int z2]) ++ List.replicate (3 - (lg_sl ([.int z0, .int z1, .int z2])).length) Slot.unset).toArray = ls at hl ⊢
  have hl : lv_has ls 3 [(0, .int z0), (1, .int z1), (2, .int z2)] := hl
  have key : ∀ n : Nat, (∀ (v0 : Int32) (v1 : Int32) (v2 : Int32) (H : Heap) (locs : List Loc) (ls : Array Slot), fX4_checkBounds n 0 v0 v1 v2 = some r → va_S A s.heap H locs → lv_has ls 3 [(0, .int v0), (1, .int v1), (2, .int v2)] → W p l e (headSpec wsX4_checkBounds ({ frames := 7, cells := 1, slots := 6, locals := 90 })).room s m ([.int z0, .int z1, .int z2] : List Value).toArray below meth c H locs 0 0 (vx_MQ below (va_Qv (fun (_ : Unit) => 0 = r) (fun _ _ => True) A) (vx_X (fun _ : Unit => True) (fun E _ _ => xcode E = r ∧ 0 < xcode E) A) ([.int z0, .int z1, .int z2] : List Value).toArray s 1 6 A) (F0 m 0 ls [])) := by
    intro n
    induction n with
    | zero => exact (fun _ _ _ _ _ _ hf => nomatch (show (none : Option (Nat)) = some r from hf))
    | succ n ih =>
      have ih0 := ih
      · intro v0 v1 v2 H locs ls hf hS hl
        have hf := (eX4_checkBounds_0 n v0 v1 v2).symm.trans hf
        refine lv_iload_n hx hb dX4_checkBounds_0 rfl (lv_at hl 0 rfl) ?_
        refine lv_iload_n hx hb dX4_checkBounds_1 rfl (lv_at hl 1 rfl) ?_
        refine lv_icmp_lt (tgt := 10) hx hb dX4_checkBounds_2 (by decide) (fun c_1 => ?_) (fun c_1 => ?_)
        · have hf := (if_pos c_1).symm.trans hf
          have hf := Option.some.inj hf
          exact vx_throwS (cls := "java/lang/IllegalArgumentException") (text := "a number is out of its bounds, or there is no such thing") (names := ["java/lang/RuntimeException", "java/lang/Exception"]) hx hb lt hown (by decide) (by decide) k_0 k_1 hX.2.2.2.2.2.1 (vx_hat (L := vx_atS RX4 176 "java/lang/IllegalArgumentException" ["java/lang/RuntimeException", "java/lang/Exception"]) (B := [.castable "java/lang/IllegalArgumentException" "java/lang/IllegalArgumentException", .declares ⟨"java/lang/RuntimeException", "<init>", "(Ljava/lang/String;)V"⟩, .declares ⟨"java/lang/Exception", "<init>", "(Ljava/lang/String;)V"⟩, .declares ⟨"java/lang/Throwable", "<init>", "(Ljava/lang/String;)V"⟩]) (fun w h => hts w (List.mem_cons_of_mem _ (List.mem_append_right _ h))) (by decide +kernel) (vx_c (va_Nw.use rfl hX.1) (vx_c (va_Nw.use rfl hX.2.2.1) (vx_c (va_Nw.use rfl hX.2.2.2.1) (vx_c (va_Nw.use rfl hX.2.2.2.2.1) (vx_n)))))) (by decide +kernel) hq.1 hq.2 hS (by rw [hml]; exact hl.1) dX4_checkBounds_10 dX4_checkBounds_13 dX4_checkBounds_14 dX4_checkBounds_16 dX4_checkBounds_19 (fun x hx => (ht0 x hx).elim) (by decide) (by decide) (by decide) (by decide) hlocks (fun t ha hz hk => ⟨(), trivial, ⟨hf, by decide⟩, va_F.of hS hz hk⟩) hS.2.2 (by decide) (by decide)
        · have hf := (if_neg c_1).symm.trans hf
          refine lv_iload_n hx hb dX4_checkBounds_5 rfl (lv_at hl 0 rfl) ?_
          refine lv_iload_n hx hb dX4_checkBounds_6 rfl (lv_at hl 2 rfl) ?_
          refine lv_icmp_le (tgt := 20) hx hb dX4_checkBounds_7 (by decide) (fun c_2 => ?_) (fun c_2 => ?_)
          · have hf := (if_pos c_2).symm.trans hf
            have hf := Option.some.inj hf
            refine W.widen (k := 1) (n := 6) (by decide) (by decide) ?_
            refine vx_ret ?_
            exact W.vret hx hb hr (fun t ht hW => ⟨⟨(), rfl, hf, trivial⟩, hS.F ht⟩) hS.2.2 dX4_checkBounds_20
          · have hf := (if_neg c_2).symm.trans hf
            have hf := Option.some.inj hf
            exact vx_throwS (cls := "java/lang/IllegalArgumentException") (text := "a number is out of its bounds, or there is no such thing") (names := ["java/lang/RuntimeException", "java/lang/Exception"]) hx hb lt hown (by decide) (by decide) k_0 k_1 hX.2.2.2.2.2.1 (vx_hat (L := vx_atS RX4 176 "java/lang/IllegalArgumentException" ["java/lang/RuntimeException", "java/lang/Exception"]) (B := [.castable "java/lang/IllegalArgumentException" "java/lang/IllegalArgumentException", .declares ⟨"java/lang/RuntimeException", "<init>", "(Ljava/lang/String;)V"⟩, .declares ⟨"java/lang/Exception", "<init>", "(Ljava/lang/String;)V"⟩, .declares ⟨"java/lang/Throwable", "<init>", "(Ljava/lang/String;)V"⟩]) (fun w h => hts w (List.mem_cons_of_mem _ (List.mem_append_right _ h))) (by decide +kernel) (vx_c (va_Nw.use rfl hX.1) (vx_c (va_Nw.use rfl hX.2.2.1) (vx_c (va_Nw.use rfl hX.2.2.2.1) (vx_c (va_Nw.use rfl hX.2.2.2.2.1) (vx_n)))))) (by decide +kernel) hq.1 hq.2 hS (by rw [hml]; exact hl.1) dX4_checkBounds_10 dX4_checkBounds_13 dX4_checkBounds_14 dX4_checkBounds_16 dX4_checkBounds_19 (fun x hx => (ht0 x hx).elim) (by decide) (by decide) (by decide) (by decide) hlocks (fun t ha hz hk => ⟨(), trivial, ⟨hf, by decide⟩, va_F.of hS hz hk⟩) hS.2.2 (by decide) (by decide)
  exact (key n) z0 z1 z2 _ _ ls hf0 hS (lv_sub hl [0, 1, 2] rfl)

def fX4_checkCount (n pc : Nat) (v0 : Int32) (v1 : Int32) : Option (Nat) := match n with
  | 0 => none
  | n + 1 => match pc with
    | 0 => (if v0 < v1 then some 0 else some 2)
    | _ => none
theorem eX4_checkCount_0 (n : Nat) (v0 : Int32) (v1 : Int32) : fX4_checkCount (n + 1) 0 v0 v1 = (if v0 < v1 then some 0 else some 2) := rfl
theorem vX4_checkCount_0 (v0 : Int32) (v1 : Int32) (r : Nat) : Ev (fun n => fX4_checkCount n 0 v0 v1) r ↔ Ev (fun n => (if v0 < v1 then some 0 else some 2)) r := Ev_succ (fun n => fX4_checkCount n 0 v0 v1) r
def FX4_checkCount (n : Nat) (v0 : Int32) (v1 : Int32) : Option (Nat) := fX4_checkCount n 0 v0 v1
set_option maxHeartbeats 4000000 in
set_option maxRecDepth 100000 in
theorem mX4_checkCount (l : Launch) (lt : l.stackTraces = false) (sa : Nat → Nat) (sz : Nat) (z0 : Int32) (z1 : Int32) (n : Nat) (r : Nat) (hf0 : FX4_checkCount n z0 z1 = some r) : vx_Met l yX4_checkCount wsX4_checkCount ({ frames := 7, cells := 1, slots := 6, locals := 90 }) (va_Pc [.int z0, .int z1] (nxPre sa sz)) (va_Qv (fun (_ : Unit) => 0 = r) (fun _ _ => True) (va_A [] sz)) (vx_X (fun _ : Unit => True) (fun E _ _ => xcode E = r ∧ 0 < xcode E) (va_A [] sz)) 1 6 (va_A [] sz) := by
  refine vx_ofW (cc := cX4_checkCount) (maxL := 2) (ret := none) (by decide) rfl ?_
  intro p e s m args below meth c s₁ B hml ht0 hv
  obtain ⟨rfl, hsz, hX, hq⟩ := hv
  have hx := B.exec
  have hb := B.bytes
  have hr := B.returns
  have hts := atoms_spec (ws := wsX4_checkCount) B.pre
  have hown : s.vm.findClass RX4 = some m.cls := findClass_of_methodNamed B.named
  have hlocks := B.notSynchronized
  subst hsz
  generalize hAe : va_A ([]) s.heap.size = A at hq ⊢
  have hA : ∀ q : Nat, s.heap.size ≤ q → A q := fun q h => by rw [← hAe]; exact Or.inr h
  have hS : va_S A s.heap s.heap [] := va_S.rf
  have k_0 := hts (.classLink RX4 146 "java/lang/IllegalStateException") (by decide +kernel)
  have k_1 := hts (.initialized "java/lang/IllegalStateException") (by decide +kernel)
  have hl := lv_entry ([.int z0, .int z1]) (n := 2) (Nat.le_of_ble_eq_true rfl)
  rw [lg_entry_eq]
  generalize (lg_sl ([.int z0, .int z1]) ++ List.replicate (2 - (lg_sl ([.int z0, .int z1])).length) Slot.unset).toArray = ls at hl ⊢
  have hl : lv_has ls 2 [(0, .int z0), (1, .int z1)] := hl
  have key : ∀ n : Nat, (∀ (v0 : Int32) (v1 : Int32) (H : Heap) (locs : List Loc) (ls : Array Slot), fX4_checkCount n 0 v0 v1 = some r → va_S A s.heap H locs → lv_has ls 2 [(0, .int v0), (1, .int v1)] → W p l e (headSpec wsX4_checkCount ({ frames := 7, cells := 1, slots := 6, locals := 90 })).room s m ([.int z0, .int z1] : List Value).toArray below meth c H locs 0 0 (vx_MQ below (va_Qv (fun (_ : Unit) => 0 = r) (fun _ _ => True) A) (vx_X (fun _ : Unit => True) (fun E _ _ => xcode E = r ∧ 0 < xcode E) A) ([.int z0, .int z1] : List Value).toArray s 1 6 A) (F0 m 0 ls [])) := by
    intro n
    induction n with
    | zero => exact (fun _ _ _ _ _ hf => nomatch (show (none : Option (Nat)) = some r from hf))
    | succ n ih =>
      have ih0 := ih
      · intro v0 v1 H locs ls hf hS hl
        have hf := (eX4_checkCount_0 n v0 v1).symm.trans hf
        refine lv_iload_n hx hb dX4_checkCount_0 rfl (lv_at hl 0 rfl) ?_
        refine lv_iload_n hx hb dX4_checkCount_1 rfl (lv_at hl 1 rfl) ?_
        refine lv_icmp_lt (tgt := 15) hx hb dX4_checkCount_2 (by decide) (fun c_1 => ?_) (fun c_1 => ?_)
        · have hf := (if_pos c_1).symm.trans hf
          have hf := Option.some.inj hf
          refine W.widen (k := 1) (n := 6) (by decide) (by decide) ?_
          refine vx_ret ?_
          exact W.vret hx hb hr (fun t ht hW => ⟨⟨(), rfl, hf, trivial⟩, hS.F ht⟩) hS.2.2 dX4_checkCount_15
        · have hf := (if_neg c_1).symm.trans hf
          have hf := Option.some.inj hf
          exact vx_throwS (cls := "java/lang/IllegalStateException") (text := "there are as many as there may be") (names := ["java/lang/RuntimeException", "java/lang/Exception"]) hx hb lt hown (by decide) (by decide) k_0 k_1 hX.2.2.2.2.2.2.1 (vx_hat (L := vx_atS RX4 150 "java/lang/IllegalStateException" ["java/lang/RuntimeException", "java/lang/Exception"]) (B := [.castable "java/lang/IllegalStateException" "java/lang/IllegalStateException", .declares ⟨"java/lang/RuntimeException", "<init>", "(Ljava/lang/String;)V"⟩, .declares ⟨"java/lang/Exception", "<init>", "(Ljava/lang/String;)V"⟩, .declares ⟨"java/lang/Throwable", "<init>", "(Ljava/lang/String;)V"⟩]) (fun w h => hts w (List.mem_cons_of_mem _ (List.mem_append_right _ h))) (by decide +kernel) (vx_c (va_Nw.use rfl hX.2.1) (vx_c (va_Nw.use rfl hX.2.2.1) (vx_c (va_Nw.use rfl hX.2.2.2.1) (vx_c (va_Nw.use rfl hX.2.2.2.2.1) (vx_n)))))) (by decide +kernel) hq.1 hq.2 hS (by rw [hml]; exact hl.1) dX4_checkCount_5 dX4_checkCount_8 dX4_checkCount_9 dX4_checkCount_11 dX4_checkCount_14 (fun x hx => (ht0 x hx).elim) (by decide) (by decide) (by decide) (by decide) hlocks (fun t ha hz hk => ⟨(), trivial, ⟨hf, by decide⟩, va_F.of hS hz hk⟩) hS.2.2 (by decide) (by decide)
  exact (key n) z0 z1 _ _ ls hf0 hS (lv_sub hl [0, 1] rfl)

def fX4_checkPlace (n pc : Nat) (v1 : Int32) (u : St) : Option (Nat × St) := match n with
  | 0 => none
  | n + 1 => match pc with
    | 0 => ((FX4_checkBounds n v1 (0 : Int32) ((gI u 1) - (1 : Int32))).bind fun w_1 => (if w_1 = 0 then some (0, u) else some (w_1, u)))
    | _ => none
theorem eX4_checkPlace_0 (n : Nat) (v1 : Int32) (u : St) : fX4_checkPlace (n + 1) 0 v1 u = ((FX4_checkBounds n v1 (0 : Int32) ((gI u 1) - (1 : Int32))).bind fun w_1 => (if w_1 = 0 then some (0, u) else some (w_1, u))) := rfl
theorem vX4_checkPlace_0 (v1 : Int32) (u : St) (r : Nat × St) : Ev (fun n => fX4_checkPlace n 0 v1 u) r ↔ Ev (fun n => ((FX4_checkBounds n v1 (0 : Int32) ((gI u 1) - (1 : Int32))).bind fun w_1 => (if w_1 = 0 then some (0, u) else some (w_1, u)))) r := Ev_succ (fun n => fX4_checkPlace n 0 v1 u) r
def FX4_checkPlace (n : Nat) (v1 : Int32) (u : St) : Option (Nat × St) := fX4_checkPlace n 0 v1 u
set_option maxHeartbeats 4000000 in
set_option maxRecDepth 100000 in
theorem mX4_checkPlace (l : Launch) (lt : l.stackTraces = false) (dC : Nat → ClassId) (dI : Nat → Nat → Nat) (cI cL : ClassId) (ad sa : Nat → Nat) (sz : Nat) (u : St) (z1 : Int32) (n : Nat) (r : Nat × St) (hf0 : FX4_checkPlace n z1 u = some r) : vx_Met l yX4_checkPlace wsX4_checkPlace ({ frames := 8, cells := 1, slots := 6, locals := 112 }) (va_Pc [.ref (ad 0), .int z1] (xPre dC dI cI cL sa (cw ad cI cL u) sz)) (va_Qv (fun t => (0, t) = r) (fun t => wPost dC dI cI cL (va_A (cw ad cI cL u) sz) (cw ad cI cL t)) (va_A (cw ad cI cL u) sz)) (vx_X (fun _ : St => True) (fun E t U => ((xcode E, t) = r ∧ 0 < xcode E) ∧ wPost dC dI cI cL (va_A (cw ad cI cL u) sz) (cw ad cI cL t) U) (va_A (cw ad cI cL u) sz)) 1 6 (va_A (cw ad cI cL u) sz) := by
  refine vx_ofW (cc := cX4_checkPlace) (maxL := 2) (ret := none) (by decide) rfl ?_
  intro p e s m args below meth c s₁ B hml ht0 hv
  obtain ⟨rfl, ⟨hsz, hP, hK, hD0, hZ⟩, hX, hq⟩ := hv
  have hx := B.exec
  have hb := B.bytes
  have hr := B.returns
  have hts := atoms_spec (ws := wsX4_checkPlace) B.pre
  have hown : s.vm.findClass RX4 = some m.cls := findClass_of_methodNamed B.named
  have hlocks := B.notSynchronized
  subst hsz
  have hD := hD0.self (sz := s.heap.size)
  generalize hAe : va_A (cw ad cI cL u) s.heap.size = A at hD hq ⊢
  have hA : ∀ q : Nat, s.heap.size ≤ q → A q := fun q h => by rw [← hAe]; exact Or.inr h
  have hS : va_S A s.heap s.heap [] := va_S.rf
  have iX2 : ∀ w ∈ u_ws RX2 TX2 14, w ∈ wsX4_checkPlace := fun _ h => List.mem_cons_of_mem _ (List.mem_append_left _ (List.mem_append_right _ h))
  have iX4 : ∀ w ∈ u_ws RX4 TX4 4, w ∈ wsX4_checkPlace := fun _ h => List.mem_cons_of_mem _ (List.mem_append_left _ (List.mem_append_left _ (List.mem_append_right _ h)))
  have k_0 := hts (.fieldLink RX4 15 "LampChoice" "room" "LLampChoice$Room;") (by decide +kernel)
  have k_1 := hts (.fieldLink RX4 61 "LampChoice$Room" "places" "I") (by decide +kernel)
  have hl := lv_entry ([.ref (ad 0), .int z1]) (n := 2) (Nat.le_of_ble_eq_true rfl)
  rw [lg_entry_eq]
  generalize (lg_sl ([.ref (ad 0), .int z1]) ++ List.replicate (2 - (lg_sl ([.ref (ad 0), .int z1])).length) Slot.unset).toArray = ls at hl ⊢
  have hl : lv_has ls 2 [(0, .ref (ad 0)), (1, .int z1)] := hl
  have key : ∀ n : Nat, (∀ (v1 : Int32) (u : St) (H : Heap) (locs : List Loc) (ls : Array Slot), fX4_checkPlace n 0 v1 u = some r → va_P (dC, dI) vwCl (cw ad cI cL u) H → va_D A (cw ad cI cL u) → va_S A s.heap H locs → lv_has ls 2 [(0, .ref (ad 0)), (1, .int v1)] → W p l e (headSpec wsX4_checkPlace ({ frames := 8, cells := 1, slots := 6, locals := 112 })).room s m ([.ref (ad 0), .int z1] : List Value).toArray below meth c H locs 0 0 (vx_MQ below (va_Qv (fun t => (0, t) = r) (fun t => wPost dC dI cI cL A (cw ad cI cL t)) A) (vx_X (fun _ : St => True) (fun E t U => ((xcode E, t) = r ∧ 0 < xcode E) ∧ wPost dC dI cI cL A (cw ad cI cL t) U) A) ([.ref (ad 0), .int z1] : List Value).toArray s 1 6 A) (F0 m 0 ls [])) := by
    intro n
    induction n with
    | zero => exact (fun _ _ _ _ _ hf => nomatch (show (none : Option (Nat × St)) = some r from hf))
    | succ n ih =>
      have ih0 := ih
      · intro v1 u H locs ls hf hP hD hS hl
        have hf := (eX4_checkPlace_0 n v1 u).symm.trans hf
        refine lv_iload_n hx hb dX4_checkPlace_0 rfl (lv_at hl 1 rfl) ?_
        refine lv_iconst (v := 0) hx hb dX4_checkPlace_1 (by decide) ?_
        refine lv_aload_n hx hb dX4_checkPlace_2 rfl (lv_at hl 0 rfl) ?_
        refine va_get (D := (dC, dI)) (ci := 4) (v := .ref (ad 1)) (C := RX4) (T := TX4) (N := 4) hx hb hts iX4 hown hK hP 0 rfl rfl 0 (by decide) k_0 (fun _ h9 => h9) rfl dX4_checkPlace_3 ?_
        refine va_get (D := (dC, dI)) (ci := 2) (v := .int (gI u 1)) (C := RX2) (T := TX2) (N := 14) hx hb hts iX2 hown hK hP 1 rfl rfl 11 (by decide) k_1 (fun _ h9 => h9) rfl dX4_checkPlace_6 ?_
        refine lv_iconst (v := 1) hx hb dX4_checkPlace_9 (by decide) ?_
        refine lv_isub hx hb dX4_checkPlace_10 ?_
        obtain ⟨w_1, hw_1, hf⟩ := ob hf
        have hFc := freeNil hS hA
        refine vx_callv (vx_runS (As := [.int v1, .int (0 : Int32), .int ((gI u 1) - (1 : Int32))]) (rest := []) ⟨hx, hb, hml, hown, hts⟩ (mX4_checkBounds l lt sa H.size v1 (0 : Int32) ((gI u 1) - (1 : Int32)) n w_1 hw_1) (va_cwS 3 hts gX4_checkPlace_X4_checkBounds rfl rfl rfl (by decide +kernel) ⟨Nat.le_of_ble_eq_true rfl, Nat.le_of_ble_eq_true rfl⟩) ⟨nxPre_blind, nxPre_of hX hq hS hFc⟩ rfl rfl hl.1 rfl (lv_room (Nat.le_of_ble_eq_true rfl)) dX4_checkPlace_11 ⟨by decide, by decide⟩) hS (fun q _ h => hFc q h) hFc (fun q _ h => hFc q h) (fun E ce q9 u2 t H1 locs ht hvm hpx hB hz1 hk1 hS hce hcv hcl => ?_) (fun u2 t H1 locs ht hvm hw hB hz1 hk1 hS => ?_)
        · obtain ⟨hB1, hB2⟩ := hB
          have hf := (if_neg (show ¬ w_1 = 0 from fun h0 => by rw [← hB1] at h0; omega)).symm.trans hf
          have hf := Option.some.inj hf
          have hP := keepP hP hk1
          refine vx_widen (k := 1) (n := 6) (by decide) (by decide) ?_
          exact vx_out (E := E) (fun x hx => (ht0 x hx).elim) hlocks hce hcv hcl (fun t ht ha => ⟨u, trivial, ⟨⟨by rw [hB1]; exact hf, hB2⟩, ⟨by rw [ht]; exact hP, va_K.moved ha hK, hD⟩⟩, hS.F ht⟩) hS.2.2 (Nat.le_refl _) (Nat.le_refl _)
        have hf := (if_pos (show w_1 = 0 from hw.symm)).symm.trans hf
        have hP := keepP hP hk1
        clear hFc hk1 hB
        generalize H1 = H at hP hS ⊢
        refine W.widen (k := 1) (n := 6) (by decide) (by decide) ?_
        have hf := Option.some.inj hf
        refine W.widen (k := 1) (n := 6) (by decide) (by decide) ?_
        refine vx_ret ?_
        exact W.vret hx hb hr (fun t ht hW => ⟨⟨u, rfl, hf, ⟨by rw [ht]; exact hP, va_K.moved hW.alike hK, hD⟩⟩, hS.F ht⟩) hS.2.2 dX4_checkPlace_14
  exact (key n) z1 u _ _ ls hf0 hP hD hS (lv_sub hl [0, 1] rfl)

def fX4_checkPoint (n pc : Nat) (v1 : Int32) (u : St) : Option (Nat × St) := match n with
  | 0 => none
  | n + 1 => match pc with
    | 0 => ((FX4_checkBounds n v1 (0 : Int32) ((gI u 2) - (1 : Int32))).bind fun w_1 => (if w_1 = 0 then some (0, u) else some (w_1, u)))
    | _ => none
theorem eX4_checkPoint_0 (n : Nat) (v1 : Int32) (u : St) : fX4_checkPoint (n + 1) 0 v1 u = ((FX4_checkBounds n v1 (0 : Int32) ((gI u 2) - (1 : Int32))).bind fun w_1 => (if w_1 = 0 then some (0, u) else some (w_1, u))) := rfl
theorem vX4_checkPoint_0 (v1 : Int32) (u : St) (r : Nat × St) : Ev (fun n => fX4_checkPoint n 0 v1 u) r ↔ Ev (fun n => ((FX4_checkBounds n v1 (0 : Int32) ((gI u 2) - (1 : Int32))).bind fun w_1 => (if w_1 = 0 then some (0, u) else some (w_1, u)))) r := Ev_succ (fun n => fX4_checkPoint n 0 v1 u) r
def FX4_checkPoint (n : Nat) (v1 : Int32) (u : St) : Option (Nat × St) := fX4_checkPoint n 0 v1 u
set_option maxHeartbeats 4000000 in
set_option maxRecDepth 100000 in
theorem mX4_checkPoint (l : Launch) (lt : l.stackTraces = false) (dC : Nat → ClassId) (dI : Nat → Nat → Nat) (cI cL : ClassId) (ad sa : Nat → Nat) (sz : Nat) (u : St) (z1 : Int32) (n : Nat) (r : Nat × St) (hf0 : FX4_checkPoint n z1 u = some r) : vx_Met l yX4_checkPoint wsX4_checkPoint ({ frames := 8, cells := 1, slots := 6, locals := 112 }) (va_Pc [.ref (ad 0), .int z1] (xPre dC dI cI cL sa (cw ad cI cL u) sz)) (va_Qv (fun t => (0, t) = r) (fun t => wPost dC dI cI cL (va_A (cw ad cI cL u) sz) (cw ad cI cL t)) (va_A (cw ad cI cL u) sz)) (vx_X (fun _ : St => True) (fun E t U => ((xcode E, t) = r ∧ 0 < xcode E) ∧ wPost dC dI cI cL (va_A (cw ad cI cL u) sz) (cw ad cI cL t) U) (va_A (cw ad cI cL u) sz)) 1 6 (va_A (cw ad cI cL u) sz) := by
  refine vx_ofW (cc := cX4_checkPoint) (maxL := 2) (ret := none) (by decide) rfl ?_
  intro p e s m args below meth c s₁ B hml ht0 hv
  obtain ⟨rfl, ⟨hsz, hP, hK, hD0, hZ⟩, hX, hq⟩ := hv
  have hx := B.exec
  have hb := B.bytes
  have hr := B.returns
  have hts := atoms_spec (ws := wsX4_checkPoint) B.pre
  have hown : s.vm.findClass RX4 = some m.cls := findClass_of_methodNamed B.named
  have hlocks := B.notSynchronized
  subst hsz
  have hD := hD0.self (sz := s.heap.size)
  generalize hAe : va_A (cw ad cI cL u) s.heap.size = A at hD hq ⊢
  have hA : ∀ q : Nat, s.heap.size ≤ q → A q := fun q h => by rw [← hAe]; exact Or.inr h
  have hS : va_S A s.heap s.heap [] := va_S.rf
  have iX2 : ∀ w ∈ u_ws RX2 TX2 14, w ∈ wsX4_checkPoint := fun _ h => List.mem_cons_of_mem _ (List.mem_append_left _ (List.mem_append_right _ h))
  have iX4 : ∀ w ∈ u_ws RX4 TX4 4, w ∈ wsX4_checkPoint := fun _ h => List.mem_cons_of_mem _ (List.mem_append_left _ (List.mem_append_left _ (List.mem_append_right _ h)))
  have k_0 := hts (.fieldLink RX4 15 "LampChoice" "room" "LLampChoice$Room;") (by decide +kernel)
  have k_1 := hts (.fieldLink RX4 68 "LampChoice$Room" "points" "I") (by decide +kernel)
  have hl := lv_entry ([.ref (ad 0), .int z1]) (n := 2) (Nat.le_of_ble_eq_true rfl)
  rw [lg_entry_eq]
  generalize (lg_sl ([.ref (ad 0), .int z1]) ++ List.replicate (2 - (lg_sl ([.ref (ad 0), .int z1])).length) Slot.unset).toArray = ls at hl ⊢
  have hl : lv_has ls 2 [(0, .ref (ad 0)), (1, .int z1)] := hl
  have key : ∀ n : Nat, (∀ (v1 : Int32) (u : St) (H : Heap) (locs : List Loc) (ls : Array Slot), fX4_checkPoint n 0 v1 u = some r → va_P (dC, dI) vwCl (cw ad cI cL u) H → va_D A (cw ad cI cL u) → va_S A s.heap H locs → lv_has ls 2 [(0, .ref (ad 0)), (1, .int v1)] → W p l e (headSpec wsX4_checkPoint ({ frames := 8, cells := 1, slots := 6, locals := 112 })).room s m ([.ref (ad 0), .int z1] : List Value).toArray below meth c H locs 0 0 (vx_MQ below (va_Qv (fun t => (0, t) = r) (fun t => wPost dC dI cI cL A (cw ad cI cL t)) A) (vx_X (fun _ : St => True) (fun E t U => ((xcode E, t) = r ∧ 0 < xcode E) ∧ wPost dC dI cI cL A (cw ad cI cL t) U) A) ([.ref (ad 0), .int z1] : List Value).toArray s 1 6 A) (F0 m 0 ls [])) := by
    intro n
    induction n with
    | zero => exact (fun _ _ _ _ _ hf => nomatch (show (none : Option (Nat × St)) = some r from hf))
    | succ n ih =>
      have ih0 := ih
      · intro v1 u H locs ls hf hP hD hS hl
        have hf := (eX4_checkPoint_0 n v1 u).symm.trans hf
        refine lv_iload_n hx hb dX4_checkPoint_0 rfl (lv_at hl 1 rfl) ?_
        refine lv_iconst (v := 0) hx hb dX4_checkPoint_1 (by decide) ?_
        refine lv_aload_n hx hb dX4_checkPoint_2 rfl (lv_at hl 0 rfl) ?_
        refine va_get (D := (dC, dI)) (ci := 4) (v := .ref (ad 1)) (C := RX4) (T := TX4) (N := 4) hx hb hts iX4 hown hK hP 0 rfl rfl 0 (by decide) k_0 (fun _ h9 => h9) rfl dX4_checkPoint_3 ?_
        refine va_get (D := (dC, dI)) (ci := 2) (v := .int (gI u 2)) (C := RX2) (T := TX2) (N := 14) hx hb hts iX2 hown hK hP 1 rfl rfl 12 (by decide) k_1 (fun _ h9 => h9) rfl dX4_checkPoint_6 ?_
        refine lv_iconst (v := 1) hx hb dX4_checkPoint_9 (by decide) ?_
        refine lv_isub hx hb dX4_checkPoint_10 ?_
        obtain ⟨w_1, hw_1, hf⟩ := ob hf
        have hFc := freeNil hS hA
        refine vx_callv (vx_runS (As := [.int v1, .int (0 : Int32), .int ((gI u 2) - (1 : Int32))]) (rest := []) ⟨hx, hb, hml, hown, hts⟩ (mX4_checkBounds l lt sa H.size v1 (0 : Int32) ((gI u 2) - (1 : Int32)) n w_1 hw_1) (va_cwS 3 hts gX4_checkPoint_X4_checkBounds rfl rfl rfl (by decide +kernel) ⟨Nat.le_of_ble_eq_true rfl, Nat.le_of_ble_eq_true rfl⟩) ⟨nxPre_blind, nxPre_of hX hq hS hFc⟩ rfl rfl hl.1 rfl (lv_room (Nat.le_of_ble_eq_true rfl)) dX4_checkPoint_11 ⟨by decide, by decide⟩) hS (fun q _ h => hFc q h) hFc (fun q _ h => hFc q h) (fun E ce q9 u2 t H1 locs ht hvm hpx hB hz1 hk1 hS hce hcv hcl => ?_) (fun u2 t H1 locs ht hvm hw hB hz1 hk1 hS => ?_)
        · obtain ⟨hB1, hB2⟩ := hB
          have hf := (if_neg (show ¬ w_1 = 0 from fun h0 => by rw [← hB1] at h0; omega)).symm.trans hf
          have hf := Option.some.inj hf
          have hP := keepP hP hk1
          refine vx_widen (k := 1) (n := 6) (by decide) (by decide) ?_
          exact vx_out (E := E) (fun x hx => (ht0 x hx).elim) hlocks hce hcv hcl (fun t ht ha => ⟨u, trivial, ⟨⟨by rw [hB1]; exact hf, hB2⟩, ⟨by rw [ht]; exact hP, va_K.moved ha hK, hD⟩⟩, hS.F ht⟩) hS.2.2 (Nat.le_refl _) (Nat.le_refl _)
        have hf := (if_pos (show w_1 = 0 from hw.symm)).symm.trans hf
        have hP := keepP hP hk1
        clear hFc hk1 hB
        generalize H1 = H at hP hS ⊢
        refine W.widen (k := 1) (n := 6) (by decide) (by decide) ?_
        have hf := Option.some.inj hf
        refine W.widen (k := 1) (n := 6) (by decide) (by decide) ?_
        refine vx_ret ?_
        exact W.vret hx hb hr (fun t ht hW => ⟨⟨u, rfl, hf, ⟨by rw [ht]; exact hP, va_K.moved hW.alike hK, hD⟩⟩, hS.F ht⟩) hS.2.2 dX4_checkPoint_14
  exact (key n) z1 u _ _ ls hf0 hP hD hS (lv_sub hl [0, 1] rfl)

def fX4_lampsGo (n pc : Nat) (u : St) : Option (St) := match n with
  | 0 => none
  | n + 1 => match pc with
    | 0 => ((FX1_startAnew n  (sI (sI u 6 (0 : Int32)) 8 (0 : Int32))).bind fun w_1 => some w_1)
    | _ => none
theorem eX4_lampsGo_0 (n : Nat) (u : St) : fX4_lampsGo (n + 1) 0  u = ((FX1_startAnew n  (sI (sI u 6 (0 : Int32)) 8 (0 : Int32))).bind fun w_1 => some w_1) := rfl
theorem vX4_lampsGo_0 (u : St) (r : St) : Ev (fun n => fX4_lampsGo n 0  u) r ↔ Ev (fun n => ((FX1_startAnew n  (sI (sI u 6 (0 : Int32)) 8 (0 : Int32))).bind fun w_1 => some w_1)) r := Ev_succ (fun n => fX4_lampsGo n 0  u) r
def FX4_lampsGo (n : Nat) (u : St) : Option (St) := fX4_lampsGo n 0  u
set_option maxHeartbeats 4000000 in
set_option maxRecDepth 100000 in
theorem mX4_lampsGo (l : Launch) (dC : Nat → ClassId) (dI : Nat → Nat → Nat) (cI cL : ClassId) (ad : Nat → Nat) (sz : Nat) (u : St) (n : Nat) (r : St) (hf0 : FX4_lampsGo n  u = some r) : Met l yX4_lampsGo wsX4_lampsGo ({ frames := 2, cells := 0, slots := 0, locals := 43 }) (va_Pc [.ref (ad 0)] (wPre dC dI cI cL (cw ad cI cL u) sz)) (va_Qv (fun t => t = r) (fun t => wPost dC dI cI cL (va_A (cw ad cI cL u) sz) (cw ad cI cL t)) (va_A (cw ad cI cL u) sz)) 0 0 (va_A (cw ad cI cL u) sz) := by
  refine Met.ofW (cc := cX4_lampsGo) (maxL := 1) (ret := none) (by decide) rfl ?_
  intro p e s m args below meth c s₁ B hml hv
  obtain ⟨rfl, hsz, hP, hK, hD0, hZ⟩ := hv
  have hx := B.exec
  have hb := B.bytes
  have hr := B.returns
  have hts := atoms_spec (ws := wsX4_lampsGo) B.pre
  have hown : s.vm.findClass RX4 = some m.cls := findClass_of_methodNamed B.named
  have hlocks := B.notSynchronized
  subst hsz
  have hD := hD0.self (sz := s.heap.size)
  generalize hAe : va_A (cw ad cI cL u) s.heap.size = A at hD ⊢
  have hA : ∀ q : Nat, s.heap.size ≤ q → A q := fun q h => by rw [← hAe]; exact Or.inr h
  have hS : va_S A s.heap s.heap [] := va_S.rf
  have iX0 : ∀ w ∈ u_ws RX0 TX0 12, w ∈ wsX4_lampsGo := fun _ h => List.mem_cons_of_mem _ (List.mem_append_left _ (List.mem_append_left _ (List.mem_append_right _ h)))
  have iX3 : ∀ w ∈ u_ws RX3 TX3 7, w ∈ wsX4_lampsGo := fun _ h => List.mem_cons_of_mem _ (List.mem_append_left _ (List.mem_append_right _ h))
  have iX4 : ∀ w ∈ u_ws RX4 TX4 4, w ∈ wsX4_lampsGo := fun _ h => List.mem_cons_of_mem _ (List.mem_append_left _ (List.mem_append_left _ (List.mem_append_left _ (List.mem_append_right _ h))))
  have k_0 := hts (.fieldLink RX4 21 "LampChoice" "choice" "LLampChoice$Choice;") (by decide +kernel)
  have k_1 := hts (.fieldLink RX4 179 "LampChoice$Choice" "known" "Z") (by decide +kernel)
  have k_2 := hts (.fieldLink RX4 30 "LampChoice" "scenes" "LLampChoice$Scenes;") (by decide +kernel)
  have k_3 := hts (.fieldLink RX4 182 "LampChoice$Scenes" "known" "Z") (by decide +kernel)
  have k_4 := hts (.fieldLink RX4 37 "LampChoice" "days" "LLampChoice$Days;") (by decide +kernel)
  have hl := lv_entry ([.ref (ad 0)]) (n := 1) (Nat.le_of_ble_eq_true rfl)
  rw [lg_entry_eq]
  generalize (lg_sl ([.ref (ad 0)]) ++ List.replicate (1 - (lg_sl ([.ref (ad 0)])).length) Slot.unset).toArray = ls at hl ⊢
  have hl : lv_has ls 1 [(0, .ref (ad 0))] := hl
  have key : ∀ n : Nat, (∀ (u : St) (H : Heap) (locs : List Loc) (ls : Array Slot), fX4_lampsGo n 0  u = some r → va_P (dC, dI) vwCl (cw ad cI cL u) H → va_D A (cw ad cI cL u) → va_S A s.heap H locs → lv_has ls 1 [(0, .ref (ad 0))] → W p l e (headSpec wsX4_lampsGo ({ frames := 2, cells := 0, slots := 0, locals := 43 })).room s m ([.ref (ad 0)] : List Value).toArray below meth c H locs 0 0 (MQ below (va_Qv (fun t => t = r) (fun t => wPost dC dI cI cL A (cw ad cI cL t)) A) ([.ref (ad 0)] : List Value).toArray s 0 0 A) (F0 m 0 ls [])) := by
    intro n
    induction n with
    | zero => exact (fun _ _ _ _ hf => nomatch (show (none : Option (St)) = some r from hf))
    | succ n ih =>
      have ih0 := ih
      · intro  u H locs ls hf hP hD hS hl
        have hf := (eX4_lampsGo_0 n  u).symm.trans hf
        refine lv_aload_n hx hb dX4_lampsGo_0 rfl (lv_at hl 0 rfl) ?_
        refine va_get (D := (dC, dI)) (ci := 4) (v := .ref (ad 2)) (C := RX4) (T := TX4) (N := 4) hx hb hts iX4 hown hK hP 0 rfl rfl 1 (by decide) k_0 (fun _ h9 => h9) rfl dX4_lampsGo_1 ?_
        refine lv_iconst (v := 0) hx hb dX4_lampsGo_4 (by decide) ?_
        refine va_put (D := (dC, dI)) (ci := 0) (v := .int (0 : Int32)) (ty := .boolean) (C := RX0) (T := TX0) (N := 12) hx hb hts iX0 tyX0 tyX0_ok nmX0 hown hK hP hD hS 2 rfl rfl 11 (by decide) k_1 (fun _ h9 => h9) rfl (by decide +kernel) rfl rfl (Nat.le_of_ble_eq_true rfl) dX4_lampsGo_5 (fun H locs hP hD hS => ?_)
        have hP : va_P (dC, dI) vwCl (cw ad cI cL (sI u 6 (0 : Int32))) H := hP
        have hD : va_D A (cw ad cI cL (sI u 6 (0 : Int32))) := hD
        refine lv_aload_n hx hb dX4_lampsGo_8 rfl (lv_at hl 0 rfl) ?_
        refine va_get (D := (dC, dI)) (ci := 4) (v := .ref (ad 3)) (C := RX4) (T := TX4) (N := 4) hx hb hts iX4 hown hK hP 0 rfl rfl 2 (by decide) k_2 (fun _ h9 => h9) rfl dX4_lampsGo_9 ?_
        refine lv_iconst (v := 0) hx hb dX4_lampsGo_12 (by decide) ?_
        refine va_put (D := (dC, dI)) (ci := 3) (v := .int (0 : Int32)) (ty := .boolean) (C := RX3) (T := TX3) (N := 7) hx hb hts iX3 tyX3 tyX3_ok nmX3 hown hK hP hD hS 3 rfl rfl 6 (by decide) k_3 (fun _ h9 => h9) rfl (by decide +kernel) rfl rfl (Nat.le_of_ble_eq_true rfl) dX4_lampsGo_13 (fun H locs hP hD hS => ?_)
        have hP : va_P (dC, dI) vwCl (cw ad cI cL (sI (sI u 6 (0 : Int32)) 8 (0 : Int32))) H := hP
        have hD : va_D A (cw ad cI cL (sI (sI u 6 (0 : Int32)) 8 (0 : Int32))) := hD
        refine lv_aload_n hx hb dX4_lampsGo_16 rfl (lv_at hl 0 rfl) ?_
        refine va_get (D := (dC, dI)) (ci := 4) (v := .ref (ad 4)) (C := RX4) (T := TX4) (N := 4) hx hb hts iX4 hown hK hP 0 rfl rfl 3 (by decide) k_4 (fun _ h9 => h9) rfl dX4_lampsGo_17 ?_
        obtain ⟨w_1, hw_1, hf⟩ := ob hf
        have hFc := freeAll hD hS hA
        refine va_callv (va_runV (As := []) (rest := []) ⟨hx, hb, hml, hown, hts⟩ (mX1_startAnew l dC dI cI cL ad H.size (sI (sI u 6 (0 : Int32)) 8 (0 : Int32))  n w_1 hw_1) (cwV 0 hts gX4_lampsGo_X1_startAnew rfl rfl rfl (by decide +kernel) ⟨Nat.le_of_ble_eq_true rfl, Nat.le_of_ble_eq_true rfl⟩) ⟨wPre_blind, va_recv hK hP (ci := 1) (q0 := 4) rfl rfl, wPre_of hP hK hD hZ⟩ rfl rfl hl.1 rfl (lv_room (Nat.le_of_ble_eq_true rfl)) dX4_lampsGo_20 ⟨Nat.zero_le _, Nat.zero_le _⟩) hS (fun q _ h => hFc q h) hFc (fun u2 t H1 locs ht hvm hw hB hz1 hk1 hS => ?_)
        obtain ⟨hP1, hK1, hD1⟩ := hB
        rw [ht] at hP1
        subst u2
        have hP : va_P (dC, dI) vwCl (cw ad cI cL w_1) H1 := hP1
        have hD : va_D A (cw ad cI cL w_1) := hD1.weaken (fun _ _ _ h => hFc _ h)
        clear hP1 hD1 hK1 hFc hk1
        generalize H1 = H at hP hS ⊢
        have hf := Option.some.inj hf
        exact W.vret hx hb hr (fun t ht hW => ⟨⟨w_1, rfl, hf, ⟨by rw [ht]; exact hP, va_K.moved hW.alike hK, hD⟩⟩, hS.F ht⟩) hS.2.2 dX4_lampsGo_23
  exact (key n)  u _ _ ls hf0 hP hD hS (lv_sub hl [0] rfl)

def fX4_settleScene (n pc : Nat) (u : St) : Option (St) := match n with
  | 0 => none
  | n + 1 => match pc with
    | 0 => ((FX0_settle n  u).bind fun w_1 => ((FX3_settle n  w_1).bind fun w_2 => some w_2))
    | _ => none
theorem eX4_settleScene_0 (n : Nat) (u : St) : fX4_settleScene (n + 1) 0  u = ((FX0_settle n  u).bind fun w_1 => ((FX3_settle n  w_1).bind fun w_2 => some w_2)) := rfl
theorem vX4_settleScene_0 (u : St) (r : St) : Ev (fun n => fX4_settleScene n 0  u) r ↔ Ev (fun n => ((FX0_settle n  u).bind fun w_1 => ((FX3_settle n  w_1).bind fun w_2 => some w_2))) r := Ev_succ (fun n => fX4_settleScene n 0  u) r
def FX4_settleScene (n : Nat) (u : St) : Option (St) := fX4_settleScene n 0  u
set_option maxHeartbeats 4000000 in
set_option maxRecDepth 100000 in
theorem mX4_settleScene (l : Launch) (dC : Nat → ClassId) (dI : Nat → Nat → Nat) (cI cL : ClassId) (ad : Nat → Nat) (sz : Nat) (u : St) (n : Nat) (r : St) (hf0 : FX4_settleScene n  u = some r) : Met l yX4_settleScene wsX4_settleScene ({ frames := 12, cells := 0, slots := 0, locals := 323 }) (va_Pc [.ref (ad 0)] (wPre dC dI cI cL (cw ad cI cL u) sz)) (va_Qv (fun t => t = r) (fun t => wPost dC dI cI cL (va_A (cw ad cI cL u) sz) (cw ad cI cL t)) (va_A (cw ad cI cL u) sz)) 0 0 (va_A (cw ad cI cL u) sz) := by
  refine Met.ofW (cc := cX4_settleScene) (maxL := 1) (ret := none) (by decide) rfl ?_
  intro p e s m args below meth c s₁ B hml hv
  obtain ⟨rfl, hsz, hP, hK, hD0, hZ⟩ := hv
  have hx := B.exec
  have hb := B.bytes
  have hr := B.returns
  have hts := atoms_spec (ws := wsX4_settleScene) B.pre
  have hown : s.vm.findClass RX4 = some m.cls := findClass_of_methodNamed B.named
  have hlocks := B.notSynchronized
  subst hsz
  have hD := hD0.self (sz := s.heap.size)
  generalize hAe : va_A (cw ad cI cL u) s.heap.size = A at hD ⊢
  have hA : ∀ q : Nat, s.heap.size ≤ q → A q := fun q h => by rw [← hAe]; exact Or.inr h
  have hS : va_S A s.heap s.heap [] := va_S.rf
  have iX4 : ∀ w ∈ u_ws RX4 TX4 4, w ∈ wsX4_settleScene := fun _ h => List.mem_cons_of_mem _ (List.mem_append_left _ (List.mem_append_left _ (List.mem_append_left _ (List.mem_append_right _ h))))
  have k_0 := hts (.fieldLink RX4 21 "LampChoice" "choice" "LLampChoice$Choice;") (by decide +kernel)
  have k_1 := hts (.fieldLink RX4 30 "LampChoice" "scenes" "LLampChoice$Scenes;") (by decide +kernel)
  have hl := lv_entry ([.ref (ad 0)]) (n := 1) (Nat.le_of_ble_eq_true rfl)
  rw [lg_entry_eq]
  generalize (lg_sl ([.ref (ad 0)]) ++ List.replicate (1 - (lg_sl ([.ref (ad 0)])).length) Slot.unset).toArray = ls at hl ⊢
  have hl : lv_has ls 1 [(0, .ref (ad 0))] := hl
  have key : ∀ n : Nat, (∀ (u : St) (H : Heap) (locs : List Loc) (ls : Array Slot), fX4_settleScene n 0  u = some r → va_P (dC, dI) vwCl (cw ad cI cL u) H → va_D A (cw ad cI cL u) → va_S A s.heap H locs → lv_has ls 1 [(0, .ref (ad 0))] → W p l e (headSpec wsX4_settleScene ({ frames := 12, cells := 0, slots := 0, locals := 323 })).room s m ([.ref (ad 0)] : List Value).toArray below meth c H locs 0 0 (MQ below (va_Qv (fun t => t = r) (fun t => wPost dC dI cI cL A (cw ad cI cL t)) A) ([.ref (ad 0)] : List Value).toArray s 0 0 A) (F0 m 0 ls [])) := by
    intro n
    induction n with
    | zero => exact (fun _ _ _ _ hf => nomatch (show (none : Option (St)) = some r from hf))
    | succ n ih =>
      have ih0 := ih
      · intro  u H locs ls hf hP hD hS hl
        have hf := (eX4_settleScene_0 n  u).symm.trans hf
        refine lv_aload_n hx hb dX4_settleScene_0 rfl (lv_at hl 0 rfl) ?_
        refine va_get (D := (dC, dI)) (ci := 4) (v := .ref (ad 2)) (C := RX4) (T := TX4) (N := 4) hx hb hts iX4 hown hK hP 0 rfl rfl 1 (by decide) k_0 (fun _ h9 => h9) rfl dX4_settleScene_1 ?_
        obtain ⟨w_1, hw_1, hf⟩ := ob hf
        have hFc := freeAll hD hS hA
        refine va_callv (va_runV (As := []) (rest := []) ⟨hx, hb, hml, hown, hts⟩ (mX0_settle l dC dI cI cL ad H.size u  n w_1 hw_1) (cwV 0 hts gX4_settleScene_X0_settle rfl rfl rfl (by decide +kernel) ⟨Nat.le_of_ble_eq_true rfl, Nat.le_of_ble_eq_true rfl⟩) ⟨wPre_blind, va_recv hK hP (ci := 0) (q0 := 2) rfl rfl, wPre_of hP hK hD hZ⟩ rfl rfl hl.1 rfl (lv_room (Nat.le_of_ble_eq_true rfl)) dX4_settleScene_4 ⟨Nat.zero_le _, Nat.zero_le _⟩) hS (fun q _ h => hFc q h) hFc (fun u2 t H1 locs ht hvm hw hB hz1 hk1 hS => ?_)
        obtain ⟨hP1, hK1, hD1⟩ := hB
        rw [ht] at hP1
        subst u2
        have hP : va_P (dC, dI) vwCl (cw ad cI cL w_1) H1 := hP1
        have hD : va_D A (cw ad cI cL w_1) := hD1.weaken (fun _ _ _ h => hFc _ h)
        clear hP1 hD1 hK1 hFc hk1
        generalize H1 = H at hP hS ⊢
        refine lv_aload_n hx hb dX4_settleScene_7 rfl (lv_at hl 0 rfl) ?_
        refine va_get (D := (dC, dI)) (ci := 4) (v := .ref (ad 3)) (C := RX4) (T := TX4) (N := 4) hx hb hts iX4 hown hK hP 0 rfl rfl 2 (by decide) k_1 (fun _ h9 => h9) rfl dX4_settleScene_8 ?_
        obtain ⟨w_2, hw_2, hf⟩ := ob hf
        have hFc := freeAll hD hS hA
        refine va_callv (va_runV (As := []) (rest := []) ⟨hx, hb, hml, hown, hts⟩ (mX3_settle l dC dI cI cL ad H.size w_1  n w_2 hw_2) (cwV 0 hts gX4_settleScene_X3_settle rfl rfl rfl (by decide +kernel) ⟨Nat.le_of_ble_eq_true rfl, Nat.le_of_ble_eq_true rfl⟩) ⟨wPre_blind, va_recv hK hP (ci := 3) (q0 := 3) rfl rfl, wPre_of hP hK hD hZ⟩ rfl rfl hl.1 rfl (lv_room (Nat.le_of_ble_eq_true rfl)) dX4_settleScene_11 ⟨Nat.zero_le _, Nat.zero_le _⟩) hS (fun q _ h => hFc q h) hFc (fun u2 t H1 locs ht hvm hw hB hz1 hk1 hS => ?_)
        obtain ⟨hP1, hK1, hD1⟩ := hB
        rw [ht] at hP1
        subst u2
        have hP : va_P (dC, dI) vwCl (cw ad cI cL w_2) H1 := hP1
        have hD : va_D A (cw ad cI cL w_2) := hD1.weaken (fun _ _ _ h => hFc _ h)
        clear hP1 hD1 hK1 hFc hk1
        generalize H1 = H at hP hS ⊢
        have hf := Option.some.inj hf
        exact W.vret hx hb hr (fun t ht hW => ⟨⟨w_2, rfl, hf, ⟨by rw [ht]; exact hP, va_K.moved hW.alike hK, hD⟩⟩, hS.F ht⟩) hS.2.2 dX4_settleScene_14
  exact (key n)  u _ _ ls hf0 hP hD hS (lv_sub hl [0] rfl)

def fX4_kind (n pc : Nat) (v1 : Int32) (v2 : Int32) (v3 : Int32) (v4 : Int32) (u : St) : Option (Nat × Int32 × St) := match n with
  | 0 => none
  | n + 1 => match pc with
    | 0 => ((FX4_checkBounds n v1 (1 : Int32) (10000 : Int32)).bind fun w_1 => (if w_1 = 0 then ((FX4_checkBounds n v2 (1 : Int32) (500 : Int32)).bind fun w_2 => (if w_2 = 0 then ((FX4_checkBounds n v3 (1 : Int32) (100000 : Int32)).bind fun w_3 => (if w_3 = 0 then ((FX4_checkBounds n v4 (0 : Int32) (100000 : Int32)).bind fun w_4 => (if w_4 = 0 then ((FX4_checkCount n (gI u 0) (3 : Int32)).bind fun w_5 => (if w_5 = 0 then ((FX2_addKind n v1 v2 v3 v4 u).bind fun w_6 => ((FX4_lampsGo n  w_6.2).bind fun w_7 => some (0, w_6.1, w_7))) else some (w_5, (0 : Int32), u))) else some (w_4, (0 : Int32), u))) else some (w_3, (0 : Int32), u))) else some (w_2, (0 : Int32), u))) else some (w_1, (0 : Int32), u)))
    | _ => none
theorem eX4_kind_0 (n : Nat) (v1 : Int32) (v2 : Int32) (v3 : Int32) (v4 : Int32) (u : St) : fX4_kind (n + 1) 0 v1 v2 v3 v4 u = ((FX4_checkBounds n v1 (1 : Int32) (10000 : Int32)).bind fun w_1 => (if w_1 = 0 then ((FX4_checkBounds n v2 (1 : Int32) (500 : Int32)).bind fun w_2 => (if w_2 = 0 then ((FX4_checkBounds n v3 (1 : Int32) (100000 : Int32)).bind fun w_3 => (if w_3 = 0 then ((FX4_checkBounds n v4 (0 : Int32) (100000 : Int32)).bind fun w_4 => (if w_4 = 0 then ((FX4_checkCount n (gI u 0) (3 : Int32)).bind fun w_5 => (if w_5 = 0 then ((FX2_addKind n v1 v2 v3 v4 u).bind fun w_6 => ((FX4_lampsGo n  w_6.2).bind fun w_7 => some (0, w_6.1, w_7))) else some (w_5, (0 : Int32), u))) else some (w_4, (0 : Int32), u))) else some (w_3, (0 : Int32), u))) else some (w_2, (0 : Int32), u))) else some (w_1, (0 : Int32), u))) := rfl
theorem vX4_kind_0 (v1 : Int32) (v2 : Int32) (v3 : Int32) (v4 : Int32) (u : St) (r : Nat × Int32 × St) : Ev (fun n => fX4_kind n 0 v1 v2 v3 v4 u) r ↔ Ev (fun n => ((FX4_checkBounds n v1 (1 : Int32) (10000 : Int32)).bind fun w_1 => (if w_1 = 0 then ((FX4_checkBounds n v2 (1 : Int32) (500 : Int32)).bind fun w_2 => (if w_2 = 0 then ((FX4_checkBounds n v3 (1 : Int32) (100000 : Int32)).bind fun w_3 => (if w_3 = 0 then ((FX4_checkBounds n v4 (0 : Int32) (100000 : Int32)).bind fun w_4 => (if w_4 = 0 then ((FX4_checkCount n (gI u 0) (3 : Int32)).bind fun w_5 => (if w_5 = 0 then ((FX2_addKind n v1 v2 v3 v4 u).bind fun w_6 => ((FX4_lampsGo n  w_6.2).bind fun w_7 => some (0, w_6.1, w_7))) else some (w_5, (0 : Int32), u))) else some (w_4, (0 : Int32), u))) else some (w_3, (0 : Int32), u))) else some (w_2, (0 : Int32), u))) else some (w_1, (0 : Int32), u)))) r := Ev_succ (fun n => fX4_kind n 0 v1 v2 v3 v4 u) r
def FX4_kind (n : Nat) (v1 : Int32) (v2 : Int32) (v3 : Int32) (v4 : Int32) (u : St) : Option (Nat × Int32 × St) := fX4_kind n 0 v1 v2 v3 v4 u
set_option maxHeartbeats 4000000 in
set_option maxRecDepth 100000 in
theorem mX4_kind (l : Launch) (lt : l.stackTraces = false) (dC : Nat → ClassId) (dI : Nat → Nat → Nat) (cI cL : ClassId) (ad sa : Nat → Nat) (sz : Nat) (u : St) (z1 : Int32) (z2 : Int32) (z3 : Int32) (z4 : Int32) (n : Nat) (r : Nat × Int32 × St) (hf0 : FX4_kind n z1 z2 z3 z4 u = some r) : vx_Met l yX4_kind wsX4_kind ({ frames := 8, cells := 5, slots := 30, locals := 112 }) (va_Pc [.ref (ad 0), .int z1, .int z2, .int z3, .int z4] (xPre dC dI cI cL sa (cw ad cI cL u) sz)) (va_Qi (fun a t => (0, a, t) = r) (fun t => wPost dC dI cI cL (va_A (cw ad cI cL u) sz) (cw ad cI cL t)) (va_A (cw ad cI cL u) sz)) (vx_X (fun _ : St => True) (fun E t U => ((xcode E, (0 : Int32), t) = r ∧ 0 < xcode E) ∧ wPost dC dI cI cL (va_A (cw ad cI cL u) sz) (cw ad cI cL t) U) (va_A (cw ad cI cL u) sz)) 5 30 (va_A (cw ad cI cL u) sz) := by
  refine vx_ofW (cc := cX4_kind) (maxL := 6) (ret := (some .int)) (by decide) rfl ?_
  intro p e s m args below meth c s₁ B hml ht0 hv
  obtain ⟨rfl, ⟨hsz, hP, hK, hD0, hZ⟩, hX, hq⟩ := hv
  have hx := B.exec
  have hb := B.bytes
  have hr := B.returns
  have hts := atoms_spec (ws := wsX4_kind) B.pre
  have hown : s.vm.findClass RX4 = some m.cls := findClass_of_methodNamed B.named
  have hlocks := B.notSynchronized
  subst hsz
  have hD := hD0.self (sz := s.heap.size)
  generalize hAe : va_A (cw ad cI cL u) s.heap.size = A at hD hq ⊢
  have hA : ∀ q : Nat, s.heap.size ≤ q → A q := fun q h => by rw [← hAe]; exact Or.inr h
  have hS : va_S A s.heap s.heap [] := va_S.rf
  have iX2 : ∀ w ∈ u_ws RX2 TX2 14, w ∈ wsX4_kind := fun _ h => List.mem_cons_of_mem _ (List.mem_append_left _ (List.mem_append_left _ (List.mem_append_left _ (List.mem_append_left _ (List.mem_append_left _ (List.mem_append_right _ h))))))
  have iX4 : ∀ w ∈ u_ws RX4 TX4 4, w ∈ wsX4_kind := fun _ h => List.mem_cons_of_mem _ (List.mem_append_left _ (List.mem_append_left _ (List.mem_append_left _ (List.mem_append_left _ (List.mem_append_left _ (List.mem_append_left _ (List.mem_append_right _ h)))))))
  have k_0 := hts (.constant RX4 45 (100000)) (by decide +kernel)
  have k_1 := hts (.fieldLink RX4 15 "LampChoice" "room" "LLampChoice$Room;") (by decide +kernel)
  have k_2 := hts (.fieldLink RX4 46 "LampChoice$Room" "kinds" "I") (by decide +kernel)
  have hl := lv_entry ([.ref (ad 0), .int z1, .int z2, .int z3, .int z4]) (n := 6) (Nat.le_of_ble_eq_true rfl)
  rw [lg_entry_eq]
  generalize (lg_sl ([.ref (ad 0), .int z1, .int z2, .int z3, .int z4]) ++ List.replicate (6 - (lg_sl ([.ref (ad 0), .int z1, .int z2, .int z3, .int z4])).length) Slot.unset).toArray = ls at hl ⊢
  have hl : lv_has ls 6 [(0, .ref (ad 0)), (1, .int z1), (2, .int z2), (3, .int z3), (4, .int z4)] := hl
  have key : ∀ n : Nat, (∀ (v1 : Int32) (v2 : Int32) (v3 : Int32) (v4 : Int32) (u : St) (H : Heap) (locs : List Loc) (ls : Array Slot), fX4_kind n 0 v1 v2 v3 v4 u = some r → va_P (dC, dI) vwCl (cw ad cI cL u) H → va_D A (cw ad cI cL u) → va_S A s.heap H locs → lv_has ls 6 [(0, .ref (ad 0)), (1, .int v1), (2, .int v2), (3, .int v3), (4, .int v4)] → W p l e (headSpec wsX4_kind ({ frames := 8, cells := 5, slots := 30, locals := 112 })).room s m ([.ref (ad 0), .int z1, .int z2, .int z3, .int z4] : List Value).toArray below meth c H locs 0 0 (vx_MQ below (va_Qi (fun a t => (0, a, t) = r) (fun t => wPost dC dI cI cL A (cw ad cI cL t)) A) (vx_X (fun _ : St => True) (fun E t U => ((xcode E, (0 : Int32), t) = r ∧ 0 < xcode E) ∧ wPost dC dI cI cL A (cw ad cI cL t) U) A) ([.ref (ad 0), .int z1, .int z2, .int z3, .int z4] : List Value).toArray s 5 30 A) (F0 m 0 ls [])) := by
    intro n
    induction n with
    | zero => exact (fun _ _ _ _ _ _ _ _ hf => nomatch (show (none : Option (Nat × Int32 × St)) = some r from hf))
    | succ n ih =>
      have ih0 := ih
      · intro v1 v2 v3 v4 u H locs ls hf hP hD hS hl
        have hf := (eX4_kind_0 n v1 v2 v3 v4 u).symm.trans hf
        refine lv_iload_n hx hb dX4_kind_0 rfl (lv_at hl 1 rfl) ?_
        refine lv_iconst (v := 1) hx hb dX4_kind_1 (by decide) ?_
        refine lv_sipush (v := 10000) hx hb dX4_kind_2 (by decide) ?_
        obtain ⟨w_1, hw_1, hf⟩ := ob hf
        have hFc := freeNil hS hA
        refine vx_callv (vx_runS (As := [.int v1, .int (1 : Int32), .int (10000 : Int32)]) (rest := []) ⟨hx, hb, hml, hown, hts⟩ (mX4_checkBounds l lt sa H.size v1 (1 : Int32) (10000 : Int32) n w_1 hw_1) (va_cwS 3 hts gX4_kind_X4_checkBounds rfl rfl rfl (by decide +kernel) ⟨Nat.le_of_ble_eq_true rfl, Nat.le_of_ble_eq_true rfl⟩) ⟨nxPre_blind, nxPre_of hX hq hS hFc⟩ rfl rfl hl.1 rfl (lv_room (Nat.le_of_ble_eq_true rfl)) dX4_kind_5 ⟨by decide, by decide⟩) hS (fun q _ h => hFc q h) hFc (fun q _ h => hFc q h) (fun E ce q9 u2 t H1 locs ht hvm hpx hB hz1 hk1 hS hce hcv hcl => ?_) (fun u2 t H1 locs ht hvm hw hB hz1 hk1 hS => ?_)
        · obtain ⟨hB1, hB2⟩ := hB
          have hf := (if_neg (show ¬ w_1 = 0 from fun h0 => by rw [← hB1] at h0; omega)).symm.trans hf
          have hf := Option.some.inj hf
          have hP := keepP hP hk1
          refine vx_widen (k := 5) (n := 30) (by decide) (by decide) ?_
          exact vx_out (E := E) (fun x hx => (ht0 x hx).elim) hlocks hce hcv hcl (fun t ht ha => ⟨u, trivial, ⟨⟨by rw [hB1]; exact hf, hB2⟩, ⟨by rw [ht]; exact hP, va_K.moved ha hK, hD⟩⟩, hS.F ht⟩) hS.2.2 (Nat.le_refl _) (Nat.le_refl _)
        have hf := (if_pos (show w_1 = 0 from hw.symm)).symm.trans hf
        have hP := keepP hP hk1
        clear hFc hk1 hB
        generalize H1 = H at hP hS ⊢
        refine W.widen (k := 1) (n := 6) (by decide) (by decide) ?_
        refine lv_iload_n hx hb dX4_kind_8 rfl (lv_at hl 2 rfl) ?_
        refine lv_iconst (v := 1) hx hb dX4_kind_9 (by decide) ?_
        refine lv_sipush (v := 500) hx hb dX4_kind_10 (by decide) ?_
        obtain ⟨w_2, hw_2, hf⟩ := ob hf
        have hFc := freeNil hS hA
        refine vx_callv (vx_runS (As := [.int v2, .int (1 : Int32), .int (500 : Int32)]) (rest := []) ⟨hx, hb, hml, hown, hts⟩ (mX4_checkBounds l lt sa H.size v2 (1 : Int32) (500 : Int32) n w_2 hw_2) (va_cwS 3 hts gX4_kind_X4_checkBounds rfl rfl rfl (by decide +kernel) ⟨Nat.le_of_ble_eq_true rfl, Nat.le_of_ble_eq_true rfl⟩) ⟨nxPre_blind, nxPre_of hX hq hS hFc⟩ rfl rfl hl.1 rfl (lv_room (Nat.le_of_ble_eq_true rfl)) dX4_kind_13 ⟨by decide, by decide⟩) hS (fun q _ h => hFc q h) hFc (fun q _ h => hFc q h) (fun E ce q9 u2 t H1 locs ht hvm hpx hB hz1 hk1 hS hce hcv hcl => ?_) (fun u2 t H1 locs ht hvm hw hB hz1 hk1 hS => ?_)
        · obtain ⟨hB1, hB2⟩ := hB
          have hf := (if_neg (show ¬ w_2 = 0 from fun h0 => by rw [← hB1] at h0; omega)).symm.trans hf
          have hf := Option.some.inj hf
          have hP := keepP hP hk1
          refine vx_widen (k := 5) (n := 30) (by decide) (by decide) ?_
          exact vx_out (E := E) (fun x hx => (ht0 x hx).elim) hlocks hce hcv hcl (fun t ht ha => ⟨u, trivial, ⟨⟨by rw [hB1]; exact hf, hB2⟩, ⟨by rw [ht]; exact hP, va_K.moved ha hK, hD⟩⟩, hS.F ht⟩) hS.2.2 (Nat.le_refl _) (Nat.le_refl _)
        have hf := (if_pos (show w_2 = 0 from hw.symm)).symm.trans hf
        have hP := keepP hP hk1
        clear hFc hk1 hB
        generalize H1 = H at hP hS ⊢
        refine W.widen (k := 2) (n := 12) (by decide) (by decide) ?_
        refine lv_iload_n hx hb dX4_kind_16 rfl (lv_at hl 3 rfl) ?_
        refine lv_iconst (v := 1) hx hb dX4_kind_17 (by decide) ?_
        refine lv_ldc (v := 100000) hx hb hown k_0 dX4_kind_18 ?_
        obtain ⟨w_3, hw_3, hf⟩ := ob hf
        have hFc := freeNil hS hA
        refine vx_callv (vx_runS (As := [.int v3, .int (1 : Int32), .int (100000 : Int32)]) (rest := []) ⟨hx, hb, hml, hown, hts⟩ (mX4_checkBounds l lt sa H.size v3 (1 : Int32) (100000 : Int32) n w_3 hw_3) (va_cwS 3 hts gX4_kind_X4_checkBounds rfl rfl rfl (by decide +kernel) ⟨Nat.le_of_ble_eq_true rfl, Nat.le_of_ble_eq_true rfl⟩) ⟨nxPre_blind, nxPre_of hX hq hS hFc⟩ rfl rfl hl.1 rfl (lv_room (Nat.le_of_ble_eq_true rfl)) dX4_kind_20 ⟨by decide, by decide⟩) hS (fun q _ h => hFc q h) hFc (fun q _ h => hFc q h) (fun E ce q9 u2 t H1 locs ht hvm hpx hB hz1 hk1 hS hce hcv hcl => ?_) (fun u2 t H1 locs ht hvm hw hB hz1 hk1 hS => ?_)
        · obtain ⟨hB1, hB2⟩ := hB
          have hf := (if_neg (show ¬ w_3 = 0 from fun h0 => by rw [← hB1] at h0; omega)).symm.trans hf
          have hf := Option.some.inj hf
          have hP := keepP hP hk1
          refine vx_widen (k := 5) (n := 30) (by decide) (by decide) ?_
          exact vx_out (E := E) (fun x hx => (ht0 x hx).elim) hlocks hce hcv hcl (fun t ht ha => ⟨u, trivial, ⟨⟨by rw [hB1]; exact hf, hB2⟩, ⟨by rw [ht]; exact hP, va_K.moved ha hK, hD⟩⟩, hS.F ht⟩) hS.2.2 (Nat.le_refl _) (Nat.le_refl _)
        have hf := (if_pos (show w_3 = 0 from hw.symm)).symm.trans hf
        have hP := keepP hP hk1
        clear hFc hk1 hB
        generalize H1 = H at hP hS ⊢
        refine W.widen (k := 3) (n := 18) (by decide) (by decide) ?_
        refine lv_iload hx hb dX4_kind_23 (lv_at hl 4 rfl) ?_
        refine lv_iconst (v := 0) hx hb dX4_kind_25 (by decide) ?_
        refine lv_ldc (v := 100000) hx hb hown k_0 dX4_kind_26 ?_
        obtain ⟨w_4, hw_4, hf⟩ := ob hf
        have hFc := freeNil hS hA
        refine vx_callv (vx_runS (As := [.int v4, .int (0 : Int32), .int (100000 : Int32)]) (rest := []) ⟨hx, hb, hml, hown, hts⟩ (mX4_checkBounds l lt sa H.size v4 (0 : Int32) (100000 : Int32) n w_4 hw_4) (va_cwS 3 hts gX4_kind_X4_checkBounds rfl rfl rfl (by decide +kernel) ⟨Nat.le_of_ble_eq_true rfl, Nat.le_of_ble_eq_true rfl⟩) ⟨nxPre_blind, nxPre_of hX hq hS hFc⟩ rfl rfl hl.1 rfl (lv_room (Nat.le_of_ble_eq_true rfl)) dX4_kind_28 ⟨by decide, by decide⟩) hS (fun q _ h => hFc q h) hFc (fun q _ h => hFc q h) (fun E ce q9 u2 t H1 locs ht hvm hpx hB hz1 hk1 hS hce hcv hcl => ?_) (fun u2 t H1 locs ht hvm hw hB hz1 hk1 hS => ?_)
        · obtain ⟨hB1, hB2⟩ := hB
          have hf := (if_neg (show ¬ w_4 = 0 from fun h0 => by rw [← hB1] at h0; omega)).symm.trans hf
          have hf := Option.some.inj hf
          have hP := keepP hP hk1
          refine vx_widen (k := 5) (n := 30) (by decide) (by decide) ?_
          exact vx_out (E := E) (fun x hx => (ht0 x hx).elim) hlocks hce hcv hcl (fun t ht ha => ⟨u, trivial, ⟨⟨by rw [hB1]; exact hf, hB2⟩, ⟨by rw [ht]; exact hP, va_K.moved ha hK, hD⟩⟩, hS.F ht⟩) hS.2.2 (Nat.le_refl _) (Nat.le_refl _)
        have hf := (if_pos (show w_4 = 0 from hw.symm)).symm.trans hf
        have hP := keepP hP hk1
        clear hFc hk1 hB
        generalize H1 = H at hP hS ⊢
        refine W.widen (k := 4) (n := 24) (by decide) (by decide) ?_
        refine lv_aload_n hx hb dX4_kind_31 rfl (lv_at hl 0 rfl) ?_
        refine va_get (D := (dC, dI)) (ci := 4) (v := .ref (ad 1)) (C := RX4) (T := TX4) (N := 4) hx hb hts iX4 hown hK hP 0 rfl rfl 0 (by decide) k_1 (fun _ h9 => h9) rfl dX4_kind_32 ?_
        refine va_get (D := (dC, dI)) (ci := 2) (v := .int (gI u 0)) (C := RX2) (T := TX2) (N := 14) hx hb hts iX2 hown hK hP 1 rfl rfl 10 (by decide) k_2 (fun _ h9 => h9) rfl dX4_kind_35 ?_
        refine lv_iconst (v := 3) hx hb dX4_kind_38 (by decide) ?_
        obtain ⟨w_5, hw_5, hf⟩ := ob hf
        have hFc := freeNil hS hA
        refine vx_callv (vx_runS (As := [.int (gI u 0), .int (3 : Int32)]) (rest := []) ⟨hx, hb, hml, hown, hts⟩ (mX4_checkCount l lt sa H.size (gI u 0) (3 : Int32) n w_5 hw_5) (va_cwS 2 hts gX4_kind_X4_checkCount rfl rfl rfl (by decide +kernel) ⟨Nat.le_of_ble_eq_true rfl, Nat.le_of_ble_eq_true rfl⟩) ⟨nxPre_blind, nxPre_of hX hq hS hFc⟩ rfl rfl hl.1 rfl (lv_room (Nat.le_of_ble_eq_true rfl)) dX4_kind_39 ⟨by decide, by decide⟩) hS (fun q _ h => hFc q h) hFc (fun q _ h => hFc q h) (fun E ce q9 u2 t H1 locs ht hvm hpx hB hz1 hk1 hS hce hcv hcl => ?_) (fun u2 t H1 locs ht hvm hw hB hz1 hk1 hS => ?_)
        · obtain ⟨hB1, hB2⟩ := hB
          have hf := (if_neg (show ¬ w_5 = 0 from fun h0 => by rw [← hB1] at h0; omega)).symm.trans hf
          have hf := Option.some.inj hf
          have hP := keepP hP hk1
          refine vx_widen (k := 5) (n := 30) (by decide) (by decide) ?_
          exact vx_out (E := E) (fun x hx => (ht0 x hx).elim) hlocks hce hcv hcl (fun t ht ha => ⟨u, trivial, ⟨⟨by rw [hB1]; exact hf, hB2⟩, ⟨by rw [ht]; exact hP, va_K.moved ha hK, hD⟩⟩, hS.F ht⟩) hS.2.2 (Nat.le_refl _) (Nat.le_refl _)
        have hf := (if_pos (show w_5 = 0 from hw.symm)).symm.trans hf
        have hP := keepP hP hk1
        clear hFc hk1 hB
        generalize H1 = H at hP hS ⊢
        refine W.widen (k := 5) (n := 30) (by decide) (by decide) ?_
        refine lv_aload_n hx hb dX4_kind_42 rfl (lv_at hl 0 rfl) ?_
        refine va_get (D := (dC, dI)) (ci := 4) (v := .ref (ad 1)) (C := RX4) (T := TX4) (N := 4) hx hb hts iX4 hown hK hP 0 rfl rfl 0 (by decide) k_1 (fun _ h9 => h9) rfl dX4_kind_43 ?_
        refine lv_iload_n hx hb dX4_kind_46 rfl (lv_at hl 1 rfl) ?_
        refine lv_iload_n hx hb dX4_kind_47 rfl (lv_at hl 2 rfl) ?_
        refine lv_iload_n hx hb dX4_kind_48 rfl (lv_at hl 3 rfl) ?_
        refine lv_iload hx hb dX4_kind_49 (lv_at hl 4 rfl) ?_
        obtain ⟨w_6, hw_6, hf⟩ := ob hf
        have hFc := freeAll hD hS hA
        refine va_calli (va_runV (As := [.int v1, .int v2, .int v3, .int v4]) (rest := []) ⟨hx, hb, hml, hown, hts⟩ (mX2_addKind l dC dI cI cL ad H.size u v1 v2 v3 v4 n w_6 hw_6) (cwV 4 hts gX4_kind_X2_addKind rfl rfl rfl (by decide +kernel) ⟨Nat.le_of_ble_eq_true rfl, Nat.le_of_ble_eq_true rfl⟩) ⟨wPre_blind, va_recv hK hP (ci := 2) (q0 := 1) rfl rfl, wPre_of hP hK hD hZ⟩ rfl rfl hl.1 rfl (lv_room (Nat.le_of_ble_eq_true rfl)) dX4_kind_51 ⟨by decide, by decide⟩) hS (fun q _ h => hFc q h) hFc (fun r2 u2 t H1 locs ht hvm hw hB hz1 hk1 hS => ?_)
        obtain ⟨hP1, hK1, hD1⟩ := hB
        rw [ht] at hP1
        have e1 : r2 = w_6.1 := congrArg Prod.fst hw
        have e2 : u2 = w_6.2 := congrArg Prod.snd hw
        subst r2 u2
        have hP : va_P (dC, dI) vwCl (cw ad cI cL w_6.2) H1 := hP1
        have hD : va_D A (cw ad cI cL w_6.2) := hD1.weaken (fun _ _ _ h => hFc _ h)
        clear hP1 hD1 hK1 hFc hk1
        generalize H1 = H at hP hS ⊢
        refine lv_istore (lv' := [(5, .int w_6.1), (0, .ref (ad 0)), (1, .int v1), (2, .int v2), (3, .int v3), (4, .int v4)]) hx hb dX4_kind_54 hl (by decide) rfl (fun ls hl => ?_)
        refine lv_aload_n hx hb dX4_kind_56 rfl (lv_at hl 1 rfl) ?_
        obtain ⟨w_7, hw_7, hf⟩ := ob hf
        have hFc := freeAll hD hS hA
        refine va_callv (va_runV (As := []) (rest := []) ⟨hx, hb, hml, hown, hts⟩ (mX4_lampsGo l dC dI cI cL ad H.size w_6.2  n w_7 hw_7) (cwV 0 hts gX4_kind_X4_lampsGo rfl rfl rfl (by decide +kernel) ⟨Nat.le_of_ble_eq_true rfl, Nat.le_of_ble_eq_true rfl⟩) ⟨wPre_blind, va_recv hK hP (ci := 4) (q0 := 0) rfl rfl, wPre_of hP hK hD hZ⟩ rfl rfl hl.1 rfl (lv_room (Nat.le_of_ble_eq_true rfl)) dX4_kind_57 ⟨by decide, by decide⟩) hS (fun q _ h => hFc q h) hFc (fun u2 t H1 locs ht hvm hw hB hz1 hk1 hS => ?_)
        obtain ⟨hP1, hK1, hD1⟩ := hB
        rw [ht] at hP1
        subst u2
        have hP : va_P (dC, dI) vwCl (cw ad cI cL w_7) H1 := hP1
        have hD : va_D A (cw ad cI cL w_7) := hD1.weaken (fun _ _ _ h => hFc _ h)
        clear hP1 hD1 hK1 hFc hk1
        generalize H1 = H at hP hS ⊢
        refine lv_iload hx hb dX4_kind_60 (lv_at hl 0 rfl) ?_
        have hf := Option.some.inj hf
        refine W.widen (k := 5) (n := 30) (by decide) (by decide) ?_
        refine vx_ret ?_
        exact W.iret (v := w_6.1) hx hb hr (fun t ht hW => ⟨⟨w_6.1, w_7, rfl, hf, ⟨by rw [ht]; exact hP, va_K.moved hW.alike hK, hD⟩⟩, hS.F ht⟩) hS.2.2 dX4_kind_62
  exact (key n) z1 z2 z3 z4 u _ _ ls hf0 hP hD hS (lv_sub hl [0, 1, 2, 3, 4] rfl)

def fX4_place (n pc : Nat) (v1 : Int32) (v2 : Int32) (u : St) : Option (Nat × Int32 × St) := match n with
  | 0 => none
  | n + 1 => match pc with
    | 0 => ((FX4_checkBounds n v1 (0 : Int32) (50 : Int32)).bind fun w_1 => (if w_1 = 0 then ((FX4_checkBounds n v2 (0 : Int32) (50 : Int32)).bind fun w_2 => (if w_2 = 0 then ((FX4_checkCount n (gI u 1) (7 : Int32)).bind fun w_3 => (if w_3 = 0 then ((FX2_addPlace n v1 v2 u).bind fun w_4 => ((FX4_lampsGo n  w_4.2).bind fun w_5 => some (0, w_4.1, w_5))) else some (w_3, (0 : Int32), u))) else some (w_2, (0 : Int32), u))) else some (w_1, (0 : Int32), u)))
    | _ => none
theorem eX4_place_0 (n : Nat) (v1 : Int32) (v2 : Int32) (u : St) : fX4_place (n + 1) 0 v1 v2 u = ((FX4_checkBounds n v1 (0 : Int32) (50 : Int32)).bind fun w_1 => (if w_1 = 0 then ((FX4_checkBounds n v2 (0 : Int32) (50 : Int32)).bind fun w_2 => (if w_2 = 0 then ((FX4_checkCount n (gI u 1) (7 : Int32)).bind fun w_3 => (if w_3 = 0 then ((FX2_addPlace n v1 v2 u).bind fun w_4 => ((FX4_lampsGo n  w_4.2).bind fun w_5 => some (0, w_4.1, w_5))) else some (w_3, (0 : Int32), u))) else some (w_2, (0 : Int32), u))) else some (w_1, (0 : Int32), u))) := rfl
theorem vX4_place_0 (v1 : Int32) (v2 : Int32) (u : St) (r : Nat × Int32 × St) : Ev (fun n => fX4_place n 0 v1 v2 u) r ↔ Ev (fun n => ((FX4_checkBounds n v1 (0 : Int32) (50 : Int32)).bind fun w_1 => (if w_1 = 0 then ((FX4_checkBounds n v2 (0 : Int32) (50 : Int32)).bind fun w_2 => (if w_2 = 0 then ((FX4_checkCount n (gI u 1) (7 : Int32)).bind fun w_3 => (if w_3 = 0 then ((FX2_addPlace n v1 v2 u).bind fun w_4 => ((FX4_lampsGo n  w_4.2).bind fun w_5 => some (0, w_4.1, w_5))) else some (w_3, (0 : Int32), u))) else some (w_2, (0 : Int32), u))) else some (w_1, (0 : Int32), u)))) r := Ev_succ (fun n => fX4_place n 0 v1 v2 u) r
def FX4_place (n : Nat) (v1 : Int32) (v2 : Int32) (u : St) : Option (Nat × Int32 × St) := fX4_place n 0 v1 v2 u
set_option maxHeartbeats 4000000 in
set_option maxRecDepth 100000 in
theorem mX4_place (l : Launch) (lt : l.stackTraces = false) (dC : Nat → ClassId) (dI : Nat → Nat → Nat) (cI cL : ClassId) (ad sa : Nat → Nat) (sz : Nat) (u : St) (z1 : Int32) (z2 : Int32) (n : Nat) (r : Nat × Int32 × St) (hf0 : FX4_place n z1 z2 u = some r) : vx_Met l yX4_place wsX4_place ({ frames := 8, cells := 3, slots := 18, locals := 112 }) (va_Pc [.ref (ad 0), .int z1, .int z2] (xPre dC dI cI cL sa (cw ad cI cL u) sz)) (va_Qi (fun a t => (0, a, t) = r) (fun t => wPost dC dI cI cL (va_A (cw ad cI cL u) sz) (cw ad cI cL t)) (va_A (cw ad cI cL u) sz)) (vx_X (fun _ : St => True) (fun E t U => ((xcode E, (0 : Int32), t) = r ∧ 0 < xcode E) ∧ wPost dC dI cI cL (va_A (cw ad cI cL u) sz) (cw ad cI cL t) U) (va_A (cw ad cI cL u) sz)) 3 18 (va_A (cw ad cI cL u) sz) := by
  refine vx_ofW (cc := cX4_place) (maxL := 4) (ret := (some .int)) (by decide) rfl ?_
  intro p e s m args below meth c s₁ B hml ht0 hv
  obtain ⟨rfl, ⟨hsz, hP, hK, hD0, hZ⟩, hX, hq⟩ := hv
  have hx := B.exec
  have hb := B.bytes
  have hr := B.returns
  have hts := atoms_spec (ws := wsX4_place) B.pre
  have hown : s.vm.findClass RX4 = some m.cls := findClass_of_methodNamed B.named
  have hlocks := B.notSynchronized
  subst hsz
  have hD := hD0.self (sz := s.heap.size)
  generalize hAe : va_A (cw ad cI cL u) s.heap.size = A at hD hq ⊢
  have hA : ∀ q : Nat, s.heap.size ≤ q → A q := fun q h => by rw [← hAe]; exact Or.inr h
  have hS : va_S A s.heap s.heap [] := va_S.rf
  have iX2 : ∀ w ∈ u_ws RX2 TX2 14, w ∈ wsX4_place := fun _ h => List.mem_cons_of_mem _ (List.mem_append_left _ (List.mem_append_left _ (List.mem_append_left _ (List.mem_append_left _ (List.mem_append_left _ (List.mem_append_right _ h))))))
  have iX4 : ∀ w ∈ u_ws RX4 TX4 4, w ∈ wsX4_place := fun _ h => List.mem_cons_of_mem _ (List.mem_append_left _ (List.mem_append_left _ (List.mem_append_left _ (List.mem_append_left _ (List.mem_append_left _ (List.mem_append_left _ (List.mem_append_right _ h)))))))
  have k_0 := hts (.fieldLink RX4 15 "LampChoice" "room" "LLampChoice$Room;") (by decide +kernel)
  have k_1 := hts (.fieldLink RX4 61 "LampChoice$Room" "places" "I") (by decide +kernel)
  have hl := lv_entry ([.ref (ad 0), .int z1, .int z2]) (n := 4) (Nat.le_of_ble_eq_true rfl)
  rw [lg_entry_eq]
  generalize (lg_sl ([.ref (ad 0), .int z1, .int z2]) ++ List.replicate (4 - (lg_sl ([.ref (ad 0), .int z1, .int z2])).length) Slot.unset).toArray = ls at hl ⊢
  have hl : lv_has ls 4 [(0, .ref (ad 0)), (1, .int z1), (2, .int z2)] := hl
  have key : ∀ n : Nat, (∀ (v1 : Int32) (v2 : Int32) (u : St) (H : Heap) (locs : List Loc) (ls : Array Slot), fX4_place n 0 v1 v2 u = some r → va_P (dC, dI) vwCl (cw ad cI cL u) H → va_D A (cw ad cI cL u) → va_S A s.heap H locs → lv_has ls 4 [(0, .ref (ad 0)), (1, .int v1), (2, .int v2)] → W p l e (headSpec wsX4_place ({ frames := 8, cells := 3, slots := 18, locals := 112 })).room s m ([.ref (ad 0), .int z1, .int z2] : List Value).toArray below meth c H locs 0 0 (vx_MQ below (va_Qi (fun a t => (0, a, t) = r) (fun t => wPost dC dI cI cL A (cw ad cI cL t)) A) (vx_X (fun _ : St => True) (fun E t U => ((xcode E, (0 : Int32), t) = r ∧ 0 < xcode E) ∧ wPost dC dI cI cL A (cw ad cI cL t) U) A) ([.ref (ad 0), .int z1, .int z2] : List Value).toArray s 3 18 A) (F0 m 0 ls [])) := by
    intro n
    induction n with
    | zero => exact (fun _ _ _ _ _ _ hf => nomatch (show (none : Option (Nat × Int32 × St)) = some r from hf))
    | succ n ih =>
      have ih0 := ih
      · intro v1 v2 u H locs ls hf hP hD hS hl
        have hf := (eX4_place_0 n v1 v2 u).symm.trans hf
        refine lv_iload_n hx hb dX4_place_0 rfl (lv_at hl 1 rfl) ?_
        refine lv_iconst (v := 0) hx hb dX4_place_1 (by decide) ?_
        refine lv_bipush (v := 50) hx hb dX4_place_2 (by decide) ?_
        obtain ⟨w_1, hw_1, hf⟩ := ob hf
        have hFc := freeNil hS hA
        refine vx_callv (vx_runS (As := [.int v1, .int (0 : Int32), .int (50 : Int32)]) (rest := []) ⟨hx, hb, hml, hown, hts⟩ (mX4_checkBounds l lt sa H.size v1 (0 : Int32) (50 : Int32) n w_1 hw_1) (va_cwS 3 hts gX4_place_X4_checkBounds rfl rfl rfl (by decide +kernel) ⟨Nat.le_of_ble_eq_true rfl, Nat.le_of_ble_eq_true rfl⟩) ⟨nxPre_blind, nxPre_of hX hq hS hFc⟩ rfl rfl hl.1 rfl (lv_room (Nat.le_of_ble_eq_true rfl)) dX4_place_4 ⟨by decide, by decide⟩) hS (fun q _ h => hFc q h) hFc (fun q _ h => hFc q h) (fun E ce q9 u2 t H1 locs ht hvm hpx hB hz1 hk1 hS hce hcv hcl => ?_) (fun u2 t H1 locs ht hvm hw hB hz1 hk1 hS => ?_)
        · obtain ⟨hB1, hB2⟩ := hB
          have hf := (if_neg (show ¬ w_1 = 0 from fun h0 => by rw [← hB1] at h0; omega)).symm.trans hf
          have hf := Option.some.inj hf
          have hP := keepP hP hk1
          refine vx_widen (k := 3) (n := 18) (by decide) (by decide) ?_
          exact vx_out (E := E) (fun x hx => (ht0 x hx).elim) hlocks hce hcv hcl (fun t ht ha => ⟨u, trivial, ⟨⟨by rw [hB1]; exact hf, hB2⟩, ⟨by rw [ht]; exact hP, va_K.moved ha hK, hD⟩⟩, hS.F ht⟩) hS.2.2 (Nat.le_refl _) (Nat.le_refl _)
        have hf := (if_pos (show w_1 = 0 from hw.symm)).symm.trans hf
        have hP := keepP hP hk1
        clear hFc hk1 hB
        generalize H1 = H at hP hS ⊢
        refine W.widen (k := 1) (n := 6) (by decide) (by decide) ?_
        refine lv_iload_n hx hb dX4_place_7 rfl (lv_at hl 2 rfl) ?_
        refine lv_iconst (v := 0) hx hb dX4_place_8 (by decide) ?_
        refine lv_bipush (v := 50) hx hb dX4_place_9 (by decide) ?_
        obtain ⟨w_2, hw_2, hf⟩ := ob hf
        have hFc := freeNil hS hA
        refine vx_callv (vx_runS (As := [.int v2, .int (0 : Int32), .int (50 : Int32)]) (rest := []) ⟨hx, hb, hml, hown, hts⟩ (mX4_checkBounds l lt sa H.size v2 (0 : Int32) (50 : Int32) n w_2 hw_2) (va_cwS 3 hts gX4_place_X4_checkBounds rfl rfl rfl (by decide +kernel) ⟨Nat.le_of_ble_eq_true rfl, Nat.le_of_ble_eq_true rfl⟩) ⟨nxPre_blind, nxPre_of hX hq hS hFc⟩ rfl rfl hl.1 rfl (lv_room (Nat.le_of_ble_eq_true rfl)) dX4_place_11 ⟨by decide, by decide⟩) hS (fun q _ h => hFc q h) hFc (fun q _ h => hFc q h) (fun E ce q9 u2 t H1 locs ht hvm hpx hB hz1 hk1 hS hce hcv hcl => ?_) (fun u2 t H1 locs ht hvm hw hB hz1 hk1 hS => ?_)
        · obtain ⟨hB1, hB2⟩ := hB
          have hf := (if_neg (show ¬ w_2 = 0 from fun h0 => by rw [← hB1] at h0; omega)).symm.trans hf
          have hf := Option.some.inj hf
          have hP := keepP hP hk1
          refine vx_widen (k := 3) (n := 18) (by decide) (by decide) ?_
          exact vx_out (E := E) (fun x hx => (ht0 x hx).elim) hlocks hce hcv hcl (fun t ht ha => ⟨u, trivial, ⟨⟨by rw [hB1]; exact hf, hB2⟩, ⟨by rw [ht]; exact hP, va_K.moved ha hK, hD⟩⟩, hS.F ht⟩) hS.2.2 (Nat.le_refl _) (Nat.le_refl _)
        have hf := (if_pos (show w_2 = 0 from hw.symm)).symm.trans hf
        have hP := keepP hP hk1
        clear hFc hk1 hB
        generalize H1 = H at hP hS ⊢
        refine W.widen (k := 2) (n := 12) (by decide) (by decide) ?_
        refine lv_aload_n hx hb dX4_place_14 rfl (lv_at hl 0 rfl) ?_
        refine va_get (D := (dC, dI)) (ci := 4) (v := .ref (ad 1)) (C := RX4) (T := TX4) (N := 4) hx hb hts iX4 hown hK hP 0 rfl rfl 0 (by decide) k_0 (fun _ h9 => h9) rfl dX4_place_15 ?_
        refine va_get (D := (dC, dI)) (ci := 2) (v := .int (gI u 1)) (C := RX2) (T := TX2) (N := 14) hx hb hts iX2 hown hK hP 1 rfl rfl 11 (by decide) k_1 (fun _ h9 => h9) rfl dX4_place_18 ?_
        refine lv_bipush (v := 7) hx hb dX4_place_21 (by decide) ?_
        obtain ⟨w_3, hw_3, hf⟩ := ob hf
        have hFc := freeNil hS hA
        refine vx_callv (vx_runS (As := [.int (gI u 1), .int (7 : Int32)]) (rest := []) ⟨hx, hb, hml, hown, hts⟩ (mX4_checkCount l lt sa H.size (gI u 1) (7 : Int32) n w_3 hw_3) (va_cwS 2 hts gX4_place_X4_checkCount rfl rfl rfl (by decide +kernel) ⟨Nat.le_of_ble_eq_true rfl, Nat.le_of_ble_eq_true rfl⟩) ⟨nxPre_blind, nxPre_of hX hq hS hFc⟩ rfl rfl hl.1 rfl (lv_room (Nat.le_of_ble_eq_true rfl)) dX4_place_23 ⟨by decide, by decide⟩) hS (fun q _ h => hFc q h) hFc (fun q _ h => hFc q h) (fun E ce q9 u2 t H1 locs ht hvm hpx hB hz1 hk1 hS hce hcv hcl => ?_) (fun u2 t H1 locs ht hvm hw hB hz1 hk1 hS => ?_)
        · obtain ⟨hB1, hB2⟩ := hB
          have hf := (if_neg (show ¬ w_3 = 0 from fun h0 => by rw [← hB1] at h0; omega)).symm.trans hf
          have hf := Option.some.inj hf
          have hP := keepP hP hk1
          refine vx_widen (k := 3) (n := 18) (by decide) (by decide) ?_
          exact vx_out (E := E) (fun x hx => (ht0 x hx).elim) hlocks hce hcv hcl (fun t ht ha => ⟨u, trivial, ⟨⟨by rw [hB1]; exact hf, hB2⟩, ⟨by rw [ht]; exact hP, va_K.moved ha hK, hD⟩⟩, hS.F ht⟩) hS.2.2 (Nat.le_refl _) (Nat.le_refl _)
        have hf := (if_pos (show w_3 = 0 from hw.symm)).symm.trans hf
        have hP := keepP hP hk1
        clear hFc hk1 hB
        generalize H1 = H at hP hS ⊢
        refine W.widen (k := 3) (n := 18) (by decide) (by decide) ?_
        refine lv_aload_n hx hb dX4_place_26 rfl (lv_at hl 0 rfl) ?_
        refine va_get (D := (dC, dI)) (ci := 4) (v := .ref (ad 1)) (C := RX4) (T := TX4) (N := 4) hx hb hts iX4 hown hK hP 0 rfl rfl 0 (by decide) k_0 (fun _ h9 => h9) rfl dX4_place_27 ?_
        refine lv_iload_n hx hb dX4_place_30 rfl (lv_at hl 1 rfl) ?_
        refine lv_iload_n hx hb dX4_place_31 rfl (lv_at hl 2 rfl) ?_
        obtain ⟨w_4, hw_4, hf⟩ := ob hf
        have hFc := freeAll hD hS hA
        refine va_calli (va_runV (As := [.int v1, .int v2]) (rest := []) ⟨hx, hb, hml, hown, hts⟩ (mX2_addPlace l dC dI cI cL ad H.size u v1 v2 n w_4 hw_4) (cwV 2 hts gX4_place_X2_addPlace rfl rfl rfl (by decide +kernel) ⟨Nat.le_of_ble_eq_true rfl, Nat.le_of_ble_eq_true rfl⟩) ⟨wPre_blind, va_recv hK hP (ci := 2) (q0 := 1) rfl rfl, wPre_of hP hK hD hZ⟩ rfl rfl hl.1 rfl (lv_room (Nat.le_of_ble_eq_true rfl)) dX4_place_32 ⟨by decide, by decide⟩) hS (fun q _ h => hFc q h) hFc (fun r2 u2 t H1 locs ht hvm hw hB hz1 hk1 hS => ?_)
        obtain ⟨hP1, hK1, hD1⟩ := hB
        rw [ht] at hP1
        have e1 : r2 = w_4.1 := congrArg Prod.fst hw
        have e2 : u2 = w_4.2 := congrArg Prod.snd hw
        subst r2 u2
        have hP : va_P (dC, dI) vwCl (cw ad cI cL w_4.2) H1 := hP1
        have hD : va_D A (cw ad cI cL w_4.2) := hD1.weaken (fun _ _ _ h => hFc _ h)
        clear hP1 hD1 hK1 hFc hk1
        generalize H1 = H at hP hS ⊢
        refine lv_istore_n (lv' := [(3, .int w_4.1), (0, .ref (ad 0)), (1, .int v1), (2, .int v2)]) hx hb dX4_place_35 rfl hl (by decide) rfl (fun ls hl => ?_)
        refine lv_aload_n hx hb dX4_place_36 rfl (lv_at hl 1 rfl) ?_
        obtain ⟨w_5, hw_5, hf⟩ := ob hf
        have hFc := freeAll hD hS hA
        refine va_callv (va_runV (As := []) (rest := []) ⟨hx, hb, hml, hown, hts⟩ (mX4_lampsGo l dC dI cI cL ad H.size w_4.2  n w_5 hw_5) (cwV 0 hts gX4_place_X4_lampsGo rfl rfl rfl (by decide +kernel) ⟨Nat.le_of_ble_eq_true rfl, Nat.le_of_ble_eq_true rfl⟩) ⟨wPre_blind, va_recv hK hP (ci := 4) (q0 := 0) rfl rfl, wPre_of hP hK hD hZ⟩ rfl rfl hl.1 rfl (lv_room (Nat.le_of_ble_eq_true rfl)) dX4_place_37 ⟨by decide, by decide⟩) hS (fun q _ h => hFc q h) hFc (fun u2 t H1 locs ht hvm hw hB hz1 hk1 hS => ?_)
        obtain ⟨hP1, hK1, hD1⟩ := hB
        rw [ht] at hP1
        subst u2
        have hP : va_P (dC, dI) vwCl (cw ad cI cL w_5) H1 := hP1
        have hD : va_D A (cw ad cI cL w_5) := hD1.weaken (fun _ _ _ h => hFc _ h)
        clear hP1 hD1 hK1 hFc hk1
        generalize H1 = H at hP hS ⊢
        refine lv_iload_n hx hb dX4_place_40 rfl (lv_at hl 0 rfl) ?_
        have hf := Option.some.inj hf
        refine W.widen (k := 3) (n := 18) (by decide) (by decide) ?_
        refine vx_ret ?_
        exact W.iret (v := w_4.1) hx hb hr (fun t ht hW => ⟨⟨w_4.1, w_5, rfl, hf, ⟨by rw [ht]; exact hP, va_K.moved hW.alike hK, hD⟩⟩, hS.F ht⟩) hS.2.2 dX4_place_41
  exact (key n) z1 z2 u _ _ ls hf0 hP hD hS (lv_sub hl [0, 1, 2] rfl)

def fX4_point (n pc : Nat) (v1 : Int32) (v2 : Int32) (v3 : Int32) (u : St) : Option (Nat × Int32 × St) := match n with
  | 0 => none
  | n + 1 => match pc with
    | 0 => ((FX4_checkBounds n v1 (0 : Int32) (50 : Int32)).bind fun w_1 => (if w_1 = 0 then ((FX4_checkBounds n v2 (0 : Int32) (50 : Int32)).bind fun w_2 => (if w_2 = 0 then ((FX4_checkBounds n v3 (0 : Int32) (100000 : Int32)).bind fun w_3 => (if w_3 = 0 then ((FX4_checkCount n (gI u 2) (16 : Int32)).bind fun w_4 => (if w_4 = 0 then ((FX2_addPoint n v1 v2 v3 u).bind fun w_5 => ((FX4_lampsGo n  w_5.2).bind fun w_6 => some (0, w_5.1, w_6))) else some (w_4, (0 : Int32), u))) else some (w_3, (0 : Int32), u))) else some (w_2, (0 : Int32), u))) else some (w_1, (0 : Int32), u)))
    | _ => none
theorem eX4_point_0 (n : Nat) (v1 : Int32) (v2 : Int32) (v3 : Int32) (u : St) : fX4_point (n + 1) 0 v1 v2 v3 u = ((FX4_checkBounds n v1 (0 : Int32) (50 : Int32)).bind fun w_1 => (if w_1 = 0 then ((FX4_checkBounds n v2 (0 : Int32) (50 : Int32)).bind fun w_2 => (if w_2 = 0 then ((FX4_checkBounds n v3 (0 : Int32) (100000 : Int32)).bind fun w_3 => (if w_3 = 0 then ((FX4_checkCount n (gI u 2) (16 : Int32)).bind fun w_4 => (if w_4 = 0 then ((FX2_addPoint n v1 v2 v3 u).bind fun w_5 => ((FX4_lampsGo n  w_5.2).bind fun w_6 => some (0, w_5.1, w_6))) else some (w_4, (0 : Int32), u))) else some (w_3, (0 : Int32), u))) else some (w_2, (0 : Int32), u))) else some (w_1, (0 : Int32), u))) := rfl
theorem vX4_point_0 (v1 : Int32) (v2 : Int32) (v3 : Int32) (u : St) (r : Nat × Int32 × St) : Ev (fun n => fX4_point n 0 v1 v2 v3 u) r ↔ Ev (fun n => ((FX4_checkBounds n v1 (0 : Int32) (50 : Int32)).bind fun w_1 => (if w_1 = 0 then ((FX4_checkBounds n v2 (0 : Int32) (50 : Int32)).bind fun w_2 => (if w_2 = 0 then ((FX4_checkBounds n v3 (0 : Int32) (100000 : Int32)).bind fun w_3 => (if w_3 = 0 then ((FX4_checkCount n (gI u 2) (16 : Int32)).bind fun w_4 => (if w_4 = 0 then ((FX2_addPoint n v1 v2 v3 u).bind fun w_5 => ((FX4_lampsGo n  w_5.2).bind fun w_6 => some (0, w_5.1, w_6))) else some (w_4, (0 : Int32), u))) else some (w_3, (0 : Int32), u))) else some (w_2, (0 : Int32), u))) else some (w_1, (0 : Int32), u)))) r := Ev_succ (fun n => fX4_point n 0 v1 v2 v3 u) r
def FX4_point (n : Nat) (v1 : Int32) (v2 : Int32) (v3 : Int32) (u : St) : Option (Nat × Int32 × St) := fX4_point n 0 v1 v2 v3 u
set_option maxHeartbeats 4000000 in
set_option maxRecDepth 100000 in
theorem mX4_point (l : Launch) (lt : l.stackTraces = false) (dC : Nat → ClassId) (dI : Nat → Nat → Nat) (cI cL : ClassId) (ad sa : Nat → Nat) (sz : Nat) (u : St) (z1 : Int32) (z2 : Int32) (z3 : Int32) (n : Nat) (r : Nat × Int32 × St) (hf0 : FX4_point n z1 z2 z3 u = some r) : vx_Met l yX4_point wsX4_point ({ frames := 8, cells := 4, slots := 24, locals := 112 }) (va_Pc [.ref (ad 0), .int z1, .int z2, .int z3] (xPre dC dI cI cL sa (cw ad cI cL u) sz)) (va_Qi (fun a t => (0, a, t) = r) (fun t => wPost dC dI cI cL (va_A (cw ad cI cL u) sz) (cw ad cI cL t)) (va_A (cw ad cI cL u) sz)) (vx_X (fun _ : St => True) (fun E t U => ((xcode E, (0 : Int32), t) = r ∧ 0 < xcode E) ∧ wPost dC dI cI cL (va_A (cw ad cI cL u) sz) (cw ad cI cL t) U) (va_A (cw ad cI cL u) sz)) 4 24 (va_A (cw ad cI cL u) sz) := by
  refine vx_ofW (cc := cX4_point) (maxL := 5) (ret := (some .int)) (by decide) rfl ?_
  intro p e s m args below meth c s₁ B hml ht0 hv
  obtain ⟨rfl, ⟨hsz, hP, hK, hD0, hZ⟩, hX, hq⟩ := hv
  have hx := B.exec
  have hb := B.bytes
  have hr := B.returns
  have hts := atoms_spec (ws := wsX4_point) B.pre
  have hown : s.vm.findClass RX4 = some m.cls := findClass_of_methodNamed B.named
  have hlocks := B.notSynchronized
  subst hsz
  have hD := hD0.self (sz := s.heap.size)
  generalize hAe : va_A (cw ad cI cL u) s.heap.size = A at hD hq ⊢
  have hA : ∀ q : Nat, s.heap.size ≤ q → A q := fun q h => by rw [← hAe]; exact Or.inr h
  have hS : va_S A s.heap s.heap [] := va_S.rf
  have iX2 : ∀ w ∈ u_ws RX2 TX2 14, w ∈ wsX4_point := fun _ h => List.mem_cons_of_mem _ (List.mem_append_left _ (List.mem_append_left _ (List.mem_append_left _ (List.mem_append_left _ (List.mem_append_left _ (List.mem_append_right _ h))))))
  have iX4 : ∀ w ∈ u_ws RX4 TX4 4, w ∈ wsX4_point := fun _ h => List.mem_cons_of_mem _ (List.mem_append_left _ (List.mem_append_left _ (List.mem_append_left _ (List.mem_append_left _ (List.mem_append_left _ (List.mem_append_left _ (List.mem_append_right _ h)))))))
  have k_0 := hts (.constant RX4 45 (100000)) (by decide +kernel)
  have k_1 := hts (.fieldLink RX4 15 "LampChoice" "room" "LLampChoice$Room;") (by decide +kernel)
  have k_2 := hts (.fieldLink RX4 68 "LampChoice$Room" "points" "I") (by decide +kernel)
  have hl := lv_entry ([.ref (ad 0), .int z1, .int z2, .int z3]) (n := 5) (Nat.le_of_ble_eq_true rfl)
  rw [lg_entry_eq]
  generalize (lg_sl ([.ref (ad 0), .int z1, .int z2, .int z3]) ++ List.replicate (5 - (lg_sl ([.ref (ad 0), .int z1, .int z2, .int z3])).length) Slot.unset).toArray = ls at hl ⊢
  have hl : lv_has ls 5 [(0, .ref (ad 0)), (1, .int z1), (2, .int z2), (3, .int z3)] := hl
  have key : ∀ n : Nat, (∀ (v1 : Int32) (v2 : Int32) (v3 : Int32) (u : St) (H : Heap) (locs : List Loc) (ls : Array Slot), fX4_point n 0 v1 v2 v3 u = some r → va_P (dC, dI) vwCl (cw ad cI cL u) H → va_D A (cw ad cI cL u) → va_S A s.heap H locs → lv_has ls 5 [(0, .ref (ad 0)), (1, .int v1), (2, .int v2), (3, .int v3)] → W p l e (headSpec wsX4_point ({ frames := 8, cells := 4, slots := 24, locals := 112 })).room s m ([.ref (ad 0), .int z1, .int z2, .int z3] : List Value).toArray below meth c H locs 0 0 (vx_MQ below (va_Qi (fun a t => (0, a, t) = r) (fun t => wPost dC dI cI cL A (cw ad cI cL t)) A) (vx_X (fun _ : St => True) (fun E t U => ((xcode E, (0 : Int32), t) = r ∧ 0 < xcode E) ∧ wPost dC dI cI cL A (cw ad cI cL t) U) A) ([.ref (ad 0), .int z1, .int z2, .int z3] : List Value).toArray s 4 24 A) (F0 m 0 ls [])) := by
    intro n
    induction n with
    | zero => exact (fun _ _ _ _ _ _ _ hf => nomatch (show (none : Option (Nat × Int32 × St)) = some r from hf))
    | succ n ih =>
      have ih0 := ih
      · intro v1 v2 v3 u H locs ls hf hP hD hS hl
        have hf := (eX4_point_0 n v1 v2 v3 u).symm.trans hf
        refine lv_iload_n hx hb dX4_point_0 rfl (lv_at hl 1 rfl) ?_
        refine lv_iconst (v := 0) hx hb dX4_point_1 (by decide) ?_
        refine lv_bipush (v := 50) hx hb dX4_point_2 (by decide) ?_
        obtain ⟨w_1, hw_1, hf⟩ := ob hf
        have hFc := freeNil hS hA
        refine vx_callv (vx_runS (As := [.int v1, .int (0 : Int32), .int (50 : Int32)]) (rest := []) ⟨hx, hb, hml, hown, hts⟩ (mX4_checkBounds l lt sa H.size v1 (0 : Int32) (50 : Int32) n w_1 hw_1) (va_cwS 3 hts gX4_point_X4_checkBounds rfl rfl rfl (by decide +kernel) ⟨Nat.le_of_ble_eq_true rfl, Nat.le_of_ble_eq_true rfl⟩) ⟨nxPre_blind, nxPre_of hX hq hS hFc⟩ rfl rfl hl.1 rfl (lv_room (Nat.le_of_ble_eq_true rfl)) dX4_point_4 ⟨by decide, by decide⟩) hS (fun q _ h => hFc q h) hFc (fun q _ h => hFc q h) (fun E ce q9 u2 t H1 locs ht hvm hpx hB hz1 hk1 hS hce hcv hcl => ?_) (fun u2 t H1 locs ht hvm hw hB hz1 hk1 hS => ?_)
        · obtain ⟨hB1, hB2⟩ := hB
          have hf := (if_neg (show ¬ w_1 = 0 from fun h0 => by rw [← hB1] at h0; omega)).symm.trans hf
          have hf := Option.some.inj hf
          have hP := keepP hP hk1
          refine vx_widen (k := 4) (n := 24) (by decide) (by decide) ?_
          exact vx_out (E := E) (fun x hx => (ht0 x hx).elim) hlocks hce hcv hcl (fun t ht ha => ⟨u, trivial, ⟨⟨by rw [hB1]; exact hf, hB2⟩, ⟨by rw [ht]; exact hP, va_K.moved ha hK, hD⟩⟩, hS.F ht⟩) hS.2.2 (Nat.le_refl _) (Nat.le_refl _)
        have hf := (if_pos (show w_1 = 0 from hw.symm)).symm.trans hf
        have hP := keepP hP hk1
        clear hFc hk1 hB
        generalize H1 = H at hP hS ⊢
        refine W.widen (k := 1) (n := 6) (by decide) (by decide) ?_
        refine lv_iload_n hx hb dX4_point_7 rfl (lv_at hl 2 rfl) ?_
        refine lv_iconst (v := 0) hx hb dX4_point_8 (by decide) ?_
        refine lv_bipush (v := 50) hx hb dX4_point_9 (by decide) ?_
        obtain ⟨w_2, hw_2, hf⟩ := ob hf
        have hFc := freeNil hS hA
        refine vx_callv (vx_runS (As := [.int v2, .int (0 : Int32), .int (50 : Int32)]) (rest := []) ⟨hx, hb, hml, hown, hts⟩ (mX4_checkBounds l lt sa H.size v2 (0 : Int32) (50 : Int32) n w_2 hw_2) (va_cwS 3 hts gX4_point_X4_checkBounds rfl rfl rfl (by decide +kernel) ⟨Nat.le_of_ble_eq_true rfl, Nat.le_of_ble_eq_true rfl⟩) ⟨nxPre_blind, nxPre_of hX hq hS hFc⟩ rfl rfl hl.1 rfl (lv_room (Nat.le_of_ble_eq_true rfl)) dX4_point_11 ⟨by decide, by decide⟩) hS (fun q _ h => hFc q h) hFc (fun q _ h => hFc q h) (fun E ce q9 u2 t H1 locs ht hvm hpx hB hz1 hk1 hS hce hcv hcl => ?_) (fun u2 t H1 locs ht hvm hw hB hz1 hk1 hS => ?_)
        · obtain ⟨hB1, hB2⟩ := hB
          have hf := (if_neg (show ¬ w_2 = 0 from fun h0 => by rw [← hB1] at h0; omega)).symm.trans hf
          have hf := Option.some.inj hf
          have hP := keepP hP hk1
          refine vx_widen (k := 4) (n := 24) (by decide) (by decide) ?_
          exact vx_out (E := E) (fun x hx => (ht0 x hx).elim) hlocks hce hcv hcl (fun t ht ha => ⟨u, trivial, ⟨⟨by rw [hB1]; exact hf, hB2⟩, ⟨by rw [ht]; exact hP, va_K.moved ha hK, hD⟩⟩, hS.F ht⟩) hS.2.2 (Nat.le_refl _) (Nat.le_refl _)
        have hf := (if_pos (show w_2 = 0 from hw.symm)).symm.trans hf
        have hP := keepP hP hk1
        clear hFc hk1 hB
        generalize H1 = H at hP hS ⊢
        refine W.widen (k := 2) (n := 12) (by decide) (by decide) ?_
        refine lv_iload_n hx hb dX4_point_14 rfl (lv_at hl 3 rfl) ?_
        refine lv_iconst (v := 0) hx hb dX4_point_15 (by decide) ?_
        refine lv_ldc (v := 100000) hx hb hown k_0 dX4_point_16 ?_
        obtain ⟨w_3, hw_3, hf⟩ := ob hf
        have hFc := freeNil hS hA
        refine vx_callv (vx_runS (As := [.int v3, .int (0 : Int32), .int (100000 : Int32)]) (rest := []) ⟨hx, hb, hml, hown, hts⟩ (mX4_checkBounds l lt sa H.size v3 (0 : Int32) (100000 : Int32) n w_3 hw_3) (va_cwS 3 hts gX4_point_X4_checkBounds rfl rfl rfl (by decide +kernel) ⟨Nat.le_of_ble_eq_true rfl, Nat.le_of_ble_eq_true rfl⟩) ⟨nxPre_blind, nxPre_of hX hq hS hFc⟩ rfl rfl hl.1 rfl (lv_room (Nat.le_of_ble_eq_true rfl)) dX4_point_18 ⟨by decide, by decide⟩) hS (fun q _ h => hFc q h) hFc (fun q _ h => hFc q h) (fun E ce q9 u2 t H1 locs ht hvm hpx hB hz1 hk1 hS hce hcv hcl => ?_) (fun u2 t H1 locs ht hvm hw hB hz1 hk1 hS => ?_)
        · obtain ⟨hB1, hB2⟩ := hB
          have hf := (if_neg (show ¬ w_3 = 0 from fun h0 => by rw [← hB1] at h0; omega)).symm.trans hf
          have hf := Option.some.inj hf
          have hP := keepP hP hk1
          refine vx_widen (k := 4) (n := 24) (by decide) (by decide) ?_
          exact vx_out (E := E) (fun x hx => (ht0 x hx).elim) hlocks hce hcv hcl (fun t ht ha => ⟨u, trivial, ⟨⟨by rw [hB1]; exact hf, hB2⟩, ⟨by rw [ht]; exact hP, va_K.moved ha hK, hD⟩⟩, hS.F ht⟩) hS.2.2 (Nat.le_refl _) (Nat.le_refl _)
        have hf := (if_pos (show w_3 = 0 from hw.symm)).symm.trans hf
        have hP := keepP hP hk1
        clear hFc hk1 hB
        generalize H1 = H at hP hS ⊢
        refine W.widen (k := 3) (n := 18) (by decide) (by decide) ?_
        refine lv_aload_n hx hb dX4_point_21 rfl (lv_at hl 0 rfl) ?_
        refine va_get (D := (dC, dI)) (ci := 4) (v := .ref (ad 1)) (C := RX4) (T := TX4) (N := 4) hx hb hts iX4 hown hK hP 0 rfl rfl 0 (by decide) k_1 (fun _ h9 => h9) rfl dX4_point_22 ?_
        refine va_get (D := (dC, dI)) (ci := 2) (v := .int (gI u 2)) (C := RX2) (T := TX2) (N := 14) hx hb hts iX2 hown hK hP 1 rfl rfl 12 (by decide) k_2 (fun _ h9 => h9) rfl dX4_point_25 ?_
        refine lv_bipush (v := 16) hx hb dX4_point_28 (by decide) ?_
        obtain ⟨w_4, hw_4, hf⟩ := ob hf
        have hFc := freeNil hS hA
        refine vx_callv (vx_runS (As := [.int (gI u 2), .int (16 : Int32)]) (rest := []) ⟨hx, hb, hml, hown, hts⟩ (mX4_checkCount l lt sa H.size (gI u 2) (16 : Int32) n w_4 hw_4) (va_cwS 2 hts gX4_point_X4_checkCount rfl rfl rfl (by decide +kernel) ⟨Nat.le_of_ble_eq_true rfl, Nat.le_of_ble_eq_true rfl⟩) ⟨nxPre_blind, nxPre_of hX hq hS hFc⟩ rfl rfl hl.1 rfl (lv_room (Nat.le_of_ble_eq_true rfl)) dX4_point_30 ⟨by decide, by decide⟩) hS (fun q _ h => hFc q h) hFc (fun q _ h => hFc q h) (fun E ce q9 u2 t H1 locs ht hvm hpx hB hz1 hk1 hS hce hcv hcl => ?_) (fun u2 t H1 locs ht hvm hw hB hz1 hk1 hS => ?_)
        · obtain ⟨hB1, hB2⟩ := hB
          have hf := (if_neg (show ¬ w_4 = 0 from fun h0 => by rw [← hB1] at h0; omega)).symm.trans hf
          have hf := Option.some.inj hf
          have hP := keepP hP hk1
          refine vx_widen (k := 4) (n := 24) (by decide) (by decide) ?_
          exact vx_out (E := E) (fun x hx => (ht0 x hx).elim) hlocks hce hcv hcl (fun t ht ha => ⟨u, trivial, ⟨⟨by rw [hB1]; exact hf, hB2⟩, ⟨by rw [ht]; exact hP, va_K.moved ha hK, hD⟩⟩, hS.F ht⟩) hS.2.2 (Nat.le_refl _) (Nat.le_refl _)
        have hf := (if_pos (show w_4 = 0 from hw.symm)).symm.trans hf
        have hP := keepP hP hk1
        clear hFc hk1 hB
        generalize H1 = H at hP hS ⊢
        refine W.widen (k := 4) (n := 24) (by decide) (by decide) ?_
        refine lv_aload_n hx hb dX4_point_33 rfl (lv_at hl 0 rfl) ?_
        refine va_get (D := (dC, dI)) (ci := 4) (v := .ref (ad 1)) (C := RX4) (T := TX4) (N := 4) hx hb hts iX4 hown hK hP 0 rfl rfl 0 (by decide) k_1 (fun _ h9 => h9) rfl dX4_point_34 ?_
        refine lv_iload_n hx hb dX4_point_37 rfl (lv_at hl 1 rfl) ?_
        refine lv_iload_n hx hb dX4_point_38 rfl (lv_at hl 2 rfl) ?_
        refine lv_iload_n hx hb dX4_point_39 rfl (lv_at hl 3 rfl) ?_
        obtain ⟨w_5, hw_5, hf⟩ := ob hf
        have hFc := freeAll hD hS hA
        refine va_calli (va_runV (As := [.int v1, .int v2, .int v3]) (rest := []) ⟨hx, hb, hml, hown, hts⟩ (mX2_addPoint l dC dI cI cL ad H.size u v1 v2 v3 n w_5 hw_5) (cwV 3 hts gX4_point_X2_addPoint rfl rfl rfl (by decide +kernel) ⟨Nat.le_of_ble_eq_true rfl, Nat.le_of_ble_eq_true rfl⟩) ⟨wPre_blind, va_recv hK hP (ci := 2) (q0 := 1) rfl rfl, wPre_of hP hK hD hZ⟩ rfl rfl hl.1 rfl (lv_room (Nat.le_of_ble_eq_true rfl)) dX4_point_40 ⟨by decide, by decide⟩) hS (fun q _ h => hFc q h) hFc (fun r2 u2 t H1 locs ht hvm hw hB hz1 hk1 hS => ?_)
        obtain ⟨hP1, hK1, hD1⟩ := hB
        rw [ht] at hP1
        have e1 : r2 = w_5.1 := congrArg Prod.fst hw
        have e2 : u2 = w_5.2 := congrArg Prod.snd hw
        subst r2 u2
        have hP : va_P (dC, dI) vwCl (cw ad cI cL w_5.2) H1 := hP1
        have hD : va_D A (cw ad cI cL w_5.2) := hD1.weaken (fun _ _ _ h => hFc _ h)
        clear hP1 hD1 hK1 hFc hk1
        generalize H1 = H at hP hS ⊢
        refine lv_istore (lv' := [(4, .int w_5.1), (0, .ref (ad 0)), (1, .int v1), (2, .int v2), (3, .int v3)]) hx hb dX4_point_43 hl (by decide) rfl (fun ls hl => ?_)
        refine lv_aload_n hx hb dX4_point_45 rfl (lv_at hl 1 rfl) ?_
        obtain ⟨w_6, hw_6, hf⟩ := ob hf
        have hFc := freeAll hD hS hA
        refine va_callv (va_runV (As := []) (rest := []) ⟨hx, hb, hml, hown, hts⟩ (mX4_lampsGo l dC dI cI cL ad H.size w_5.2  n w_6 hw_6) (cwV 0 hts gX4_point_X4_lampsGo rfl rfl rfl (by decide +kernel) ⟨Nat.le_of_ble_eq_true rfl, Nat.le_of_ble_eq_true rfl⟩) ⟨wPre_blind, va_recv hK hP (ci := 4) (q0 := 0) rfl rfl, wPre_of hP hK hD hZ⟩ rfl rfl hl.1 rfl (lv_room (Nat.le_of_ble_eq_true rfl)) dX4_point_46 ⟨by decide, by decide⟩) hS (fun q _ h => hFc q h) hFc (fun u2 t H1 locs ht hvm hw hB hz1 hk1 hS => ?_)
        obtain ⟨hP1, hK1, hD1⟩ := hB
        rw [ht] at hP1
        subst u2
        have hP : va_P (dC, dI) vwCl (cw ad cI cL w_6) H1 := hP1
        have hD : va_D A (cw ad cI cL w_6) := hD1.weaken (fun _ _ _ h => hFc _ h)
        clear hP1 hD1 hK1 hFc hk1
        generalize H1 = H at hP hS ⊢
        refine lv_iload hx hb dX4_point_49 (lv_at hl 0 rfl) ?_
        have hf := Option.some.inj hf
        refine W.widen (k := 4) (n := 24) (by decide) (by decide) ?_
        refine vx_ret ?_
        exact W.iret (v := w_5.1) hx hb hr (fun t ht hW => ⟨⟨w_5.1, w_6, rfl, hf, ⟨by rw [ht]; exact hP, va_K.moved hW.alike hK, hD⟩⟩, hS.F ht⟩) hS.2.2 dX4_point_51
  exact (key n) z1 z2 z3 u _ _ ls hf0 hP hD hS (lv_sub hl [0, 1, 2, 3] rfl)

def fX4_height (n pc : Nat) (v1 : Int32) (u : St) : Option (Nat × Int32 × St) := match n with
  | 0 => none
  | n + 1 => match pc with
    | 0 => ((FX4_checkBounds n v1 (1 : Int32) (50 : Int32)).bind fun w_1 => (if w_1 = 0 then ((FX4_lampsGo n  (sI u 3 v1)).bind fun w_2 => some (0, (gI u 3), w_2)) else some (w_1, (0 : Int32), u)))
    | _ => none
theorem eX4_height_0 (n : Nat) (v1 : Int32) (u : St) : fX4_height (n + 1) 0 v1 u = ((FX4_checkBounds n v1 (1 : Int32) (50 : Int32)).bind fun w_1 => (if w_1 = 0 then ((FX4_lampsGo n  (sI u 3 v1)).bind fun w_2 => some (0, (gI u 3), w_2)) else some (w_1, (0 : Int32), u))) := rfl
theorem vX4_height_0 (v1 : Int32) (u : St) (r : Nat × Int32 × St) : Ev (fun n => fX4_height n 0 v1 u) r ↔ Ev (fun n => ((FX4_checkBounds n v1 (1 : Int32) (50 : Int32)).bind fun w_1 => (if w_1 = 0 then ((FX4_lampsGo n  (sI u 3 v1)).bind fun w_2 => some (0, (gI u 3), w_2)) else some (w_1, (0 : Int32), u)))) r := Ev_succ (fun n => fX4_height n 0 v1 u) r
def FX4_height (n : Nat) (v1 : Int32) (u : St) : Option (Nat × Int32 × St) := fX4_height n 0 v1 u
set_option maxHeartbeats 4000000 in
set_option maxRecDepth 100000 in
theorem mX4_height (l : Launch) (lt : l.stackTraces = false) (dC : Nat → ClassId) (dI : Nat → Nat → Nat) (cI cL : ClassId) (ad sa : Nat → Nat) (sz : Nat) (u : St) (z1 : Int32) (n : Nat) (r : Nat × Int32 × St) (hf0 : FX4_height n z1 u = some r) : vx_Met l yX4_height wsX4_height ({ frames := 8, cells := 1, slots := 6, locals := 112 }) (va_Pc [.ref (ad 0), .int z1] (xPre dC dI cI cL sa (cw ad cI cL u) sz)) (va_Qi (fun a t => (0, a, t) = r) (fun t => wPost dC dI cI cL (va_A (cw ad cI cL u) sz) (cw ad cI cL t)) (va_A (cw ad cI cL u) sz)) (vx_X (fun _ : St => True) (fun E t U => ((xcode E, (0 : Int32), t) = r ∧ 0 < xcode E) ∧ wPost dC dI cI cL (va_A (cw ad cI cL u) sz) (cw ad cI cL t) U) (va_A (cw ad cI cL u) sz)) 1 6 (va_A (cw ad cI cL u) sz) := by
  refine vx_ofW (cc := cX4_height) (maxL := 3) (ret := (some .int)) (by decide) rfl ?_
  intro p e s m args below meth c s₁ B hml ht0 hv
  obtain ⟨rfl, ⟨hsz, hP, hK, hD0, hZ⟩, hX, hq⟩ := hv
  have hx := B.exec
  have hb := B.bytes
  have hr := B.returns
  have hts := atoms_spec (ws := wsX4_height) B.pre
  have hown : s.vm.findClass RX4 = some m.cls := findClass_of_methodNamed B.named
  have hlocks := B.notSynchronized
  subst hsz
  have hD := hD0.self (sz := s.heap.size)
  generalize hAe : va_A (cw ad cI cL u) s.heap.size = A at hD hq ⊢
  have hA : ∀ q : Nat, s.heap.size ≤ q → A q := fun q h => by rw [← hAe]; exact Or.inr h
  have hS : va_S A s.heap s.heap [] := va_S.rf
  have iX2 : ∀ w ∈ u_ws RX2 TX2 14, w ∈ wsX4_height := fun _ h => List.mem_cons_of_mem _ (List.mem_append_left _ (List.mem_append_left _ (List.mem_append_left _ (List.mem_append_left _ (List.mem_append_right _ h)))))
  have iX4 : ∀ w ∈ u_ws RX4 TX4 4, w ∈ wsX4_height := fun _ h => List.mem_cons_of_mem _ (List.mem_append_left _ (List.mem_append_left _ (List.mem_append_left _ (List.mem_append_left _ (List.mem_append_left _ (List.mem_append_right _ h))))))
  have k_0 := hts (.fieldLink RX4 15 "LampChoice" "room" "LLampChoice$Room;") (by decide +kernel)
  have k_1 := hts (.fieldLink RX4 75 "LampChoice$Room" "height" "I") (by decide +kernel)
  have hl := lv_entry ([.ref (ad 0), .int z1]) (n := 3) (Nat.le_of_ble_eq_true rfl)
  rw [lg_entry_eq]
  generalize (lg_sl ([.ref (ad 0), .int z1]) ++ List.replicate (3 - (lg_sl ([.ref (ad 0), .int z1])).length) Slot.unset).toArray = ls at hl ⊢
  have hl : lv_has ls 3 [(0, .ref (ad 0)), (1, .int z1)] := hl
  have key : ∀ n : Nat, (∀ (v1 : Int32) (u : St) (H : Heap) (locs : List Loc) (ls : Array Slot), fX4_height n 0 v1 u = some r → va_P (dC, dI) vwCl (cw ad cI cL u) H → va_D A (cw ad cI cL u) → va_S A s.heap H locs → lv_has ls 3 [(0, .ref (ad 0)), (1, .int v1)] → W p l e (headSpec wsX4_height ({ frames := 8, cells := 1, slots := 6, locals := 112 })).room s m ([.ref (ad 0), .int z1] : List Value).toArray below meth c H locs 0 0 (vx_MQ below (va_Qi (fun a t => (0, a, t) = r) (fun t => wPost dC dI cI cL A (cw ad cI cL t)) A) (vx_X (fun _ : St => True) (fun E t U => ((xcode E, (0 : Int32), t) = r ∧ 0 < xcode E) ∧ wPost dC dI cI cL A (cw ad cI cL t) U) A) ([.ref (ad 0), .int z1] : List Value).toArray s 1 6 A) (F0 m 0 ls [])) := by
    intro n
    induction n with
    | zero => exact (fun _ _ _ _ _ hf => nomatch (show (none : Option (Nat × Int32 × St)) = some r from hf))
    | succ n ih =>
      have ih0 := ih
      · intro v1 u H locs ls hf hP hD hS hl
        have hf := (eX4_height_0 n v1 u).symm.trans hf
        refine lv_iload_n hx hb dX4_height_0 rfl (lv_at hl 1 rfl) ?_
        refine lv_iconst (v := 1) hx hb dX4_height_1 (by decide) ?_
        refine lv_bipush (v := 50) hx hb dX4_height_2 (by decide) ?_
        obtain ⟨w_1, hw_1, hf⟩ := ob hf
        have hFc := freeNil hS hA
        refine vx_callv (vx_runS (As := [.int v1, .int (1 : Int32), .int (50 : Int32)]) (rest := []) ⟨hx, hb, hml, hown, hts⟩ (mX4_checkBounds l lt sa H.size v1 (1 : Int32) (50 : Int32) n w_1 hw_1) (va_cwS 3 hts gX4_height_X4_checkBounds rfl rfl rfl (by decide +kernel) ⟨Nat.le_of_ble_eq_true rfl, Nat.le_of_ble_eq_true rfl⟩) ⟨nxPre_blind, nxPre_of hX hq hS hFc⟩ rfl rfl hl.1 rfl (lv_room (Nat.le_of_ble_eq_true rfl)) dX4_height_4 ⟨by decide, by decide⟩) hS (fun q _ h => hFc q h) hFc (fun q _ h => hFc q h) (fun E ce q9 u2 t H1 locs ht hvm hpx hB hz1 hk1 hS hce hcv hcl => ?_) (fun u2 t H1 locs ht hvm hw hB hz1 hk1 hS => ?_)
        · obtain ⟨hB1, hB2⟩ := hB
          have hf := (if_neg (show ¬ w_1 = 0 from fun h0 => by rw [← hB1] at h0; omega)).symm.trans hf
          have hf := Option.some.inj hf
          have hP := keepP hP hk1
          refine vx_widen (k := 1) (n := 6) (by decide) (by decide) ?_
          exact vx_out (E := E) (fun x hx => (ht0 x hx).elim) hlocks hce hcv hcl (fun t ht ha => ⟨u, trivial, ⟨⟨by rw [hB1]; exact hf, hB2⟩, ⟨by rw [ht]; exact hP, va_K.moved ha hK, hD⟩⟩, hS.F ht⟩) hS.2.2 (Nat.le_refl _) (Nat.le_refl _)
        have hf := (if_pos (show w_1 = 0 from hw.symm)).symm.trans hf
        have hP := keepP hP hk1
        clear hFc hk1 hB
        generalize H1 = H at hP hS ⊢
        refine W.widen (k := 1) (n := 6) (by decide) (by decide) ?_
        refine lv_aload_n hx hb dX4_height_7 rfl (lv_at hl 0 rfl) ?_
        refine va_get (D := (dC, dI)) (ci := 4) (v := .ref (ad 1)) (C := RX4) (T := TX4) (N := 4) hx hb hts iX4 hown hK hP 0 rfl rfl 0 (by decide) k_0 (fun _ h9 => h9) rfl dX4_height_8 ?_
        refine va_get (D := (dC, dI)) (ci := 2) (v := .int (gI u 3)) (C := RX2) (T := TX2) (N := 14) hx hb hts iX2 hown hK hP 1 rfl rfl 13 (by decide) k_1 (fun _ h9 => h9) rfl dX4_height_11 ?_
        refine lv_istore_n (lv' := [(2, .int (gI u 3)), (0, .ref (ad 0)), (1, .int v1)]) hx hb dX4_height_14 rfl hl (by decide) rfl (fun ls hl => ?_)
        refine lv_aload_n hx hb dX4_height_15 rfl (lv_at hl 1 rfl) ?_
        refine va_get (D := (dC, dI)) (ci := 4) (v := .ref (ad 1)) (C := RX4) (T := TX4) (N := 4) hx hb hts iX4 hown hK hP 0 rfl rfl 0 (by decide) k_0 (fun _ h9 => h9) rfl dX4_height_16 ?_
        refine lv_iload_n hx hb dX4_height_19 rfl (lv_at hl 2 rfl) ?_
        refine va_put (D := (dC, dI)) (ci := 2) (v := .int v1) (ty := .int) (C := RX2) (T := TX2) (N := 14) hx hb hts iX2 tyX2 tyX2_ok nmX2 hown hK hP hD hS 1 rfl rfl 13 (by decide) k_1 (fun _ h9 => h9) rfl (by decide +kernel) rfl rfl (Nat.le_of_ble_eq_true rfl) dX4_height_20 (fun H locs hP hD hS => ?_)
        have hP : va_P (dC, dI) vwCl (cw ad cI cL (sI u 3 v1)) H := hP
        have hD : va_D A (cw ad cI cL (sI u 3 v1)) := hD
        refine lv_aload_n hx hb dX4_height_23 rfl (lv_at hl 1 rfl) ?_
        obtain ⟨w_2, hw_2, hf⟩ := ob hf
        have hFc := freeAll hD hS hA
        refine va_callv (va_runV (As := []) (rest := []) ⟨hx, hb, hml, hown, hts⟩ (mX4_lampsGo l dC dI cI cL ad H.size (sI u 3 v1)  n w_2 hw_2) (cwV 0 hts gX4_height_X4_lampsGo rfl rfl rfl (by decide +kernel) ⟨Nat.le_of_ble_eq_true rfl, Nat.le_of_ble_eq_true rfl⟩) ⟨wPre_blind, va_recv hK hP (ci := 4) (q0 := 0) rfl rfl, wPre_of hP hK hD hZ⟩ rfl rfl hl.1 rfl (lv_room (Nat.le_of_ble_eq_true rfl)) dX4_height_24 ⟨by decide, by decide⟩) hS (fun q _ h => hFc q h) hFc (fun u2 t H1 locs ht hvm hw hB hz1 hk1 hS => ?_)
        obtain ⟨hP1, hK1, hD1⟩ := hB
        rw [ht] at hP1
        subst u2
        have hP : va_P (dC, dI) vwCl (cw ad cI cL w_2) H1 := hP1
        have hD : va_D A (cw ad cI cL w_2) := hD1.weaken (fun _ _ _ h => hFc _ h)
        clear hP1 hD1 hK1 hFc hk1
        generalize H1 = H at hP hS ⊢
        refine lv_iload_n hx hb dX4_height_27 rfl (lv_at hl 0 rfl) ?_
        have hf := Option.some.inj hf
        refine W.widen (k := 1) (n := 6) (by decide) (by decide) ?_
        refine vx_ret ?_
        exact W.iret (v := (gI u 3)) hx hb hr (fun t ht hW => ⟨⟨(gI u 3), w_2, rfl, hf, ⟨by rw [ht]; exact hP, va_K.moved hW.alike hK, hD⟩⟩, hS.F ht⟩) hS.2.2 dX4_height_28
  exact (key n) z1 u _ _ ls hf0 hP hD hS (lv_sub hl [0, 1] rfl)

def fX4_hold (n pc : Nat) (v1 : Int32) (v2 : Int32) (u : St) : Option (Nat × St) := match n with
  | 0 => none
  | n + 1 => match pc with
    | 0 => ((FX4_checkPlace n v1 u).bind fun w_1 => (if w_1.1 = 0 then ((FX4_checkBounds n v2 (-2 : Int32) ((gI w_1.2 0) - (1 : Int32))).bind fun w_2 => (if w_2 = 0 then (if ck v1 7 = true then ((FX4_lampsGo n  (sA w_1.2 6 (upd (gA w_1.2 6) v1.toNatClampNeg v2))).bind fun w_4 => some (0, w_4)) else none) else some (w_2, w_1.2))) else some (w_1.1, w_1.2)))
    | _ => none
theorem eX4_hold_0 (n : Nat) (v1 : Int32) (v2 : Int32) (u : St) : fX4_hold (n + 1) 0 v1 v2 u = ((FX4_checkPlace n v1 u).bind fun w_1 => (if w_1.1 = 0 then ((FX4_checkBounds n v2 (-2 : Int32) ((gI w_1.2 0) - (1 : Int32))).bind fun w_2 => (if w_2 = 0 then (if ck v1 7 = true then ((FX4_lampsGo n  (sA w_1.2 6 (upd (gA w_1.2 6) v1.toNatClampNeg v2))).bind fun w_4 => some (0, w_4)) else none) else some (w_2, w_1.2))) else some (w_1.1, w_1.2))) := rfl
theorem vX4_hold_0 (v1 : Int32) (v2 : Int32) (u : St) (r : Nat × St) : Ev (fun n => fX4_hold n 0 v1 v2 u) r ↔ Ev (fun n => ((FX4_checkPlace n v1 u).bind fun w_1 => (if w_1.1 = 0 then ((FX4_checkBounds n v2 (-2 : Int32) ((gI w_1.2 0) - (1 : Int32))).bind fun w_2 => (if w_2 = 0 then (if ck v1 7 = true then ((FX4_lampsGo n  (sA w_1.2 6 (upd (gA w_1.2 6) v1.toNatClampNeg v2))).bind fun w_4 => some (0, w_4)) else none) else some (w_2, w_1.2))) else some (w_1.1, w_1.2)))) r := Ev_succ (fun n => fX4_hold n 0 v1 v2 u) r
def FX4_hold (n : Nat) (v1 : Int32) (v2 : Int32) (u : St) : Option (Nat × St) := fX4_hold n 0 v1 v2 u
set_option maxHeartbeats 4000000 in
set_option maxRecDepth 100000 in
theorem mX4_hold (l : Launch) (lt : l.stackTraces = false) (dC : Nat → ClassId) (dI : Nat → Nat → Nat) (cI cL : ClassId) (ad sa : Nat → Nat) (sz : Nat) (u : St) (z1 : Int32) (z2 : Int32) (n : Nat) (r : Nat × St) (hf0 : FX4_hold n z1 z2 u = some r) : vx_Met l yX4_hold wsX4_hold ({ frames := 9, cells := 2, slots := 12, locals := 133 }) (va_Pc [.ref (ad 0), .int z1, .int z2] (xPre dC dI cI cL sa (cw ad cI cL u) sz)) (va_Qv (fun t => (0, t) = r) (fun t => wPost dC dI cI cL (va_A (cw ad cI cL u) sz) (cw ad cI cL t)) (va_A (cw ad cI cL u) sz)) (vx_X (fun _ : St => True) (fun E t U => ((xcode E, t) = r ∧ 0 < xcode E) ∧ wPost dC dI cI cL (va_A (cw ad cI cL u) sz) (cw ad cI cL t) U) (va_A (cw ad cI cL u) sz)) 2 12 (va_A (cw ad cI cL u) sz) := by
  refine vx_ofW (cc := cX4_hold) (maxL := 3) (ret := none) (by decide) rfl ?_
  intro p e s m args below meth c s₁ B hml ht0 hv
  obtain ⟨rfl, ⟨hsz, hP, hK, hD0, hZ⟩, hX, hq⟩ := hv
  have hx := B.exec
  have hb := B.bytes
  have hr := B.returns
  have hts := atoms_spec (ws := wsX4_hold) B.pre
  have hown : s.vm.findClass RX4 = some m.cls := findClass_of_methodNamed B.named
  have hlocks := B.notSynchronized
  subst hsz
  have hD := hD0.self (sz := s.heap.size)
  generalize hAe : va_A (cw ad cI cL u) s.heap.size = A at hD hq ⊢
  have hA : ∀ q : Nat, s.heap.size ≤ q → A q := fun q h => by rw [← hAe]; exact Or.inr h
  have hS : va_S A s.heap s.heap [] := va_S.rf
  have iX2 : ∀ w ∈ u_ws RX2 TX2 14, w ∈ wsX4_hold := fun _ h => List.mem_cons_of_mem _ (List.mem_append_left _ (List.mem_append_left _ (List.mem_append_left _ (List.mem_append_left _ (List.mem_append_right _ h)))))
  have iX4 : ∀ w ∈ u_ws RX4 TX4 4, w ∈ wsX4_hold := fun _ h => List.mem_cons_of_mem _ (List.mem_append_left _ (List.mem_append_left _ (List.mem_append_left _ (List.mem_append_left _ (List.mem_append_left _ (List.mem_append_right _ h))))))
  have k_0 := hts (.fieldLink RX4 15 "LampChoice" "room" "LLampChoice$Room;") (by decide +kernel)
  have k_1 := hts (.fieldLink RX4 46 "LampChoice$Room" "kinds" "I") (by decide +kernel)
  have k_2 := hts (.fieldLink RX4 82 "LampChoice$Room" "held" "[I") (by decide +kernel)
  have hl := lv_entry ([.ref (ad 0), .int z1, .int z2]) (n := 3) (Nat.le_of_ble_eq_true rfl)
  rw [lg_entry_eq]
  generalize (lg_sl ([.ref (ad 0), .int z1, .int z2]) ++ List.replicate (3 - (lg_sl ([.ref (ad 0), .int z1, .int z2])).length) Slot.unset).toArray = ls at hl ⊢
  have hl : lv_has ls 3 [(0, .ref (ad 0)), (1, .int z1), (2, .int z2)] := hl
  have key : ∀ n : Nat, (∀ (v1 : Int32) (v2 : Int32) (u : St) (H : Heap) (locs : List Loc) (ls : Array Slot), fX4_hold n 0 v1 v2 u = some r → va_P (dC, dI) vwCl (cw ad cI cL u) H → va_D A (cw ad cI cL u) → va_S A s.heap H locs → lv_has ls 3 [(0, .ref (ad 0)), (1, .int v1), (2, .int v2)] → W p l e (headSpec wsX4_hold ({ frames := 9, cells := 2, slots := 12, locals := 133 })).room s m ([.ref (ad 0), .int z1, .int z2] : List Value).toArray below meth c H locs 0 0 (vx_MQ below (va_Qv (fun t => (0, t) = r) (fun t => wPost dC dI cI cL A (cw ad cI cL t)) A) (vx_X (fun _ : St => True) (fun E t U => ((xcode E, t) = r ∧ 0 < xcode E) ∧ wPost dC dI cI cL A (cw ad cI cL t) U) A) ([.ref (ad 0), .int z1, .int z2] : List Value).toArray s 2 12 A) (F0 m 0 ls [])) := by
    intro n
    induction n with
    | zero => exact (fun _ _ _ _ _ _ hf => nomatch (show (none : Option (Nat × St)) = some r from hf))
    | succ n ih =>
      have ih0 := ih
      · intro v1 v2 u H locs ls hf hP hD hS hl
        have hf := (eX4_hold_0 n v1 v2 u).symm.trans hf
        refine lv_aload_n hx hb dX4_hold_0 rfl (lv_at hl 0 rfl) ?_
        refine lv_iload_n hx hb dX4_hold_1 rfl (lv_at hl 1 rfl) ?_
        obtain ⟨w_1, hw_1, hf⟩ := ob hf
        have hFc := freeAll hD hS hA
        refine vx_callv (vx_runV (As := [.int v1]) (rest := []) ⟨hx, hb, hml, hown, hts⟩ (mX4_checkPlace l lt dC dI cI cL ad sa H.size u v1 n w_1 hw_1) (cwV 1 hts gX4_hold_X4_checkPlace rfl rfl rfl (by decide +kernel) ⟨Nat.le_of_ble_eq_true rfl, Nat.le_of_ble_eq_true rfl⟩) ⟨xPre_blind, va_recv hK hP (ci := 4) (q0 := 0) rfl rfl, xPre_of hP hK hD hZ hX hq hS hFc⟩ rfl rfl hl.1 rfl (lv_room (Nat.le_of_ble_eq_true rfl)) dX4_hold_2 ⟨by decide, by decide⟩) hS (fun q _ h => hFc q h) hFc (fun q _ h => hFc q h) (fun E ce q9 u2 t H1 locs ht hvm hpx hB hz1 hk1 hS hce hcv hcl => ?_) (fun u2 t H1 locs ht hvm hw hB hz1 hk1 hS => ?_)
        · obtain ⟨⟨hB1, hB2⟩, hP1, hK1, hD1⟩ := hB
          rw [ht] at hP1
          have e1 : xcode E = w_1.1 := congrArg Prod.fst hB1
          have e2 : u2 = w_1.2 := congrArg (fun z => z.2) hB1
          have hf := (if_neg (show ¬ w_1.1 = 0 from fun h0 => by rw [← e1] at h0; omega)).symm.trans hf
          have hf := Option.some.inj hf
          have hD := hD1.weaken (fun _ _ _ h => hFc _ h)
          subst u2
          have hP : va_P (dC, dI) vwCl (cw ad cI cL w_1.2) H1 := hP1
          refine vx_widen (k := 2) (n := 12) (by decide) (by decide) ?_
          exact vx_out (E := E) (fun x hx => (ht0 x hx).elim) hlocks hce hcv hcl (fun t ht ha => ⟨w_1.2, trivial, ⟨⟨by rw [e1]; exact hf, hB2⟩, ⟨by rw [ht]; exact hP, va_K.moved ha hK, hD⟩⟩, hS.F ht⟩) hS.2.2 (Nat.le_refl _) (Nat.le_refl _)
        have hf := (if_pos (show w_1.1 = 0 from (congrArg Prod.fst hw).symm)).symm.trans hf
        obtain ⟨hP1, hK1, hD1⟩ := hB
        rw [ht] at hP1
        have e2 : u2 = w_1.2 := congrArg Prod.snd hw
        subst u2
        have hP : va_P (dC, dI) vwCl (cw ad cI cL w_1.2) H1 := hP1
        have hD : va_D A (cw ad cI cL w_1.2) := hD1.weaken (fun _ _ _ h => hFc _ h)
        clear hP1 hD1 hK1 hFc hk1
        generalize H1 = H at hP hS ⊢
        refine W.widen (k := 1) (n := 6) (by decide) (by decide) ?_
        refine lv_iload_n hx hb dX4_hold_5 rfl (lv_at hl 2 rfl) ?_
        refine lv_bipush (v := -2) hx hb dX4_hold_6 (by decide) ?_
        refine lv_aload_n hx hb dX4_hold_8 rfl (lv_at hl 0 rfl) ?_
        refine va_get (D := (dC, dI)) (ci := 4) (v := .ref (ad 1)) (C := RX4) (T := TX4) (N := 4) hx hb hts iX4 hown hK hP 0 rfl rfl 0 (by decide) k_0 (fun _ h9 => h9) rfl dX4_hold_9 ?_
        refine va_get (D := (dC, dI)) (ci := 2) (v := .int (gI w_1.2 0)) (C := RX2) (T := TX2) (N := 14) hx hb hts iX2 hown hK hP 1 rfl rfl 10 (by decide) k_1 (fun _ h9 => h9) rfl dX4_hold_12 ?_
        refine lv_iconst (v := 1) hx hb dX4_hold_15 (by decide) ?_
        refine lv_isub hx hb dX4_hold_16 ?_
        obtain ⟨w_2, hw_2, hf⟩ := ob hf
        have hFc := freeNil hS hA
        refine vx_callv (vx_runS (As := [.int v2, .int (-2 : Int32), .int ((gI w_1.2 0) - (1 : Int32))]) (rest := []) ⟨hx, hb, hml, hown, hts⟩ (mX4_checkBounds l lt sa H.size v2 (-2 : Int32) ((gI w_1.2 0) - (1 : Int32)) n w_2 hw_2) (va_cwS 3 hts gX4_hold_X4_checkBounds rfl rfl rfl (by decide +kernel) ⟨Nat.le_of_ble_eq_true rfl, Nat.le_of_ble_eq_true rfl⟩) ⟨nxPre_blind, nxPre_of hX hq hS hFc⟩ rfl rfl hl.1 rfl (lv_room (Nat.le_of_ble_eq_true rfl)) dX4_hold_17 ⟨by decide, by decide⟩) hS (fun q _ h => hFc q h) hFc (fun q _ h => hFc q h) (fun E ce q9 u2 t H1 locs ht hvm hpx hB hz1 hk1 hS hce hcv hcl => ?_) (fun u2 t H1 locs ht hvm hw hB hz1 hk1 hS => ?_)
        · obtain ⟨hB1, hB2⟩ := hB
          have hf := (if_neg (show ¬ w_2 = 0 from fun h0 => by rw [← hB1] at h0; omega)).symm.trans hf
          have hf := Option.some.inj hf
          have hP := keepP hP hk1
          refine vx_widen (k := 2) (n := 12) (by decide) (by decide) ?_
          exact vx_out (E := E) (fun x hx => (ht0 x hx).elim) hlocks hce hcv hcl (fun t ht ha => ⟨w_1.2, trivial, ⟨⟨by rw [hB1]; exact hf, hB2⟩, ⟨by rw [ht]; exact hP, va_K.moved ha hK, hD⟩⟩, hS.F ht⟩) hS.2.2 (Nat.le_refl _) (Nat.le_refl _)
        have hf := (if_pos (show w_2 = 0 from hw.symm)).symm.trans hf
        have hP := keepP hP hk1
        clear hFc hk1 hB
        generalize H1 = H at hP hS ⊢
        refine W.widen (k := 2) (n := 12) (by decide) (by decide) ?_
        refine lv_aload_n hx hb dX4_hold_20 rfl (lv_at hl 0 rfl) ?_
        refine va_get (D := (dC, dI)) (ci := 4) (v := .ref (ad 1)) (C := RX4) (T := TX4) (N := 4) hx hb hts iX4 hown hK hP 0 rfl rfl 0 (by decide) k_0 (fun _ h9 => h9) rfl dX4_hold_21 ?_
        refine va_get (D := (dC, dI)) (ci := 2) (v := .ref (ad 11)) (C := RX2) (T := TX2) (N := 14) hx hb hts iX2 hown hK hP 1 rfl rfl 6 (by decide) k_2 (fun _ h9 => h9) rfl dX4_hold_24 ?_
        refine lv_iload_n hx hb dX4_hold_27 rfl (lv_at hl 1 rfl) ?_
        refine lv_iload_n hx hb dX4_hold_28 rfl (lv_at hl 2 rfl) ?_
        obtain ⟨h_3, hf⟩ := ck_of hf
        refine va_iast (f := (gA w_1.2 6)) hx hb hK hP hD hS 11 0 rfl rfl h_3 dX4_hold_29 (fun H locs hP hD hS => ?_)
        have hP : va_P (dC, dI) vwCl (cw ad cI cL (sA w_1.2 6 (upd (gA w_1.2 6) v1.toNatClampNeg v2))) H := hP
        have hD : va_D A (cw ad cI cL (sA w_1.2 6 (upd (gA w_1.2 6) v1.toNatClampNeg v2))) := hD
        refine lv_aload_n hx hb dX4_hold_30 rfl (lv_at hl 0 rfl) ?_
        obtain ⟨w_4, hw_4, hf⟩ := ob hf
        have hFc := freeAll hD hS hA
        refine va_callv (va_runV (As := []) (rest := []) ⟨hx, hb, hml, hown, hts⟩ (mX4_lampsGo l dC dI cI cL ad H.size (sA w_1.2 6 (upd (gA w_1.2 6) v1.toNatClampNeg v2))  n w_4 hw_4) (cwV 0 hts gX4_hold_X4_lampsGo rfl rfl rfl (by decide +kernel) ⟨Nat.le_of_ble_eq_true rfl, Nat.le_of_ble_eq_true rfl⟩) ⟨wPre_blind, va_recv hK hP (ci := 4) (q0 := 0) rfl rfl, wPre_of hP hK hD hZ⟩ rfl rfl hl.1 rfl (lv_room (Nat.le_of_ble_eq_true rfl)) dX4_hold_31 ⟨by decide, by decide⟩) hS (fun q _ h => hFc q h) hFc (fun u2 t H1 locs ht hvm hw hB hz1 hk1 hS => ?_)
        obtain ⟨hP1, hK1, hD1⟩ := hB
        rw [ht] at hP1
        subst u2
        have hP : va_P (dC, dI) vwCl (cw ad cI cL w_4) H1 := hP1
        have hD : va_D A (cw ad cI cL w_4) := hD1.weaken (fun _ _ _ h => hFc _ h)
        clear hP1 hD1 hK1 hFc hk1
        generalize H1 = H at hP hS ⊢
        have hf := Option.some.inj hf
        refine W.widen (k := 2) (n := 12) (by decide) (by decide) ?_
        refine vx_ret ?_
        exact W.vret hx hb hr (fun t ht hW => ⟨⟨w_4, rfl, hf, ⟨by rw [ht]; exact hP, va_K.moved hW.alike hK, hD⟩⟩, hS.F ht⟩) hS.2.2 dX4_hold_34
  exact (key n) z1 z2 u _ _ ls hf0 hP hD hS (lv_sub hl [0, 1, 2] rfl)

def fX4_light (n pc : Nat) (v1 : Int32) (v2 : Int32) (v3 : Int32) (u : St) : Option (Nat × Int32 × St) := match n with
  | 0 => none
  | n + 1 => match pc with
    | 0 => ((FX4_checkBounds n v1 (0 : Int32) ((gI u 0) - (1 : Int32))).bind fun w_1 => (if w_1 = 0 then ((FX4_checkPlace n v2 u).bind fun w_2 => (if w_2.1 = 0 then ((FX4_checkPoint n v3 w_2.2).bind fun w_3 => (if w_3.1 = 0 then ((FX2_lightOf n v1 v2 v3 w_3.2).bind fun w_4 => some (0, w_4.1, w_4.2)) else some (w_3.1, (0 : Int32), w_3.2))) else some (w_2.1, (0 : Int32), w_2.2))) else some (w_1, (0 : Int32), u)))
    | _ => none
theorem eX4_light_0 (n : Nat) (v1 : Int32) (v2 : Int32) (v3 : Int32) (u : St) : fX4_light (n + 1) 0 v1 v2 v3 u = ((FX4_checkBounds n v1 (0 : Int32) ((gI u 0) - (1 : Int32))).bind fun w_1 => (if w_1 = 0 then ((FX4_checkPlace n v2 u).bind fun w_2 => (if w_2.1 = 0 then ((FX4_checkPoint n v3 w_2.2).bind fun w_3 => (if w_3.1 = 0 then ((FX2_lightOf n v1 v2 v3 w_3.2).bind fun w_4 => some (0, w_4.1, w_4.2)) else some (w_3.1, (0 : Int32), w_3.2))) else some (w_2.1, (0 : Int32), w_2.2))) else some (w_1, (0 : Int32), u))) := rfl
theorem vX4_light_0 (v1 : Int32) (v2 : Int32) (v3 : Int32) (u : St) (r : Nat × Int32 × St) : Ev (fun n => fX4_light n 0 v1 v2 v3 u) r ↔ Ev (fun n => ((FX4_checkBounds n v1 (0 : Int32) ((gI u 0) - (1 : Int32))).bind fun w_1 => (if w_1 = 0 then ((FX4_checkPlace n v2 u).bind fun w_2 => (if w_2.1 = 0 then ((FX4_checkPoint n v3 w_2.2).bind fun w_3 => (if w_3.1 = 0 then ((FX2_lightOf n v1 v2 v3 w_3.2).bind fun w_4 => some (0, w_4.1, w_4.2)) else some (w_3.1, (0 : Int32), w_3.2))) else some (w_2.1, (0 : Int32), w_2.2))) else some (w_1, (0 : Int32), u)))) r := Ev_succ (fun n => fX4_light n 0 v1 v2 v3 u) r
def FX4_light (n : Nat) (v1 : Int32) (v2 : Int32) (v3 : Int32) (u : St) : Option (Nat × Int32 × St) := fX4_light n 0 v1 v2 v3 u
set_option maxHeartbeats 4000000 in
set_option maxRecDepth 100000 in
theorem mX4_light (l : Launch) (lt : l.stackTraces = false) (dC : Nat → ClassId) (dI : Nat → Nat → Nat) (cI cL : ClassId) (ad sa : Nat → Nat) (sz : Nat) (u : St) (z1 : Int32) (z2 : Int32) (z3 : Int32) (n : Nat) (r : Nat × Int32 × St) (hf0 : FX4_light n z1 z2 z3 u = some r) : vx_Met l yX4_light wsX4_light ({ frames := 9, cells := 3, slots := 18, locals := 133 }) (va_Pc [.ref (ad 0), .int z1, .int z2, .int z3] (xPre dC dI cI cL sa (cw ad cI cL u) sz)) (va_Qi (fun a t => (0, a, t) = r) (fun t => wPost dC dI cI cL (va_A (cw ad cI cL u) sz) (cw ad cI cL t)) (va_A (cw ad cI cL u) sz)) (vx_X (fun _ : St => True) (fun E t U => ((xcode E, (0 : Int32), t) = r ∧ 0 < xcode E) ∧ wPost dC dI cI cL (va_A (cw ad cI cL u) sz) (cw ad cI cL t) U) (va_A (cw ad cI cL u) sz)) 3 18 (va_A (cw ad cI cL u) sz) := by
  refine vx_ofW (cc := cX4_light) (maxL := 4) (ret := (some .int)) (by decide) rfl ?_
  intro p e s m args below meth c s₁ B hml ht0 hv
  obtain ⟨rfl, ⟨hsz, hP, hK, hD0, hZ⟩, hX, hq⟩ := hv
  have hx := B.exec
  have hb := B.bytes
  have hr := B.returns
  have hts := atoms_spec (ws := wsX4_light) B.pre
  have hown : s.vm.findClass RX4 = some m.cls := findClass_of_methodNamed B.named
  have hlocks := B.notSynchronized
  subst hsz
  have hD := hD0.self (sz := s.heap.size)
  generalize hAe : va_A (cw ad cI cL u) s.heap.size = A at hD hq ⊢
  have hA : ∀ q : Nat, s.heap.size ≤ q → A q := fun q h => by rw [← hAe]; exact Or.inr h
  have hS : va_S A s.heap s.heap [] := va_S.rf
  have iX2 : ∀ w ∈ u_ws RX2 TX2 14, w ∈ wsX4_light := fun _ h => List.mem_cons_of_mem _ (List.mem_append_left _ (List.mem_append_right _ h))
  have iX4 : ∀ w ∈ u_ws RX4 TX4 4, w ∈ wsX4_light := fun _ h => List.mem_cons_of_mem _ (List.mem_append_left _ (List.mem_append_left _ (List.mem_append_right _ h)))
  have k_0 := hts (.fieldLink RX4 15 "LampChoice" "room" "LLampChoice$Room;") (by decide +kernel)
  have k_1 := hts (.fieldLink RX4 46 "LampChoice$Room" "kinds" "I") (by decide +kernel)
  have hl := lv_entry ([.ref (ad 0), .int z1, .int z2, .int z3]) (n := 4) (Nat.le_of_ble_eq_true rfl)
  rw [lg_entry_eq]
  generalize (lg_sl ([.ref (ad 0), .int z1, .int z2, .int z3]) ++ List.replicate (4 - (lg_sl ([.ref (ad 0), .int z1, .int z2, .int z3])).length) Slot.unset).toArray = ls at hl ⊢
  have hl : lv_has ls 4 [(0, .ref (ad 0)), (1, .int z1), (2, .int z2), (3, .int z3)] := hl
  have key : ∀ n : Nat, (∀ (v1 : Int32) (v2 : Int32) (v3 : Int32) (u : St) (H : Heap) (locs : List Loc) (ls : Array Slot), fX4_light n 0 v1 v2 v3 u = some r → va_P (dC, dI) vwCl (cw ad cI cL u) H → va_D A (cw ad cI cL u) → va_S A s.heap H locs → lv_has ls 4 [(0, .ref (ad 0)), (1, .int v1), (2, .int v2), (3, .int v3)] → W p l e (headSpec wsX4_light ({ frames := 9, cells := 3, slots := 18, locals := 133 })).room s m ([.ref (ad 0), .int z1, .int z2, .int z3] : List Value).toArray below meth c H locs 0 0 (vx_MQ below (va_Qi (fun a t => (0, a, t) = r) (fun t => wPost dC dI cI cL A (cw ad cI cL t)) A) (vx_X (fun _ : St => True) (fun E t U => ((xcode E, (0 : Int32), t) = r ∧ 0 < xcode E) ∧ wPost dC dI cI cL A (cw ad cI cL t) U) A) ([.ref (ad 0), .int z1, .int z2, .int z3] : List Value).toArray s 3 18 A) (F0 m 0 ls [])) := by
    intro n
    induction n with
    | zero => exact (fun _ _ _ _ _ _ _ hf => nomatch (show (none : Option (Nat × Int32 × St)) = some r from hf))
    | succ n ih =>
      have ih0 := ih
      · intro v1 v2 v3 u H locs ls hf hP hD hS hl
        have hf := (eX4_light_0 n v1 v2 v3 u).symm.trans hf
        refine lv_iload_n hx hb dX4_light_0 rfl (lv_at hl 1 rfl) ?_
        refine lv_iconst (v := 0) hx hb dX4_light_1 (by decide) ?_
        refine lv_aload_n hx hb dX4_light_2 rfl (lv_at hl 0 rfl) ?_
        refine va_get (D := (dC, dI)) (ci := 4) (v := .ref (ad 1)) (C := RX4) (T := TX4) (N := 4) hx hb hts iX4 hown hK hP 0 rfl rfl 0 (by decide) k_0 (fun _ h9 => h9) rfl dX4_light_3 ?_
        refine va_get (D := (dC, dI)) (ci := 2) (v := .int (gI u 0)) (C := RX2) (T := TX2) (N := 14) hx hb hts iX2 hown hK hP 1 rfl rfl 10 (by decide) k_1 (fun _ h9 => h9) rfl dX4_light_6 ?_
        refine lv_iconst (v := 1) hx hb dX4_light_9 (by decide) ?_
        refine lv_isub hx hb dX4_light_10 ?_
        obtain ⟨w_1, hw_1, hf⟩ := ob hf
        have hFc := freeNil hS hA
        refine vx_callv (vx_runS (As := [.int v1, .int (0 : Int32), .int ((gI u 0) - (1 : Int32))]) (rest := []) ⟨hx, hb, hml, hown, hts⟩ (mX4_checkBounds l lt sa H.size v1 (0 : Int32) ((gI u 0) - (1 : Int32)) n w_1 hw_1) (va_cwS 3 hts gX4_light_X4_checkBounds rfl rfl rfl (by decide +kernel) ⟨Nat.le_of_ble_eq_true rfl, Nat.le_of_ble_eq_true rfl⟩) ⟨nxPre_blind, nxPre_of hX hq hS hFc⟩ rfl rfl hl.1 rfl (lv_room (Nat.le_of_ble_eq_true rfl)) dX4_light_11 ⟨by decide, by decide⟩) hS (fun q _ h => hFc q h) hFc (fun q _ h => hFc q h) (fun E ce q9 u2 t H1 locs ht hvm hpx hB hz1 hk1 hS hce hcv hcl => ?_) (fun u2 t H1 locs ht hvm hw hB hz1 hk1 hS => ?_)
        · obtain ⟨hB1, hB2⟩ := hB
          have hf := (if_neg (show ¬ w_1 = 0 from fun h0 => by rw [← hB1] at h0; omega)).symm.trans hf
          have hf := Option.some.inj hf
          have hP := keepP hP hk1
          refine vx_widen (k := 3) (n := 18) (by decide) (by decide) ?_
          exact vx_out (E := E) (fun x hx => (ht0 x hx).elim) hlocks hce hcv hcl (fun t ht ha => ⟨u, trivial, ⟨⟨by rw [hB1]; exact hf, hB2⟩, ⟨by rw [ht]; exact hP, va_K.moved ha hK, hD⟩⟩, hS.F ht⟩) hS.2.2 (Nat.le_refl _) (Nat.le_refl _)
        have hf := (if_pos (show w_1 = 0 from hw.symm)).symm.trans hf
        have hP := keepP hP hk1
        clear hFc hk1 hB
        generalize H1 = H at hP hS ⊢
        refine W.widen (k := 1) (n := 6) (by decide) (by decide) ?_
        refine lv_aload_n hx hb dX4_light_14 rfl (lv_at hl 0 rfl) ?_
        refine lv_iload_n hx hb dX4_light_15 rfl (lv_at hl 2 rfl) ?_
        obtain ⟨w_2, hw_2, hf⟩ := ob hf
        have hFc := freeAll hD hS hA
        refine vx_callv (vx_runV (As := [.int v2]) (rest := []) ⟨hx, hb, hml, hown, hts⟩ (mX4_checkPlace l lt dC dI cI cL ad sa H.size u v2 n w_2 hw_2) (cwV 1 hts gX4_light_X4_checkPlace rfl rfl rfl (by decide +kernel) ⟨Nat.le_of_ble_eq_true rfl, Nat.le_of_ble_eq_true rfl⟩) ⟨xPre_blind, va_recv hK hP (ci := 4) (q0 := 0) rfl rfl, xPre_of hP hK hD hZ hX hq hS hFc⟩ rfl rfl hl.1 rfl (lv_room (Nat.le_of_ble_eq_true rfl)) dX4_light_16 ⟨by decide, by decide⟩) hS (fun q _ h => hFc q h) hFc (fun q _ h => hFc q h) (fun E ce q9 u2 t H1 locs ht hvm hpx hB hz1 hk1 hS hce hcv hcl => ?_) (fun u2 t H1 locs ht hvm hw hB hz1 hk1 hS => ?_)
        · obtain ⟨⟨hB1, hB2⟩, hP1, hK1, hD1⟩ := hB
          rw [ht] at hP1
          have e1 : xcode E = w_2.1 := congrArg Prod.fst hB1
          have e2 : u2 = w_2.2 := congrArg (fun z => z.2) hB1
          have hf := (if_neg (show ¬ w_2.1 = 0 from fun h0 => by rw [← e1] at h0; omega)).symm.trans hf
          have hf := Option.some.inj hf
          have hD := hD1.weaken (fun _ _ _ h => hFc _ h)
          subst u2
          have hP : va_P (dC, dI) vwCl (cw ad cI cL w_2.2) H1 := hP1
          refine vx_widen (k := 3) (n := 18) (by decide) (by decide) ?_
          exact vx_out (E := E) (fun x hx => (ht0 x hx).elim) hlocks hce hcv hcl (fun t ht ha => ⟨w_2.2, trivial, ⟨⟨by rw [e1]; exact hf, hB2⟩, ⟨by rw [ht]; exact hP, va_K.moved ha hK, hD⟩⟩, hS.F ht⟩) hS.2.2 (Nat.le_refl _) (Nat.le_refl _)
        have hf := (if_pos (show w_2.1 = 0 from (congrArg Prod.fst hw).symm)).symm.trans hf
        obtain ⟨hP1, hK1, hD1⟩ := hB
        rw [ht] at hP1
        have e2 : u2 = w_2.2 := congrArg Prod.snd hw
        subst u2
        have hP : va_P (dC, dI) vwCl (cw ad cI cL w_2.2) H1 := hP1
        have hD : va_D A (cw ad cI cL w_2.2) := hD1.weaken (fun _ _ _ h => hFc _ h)
        clear hP1 hD1 hK1 hFc hk1
        generalize H1 = H at hP hS ⊢
        refine W.widen (k := 2) (n := 12) (by decide) (by decide) ?_
        refine lv_aload_n hx hb dX4_light_19 rfl (lv_at hl 0 rfl) ?_
        refine lv_iload_n hx hb dX4_light_20 rfl (lv_at hl 3 rfl) ?_
        obtain ⟨w_3, hw_3, hf⟩ := ob hf
        have hFc := freeAll hD hS hA
        refine vx_callv (vx_runV (As := [.int v3]) (rest := []) ⟨hx, hb, hml, hown, hts⟩ (mX4_checkPoint l lt dC dI cI cL ad sa H.size w_2.2 v3 n w_3 hw_3) (cwV 1 hts gX4_light_X4_checkPoint rfl rfl rfl (by decide +kernel) ⟨Nat.le_of_ble_eq_true rfl, Nat.le_of_ble_eq_true rfl⟩) ⟨xPre_blind, va_recv hK hP (ci := 4) (q0 := 0) rfl rfl, xPre_of hP hK hD hZ hX hq hS hFc⟩ rfl rfl hl.1 rfl (lv_room (Nat.le_of_ble_eq_true rfl)) dX4_light_21 ⟨by decide, by decide⟩) hS (fun q _ h => hFc q h) hFc (fun q _ h => hFc q h) (fun E ce q9 u2 t H1 locs ht hvm hpx hB hz1 hk1 hS hce hcv hcl => ?_) (fun u2 t H1 locs ht hvm hw hB hz1 hk1 hS => ?_)
        · obtain ⟨⟨hB1, hB2⟩, hP1, hK1, hD1⟩ := hB
          rw [ht] at hP1
          have e1 : xcode E = w_3.1 := congrArg Prod.fst hB1
          have e2 : u2 = w_3.2 := congrArg (fun z => z.2) hB1
          have hf := (if_neg (show ¬ w_3.1 = 0 from fun h0 => by rw [← e1] at h0; omega)).symm.trans hf
          have hf := Option.some.inj hf
          have hD := hD1.weaken (fun _ _ _ h => hFc _ h)
          subst u2
          have hP : va_P (dC, dI) vwCl (cw ad cI cL w_3.2) H1 := hP1
          refine vx_widen (k := 3) (n := 18) (by decide) (by decide) ?_
          exact vx_out (E := E) (fun x hx => (ht0 x hx).elim) hlocks hce hcv hcl (fun t ht ha => ⟨w_3.2, trivial, ⟨⟨by rw [e1]; exact hf, hB2⟩, ⟨by rw [ht]; exact hP, va_K.moved ha hK, hD⟩⟩, hS.F ht⟩) hS.2.2 (Nat.le_refl _) (Nat.le_refl _)
        have hf := (if_pos (show w_3.1 = 0 from (congrArg Prod.fst hw).symm)).symm.trans hf
        obtain ⟨hP1, hK1, hD1⟩ := hB
        rw [ht] at hP1
        have e2 : u2 = w_3.2 := congrArg Prod.snd hw
        subst u2
        have hP : va_P (dC, dI) vwCl (cw ad cI cL w_3.2) H1 := hP1
        have hD : va_D A (cw ad cI cL w_3.2) := hD1.weaken (fun _ _ _ h => hFc _ h)
        clear hP1 hD1 hK1 hFc hk1
        generalize H1 = H at hP hS ⊢
        refine W.widen (k := 3) (n := 18) (by decide) (by decide) ?_
        refine lv_aload_n hx hb dX4_light_24 rfl (lv_at hl 0 rfl) ?_
        refine va_get (D := (dC, dI)) (ci := 4) (v := .ref (ad 1)) (C := RX4) (T := TX4) (N := 4) hx hb hts iX4 hown hK hP 0 rfl rfl 0 (by decide) k_0 (fun _ h9 => h9) rfl dX4_light_25 ?_
        refine lv_iload_n hx hb dX4_light_28 rfl (lv_at hl 1 rfl) ?_
        refine lv_iload_n hx hb dX4_light_29 rfl (lv_at hl 2 rfl) ?_
        refine lv_iload_n hx hb dX4_light_30 rfl (lv_at hl 3 rfl) ?_
        obtain ⟨w_4, hw_4, hf⟩ := ob hf
        have hFc := freeAll hD hS hA
        refine va_calli (va_runV (As := [.int v1, .int v2, .int v3]) (rest := []) ⟨hx, hb, hml, hown, hts⟩ (mX2_lightOf l dC dI cI cL ad H.size w_3.2 v1 v2 v3 n w_4 hw_4) (cwV 3 hts gX4_light_X2_lightOf rfl rfl rfl (by decide +kernel) ⟨Nat.le_of_ble_eq_true rfl, Nat.le_of_ble_eq_true rfl⟩) ⟨wPre_blind, va_recv hK hP (ci := 2) (q0 := 1) rfl rfl, wPre_of hP hK hD hZ⟩ rfl rfl hl.1 rfl (lv_room (Nat.le_of_ble_eq_true rfl)) dX4_light_31 ⟨by decide, by decide⟩) hS (fun q _ h => hFc q h) hFc (fun r2 u2 t H1 locs ht hvm hw hB hz1 hk1 hS => ?_)
        obtain ⟨hP1, hK1, hD1⟩ := hB
        rw [ht] at hP1
        have e1 : r2 = w_4.1 := congrArg Prod.fst hw
        have e2 : u2 = w_4.2 := congrArg Prod.snd hw
        subst r2 u2
        have hP : va_P (dC, dI) vwCl (cw ad cI cL w_4.2) H1 := hP1
        have hD : va_D A (cw ad cI cL w_4.2) := hD1.weaken (fun _ _ _ h => hFc _ h)
        clear hP1 hD1 hK1 hFc hk1
        generalize H1 = H at hP hS ⊢
        have hf := Option.some.inj hf
        refine W.widen (k := 3) (n := 18) (by decide) (by decide) ?_
        refine vx_ret ?_
        exact W.iret (v := w_4.1) hx hb hr (fun t ht hW => ⟨⟨w_4.1, w_4.2, rfl, hf, ⟨by rw [ht]; exact hP, va_K.moved hW.alike hK, hD⟩⟩, hS.F ht⟩) hS.2.2 dX4_light_34
  exact (key n) z1 z2 z3 u _ _ ls hf0 hP hD hS (lv_sub hl [0, 1, 2, 3] rfl)

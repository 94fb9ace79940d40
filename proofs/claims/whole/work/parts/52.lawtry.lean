def cow (ad : Nat → Nat) (oa : Nat) (cI cL : ClassId) (u : St) (o : Nat → Int64) : va_W := cw ad cI cL u ++ [(oa, .inl (cL, 1, .inr (.inl o)))]
set_option maxHeartbeats 4000000 in
set_option maxRecDepth 100000 in
theorem mL_kind (l : Launch) (lt : l.stackTraces = false) (dC : Nat → ClassId) (dI : Nat → Nat → Nat) (cI cL : ClassId) (ad sa : Nat → Nat) (oa : Nat) (sz : Nat) (u : St) (o : Nat → Int64) (z1 : Int32) (z2 : Int32) (z3 : Int32) (z4 : Int32) (n : Nat) (r : Nat × Int32 × St) (hf0 : FX4_kind n z1 z2 z3 z4 u = some r) : Met l yL_kind wsL_kind ({ frames := 9, cells := 5, slots := 30, locals := 137 }) (va_Pc [.ref (ad 0), .int z1, .int z2, .int z3, .int z4, .ref oa] (xPre dC dI cI cL sa (cow ad oa cI cL u o) sz)) (va_Qi (fun a t => (a, t) = (nI r.1, r.2.2, if r.1 = 0 then vp_updL o (0 : Int32).toNatClampNeg r.2.1.toInt64 else o)) (fun t => wPost dC dI cI cL (va_A (cow ad oa cI cL u o) sz) (cow ad oa cI cL t.1 t.2)) (va_A (cow ad oa cI cL u o) sz)) 5 30 (va_A (cow ad oa cI cL u o) sz) := by
  refine va_MetW (cc := cL_kind) (maxL := 7) (ret := (some .int)) (hh := [(0, 14, 17, 13), (0, 14, 21, 15)]) (by decide) rfl ?_
  intro p e s m args below meth c s₁ B hml hv
  obtain ⟨rfl, ⟨hsz, hP, hK, hD0, hZ⟩, hX, hq⟩ := hv
  have hx := B.exec
  have hb := B.bytes
  have hr := B.returns
  have hts := atoms_spec (ws := wsL_kind) B.pre
  have hown : s.vm.findClass RL = some m.cls := findClass_of_methodNamed B.named
  have hlocks := B.notSynchronized
  have htab : c.exceptionTable.toList = tableOf [(0, 14, 17, 13), (0, 14, 21, 15)] := vx_table (x := yL_kind) B (hts _ List.mem_cons_self)
  subst hsz
  have hD := hD0.self (sz := s.heap.size)
  generalize hAe : va_A (cow ad oa cI cL u o) s.heap.size = A at hD hq ⊢
  have hA : ∀ q : Nat, s.heap.size ≤ q → A q := fun q h => by rw [← hAe]; exact Or.inr h
  have hS : va_S A s.heap s.heap [] := va_S.rf
  have k_1 := hts (.classLink RL 13 "java/lang/IllegalArgumentException") (by decide +kernel)
  have k_2 := hts (.classLink RL 15 "java/lang/IllegalStateException") (by decide +kernel)
  have hl := lv_entry ([.ref (ad 0), .int z1, .int z2, .int z3, .int z4, .ref oa]) (n := 7) (Nat.le_of_ble_eq_true rfl)
  rw [lg_entry_eq]
  generalize (lg_sl ([.ref (ad 0), .int z1, .int z2, .int z3, .int z4, .ref oa]) ++ List.replicate (7 - (lg_sl ([.ref (ad 0), .int z1, .int z2, .int z3, .int z4, .ref oa])).length) Slot.unset).toArray = ls at hl ⊢
  have hl : lv_has ls 7 [(0, .ref (ad 0)), (1, .int z1), (2, .int z2), (3, .int z3), (4, .int z4), (5, .ref oa)] := hl
  refine lv_aload hx hb dL_kind_0 (lv_at hl 5 rfl) ?_
  refine lv_iconst (v := 0) hx hb dL_kind_2 (by decide) ?_
  refine lv_aload_n hx hb dL_kind_3 rfl (lv_at hl 0 rfl) ?_
  refine lv_iload_n hx hb dL_kind_4 rfl (lv_at hl 1 rfl) ?_
  refine lv_iload_n hx hb dL_kind_5 rfl (lv_at hl 2 rfl) ?_
  refine lv_iload_n hx hb dL_kind_6 rfl (lv_at hl 3 rfl) ?_
  refine lv_iload hx hb dL_kind_7 (lv_at hl 4 rfl) ?_
  have hPc := hP.sub (ws' := cw ad cI cL u) [0, 1, 2, 3, 4, 5, 6, 7, 8, 9, 10, 11, 12, 13, 14, 15, 16, 17, 18, 19, 20, 21, 22, 23, 24, 25, 26, 27] rfl
  have hDc := hD.sub (ws' := cw ad cI cL u) [0, 1, 2, 3, 4, 5, 6, 7, 8, 9, 10, 11, 12, 13, 14, 15, 16, 17, 18, 19, 20, 21, 22, 23, 24, 25, 26, 27] (by decide) rfl
  have hFc := va_free (wc := cw ad cI cL u) hD hS hA [0, 1, 2, 3, 4, 5, 6, 7, 8, 9, 10, 11, 12, 13, 14, 15, 16, 17, 18, 19, 20, 21, 22, 23, 24, 25, 26, 27] rfl
  refine vx_calli (vx_runV (As := [.int z1, .int z2, .int z3, .int z4]) (rest := [.int (0 : Int32), .ref oa]) ⟨hx, hb, hml, hown, hts⟩ (mX4_kind l lt dC dI cI cL ad sa s.heap.size u z1 z2 z3 z4 n r hf0) (cwV 4 hts gL_kind_X4_kind rfl rfl rfl (by decide +kernel) ⟨Nat.le_of_ble_eq_true rfl, Nat.le_of_ble_eq_true rfl⟩) ⟨xPre_blind, va_recv hK hPc (ci := 4) (q0 := 0) rfl rfl, xPre_of hPc hK hDc hZ hX hq hS hFc⟩ rfl rfl hl.1 rfl (lv_room (Nat.le_of_ble_eq_true rfl)) dL_kind_9 ⟨by decide, by decide⟩) hS (fun q _ h => hFc q h) hFc (fun q _ h => hFc q h) (fun E ce q9 u2 t H1 locs ht hvm hpx hB hz1 hk1 hS hce hcv hcl => ?_) (fun r2 u2 t H1 locs ht hvm hw hB hz1 hk1 hS => ?_)
  · obtain ⟨⟨hB1, hB2⟩, hP1, hK1, hD1⟩ := hB
    rw [ht] at hP1
    have e1 : xcode E = r.1 := congrArg Prod.fst hB1
    have e2 : u2 = r.2.2 := congrArg (fun z => z.2.2) hB1
    subst u2
    obtain ⟨hP, hD⟩ := va_join (wr := [(oa, .inl (cL, 1, .inr (.inl o)))]) (w1 := cw ad cI cL r.2.2) hP hD [0, 1, 2, 3, 4, 5, 6, 7, 8, 9, 10, 11, 12, 13, 14, 15, 16, 17, 18, 19, 20, 21, 22, 23, 24, 25, 26, 27] [28] rfl rfl (by decide) (by decide) hk1 hFc hP1 hD1
    have hP := hP.sub (ws' := cow ad oa cI cL r.2.2 o) [1, 2, 3, 4, 5, 6, 7, 8, 9, 10, 11, 12, 13, 14, 15, 16, 17, 18, 19, 20, 21, 22, 23, 24, 25, 26, 27, 28, 0] rfl
    have hD := hD.sub (ws' := cow ad oa cI cL r.2.2 o) [1, 2, 3, 4, 5, 6, 7, 8, 9, 10, 11, 12, 13, 14, 15, 16, 17, 18, 19, 20, 21, 22, 23, 24, 25, 26, 27, 28, 0] (by decide) rfl
    by_cases hE : E = "java/lang/IllegalArgumentException"
    · subst hE
      refine vx_catch (own := RL) (name := "java/lang/IllegalArgumentException") hown [] ⟨0, 14, 17, 13⟩ [⟨0, 14, 21, 15⟩] htab (fun z hz => nomatch hz) (by decide) (by decide) k_1 (va_Nw.use rfl hX.1) hce hcv hcl ?_
      refine lv_astore (lv' := [(6, .ref q9), (0, .ref (ad 0)), (1, .int z1), (2, .int z2), (3, .int z3), (4, .int z4), (5, .ref oa)]) hx hb dL_kind_17 hl (by decide) rfl (fun ls hl => ?_)
      refine lv_iconst (v := 1) hx hb dL_kind_19 (by decide) ?_
      have e9 : r.1 = 1 := e1.symm
      refine W.widen (k := 5) (n := 30) (by decide) (by decide) ?_
      exact W.iret (v := 1) hx hb hr (fun t ht hW => ⟨⟨1, (r.2.2, o), rfl, by rw [if_neg (by omega), e9]; rfl, ⟨by rw [ht]; exact hP, va_K.moved hW.alike hK, hD⟩⟩, hS.F ht⟩) hS.2.2 dL_kind_20
    · by_cases hE2 : E = "java/lang/IllegalStateException"
      · subst hE2
        refine vx_catch (own := RL) (name := "java/lang/IllegalStateException") hown [⟨0, 14, 17, 13⟩] ⟨0, 14, 21, 15⟩ [] htab (fun z hz => by rw [List.mem_singleton.mp hz]; exact Or.inr ⟨by decide, "java/lang/IllegalArgumentException", k_1, hX.2.2.2.2.2.2.2.2⟩) (by decide) (by decide) k_2 (va_Nw.use rfl hX.2.1) hce hcv hcl ?_
        refine lv_astore (lv' := [(6, .ref q9), (0, .ref (ad 0)), (1, .int z1), (2, .int z2), (3, .int z3), (4, .int z4), (5, .ref oa)]) hx hb dL_kind_21 hl (by decide) rfl (fun ls hl => ?_)
        refine lv_iconst (v := 2) hx hb dL_kind_23 (by decide) ?_
        have e9 : r.1 = 2 := e1.symm
        refine W.widen (k := 5) (n := 30) (by decide) (by decide) ?_
        exact W.iret (v := 2) hx hb hr (fun t ht hW => ⟨⟨2, (r.2.2, o), rfl, by rw [if_neg (by omega), e9]; rfl, ⟨by rw [ht]; exact hP, va_K.moved hW.alike hK, hD⟩⟩, hS.F ht⟩) hS.2.2 dL_kind_24
      · exact absurd hB2 (by unfold xcode; rw [if_neg hE, if_neg hE2]; decide)
  obtain ⟨hP1, hK1, hD1⟩ := hB
  rw [ht] at hP1
  have e0 : r.1 = 0 := (congrArg Prod.fst hw).symm
  have e1 : r2 = r.2.1 := congrArg (fun z => z.2.1) hw
  have e2 : u2 = r.2.2 := congrArg (fun z => z.2.2) hw
  subst r2 u2
  obtain ⟨hP, hD⟩ := va_join (wr := [(oa, .inl (cL, 1, .inr (.inl o)))]) (w1 := cw ad cI cL r.2.2) hP hD [0, 1, 2, 3, 4, 5, 6, 7, 8, 9, 10, 11, 12, 13, 14, 15, 16, 17, 18, 19, 20, 21, 22, 23, 24, 25, 26, 27] [28] rfl rfl (by decide) (by decide) hk1 hFc hP1 hD1
  have hP := hP.sub (ws' := cow ad oa cI cL r.2.2 o) [1, 2, 3, 4, 5, 6, 7, 8, 9, 10, 11, 12, 13, 14, 15, 16, 17, 18, 19, 20, 21, 22, 23, 24, 25, 26, 27, 28, 0] rfl
  have hD := hD.sub (ws' := cow ad oa cI cL r.2.2 o) [1, 2, 3, 4, 5, 6, 7, 8, 9, 10, 11, 12, 13, 14, 15, 16, 17, 18, 19, 20, 21, 22, 23, 24, 25, 26, 27, 28, 0] (by decide) rfl
  clear hP1 hD1 hK1 hFc hk1 hPc hDc
  generalize H1 = H at hP hS ⊢
  refine lv_i2l (v := r.2.1.toInt64) hx hb dL_kind_12 rfl ?_
  refine va_last (f := o) hx hb hK hP hD hS 28 1 rfl rfl (vp_in_iff.mpr (by decide)) dL_kind_13 (fun H locs hP hD hS => ?_)
  have hP : va_P (dC, dI) vwCl (cow ad oa cI cL r.2.2 (vp_updL o (0 : Int32).toNatClampNeg r.2.1.toInt64)) H := hP
  have hD : va_D A (cow ad oa cI cL r.2.2 (vp_updL o (0 : Int32).toNatClampNeg r.2.1.toInt64)) := hD
  refine lv_goto (tgt := 25) hx hb dL_kind_14 (by decide) ?_
  refine lv_iconst (v := 0) hx hb dL_kind_25 (by decide) ?_
  refine W.widen (k := 5) (n := 30) (by decide) (by decide) ?_
  exact W.iret (v := 0) hx hb hr (fun t ht hW => ⟨⟨0, (r.2.2, vp_updL o (0 : Int32).toNatClampNeg r.2.1.toInt64), rfl, by rw [if_pos e0, e0]; rfl, ⟨by rw [ht]; exact hP, va_K.moved hW.alike hK, hD⟩⟩, hS.F ht⟩) hS.2.2 dL_kind_26

set_option maxHeartbeats 4000000 in
set_option maxRecDepth 100000 in
theorem mL_place (l : Launch) (lt : l.stackTraces = false) (dC : Nat → ClassId) (dI : Nat → Nat → Nat) (cI cL : ClassId) (ad sa : Nat → Nat) (oa : Nat) (sz : Nat) (u : St) (o : Nat → Int64) (z1 : Int32) (z2 : Int32) (n : Nat) (r : Nat × Int32 × St) (hf0 : FX4_place n z1 z2 u = some r) : Met l yL_place wsL_place ({ frames := 9, cells := 3, slots := 18, locals := 135 }) (va_Pc [.ref (ad 0), .int z1, .int z2, .ref oa] (xPre dC dI cI cL sa (cow ad oa cI cL u o) sz)) (va_Qi (fun a t => (a, t) = (nI r.1, r.2.2, if r.1 = 0 then vp_updL o (0 : Int32).toNatClampNeg r.2.1.toInt64 else o)) (fun t => wPost dC dI cI cL (va_A (cow ad oa cI cL u o) sz) (cow ad oa cI cL t.1 t.2)) (va_A (cow ad oa cI cL u o) sz)) 3 18 (va_A (cow ad oa cI cL u o) sz) := by
  refine va_MetW (cc := cL_place) (maxL := 5) (ret := (some .int)) (hh := [(0, 10, 13, 13), (0, 10, 17, 15)]) (by decide) rfl ?_
  intro p e s m args below meth c s₁ B hml hv
  obtain ⟨rfl, ⟨hsz, hP, hK, hD0, hZ⟩, hX, hq⟩ := hv
  have hx := B.exec
  have hb := B.bytes
  have hr := B.returns
  have hts := atoms_spec (ws := wsL_place) B.pre
  have hown : s.vm.findClass RL = some m.cls := findClass_of_methodNamed B.named
  have hlocks := B.notSynchronized
  have htab : c.exceptionTable.toList = tableOf [(0, 10, 13, 13), (0, 10, 17, 15)] := vx_table (x := yL_place) B (hts _ List.mem_cons_self)
  subst hsz
  have hD := hD0.self (sz := s.heap.size)
  generalize hAe : va_A (cow ad oa cI cL u o) s.heap.size = A at hD hq ⊢
  have hA : ∀ q : Nat, s.heap.size ≤ q → A q := fun q h => by rw [← hAe]; exact Or.inr h
  have hS : va_S A s.heap s.heap [] := va_S.rf
  have k_1 := hts (.classLink RL 13 "java/lang/IllegalArgumentException") (by decide +kernel)
  have k_2 := hts (.classLink RL 15 "java/lang/IllegalStateException") (by decide +kernel)
  have hl := lv_entry ([.ref (ad 0), .int z1, .int z2, .ref oa]) (n := 5) (Nat.le_of_ble_eq_true rfl)
  rw [lg_entry_eq]
  generalize (lg_sl ([.ref (ad 0), .int z1, .int z2, .ref oa]) ++ List.replicate (5 - (lg_sl ([.ref (ad 0), .int z1, .int z2, .ref oa])).length) Slot.unset).toArray = ls at hl ⊢
  have hl : lv_has ls 5 [(0, .ref (ad 0)), (1, .int z1), (2, .int z2), (3, .ref oa)] := hl
  refine lv_aload_n hx hb dL_place_0 rfl (lv_at hl 3 rfl) ?_
  refine lv_iconst (v := 0) hx hb dL_place_1 (by decide) ?_
  refine lv_aload_n hx hb dL_place_2 rfl (lv_at hl 0 rfl) ?_
  refine lv_iload_n hx hb dL_place_3 rfl (lv_at hl 1 rfl) ?_
  refine lv_iload_n hx hb dL_place_4 rfl (lv_at hl 2 rfl) ?_
  have hPc := hP.sub (ws' := cw ad cI cL u) [0, 1, 2, 3, 4, 5, 6, 7, 8, 9, 10, 11, 12, 13, 14, 15, 16, 17, 18, 19, 20, 21, 22, 23, 24, 25, 26, 27] rfl
  have hDc := hD.sub (ws' := cw ad cI cL u) [0, 1, 2, 3, 4, 5, 6, 7, 8, 9, 10, 11, 12, 13, 14, 15, 16, 17, 18, 19, 20, 21, 22, 23, 24, 25, 26, 27] (by decide) rfl
  have hFc := va_free (wc := cw ad cI cL u) hD hS hA [0, 1, 2, 3, 4, 5, 6, 7, 8, 9, 10, 11, 12, 13, 14, 15, 16, 17, 18, 19, 20, 21, 22, 23, 24, 25, 26, 27] rfl
  refine vx_calli (vx_runV (As := [.int z1, .int z2]) (rest := [.int (0 : Int32), .ref oa]) ⟨hx, hb, hml, hown, hts⟩ (mX4_place l lt dC dI cI cL ad sa s.heap.size u z1 z2 n r hf0) (cwV 2 hts gL_place_X4_place rfl rfl rfl (by decide +kernel) ⟨Nat.le_of_ble_eq_true rfl, Nat.le_of_ble_eq_true rfl⟩) ⟨xPre_blind, va_recv hK hPc (ci := 4) (q0 := 0) rfl rfl, xPre_of hPc hK hDc hZ hX hq hS hFc⟩ rfl rfl hl.1 rfl (lv_room (Nat.le_of_ble_eq_true rfl)) dL_place_5 ⟨by decide, by decide⟩) hS (fun q _ h => hFc q h) hFc (fun q _ h => hFc q h) (fun E ce q9 u2 t H1 locs ht hvm hpx hB hz1 hk1 hS hce hcv hcl => ?_) (fun r2 u2 t H1 locs ht hvm hw hB hz1 hk1 hS => ?_)
  · obtain ⟨⟨hB1, hB2⟩, hP1, hK1, hD1⟩ := hB
    rw [ht] at hP1
    have e1 : xcode E = r.1 := congrArg Prod.fst hB1
    have e2 : u2 = r.2.2 := congrArg (fun z => z.2.2) hB1
    subst u2
    obtain ⟨hP, hD⟩ := va_join (wr := [(oa, .inl (cL, 1, .inr (.inl o)))]) (w1 := cw ad cI cL r.2.2) hP hD [0, 1, 2, 3, 4, 5, 6, 7, 8, 9, 10, 11, 12, 13, 14, 15, 16, 17, 18, 19, 20, 21, 22, 23, 24, 25, 26, 27] [28] rfl rfl (by decide) (by decide) hk1 hFc hP1 hD1
    have hP := hP.sub (ws' := cow ad oa cI cL r.2.2 o) [1, 2, 3, 4, 5, 6, 7, 8, 9, 10, 11, 12, 13, 14, 15, 16, 17, 18, 19, 20, 21, 22, 23, 24, 25, 26, 27, 28, 0] rfl
    have hD := hD.sub (ws' := cow ad oa cI cL r.2.2 o) [1, 2, 3, 4, 5, 6, 7, 8, 9, 10, 11, 12, 13, 14, 15, 16, 17, 18, 19, 20, 21, 22, 23, 24, 25, 26, 27, 28, 0] (by decide) rfl
    by_cases hE : E = "java/lang/IllegalArgumentException"
    · subst hE
      refine vx_catch (own := RL) (name := "java/lang/IllegalArgumentException") hown [] ⟨0, 10, 13, 13⟩ [⟨0, 10, 17, 15⟩] htab (fun z hz => nomatch hz) (by decide) (by decide) k_1 (va_Nw.use rfl hX.1) hce hcv hcl ?_
      refine lv_astore (lv' := [(4, .ref q9), (0, .ref (ad 0)), (1, .int z1), (2, .int z2), (3, .ref oa)]) hx hb dL_place_13 hl (by decide) rfl (fun ls hl => ?_)
      refine lv_iconst (v := 1) hx hb dL_place_15 (by decide) ?_
      have e9 : r.1 = 1 := e1.symm
      refine W.widen (k := 3) (n := 18) (by decide) (by decide) ?_
      exact W.iret (v := 1) hx hb hr (fun t ht hW => ⟨⟨1, (r.2.2, o), rfl, by rw [if_neg (by omega), e9]; rfl, ⟨by rw [ht]; exact hP, va_K.moved hW.alike hK, hD⟩⟩, hS.F ht⟩) hS.2.2 dL_place_16
    · by_cases hE2 : E = "java/lang/IllegalStateException"
      · subst hE2
        refine vx_catch (own := RL) (name := "java/lang/IllegalStateException") hown [⟨0, 10, 13, 13⟩] ⟨0, 10, 17, 15⟩ [] htab (fun z hz => by rw [List.mem_singleton.mp hz]; exact Or.inr ⟨by decide, "java/lang/IllegalArgumentException", k_1, hX.2.2.2.2.2.2.2.2⟩) (by decide) (by decide) k_2 (va_Nw.use rfl hX.2.1) hce hcv hcl ?_
        refine lv_astore (lv' := [(4, .ref q9), (0, .ref (ad 0)), (1, .int z1), (2, .int z2), (3, .ref oa)]) hx hb dL_place_17 hl (by decide) rfl (fun ls hl => ?_)
        refine lv_iconst (v := 2) hx hb dL_place_19 (by decide) ?_
        have e9 : r.1 = 2 := e1.symm
        refine W.widen (k := 3) (n := 18) (by decide) (by decide) ?_
        exact W.iret (v := 2) hx hb hr (fun t ht hW => ⟨⟨2, (r.2.2, o), rfl, by rw [if_neg (by omega), e9]; rfl, ⟨by rw [ht]; exact hP, va_K.moved hW.alike hK, hD⟩⟩, hS.F ht⟩) hS.2.2 dL_place_20
      · exact absurd hB2 (by unfold xcode; rw [if_neg hE, if_neg hE2]; decide)
  obtain ⟨hP1, hK1, hD1⟩ := hB
  rw [ht] at hP1
  have e0 : r.1 = 0 := (congrArg Prod.fst hw).symm
  have e1 : r2 = r.2.1 := congrArg (fun z => z.2.1) hw
  have e2 : u2 = r.2.2 := congrArg (fun z => z.2.2) hw
  subst r2 u2
  obtain ⟨hP, hD⟩ := va_join (wr := [(oa, .inl (cL, 1, .inr (.inl o)))]) (w1 := cw ad cI cL r.2.2) hP hD [0, 1, 2, 3, 4, 5, 6, 7, 8, 9, 10, 11, 12, 13, 14, 15, 16, 17, 18, 19, 20, 21, 22, 23, 24, 25, 26, 27] [28] rfl rfl (by decide) (by decide) hk1 hFc hP1 hD1
  have hP := hP.sub (ws' := cow ad oa cI cL r.2.2 o) [1, 2, 3, 4, 5, 6, 7, 8, 9, 10, 11, 12, 13, 14, 15, 16, 17, 18, 19, 20, 21, 22, 23, 24, 25, 26, 27, 28, 0] rfl
  have hD := hD.sub (ws' := cow ad oa cI cL r.2.2 o) [1, 2, 3, 4, 5, 6, 7, 8, 9, 10, 11, 12, 13, 14, 15, 16, 17, 18, 19, 20, 21, 22, 23, 24, 25, 26, 27, 28, 0] (by decide) rfl
  clear hP1 hD1 hK1 hFc hk1 hPc hDc
  generalize H1 = H at hP hS ⊢
  refine lv_i2l (v := r.2.1.toInt64) hx hb dL_place_8 rfl ?_
  refine va_last (f := o) hx hb hK hP hD hS 28 1 rfl rfl (vp_in_iff.mpr (by decide)) dL_place_9 (fun H locs hP hD hS => ?_)
  have hP : va_P (dC, dI) vwCl (cow ad oa cI cL r.2.2 (vp_updL o (0 : Int32).toNatClampNeg r.2.1.toInt64)) H := hP
  have hD : va_D A (cow ad oa cI cL r.2.2 (vp_updL o (0 : Int32).toNatClampNeg r.2.1.toInt64)) := hD
  refine lv_goto (tgt := 21) hx hb dL_place_10 (by decide) ?_
  refine lv_iconst (v := 0) hx hb dL_place_21 (by decide) ?_
  refine W.widen (k := 3) (n := 18) (by decide) (by decide) ?_
  exact W.iret (v := 0) hx hb hr (fun t ht hW => ⟨⟨0, (r.2.2, vp_updL o (0 : Int32).toNatClampNeg r.2.1.toInt64), rfl, by rw [if_pos e0, e0]; rfl, ⟨by rw [ht]; exact hP, va_K.moved hW.alike hK, hD⟩⟩, hS.F ht⟩) hS.2.2 dL_place_22

set_option maxHeartbeats 4000000 in
set_option maxRecDepth 100000 in
theorem mL_point (l : Launch) (lt : l.stackTraces = false) (dC : Nat → ClassId) (dI : Nat → Nat → Nat) (cI cL : ClassId) (ad sa : Nat → Nat) (oa : Nat) (sz : Nat) (u : St) (o : Nat → Int64) (z1 : Int32) (z2 : Int32) (z3 : Int32) (n : Nat) (r : Nat × Int32 × St) (hf0 : FX4_point n z1 z2 z3 u = some r) : Met l yL_point wsL_point ({ frames := 9, cells := 4, slots := 24, locals := 136 }) (va_Pc [.ref (ad 0), .int z1, .int z2, .int z3, .ref oa] (xPre dC dI cI cL sa (cow ad oa cI cL u o) sz)) (va_Qi (fun a t => (a, t) = (nI r.1, r.2.2, if r.1 = 0 then vp_updL o (0 : Int32).toNatClampNeg r.2.1.toInt64 else o)) (fun t => wPost dC dI cI cL (va_A (cow ad oa cI cL u o) sz) (cow ad oa cI cL t.1 t.2)) (va_A (cow ad oa cI cL u o) sz)) 4 24 (va_A (cow ad oa cI cL u o) sz) := by
  refine va_MetW (cc := cL_point) (maxL := 6) (ret := (some .int)) (hh := [(0, 12, 15, 13), (0, 12, 19, 15)]) (by decide) rfl ?_
  intro p e s m args below meth c s₁ B hml hv
  obtain ⟨rfl, ⟨hsz, hP, hK, hD0, hZ⟩, hX, hq⟩ := hv
  have hx := B.exec
  have hb := B.bytes
  have hr := B.returns
  have hts := atoms_spec (ws := wsL_point) B.pre
  have hown : s.vm.findClass RL = some m.cls := findClass_of_methodNamed B.named
  have hlocks := B.notSynchronized
  have htab : c.exceptionTable.toList = tableOf [(0, 12, 15, 13), (0, 12, 19, 15)] := vx_table (x := yL_point) B (hts _ List.mem_cons_self)
  subst hsz
  have hD := hD0.self (sz := s.heap.size)
  generalize hAe : va_A (cow ad oa cI cL u o) s.heap.size = A at hD hq ⊢
  have hA : ∀ q : Nat, s.heap.size ≤ q → A q := fun q h => by rw [← hAe]; exact Or.inr h
  have hS : va_S A s.heap s.heap [] := va_S.rf
  have k_1 := hts (.classLink RL 13 "java/lang/IllegalArgumentException") (by decide +kernel)
  have k_2 := hts (.classLink RL 15 "java/lang/IllegalStateException") (by decide +kernel)
  have hl := lv_entry ([.ref (ad 0), .int z1, .int z2, .int z3, .ref oa]) (n := 6) (Nat.le_of_ble_eq_true rfl)
  rw [lg_entry_eq]
  generalize (lg_sl ([.ref (ad 0), .int z1, .int z2, .int z3, .ref oa]) ++ List.replicate (6 - (lg_sl ([.ref (ad 0), .int z1, .int z2, .int z3, .ref oa])).length) Slot.unset).toArray = ls at hl ⊢
  have hl : lv_has ls 6 [(0, .ref (ad 0)), (1, .int z1), (2, .int z2), (3, .int z3), (4, .ref oa)] := hl
  refine lv_aload hx hb dL_point_0 (lv_at hl 4 rfl) ?_
  refine lv_iconst (v := 0) hx hb dL_point_2 (by decide) ?_
  refine lv_aload_n hx hb dL_point_3 rfl (lv_at hl 0 rfl) ?_
  refine lv_iload_n hx hb dL_point_4 rfl (lv_at hl 1 rfl) ?_
  refine lv_iload_n hx hb dL_point_5 rfl (lv_at hl 2 rfl) ?_
  refine lv_iload_n hx hb dL_point_6 rfl (lv_at hl 3 rfl) ?_
  have hPc := hP.sub (ws' := cw ad cI cL u) [0, 1, 2, 3, 4, 5, 6, 7, 8, 9, 10, 11, 12, 13, 14, 15, 16, 17, 18, 19, 20, 21, 22, 23, 24, 25, 26, 27] rfl
  have hDc := hD.sub (ws' := cw ad cI cL u) [0, 1, 2, 3, 4, 5, 6, 7, 8, 9, 10, 11, 12, 13, 14, 15, 16, 17, 18, 19, 20, 21, 22, 23, 24, 25, 26, 27] (by decide) rfl
  have hFc := va_free (wc := cw ad cI cL u) hD hS hA [0, 1, 2, 3, 4, 5, 6, 7, 8, 9, 10, 11, 12, 13, 14, 15, 16, 17, 18, 19, 20, 21, 22, 23, 24, 25, 26, 27] rfl
  refine vx_calli (vx_runV (As := [.int z1, .int z2, .int z3]) (rest := [.int (0 : Int32), .ref oa]) ⟨hx, hb, hml, hown, hts⟩ (mX4_point l lt dC dI cI cL ad sa s.heap.size u z1 z2 z3 n r hf0) (cwV 3 hts gL_point_X4_point rfl rfl rfl (by decide +kernel) ⟨Nat.le_of_ble_eq_true rfl, Nat.le_of_ble_eq_true rfl⟩) ⟨xPre_blind, va_recv hK hPc (ci := 4) (q0 := 0) rfl rfl, xPre_of hPc hK hDc hZ hX hq hS hFc⟩ rfl rfl hl.1 rfl (lv_room (Nat.le_of_ble_eq_true rfl)) dL_point_7 ⟨by decide, by decide⟩) hS (fun q _ h => hFc q h) hFc (fun q _ h => hFc q h) (fun E ce q9 u2 t H1 locs ht hvm hpx hB hz1 hk1 hS hce hcv hcl => ?_) (fun r2 u2 t H1 locs ht hvm hw hB hz1 hk1 hS => ?_)
  · obtain ⟨⟨hB1, hB2⟩, hP1, hK1, hD1⟩ := hB
    rw [ht] at hP1
    have e1 : xcode E = r.1 := congrArg Prod.fst hB1
    have e2 : u2 = r.2.2 := congrArg (fun z => z.2.2) hB1
    subst u2
    obtain ⟨hP, hD⟩ := va_join (wr := [(oa, .inl (cL, 1, .inr (.inl o)))]) (w1 := cw ad cI cL r.2.2) hP hD [0, 1, 2, 3, 4, 5, 6, 7, 8, 9, 10, 11, 12, 13, 14, 15, 16, 17, 18, 19, 20, 21, 22, 23, 24, 25, 26, 27] [28] rfl rfl (by decide) (by decide) hk1 hFc hP1 hD1
    have hP := hP.sub (ws' := cow ad oa cI cL r.2.2 o) [1, 2, 3, 4, 5, 6, 7, 8, 9, 10, 11, 12, 13, 14, 15, 16, 17, 18, 19, 20, 21, 22, 23, 24, 25, 26, 27, 28, 0] rfl
    have hD := hD.sub (ws' := cow ad oa cI cL r.2.2 o) [1, 2, 3, 4, 5, 6, 7, 8, 9, 10, 11, 12, 13, 14, 15, 16, 17, 18, 19, 20, 21, 22, 23, 24, 25, 26, 27, 28, 0] (by decide) rfl
    by_cases hE : E = "java/lang/IllegalArgumentException"
    · subst hE
      refine vx_catch (own := RL) (name := "java/lang/IllegalArgumentException") hown [] ⟨0, 12, 15, 13⟩ [⟨0, 12, 19, 15⟩] htab (fun z hz => nomatch hz) (by decide) (by decide) k_1 (va_Nw.use rfl hX.1) hce hcv hcl ?_
      refine lv_astore (lv' := [(5, .ref q9), (0, .ref (ad 0)), (1, .int z1), (2, .int z2), (3, .int z3), (4, .ref oa)]) hx hb dL_point_15 hl (by decide) rfl (fun ls hl => ?_)
      refine lv_iconst (v := 1) hx hb dL_point_17 (by decide) ?_
      have e9 : r.1 = 1 := e1.symm
      refine W.widen (k := 4) (n := 24) (by decide) (by decide) ?_
      exact W.iret (v := 1) hx hb hr (fun t ht hW => ⟨⟨1, (r.2.2, o), rfl, by rw [if_neg (by omega), e9]; rfl, ⟨by rw [ht]; exact hP, va_K.moved hW.alike hK, hD⟩⟩, hS.F ht⟩) hS.2.2 dL_point_18
    · by_cases hE2 : E = "java/lang/IllegalStateException"
      · subst hE2
        refine vx_catch (own := RL) (name := "java/lang/IllegalStateException") hown [⟨0, 12, 15, 13⟩] ⟨0, 12, 19, 15⟩ [] htab (fun z hz => by rw [List.mem_singleton.mp hz]; exact Or.inr ⟨by decide, "java/lang/IllegalArgumentException", k_1, hX.2.2.2.2.2.2.2.2⟩) (by decide) (by decide) k_2 (va_Nw.use rfl hX.2.1) hce hcv hcl ?_
        refine lv_astore (lv' := [(5, .ref q9), (0, .ref (ad 0)), (1, .int z1), (2, .int z2), (3, .int z3), (4, .ref oa)]) hx hb dL_point_19 hl (by decide) rfl (fun ls hl => ?_)
        refine lv_iconst (v := 2) hx hb dL_point_21 (by decide) ?_
        have e9 : r.1 = 2 := e1.symm
        refine W.widen (k := 4) (n := 24) (by decide) (by decide) ?_
        exact W.iret (v := 2) hx hb hr (fun t ht hW => ⟨⟨2, (r.2.2, o), rfl, by rw [if_neg (by omega), e9]; rfl, ⟨by rw [ht]; exact hP, va_K.moved hW.alike hK, hD⟩⟩, hS.F ht⟩) hS.2.2 dL_point_22
      · exact absurd hB2 (by unfold xcode; rw [if_neg hE, if_neg hE2]; decide)
  obtain ⟨hP1, hK1, hD1⟩ := hB
  rw [ht] at hP1
  have e0 : r.1 = 0 := (congrArg Prod.fst hw).symm
  have e1 : r2 = r.2.1 := congrArg (fun z => z.2.1) hw
  have e2 : u2 = r.2.2 := congrArg (fun z => z.2.2) hw
  subst r2 u2
  obtain ⟨hP, hD⟩ := va_join (wr := [(oa, .inl (cL, 1, .inr (.inl o)))]) (w1 := cw ad cI cL r.2.2) hP hD [0, 1, 2, 3, 4, 5, 6, 7, 8, 9, 10, 11, 12, 13, 14, 15, 16, 17, 18, 19, 20, 21, 22, 23, 24, 25, 26, 27] [28] rfl rfl (by decide) (by decide) hk1 hFc hP1 hD1
  have hP := hP.sub (ws' := cow ad oa cI cL r.2.2 o) [1, 2, 3, 4, 5, 6, 7, 8, 9, 10, 11, 12, 13, 14, 15, 16, 17, 18, 19, 20, 21, 22, 23, 24, 25, 26, 27, 28, 0] rfl
  have hD := hD.sub (ws' := cow ad oa cI cL r.2.2 o) [1, 2, 3, 4, 5, 6, 7, 8, 9, 10, 11, 12, 13, 14, 15, 16, 17, 18, 19, 20, 21, 22, 23, 24, 25, 26, 27, 28, 0] (by decide) rfl
  clear hP1 hD1 hK1 hFc hk1 hPc hDc
  generalize H1 = H at hP hS ⊢
  refine lv_i2l (v := r.2.1.toInt64) hx hb dL_point_10 rfl ?_
  refine va_last (f := o) hx hb hK hP hD hS 28 1 rfl rfl (vp_in_iff.mpr (by decide)) dL_point_11 (fun H locs hP hD hS => ?_)
  have hP : va_P (dC, dI) vwCl (cow ad oa cI cL r.2.2 (vp_updL o (0 : Int32).toNatClampNeg r.2.1.toInt64)) H := hP
  have hD : va_D A (cow ad oa cI cL r.2.2 (vp_updL o (0 : Int32).toNatClampNeg r.2.1.toInt64)) := hD
  refine lv_goto (tgt := 23) hx hb dL_point_12 (by decide) ?_
  refine lv_iconst (v := 0) hx hb dL_point_23 (by decide) ?_
  refine W.widen (k := 4) (n := 24) (by decide) (by decide) ?_
  exact W.iret (v := 0) hx hb hr (fun t ht hW => ⟨⟨0, (r.2.2, vp_updL o (0 : Int32).toNatClampNeg r.2.1.toInt64), rfl, by rw [if_pos e0, e0]; rfl, ⟨by rw [ht]; exact hP, va_K.moved hW.alike hK, hD⟩⟩, hS.F ht⟩) hS.2.2 dL_point_24

set_option maxHeartbeats 4000000 in
set_option maxRecDepth 100000 in
theorem mL_height (l : Launch) (lt : l.stackTraces = false) (dC : Nat → ClassId) (dI : Nat → Nat → Nat) (cI cL : ClassId) (ad sa : Nat → Nat) (oa : Nat) (sz : Nat) (u : St) (o : Nat → Int64) (z1 : Int32) (n : Nat) (r : Nat × Int32 × St) (hf0 : FX4_height n z1 u = some r) (h12 : r.1 ≤ 1) : Met l yL_height wsL_height ({ frames := 9, cells := 1, slots := 6, locals := 134 }) (va_Pc [.ref (ad 0), .int z1, .ref oa] (xPre dC dI cI cL sa (cow ad oa cI cL u o) sz)) (va_Qi (fun a t => (a, t) = (nI r.1, r.2.2, if r.1 = 0 then vp_updL o (0 : Int32).toNatClampNeg r.2.1.toInt64 else o)) (fun t => wPost dC dI cI cL (va_A (cow ad oa cI cL u o) sz) (cow ad oa cI cL t.1 t.2)) (va_A (cow ad oa cI cL u o) sz)) 1 6 (va_A (cow ad oa cI cL u o) sz) := by
  refine va_MetW (cc := cL_height) (maxL := 4) (ret := (some .int)) (hh := [(0, 9, 12, 13)]) (by decide) rfl ?_
  intro p e s m args below meth c s₁ B hml hv
  obtain ⟨rfl, ⟨hsz, hP, hK, hD0, hZ⟩, hX, hq⟩ := hv
  have hx := B.exec
  have hb := B.bytes
  have hr := B.returns
  have hts := atoms_spec (ws := wsL_height) B.pre
  have hown : s.vm.findClass RL = some m.cls := findClass_of_methodNamed B.named
  have hlocks := B.notSynchronized
  have htab : c.exceptionTable.toList = tableOf [(0, 9, 12, 13)] := vx_table (x := yL_height) B (hts _ List.mem_cons_self)
  subst hsz
  have hD := hD0.self (sz := s.heap.size)
  generalize hAe : va_A (cow ad oa cI cL u o) s.heap.size = A at hD hq ⊢
  have hA : ∀ q : Nat, s.heap.size ≤ q → A q := fun q h => by rw [← hAe]; exact Or.inr h
  have hS : va_S A s.heap s.heap [] := va_S.rf
  have k_1 := hts (.classLink RL 13 "java/lang/IllegalArgumentException") (by decide +kernel)
  have hl := lv_entry ([.ref (ad 0), .int z1, .ref oa]) (n := 4) (Nat.le_of_ble_eq_true rfl)
  rw [lg_entry_eq]
  generalize (lg_sl ([.ref (ad 0), .int z1, .ref oa]) ++ List.replicate (4 - (lg_sl ([.ref (ad 0), .int z1, .ref oa])).length) Slot.unset).toArray = ls at hl ⊢
  have hl : lv_has ls 4 [(0, .ref (ad 0)), (1, .int z1), (2, .ref oa)] := hl
  refine lv_aload_n hx hb dL_height_0 rfl (lv_at hl 2 rfl) ?_
  refine lv_iconst (v := 0) hx hb dL_height_1 (by decide) ?_
  refine lv_aload_n hx hb dL_height_2 rfl (lv_at hl 0 rfl) ?_
  refine lv_iload_n hx hb dL_height_3 rfl (lv_at hl 1 rfl) ?_
  have hPc := hP.sub (ws' := cw ad cI cL u) [0, 1, 2, 3, 4, 5, 6, 7, 8, 9, 10, 11, 12, 13, 14, 15, 16, 17, 18, 19, 20, 21, 22, 23, 24, 25, 26, 27] rfl
  have hDc := hD.sub (ws' := cw ad cI cL u) [0, 1, 2, 3, 4, 5, 6, 7, 8, 9, 10, 11, 12, 13, 14, 15, 16, 17, 18, 19, 20, 21, 22, 23, 24, 25, 26, 27] (by decide) rfl
  have hFc := va_free (wc := cw ad cI cL u) hD hS hA [0, 1, 2, 3, 4, 5, 6, 7, 8, 9, 10, 11, 12, 13, 14, 15, 16, 17, 18, 19, 20, 21, 22, 23, 24, 25, 26, 27] rfl
  refine vx_calli (vx_runV (As := [.int z1]) (rest := [.int (0 : Int32), .ref oa]) ⟨hx, hb, hml, hown, hts⟩ (mX4_height l lt dC dI cI cL ad sa s.heap.size u z1 n r hf0) (cwV 1 hts gL_height_X4_height rfl rfl rfl (by decide +kernel) ⟨Nat.le_of_ble_eq_true rfl, Nat.le_of_ble_eq_true rfl⟩) ⟨xPre_blind, va_recv hK hPc (ci := 4) (q0 := 0) rfl rfl, xPre_of hPc hK hDc hZ hX hq hS hFc⟩ rfl rfl hl.1 rfl (lv_room (Nat.le_of_ble_eq_true rfl)) dL_height_4 ⟨by decide, by decide⟩) hS (fun q _ h => hFc q h) hFc (fun q _ h => hFc q h) (fun E ce q9 u2 t H1 locs ht hvm hpx hB hz1 hk1 hS hce hcv hcl => ?_) (fun r2 u2 t H1 locs ht hvm hw hB hz1 hk1 hS => ?_)
  · obtain ⟨⟨hB1, hB2⟩, hP1, hK1, hD1⟩ := hB
    rw [ht] at hP1
    have e1 : xcode E = r.1 := congrArg Prod.fst hB1
    have e2 : u2 = r.2.2 := congrArg (fun z => z.2.2) hB1
    subst u2
    obtain ⟨hP, hD⟩ := va_join (wr := [(oa, .inl (cL, 1, .inr (.inl o)))]) (w1 := cw ad cI cL r.2.2) hP hD [0, 1, 2, 3, 4, 5, 6, 7, 8, 9, 10, 11, 12, 13, 14, 15, 16, 17, 18, 19, 20, 21, 22, 23, 24, 25, 26, 27] [28] rfl rfl (by decide) (by decide) hk1 hFc hP1 hD1
    have hP := hP.sub (ws' := cow ad oa cI cL r.2.2 o) [1, 2, 3, 4, 5, 6, 7, 8, 9, 10, 11, 12, 13, 14, 15, 16, 17, 18, 19, 20, 21, 22, 23, 24, 25, 26, 27, 28, 0] rfl
    have hD := hD.sub (ws' := cow ad oa cI cL r.2.2 o) [1, 2, 3, 4, 5, 6, 7, 8, 9, 10, 11, 12, 13, 14, 15, 16, 17, 18, 19, 20, 21, 22, 23, 24, 25, 26, 27, 28, 0] (by decide) rfl
    by_cases hE : E = "java/lang/IllegalArgumentException"
    · subst hE
      refine vx_catch (own := RL) (name := "java/lang/IllegalArgumentException") hown [] ⟨0, 9, 12, 13⟩ [] htab (fun z hz => nomatch hz) (by decide) (by decide) k_1 (va_Nw.use rfl hX.1) hce hcv hcl ?_
      refine lv_astore_n (lv' := [(3, .ref q9), (0, .ref (ad 0)), (1, .int z1), (2, .ref oa)]) hx hb dL_height_12 rfl hl (by decide) rfl (fun ls hl => ?_)
      refine lv_iconst (v := 1) hx hb dL_height_13 (by decide) ?_
      have e9 : r.1 = 1 := e1.symm
      refine W.widen (k := 1) (n := 6) (by decide) (by decide) ?_
      exact W.iret (v := 1) hx hb hr (fun t ht hW => ⟨⟨1, (r.2.2, o), rfl, by rw [if_neg (by omega), e9]; rfl, ⟨by rw [ht]; exact hP, va_K.moved hW.alike hK, hD⟩⟩, hS.F ht⟩) hS.2.2 dL_height_14
    · by_cases hE2 : E = "java/lang/IllegalStateException"
      · subst hE2
        have e9 : r.1 = 2 := e1.symm
        omega
      · exact absurd hB2 (by unfold xcode; rw [if_neg hE, if_neg hE2]; decide)
  obtain ⟨hP1, hK1, hD1⟩ := hB
  rw [ht] at hP1
  have e0 : r.1 = 0 := (congrArg Prod.fst hw).symm
  have e1 : r2 = r.2.1 := congrArg (fun z => z.2.1) hw
  have e2 : u2 = r.2.2 := congrArg (fun z => z.2.2) hw
  subst r2 u2
  obtain ⟨hP, hD⟩ := va_join (wr := [(oa, .inl (cL, 1, .inr (.inl o)))]) (w1 := cw ad cI cL r.2.2) hP hD [0, 1, 2, 3, 4, 5, 6, 7, 8, 9, 10, 11, 12, 13, 14, 15, 16, 17, 18, 19, 20, 21, 22, 23, 24, 25, 26, 27] [28] rfl rfl (by decide) (by decide) hk1 hFc hP1 hD1
  have hP := hP.sub (ws' := cow ad oa cI cL r.2.2 o) [1, 2, 3, 4, 5, 6, 7, 8, 9, 10, 11, 12, 13, 14, 15, 16, 17, 18, 19, 20, 21, 22, 23, 24, 25, 26, 27, 28, 0] rfl
  have hD := hD.sub (ws' := cow ad oa cI cL r.2.2 o) [1, 2, 3, 4, 5, 6, 7, 8, 9, 10, 11, 12, 13, 14, 15, 16, 17, 18, 19, 20, 21, 22, 23, 24, 25, 26, 27, 28, 0] (by decide) rfl
  clear hP1 hD1 hK1 hFc hk1 hPc hDc
  generalize H1 = H at hP hS ⊢
  refine lv_i2l (v := r.2.1.toInt64) hx hb dL_height_7 rfl ?_
  refine va_last (f := o) hx hb hK hP hD hS 28 1 rfl rfl (vp_in_iff.mpr (by decide)) dL_height_8 (fun H locs hP hD hS => ?_)
  have hP : va_P (dC, dI) vwCl (cow ad oa cI cL r.2.2 (vp_updL o (0 : Int32).toNatClampNeg r.2.1.toInt64)) H := hP
  have hD : va_D A (cow ad oa cI cL r.2.2 (vp_updL o (0 : Int32).toNatClampNeg r.2.1.toInt64)) := hD
  refine lv_goto (tgt := 15) hx hb dL_height_9 (by decide) ?_
  refine lv_iconst (v := 0) hx hb dL_height_15 (by decide) ?_
  refine W.widen (k := 1) (n := 6) (by decide) (by decide) ?_
  exact W.iret (v := 0) hx hb hr (fun t ht hW => ⟨⟨0, (r.2.2, vp_updL o (0 : Int32).toNatClampNeg r.2.1.toInt64), rfl, by rw [if_pos e0, e0]; rfl, ⟨by rw [ht]; exact hP, va_K.moved hW.alike hK, hD⟩⟩, hS.F ht⟩) hS.2.2 dL_height_16

set_option maxHeartbeats 4000000 in
set_option maxRecDepth 100000 in
theorem mL_hold (l : Launch) (lt : l.stackTraces = false) (dC : Nat → ClassId) (dI : Nat → Nat → Nat) (cI cL : ClassId) (ad sa : Nat → Nat) (sz : Nat) (u : St) (z1 : Int32) (z2 : Int32) (n : Nat) (r : Nat × St) (hf0 : FX4_hold n z1 z2 u = some r) (h12 : r.1 ≤ 1) : Met l yL_hold wsL_hold ({ frames := 10, cells := 2, slots := 12, locals := 155 }) (va_Pc [.ref (ad 0), .int z1, .int z2] (xPre dC dI cI cL sa (cw ad cI cL u) sz)) (va_Qi (fun a t => (a, t) = (nI r.1, r.2)) (fun t => wPost dC dI cI cL (va_A (cw ad cI cL u) sz) (cw ad cI cL t)) (va_A (cw ad cI cL u) sz)) 2 12 (va_A (cw ad cI cL u) sz) := by
  refine va_MetW (cc := cL_hold) (maxL := 4) (ret := (some .int)) (hh := [(0, 6, 9, 13)]) (by decide) rfl ?_
  intro p e s m args below meth c s₁ B hml hv
  obtain ⟨rfl, ⟨hsz, hP, hK, hD0, hZ⟩, hX, hq⟩ := hv
  have hx := B.exec
  have hb := B.bytes
  have hr := B.returns
  have hts := atoms_spec (ws := wsL_hold) B.pre
  have hown : s.vm.findClass RL = some m.cls := findClass_of_methodNamed B.named
  have hlocks := B.notSynchronized
  have htab : c.exceptionTable.toList = tableOf [(0, 6, 9, 13)] := vx_table (x := yL_hold) B (hts _ List.mem_cons_self)
  subst hsz
  have hD := hD0.self (sz := s.heap.size)
  generalize hAe : va_A (cw ad cI cL u) s.heap.size = A at hD hq ⊢
  have hA : ∀ q : Nat, s.heap.size ≤ q → A q := fun q h => by rw [← hAe]; exact Or.inr h
  have hS : va_S A s.heap s.heap [] := va_S.rf
  have k_1 := hts (.classLink RL 13 "java/lang/IllegalArgumentException") (by decide +kernel)
  have hl := lv_entry ([.ref (ad 0), .int z1, .int z2]) (n := 4) (Nat.le_of_ble_eq_true rfl)
  rw [lg_entry_eq]
  generalize (lg_sl ([.ref (ad 0), .int z1, .int z2]) ++ List.replicate (4 - (lg_sl ([.ref (ad 0), .int z1, .int z2])).length) Slot.unset).toArray = ls at hl ⊢
  have hl : lv_has ls 4 [(0, .ref (ad 0)), (1, .int z1), (2, .int z2)] := hl
  refine lv_aload_n hx hb dL_hold_0 rfl (lv_at hl 0 rfl) ?_
  refine lv_iload_n hx hb dL_hold_1 rfl (lv_at hl 1 rfl) ?_
  refine lv_iload_n hx hb dL_hold_2 rfl (lv_at hl 2 rfl) ?_
  have hPc := hP
  have hDc := hD
  have hFc := freeAll hD hS hA
  refine vx_callv (vx_runV (As := [.int z1, .int z2]) (rest := []) ⟨hx, hb, hml, hown, hts⟩ (mX4_hold l lt dC dI cI cL ad sa s.heap.size u z1 z2 n r hf0) (cwV 2 hts gL_hold_X4_hold rfl rfl rfl (by decide +kernel) ⟨Nat.le_of_ble_eq_true rfl, Nat.le_of_ble_eq_true rfl⟩) ⟨xPre_blind, va_recv hK hPc (ci := 4) (q0 := 0) rfl rfl, xPre_of hPc hK hDc hZ hX hq hS hFc⟩ rfl rfl hl.1 rfl (lv_room (Nat.le_of_ble_eq_true rfl)) dL_hold_3 ⟨by decide, by decide⟩) hS (fun q _ h => hFc q h) hFc (fun q _ h => hFc q h) (fun E ce q9 u2 t H1 locs ht hvm hpx hB hz1 hk1 hS hce hcv hcl => ?_) (fun u2 t H1 locs ht hvm hw hB hz1 hk1 hS => ?_)
  · obtain ⟨⟨hB1, hB2⟩, hP1, hK1, hD1⟩ := hB
    rw [ht] at hP1
    have e1 : xcode E = r.1 := congrArg Prod.fst hB1
    have e2 : u2 = r.2 := congrArg (fun z => z.2) hB1
    subst u2
    have hP : va_P (dC, dI) vwCl (cw ad cI cL r.2) H1 := hP1
    have hD := hD1.weaken (fun _ _ _ h => hFc _ h)
    by_cases hE : E = "java/lang/IllegalArgumentException"
    · subst hE
      refine vx_catch (own := RL) (name := "java/lang/IllegalArgumentException") hown [] ⟨0, 6, 9, 13⟩ [] htab (fun z hz => nomatch hz) (by decide) (by decide) k_1 (va_Nw.use rfl hX.1) hce hcv hcl ?_
      refine lv_astore_n (lv' := [(3, .ref q9), (0, .ref (ad 0)), (1, .int z1), (2, .int z2)]) hx hb dL_hold_9 rfl hl (by decide) rfl (fun ls hl => ?_)
      refine lv_iconst (v := 1) hx hb dL_hold_10 (by decide) ?_
      have e9 : r.1 = 1 := e1.symm
      refine W.widen (k := 2) (n := 12) (by decide) (by decide) ?_
      exact W.iret (v := 1) hx hb hr (fun t ht hW => ⟨⟨1, r.2, rfl, by rw [e9]; rfl, ⟨by rw [ht]; exact hP, va_K.moved hW.alike hK, hD⟩⟩, hS.F ht⟩) hS.2.2 dL_hold_11
    · by_cases hE2 : E = "java/lang/IllegalStateException"
      · subst hE2
        have e9 : r.1 = 2 := e1.symm
        omega
      · exact absurd hB2 (by unfold xcode; rw [if_neg hE, if_neg hE2]; decide)
  obtain ⟨hP1, hK1, hD1⟩ := hB
  rw [ht] at hP1
  have e0 : r.1 = 0 := (congrArg Prod.fst hw).symm
  have e2 : u2 = r.2 := congrArg Prod.snd hw
  subst u2
  have hP : va_P (dC, dI) vwCl (cw ad cI cL r.2) H1 := hP1
  have hD := hD1.weaken (fun _ _ _ h => hFc _ h)
  clear hP1 hD1 hK1 hFc hk1 hPc hDc
  generalize H1 = H at hP hS ⊢
  refine lv_goto (tgt := 12) hx hb dL_hold_6 (by decide) ?_
  refine lv_iconst (v := 0) hx hb dL_hold_12 (by decide) ?_
  refine W.widen (k := 2) (n := 12) (by decide) (by decide) ?_
  exact W.iret (v := 0) hx hb hr (fun t ht hW => ⟨⟨0, r.2, rfl, by rw [e0]; rfl, ⟨by rw [ht]; exact hP, va_K.moved hW.alike hK, hD⟩⟩, hS.F ht⟩) hS.2.2 dL_hold_13

set_option maxHeartbeats 4000000 in
set_option maxRecDepth 100000 in
theorem mL_light (l : Launch) (lt : l.stackTraces = false) (dC : Nat → ClassId) (dI : Nat → Nat → Nat) (cI cL : ClassId) (ad sa : Nat → Nat) (oa : Nat) (sz : Nat) (u : St) (o : Nat → Int64) (z1 : Int32) (z2 : Int32) (z3 : Int32) (n : Nat) (r : Nat × Int32 × St) (hf0 : FX4_light n z1 z2 z3 u = some r) (h12 : r.1 ≤ 1) : Met l yL_light wsL_light ({ frames := 10, cells := 3, slots := 18, locals := 156 }) (va_Pc [.ref (ad 0), .int z1, .int z2, .int z3, .ref oa] (xPre dC dI cI cL sa (cow ad oa cI cL u o) sz)) (va_Qi (fun a t => (a, t) = (nI r.1, r.2.2, if r.1 = 0 then vp_updL o (0 : Int32).toNatClampNeg r.2.1.toInt64 else o)) (fun t => wPost dC dI cI cL (va_A (cow ad oa cI cL u o) sz) (cow ad oa cI cL t.1 t.2)) (va_A (cow ad oa cI cL u o) sz)) 3 18 (va_A (cow ad oa cI cL u o) sz) := by
  refine va_MetW (cc := cL_light) (maxL := 6) (ret := (some .int)) (hh := [(0, 12, 15, 13)]) (by decide) rfl ?_
  intro p e s m args below meth c s₁ B hml hv
  obtain ⟨rfl, ⟨hsz, hP, hK, hD0, hZ⟩, hX, hq⟩ := hv
  have hx := B.exec
  have hb := B.bytes
  have hr := B.returns
  have hts := atoms_spec (ws := wsL_light) B.pre
  have hown : s.vm.findClass RL = some m.cls := findClass_of_methodNamed B.named
  have hlocks := B.notSynchronized
  have htab : c.exceptionTable.toList = tableOf [(0, 12, 15, 13)] := vx_table (x := yL_light) B (hts _ List.mem_cons_self)
  subst hsz
  have hD := hD0.self (sz := s.heap.size)
  generalize hAe : va_A (cow ad oa cI cL u o) s.heap.size = A at hD hq ⊢
  have hA : ∀ q : Nat, s.heap.size ≤ q → A q := fun q h => by rw [← hAe]; exact Or.inr h
  have hS : va_S A s.heap s.heap [] := va_S.rf
  have k_1 := hts (.classLink RL 13 "java/lang/IllegalArgumentException") (by decide +kernel)
  have hl := lv_entry ([.ref (ad 0), .int z1, .int z2, .int z3, .ref oa]) (n := 6) (Nat.le_of_ble_eq_true rfl)
  rw [lg_entry_eq]
  generalize (lg_sl ([.ref (ad 0), .int z1, .int z2, .int z3, .ref oa]) ++ List.replicate (6 - (lg_sl ([.ref (ad 0), .int z1, .int z2, .int z3, .ref oa])).length) Slot.unset).toArray = ls at hl ⊢
  have hl : lv_has ls 6 [(0, .ref (ad 0)), (1, .int z1), (2, .int z2), (3, .int z3), (4, .ref oa)] := hl
  refine lv_aload hx hb dL_light_0 (lv_at hl 4 rfl) ?_
  refine lv_iconst (v := 0) hx hb dL_light_2 (by decide) ?_
  refine lv_aload_n hx hb dL_light_3 rfl (lv_at hl 0 rfl) ?_
  refine lv_iload_n hx hb dL_light_4 rfl (lv_at hl 1 rfl) ?_
  refine lv_iload_n hx hb dL_light_5 rfl (lv_at hl 2 rfl) ?_
  refine lv_iload_n hx hb dL_light_6 rfl (lv_at hl 3 rfl) ?_
  have hPc := hP.sub (ws' := cw ad cI cL u) [0, 1, 2, 3, 4, 5, 6, 7, 8, 9, 10, 11, 12, 13, 14, 15, 16, 17, 18, 19, 20, 21, 22, 23, 24, 25, 26, 27] rfl
  have hDc := hD.sub (ws' := cw ad cI cL u) [0, 1, 2, 3, 4, 5, 6, 7, 8, 9, 10, 11, 12, 13, 14, 15, 16, 17, 18, 19, 20, 21, 22, 23, 24, 25, 26, 27] (by decide) rfl
  have hFc := va_free (wc := cw ad cI cL u) hD hS hA [0, 1, 2, 3, 4, 5, 6, 7, 8, 9, 10, 11, 12, 13, 14, 15, 16, 17, 18, 19, 20, 21, 22, 23, 24, 25, 26, 27] rfl
  refine vx_calli (vx_runV (As := [.int z1, .int z2, .int z3]) (rest := [.int (0 : Int32), .ref oa]) ⟨hx, hb, hml, hown, hts⟩ (mX4_light l lt dC dI cI cL ad sa s.heap.size u z1 z2 z3 n r hf0) (cwV 3 hts gL_light_X4_light rfl rfl rfl (by decide +kernel) ⟨Nat.le_of_ble_eq_true rfl, Nat.le_of_ble_eq_true rfl⟩) ⟨xPre_blind, va_recv hK hPc (ci := 4) (q0 := 0) rfl rfl, xPre_of hPc hK hDc hZ hX hq hS hFc⟩ rfl rfl hl.1 rfl (lv_room (Nat.le_of_ble_eq_true rfl)) dL_light_7 ⟨by decide, by decide⟩) hS (fun q _ h => hFc q h) hFc (fun q _ h => hFc q h) (fun E ce q9 u2 t H1 locs ht hvm hpx hB hz1 hk1 hS hce hcv hcl => ?_) (fun r2 u2 t H1 locs ht hvm hw hB hz1 hk1 hS => ?_)
  · obtain ⟨⟨hB1, hB2⟩, hP1, hK1, hD1⟩ := hB
    rw [ht] at hP1
    have e1 : xcode E = r.1 := congrArg Prod.fst hB1
    have e2 : u2 = r.2.2 := congrArg (fun z => z.2.2) hB1
    subst u2
    obtain ⟨hP, hD⟩ := va_join (wr := [(oa, .inl (cL, 1, .inr (.inl o)))]) (w1 := cw ad cI cL r.2.2) hP hD [0, 1, 2, 3, 4, 5, 6, 7, 8, 9, 10, 11, 12, 13, 14, 15, 16, 17, 18, 19, 20, 21, 22, 23, 24, 25, 26, 27] [28] rfl rfl (by decide) (by decide) hk1 hFc hP1 hD1
    have hP := hP.sub (ws' := cow ad oa cI cL r.2.2 o) [1, 2, 3, 4, 5, 6, 7, 8, 9, 10, 11, 12, 13, 14, 15, 16, 17, 18, 19, 20, 21, 22, 23, 24, 25, 26, 27, 28, 0] rfl
    have hD := hD.sub (ws' := cow ad oa cI cL r.2.2 o) [1, 2, 3, 4, 5, 6, 7, 8, 9, 10, 11, 12, 13, 14, 15, 16, 17, 18, 19, 20, 21, 22, 23, 24, 25, 26, 27, 28, 0] (by decide) rfl
    by_cases hE : E = "java/lang/IllegalArgumentException"
    · subst hE
      refine vx_catch (own := RL) (name := "java/lang/IllegalArgumentException") hown [] ⟨0, 12, 15, 13⟩ [] htab (fun z hz => nomatch hz) (by decide) (by decide) k_1 (va_Nw.use rfl hX.1) hce hcv hcl ?_
      refine lv_astore (lv' := [(5, .ref q9), (0, .ref (ad 0)), (1, .int z1), (2, .int z2), (3, .int z3), (4, .ref oa)]) hx hb dL_light_15 hl (by decide) rfl (fun ls hl => ?_)
      refine lv_iconst (v := 1) hx hb dL_light_17 (by decide) ?_
      have e9 : r.1 = 1 := e1.symm
      refine W.widen (k := 3) (n := 18) (by decide) (by decide) ?_
      exact W.iret (v := 1) hx hb hr (fun t ht hW => ⟨⟨1, (r.2.2, o), rfl, by rw [if_neg (by omega), e9]; rfl, ⟨by rw [ht]; exact hP, va_K.moved hW.alike hK, hD⟩⟩, hS.F ht⟩) hS.2.2 dL_light_18
    · by_cases hE2 : E = "java/lang/IllegalStateException"
      · subst hE2
        have e9 : r.1 = 2 := e1.symm
        omega
      · exact absurd hB2 (by unfold xcode; rw [if_neg hE, if_neg hE2]; decide)
  obtain ⟨hP1, hK1, hD1⟩ := hB
  rw [ht] at hP1
  have e0 : r.1 = 0 := (congrArg Prod.fst hw).symm
  have e1 : r2 = r.2.1 := congrArg (fun z => z.2.1) hw
  have e2 : u2 = r.2.2 := congrArg (fun z => z.2.2) hw
  subst r2 u2
  obtain ⟨hP, hD⟩ := va_join (wr := [(oa, .inl (cL, 1, .inr (.inl o)))]) (w1 := cw ad cI cL r.2.2) hP hD [0, 1, 2, 3, 4, 5, 6, 7, 8, 9, 10, 11, 12, 13, 14, 15, 16, 17, 18, 19, 20, 21, 22, 23, 24, 25, 26, 27] [28] rfl rfl (by decide) (by decide) hk1 hFc hP1 hD1
  have hP := hP.sub (ws' := cow ad oa cI cL r.2.2 o) [1, 2, 3, 4, 5, 6, 7, 8, 9, 10, 11, 12, 13, 14, 15, 16, 17, 18, 19, 20, 21, 22, 23, 24, 25, 26, 27, 28, 0] rfl
  have hD := hD.sub (ws' := cow ad oa cI cL r.2.2 o) [1, 2, 3, 4, 5, 6, 7, 8, 9, 10, 11, 12, 13, 14, 15, 16, 17, 18, 19, 20, 21, 22, 23, 24, 25, 26, 27, 28, 0] (by decide) rfl
  clear hP1 hD1 hK1 hFc hk1 hPc hDc
  generalize H1 = H at hP hS ⊢
  refine lv_i2l (v := r.2.1.toInt64) hx hb dL_light_10 rfl ?_
  refine va_last (f := o) hx hb hK hP hD hS 28 1 rfl rfl (vp_in_iff.mpr (by decide)) dL_light_11 (fun H locs hP hD hS => ?_)
  have hP : va_P (dC, dI) vwCl (cow ad oa cI cL r.2.2 (vp_updL o (0 : Int32).toNatClampNeg r.2.1.toInt64)) H := hP
  have hD : va_D A (cow ad oa cI cL r.2.2 (vp_updL o (0 : Int32).toNatClampNeg r.2.1.toInt64)) := hD
  refine lv_goto (tgt := 19) hx hb dL_light_12 (by decide) ?_
  refine lv_iconst (v := 0) hx hb dL_light_19 (by decide) ?_
  refine W.widen (k := 3) (n := 18) (by decide) (by decide) ?_
  exact W.iret (v := 0) hx hb hr (fun t ht hW => ⟨⟨0, (r.2.2, vp_updL o (0 : Int32).toNatClampNeg r.2.1.toInt64), rfl, by rw [if_pos e0, e0]; rfl, ⟨by rw [ht]; exact hP, va_K.moved hW.alike hK, hD⟩⟩, hS.F ht⟩) hS.2.2 dL_light_20

set_option maxHeartbeats 4000000 in
set_option maxRecDepth 100000 in
theorem mL_lamp (l : Launch) (lt : l.stackTraces = false) (dC : Nat → ClassId) (dI : Nat → Nat → Nat) (cI cL : ClassId) (ad sa : Nat → Nat) (oa : Nat) (sz : Nat) (u : St) (o : Nat → Int64) (z1 : Int32) (n : Nat) (r : Nat × Int32 × St) (hf0 : FX4_lamp n z1 u = some r) (h12 : r.1 ≤ 1) : Met l yL_lamp wsL_lamp ({ frames := 13, cells := 1, slots := 6, locals := 344 }) (va_Pc [.ref (ad 0), .int z1, .ref oa] (xPre dC dI cI cL sa (cow ad oa cI cL u o) sz)) (va_Qi (fun a t => (a, t) = (nI r.1, r.2.2, if r.1 = 0 then vp_updL o (0 : Int32).toNatClampNeg r.2.1.toInt64 else o)) (fun t => wPost dC dI cI cL (va_A (cow ad oa cI cL u o) sz) (cow ad oa cI cL t.1 t.2)) (va_A (cow ad oa cI cL u o) sz)) 1 6 (va_A (cow ad oa cI cL u o) sz) := by
  refine va_MetW (cc := cL_lamp) (maxL := 4) (ret := (some .int)) (hh := [(0, 9, 12, 13)]) (by decide) rfl ?_
  intro p e s m args below meth c s₁ B hml hv
  obtain ⟨rfl, ⟨hsz, hP, hK, hD0, hZ⟩, hX, hq⟩ := hv
  have hx := B.exec
  have hb := B.bytes
  have hr := B.returns
  have hts := atoms_spec (ws := wsL_lamp) B.pre
  have hown : s.vm.findClass RL = some m.cls := findClass_of_methodNamed B.named
  have hlocks := B.notSynchronized
  have htab : c.exceptionTable.toList = tableOf [(0, 9, 12, 13)] := vx_table (x := yL_lamp) B (hts _ List.mem_cons_self)
  subst hsz
  have hD := hD0.self (sz := s.heap.size)
  generalize hAe : va_A (cow ad oa cI cL u o) s.heap.size = A at hD hq ⊢
  have hA : ∀ q : Nat, s.heap.size ≤ q → A q := fun q h => by rw [← hAe]; exact Or.inr h
  have hS : va_S A s.heap s.heap [] := va_S.rf
  have k_1 := hts (.classLink RL 13 "java/lang/IllegalArgumentException") (by decide +kernel)
  have hl := lv_entry ([.ref (ad 0), .int z1, .ref oa]) (n := 4) (Nat.le_of_ble_eq_true rfl)
  rw [lg_entry_eq]
  generalize (lg_sl ([.ref (ad 0), .int z1, .ref oa]) ++ List.replicate (4 - (lg_sl ([.ref (ad 0), .int z1, .ref oa])).length) Slot.unset).toArray = ls at hl ⊢
  have hl : lv_has ls 4 [(0, .ref (ad 0)), (1, .int z1), (2, .ref oa)] := hl
  refine lv_aload_n hx hb dL_lamp_0 rfl (lv_at hl 2 rfl) ?_
  refine lv_iconst (v := 0) hx hb dL_lamp_1 (by decide) ?_
  refine lv_aload_n hx hb dL_lamp_2 rfl (lv_at hl 0 rfl) ?_
  refine lv_iload_n hx hb dL_lamp_3 rfl (lv_at hl 1 rfl) ?_
  have hPc := hP.sub (ws' := cw ad cI cL u) [0, 1, 2, 3, 4, 5, 6, 7, 8, 9, 10, 11, 12, 13, 14, 15, 16, 17, 18, 19, 20, 21, 22, 23, 24, 25, 26, 27] rfl
  have hDc := hD.sub (ws' := cw ad cI cL u) [0, 1, 2, 3, 4, 5, 6, 7, 8, 9, 10, 11, 12, 13, 14, 15, 16, 17, 18, 19, 20, 21, 22, 23, 24, 25, 26, 27] (by decide) rfl
  have hFc := va_free (wc := cw ad cI cL u) hD hS hA [0, 1, 2, 3, 4, 5, 6, 7, 8, 9, 10, 11, 12, 13, 14, 15, 16, 17, 18, 19, 20, 21, 22, 23, 24, 25, 26, 27] rfl
  refine vx_calli (vx_runV (As := [.int z1]) (rest := [.int (0 : Int32), .ref oa]) ⟨hx, hb, hml, hown, hts⟩ (mX4_lamp l lt dC dI cI cL ad sa s.heap.size u z1 n r hf0) (cwV 1 hts gL_lamp_X4_lamp rfl rfl rfl (by decide +kernel) ⟨Nat.le_of_ble_eq_true rfl, Nat.le_of_ble_eq_true rfl⟩) ⟨xPre_blind, va_recv hK hPc (ci := 4) (q0 := 0) rfl rfl, xPre_of hPc hK hDc hZ hX hq hS hFc⟩ rfl rfl hl.1 rfl (lv_room (Nat.le_of_ble_eq_true rfl)) dL_lamp_4 ⟨by decide, by decide⟩) hS (fun q _ h => hFc q h) hFc (fun q _ h => hFc q h) (fun E ce q9 u2 t H1 locs ht hvm hpx hB hz1 hk1 hS hce hcv hcl => ?_) (fun r2 u2 t H1 locs ht hvm hw hB hz1 hk1 hS => ?_)
  · obtain ⟨⟨hB1, hB2⟩, hP1, hK1, hD1⟩ := hB
    rw [ht] at hP1
    have e1 : xcode E = r.1 := congrArg Prod.fst hB1
    have e2 : u2 = r.2.2 := congrArg (fun z => z.2.2) hB1
    subst u2
    obtain ⟨hP, hD⟩ := va_join (wr := [(oa, .inl (cL, 1, .inr (.inl o)))]) (w1 := cw ad cI cL r.2.2) hP hD [0, 1, 2, 3, 4, 5, 6, 7, 8, 9, 10, 11, 12, 13, 14, 15, 16, 17, 18, 19, 20, 21, 22, 23, 24, 25, 26, 27] [28] rfl rfl (by decide) (by decide) hk1 hFc hP1 hD1
    have hP := hP.sub (ws' := cow ad oa cI cL r.2.2 o) [1, 2, 3, 4, 5, 6, 7, 8, 9, 10, 11, 12, 13, 14, 15, 16, 17, 18, 19, 20, 21, 22, 23, 24, 25, 26, 27, 28, 0] rfl
    have hD := hD.sub (ws' := cow ad oa cI cL r.2.2 o) [1, 2, 3, 4, 5, 6, 7, 8, 9, 10, 11, 12, 13, 14, 15, 16, 17, 18, 19, 20, 21, 22, 23, 24, 25, 26, 27, 28, 0] (by decide) rfl
    by_cases hE : E = "java/lang/IllegalArgumentException"
    · subst hE
      refine vx_catch (own := RL) (name := "java/lang/IllegalArgumentException") hown [] ⟨0, 9, 12, 13⟩ [] htab (fun z hz => nomatch hz) (by decide) (by decide) k_1 (va_Nw.use rfl hX.1) hce hcv hcl ?_
      refine lv_astore_n (lv' := [(3, .ref q9), (0, .ref (ad 0)), (1, .int z1), (2, .ref oa)]) hx hb dL_lamp_12 rfl hl (by decide) rfl (fun ls hl => ?_)
      refine lv_iconst (v := 1) hx hb dL_lamp_13 (by decide) ?_
      have e9 : r.1 = 1 := e1.symm
      refine W.widen (k := 1) (n := 6) (by decide) (by decide) ?_
      exact W.iret (v := 1) hx hb hr (fun t ht hW => ⟨⟨1, (r.2.2, o), rfl, by rw [if_neg (by omega), e9]; rfl, ⟨by rw [ht]; exact hP, va_K.moved hW.alike hK, hD⟩⟩, hS.F ht⟩) hS.2.2 dL_lamp_14
    · by_cases hE2 : E = "java/lang/IllegalStateException"
      · subst hE2
        have e9 : r.1 = 2 := e1.symm
        omega
      · exact absurd hB2 (by unfold xcode; rw [if_neg hE, if_neg hE2]; decide)
  obtain ⟨hP1, hK1, hD1⟩ := hB
  rw [ht] at hP1
  have e0 : r.1 = 0 := (congrArg Prod.fst hw).symm
  have e1 : r2 = r.2.1 := congrArg (fun z => z.2.1) hw
  have e2 : u2 = r.2.2 := congrArg (fun z => z.2.2) hw
  subst r2 u2
  obtain ⟨hP, hD⟩ := va_join (wr := [(oa, .inl (cL, 1, .inr (.inl o)))]) (w1 := cw ad cI cL r.2.2) hP hD [0, 1, 2, 3, 4, 5, 6, 7, 8, 9, 10, 11, 12, 13, 14, 15, 16, 17, 18, 19, 20, 21, 22, 23, 24, 25, 26, 27] [28] rfl rfl (by decide) (by decide) hk1 hFc hP1 hD1
  have hP := hP.sub (ws' := cow ad oa cI cL r.2.2 o) [1, 2, 3, 4, 5, 6, 7, 8, 9, 10, 11, 12, 13, 14, 15, 16, 17, 18, 19, 20, 21, 22, 23, 24, 25, 26, 27, 28, 0] rfl
  have hD := hD.sub (ws' := cow ad oa cI cL r.2.2 o) [1, 2, 3, 4, 5, 6, 7, 8, 9, 10, 11, 12, 13, 14, 15, 16, 17, 18, 19, 20, 21, 22, 23, 24, 25, 26, 27, 28, 0] (by decide) rfl
  clear hP1 hD1 hK1 hFc hk1 hPc hDc
  generalize H1 = H at hP hS ⊢
  refine lv_i2l (v := r.2.1.toInt64) hx hb dL_lamp_7 rfl ?_
  refine va_last (f := o) hx hb hK hP hD hS 28 1 rfl rfl (vp_in_iff.mpr (by decide)) dL_lamp_8 (fun H locs hP hD hS => ?_)
  have hP : va_P (dC, dI) vwCl (cow ad oa cI cL r.2.2 (vp_updL o (0 : Int32).toNatClampNeg r.2.1.toInt64)) H := hP
  have hD : va_D A (cow ad oa cI cL r.2.2 (vp_updL o (0 : Int32).toNatClampNeg r.2.1.toInt64)) := hD
  refine lv_goto (tgt := 15) hx hb dL_lamp_9 (by decide) ?_
  refine lv_iconst (v := 0) hx hb dL_lamp_15 (by decide) ?_
  refine W.widen (k := 1) (n := 6) (by decide) (by decide) ?_
  exact W.iret (v := 0) hx hb hr (fun t ht hW => ⟨⟨0, (r.2.2, vp_updL o (0 : Int32).toNatClampNeg r.2.1.toInt64), rfl, by rw [if_pos e0, e0]; rfl, ⟨by rw [ht]; exact hP, va_K.moved hW.alike hK, hD⟩⟩, hS.F ht⟩) hS.2.2 dL_lamp_16

set_option maxHeartbeats 4000000 in
set_option maxRecDepth 100000 in
theorem mL_level (l : Launch) (lt : l.stackTraces = false) (dC : Nat → ClassId) (dI : Nat → Nat → Nat) (cI cL : ClassId) (ad sa : Nat → Nat) (oa : Nat) (sz : Nat) (u : St) (o : Nat → Int64) (z1 : Int32) (n : Nat) (r : Nat × Int32 × St) (hf0 : FX4_level n z1 u = some r) (h12 : r.1 ≤ 1) : Met l yL_level wsL_level ({ frames := 13, cells := 1, slots := 6, locals := 344 }) (va_Pc [.ref (ad 0), .int z1, .ref oa] (xPre dC dI cI cL sa (cow ad oa cI cL u o) sz)) (va_Qi (fun a t => (a, t) = (nI r.1, r.2.2, if r.1 = 0 then vp_updL o (0 : Int32).toNatClampNeg r.2.1.toInt64 else o)) (fun t => wPost dC dI cI cL (va_A (cow ad oa cI cL u o) sz) (cow ad oa cI cL t.1 t.2)) (va_A (cow ad oa cI cL u o) sz)) 1 6 (va_A (cow ad oa cI cL u o) sz) := by
  refine va_MetW (cc := cL_level) (maxL := 4) (ret := (some .int)) (hh := [(0, 9, 12, 13)]) (by decide) rfl ?_
  intro p e s m args below meth c s₁ B hml hv
  obtain ⟨rfl, ⟨hsz, hP, hK, hD0, hZ⟩, hX, hq⟩ := hv
  have hx := B.exec
  have hb := B.bytes
  have hr := B.returns
  have hts := atoms_spec (ws := wsL_level) B.pre
  have hown : s.vm.findClass RL = some m.cls := findClass_of_methodNamed B.named
  have hlocks := B.notSynchronized
  have htab : c.exceptionTable.toList = tableOf [(0, 9, 12, 13)] := vx_table (x := yL_level) B (hts _ List.mem_cons_self)
  subst hsz
  have hD := hD0.self (sz := s.heap.size)
  generalize hAe : va_A (cow ad oa cI cL u o) s.heap.size = A at hD hq ⊢
  have hA : ∀ q : Nat, s.heap.size ≤ q → A q := fun q h => by rw [← hAe]; exact Or.inr h
  have hS : va_S A s.heap s.heap [] := va_S.rf
  have k_1 := hts (.classLink RL 13 "java/lang/IllegalArgumentException") (by decide +kernel)
  have hl := lv_entry ([.ref (ad 0), .int z1, .ref oa]) (n := 4) (Nat.le_of_ble_eq_true rfl)
  rw [lg_entry_eq]
  generalize (lg_sl ([.ref (ad 0), .int z1, .ref oa]) ++ List.replicate (4 - (lg_sl ([.ref (ad 0), .int z1, .ref oa])).length) Slot.unset).toArray = ls at hl ⊢
  have hl : lv_has ls 4 [(0, .ref (ad 0)), (1, .int z1), (2, .ref oa)] := hl
  refine lv_aload_n hx hb dL_level_0 rfl (lv_at hl 2 rfl) ?_
  refine lv_iconst (v := 0) hx hb dL_level_1 (by decide) ?_
  refine lv_aload_n hx hb dL_level_2 rfl (lv_at hl 0 rfl) ?_
  refine lv_iload_n hx hb dL_level_3 rfl (lv_at hl 1 rfl) ?_
  have hPc := hP.sub (ws' := cw ad cI cL u) [0, 1, 2, 3, 4, 5, 6, 7, 8, 9, 10, 11, 12, 13, 14, 15, 16, 17, 18, 19, 20, 21, 22, 23, 24, 25, 26, 27] rfl
  have hDc := hD.sub (ws' := cw ad cI cL u) [0, 1, 2, 3, 4, 5, 6, 7, 8, 9, 10, 11, 12, 13, 14, 15, 16, 17, 18, 19, 20, 21, 22, 23, 24, 25, 26, 27] (by decide) rfl
  have hFc := va_free (wc := cw ad cI cL u) hD hS hA [0, 1, 2, 3, 4, 5, 6, 7, 8, 9, 10, 11, 12, 13, 14, 15, 16, 17, 18, 19, 20, 21, 22, 23, 24, 25, 26, 27] rfl
  refine vx_calli (vx_runV (As := [.int z1]) (rest := [.int (0 : Int32), .ref oa]) ⟨hx, hb, hml, hown, hts⟩ (mX4_level l lt dC dI cI cL ad sa s.heap.size u z1 n r hf0) (cwV 1 hts gL_level_X4_level rfl rfl rfl (by decide +kernel) ⟨Nat.le_of_ble_eq_true rfl, Nat.le_of_ble_eq_true rfl⟩) ⟨xPre_blind, va_recv hK hPc (ci := 4) (q0 := 0) rfl rfl, xPre_of hPc hK hDc hZ hX hq hS hFc⟩ rfl rfl hl.1 rfl (lv_room (Nat.le_of_ble_eq_true rfl)) dL_level_4 ⟨by decide, by decide⟩) hS (fun q _ h => hFc q h) hFc (fun q _ h => hFc q h) (fun E ce q9 u2 t H1 locs ht hvm hpx hB hz1 hk1 hS hce hcv hcl => ?_) (fun r2 u2 t H1 locs ht hvm hw hB hz1 hk1 hS => ?_)
  · obtain ⟨⟨hB1, hB2⟩, hP1, hK1, hD1⟩ := hB
    rw [ht] at hP1
    have e1 : xcode E = r.1 := congrArg Prod.fst hB1
    have e2 : u2 = r.2.2 := congrArg (fun z => z.2.2) hB1
    subst u2
    obtain ⟨hP, hD⟩ := va_join (wr := [(oa, .inl (cL, 1, .inr (.inl o)))]) (w1 := cw ad cI cL r.2.2) hP hD [0, 1, 2, 3, 4, 5, 6, 7, 8, 9, 10, 11, 12, 13, 14, 15, 16, 17, 18, 19, 20, 21, 22, 23, 24, 25, 26, 27] [28] rfl rfl (by decide) (by decide) hk1 hFc hP1 hD1
    have hP := hP.sub (ws' := cow ad oa cI cL r.2.2 o) [1, 2, 3, 4, 5, 6, 7, 8, 9, 10, 11, 12, 13, 14, 15, 16, 17, 18, 19, 20, 21, 22, 23, 24, 25, 26, 27, 28, 0] rfl
    have hD := hD.sub (ws' := cow ad oa cI cL r.2.2 o) [1, 2, 3, 4, 5, 6, 7, 8, 9, 10, 11, 12, 13, 14, 15, 16, 17, 18, 19, 20, 21, 22, 23, 24, 25, 26, 27, 28, 0] (by decide) rfl
    by_cases hE : E = "java/lang/IllegalArgumentException"
    · subst hE
      refine vx_catch (own := RL) (name := "java/lang/IllegalArgumentException") hown [] ⟨0, 9, 12, 13⟩ [] htab (fun z hz => nomatch hz) (by decide) (by decide) k_1 (va_Nw.use rfl hX.1) hce hcv hcl ?_
      refine lv_astore_n (lv' := [(3, .ref q9), (0, .ref (ad 0)), (1, .int z1), (2, .ref oa)]) hx hb dL_level_12 rfl hl (by decide) rfl (fun ls hl => ?_)
      refine lv_iconst (v := 1) hx hb dL_level_13 (by decide) ?_
      have e9 : r.1 = 1 := e1.symm
      refine W.widen (k := 1) (n := 6) (by decide) (by decide) ?_
      exact W.iret (v := 1) hx hb hr (fun t ht hW => ⟨⟨1, (r.2.2, o), rfl, by rw [if_neg (by omega), e9]; rfl, ⟨by rw [ht]; exact hP, va_K.moved hW.alike hK, hD⟩⟩, hS.F ht⟩) hS.2.2 dL_level_14
    · by_cases hE2 : E = "java/lang/IllegalStateException"
      · subst hE2
        have e9 : r.1 = 2 := e1.symm
        omega
      · exact absurd hB2 (by unfold xcode; rw [if_neg hE, if_neg hE2]; decide)
  obtain ⟨hP1, hK1, hD1⟩ := hB
  rw [ht] at hP1
  have e0 : r.1 = 0 := (congrArg Prod.fst hw).symm
  have e1 : r2 = r.2.1 := congrArg (fun z => z.2.1) hw
  have e2 : u2 = r.2.2 := congrArg (fun z => z.2.2) hw
  subst r2 u2
  obtain ⟨hP, hD⟩ := va_join (wr := [(oa, .inl (cL, 1, .inr (.inl o)))]) (w1 := cw ad cI cL r.2.2) hP hD [0, 1, 2, 3, 4, 5, 6, 7, 8, 9, 10, 11, 12, 13, 14, 15, 16, 17, 18, 19, 20, 21, 22, 23, 24, 25, 26, 27] [28] rfl rfl (by decide) (by decide) hk1 hFc hP1 hD1
  have hP := hP.sub (ws' := cow ad oa cI cL r.2.2 o) [1, 2, 3, 4, 5, 6, 7, 8, 9, 10, 11, 12, 13, 14, 15, 16, 17, 18, 19, 20, 21, 22, 23, 24, 25, 26, 27, 28, 0] rfl
  have hD := hD.sub (ws' := cow ad oa cI cL r.2.2 o) [1, 2, 3, 4, 5, 6, 7, 8, 9, 10, 11, 12, 13, 14, 15, 16, 17, 18, 19, 20, 21, 22, 23, 24, 25, 26, 27, 28, 0] (by decide) rfl
  clear hP1 hD1 hK1 hFc hk1 hPc hDc
  generalize H1 = H at hP hS ⊢
  refine lv_i2l (v := r.2.1.toInt64) hx hb dL_level_7 rfl ?_
  refine va_last (f := o) hx hb hK hP hD hS 28 1 rfl rfl (vp_in_iff.mpr (by decide)) dL_level_8 (fun H locs hP hD hS => ?_)
  have hP : va_P (dC, dI) vwCl (cow ad oa cI cL r.2.2 (vp_updL o (0 : Int32).toNatClampNeg r.2.1.toInt64)) H := hP
  have hD : va_D A (cow ad oa cI cL r.2.2 (vp_updL o (0 : Int32).toNatClampNeg r.2.1.toInt64)) := hD
  refine lv_goto (tgt := 15) hx hb dL_level_9 (by decide) ?_
  refine lv_iconst (v := 0) hx hb dL_level_15 (by decide) ?_
  refine W.widen (k := 1) (n := 6) (by decide) (by decide) ?_
  exact W.iret (v := 0) hx hb hr (fun t ht hW => ⟨⟨0, (r.2.2, vp_updL o (0 : Int32).toNatClampNeg r.2.1.toInt64), rfl, by rw [if_pos e0, e0]; rfl, ⟨by rw [ht]; exact hP, va_K.moved hW.alike hK, hD⟩⟩, hS.F ht⟩) hS.2.2 dL_level_16

set_option maxHeartbeats 4000000 in
set_option maxRecDepth 100000 in
theorem mL_even (l : Launch) (lt : l.stackTraces = false) (dC : Nat → ClassId) (dI : Nat → Nat → Nat) (cI cL : ClassId) (ad sa : Nat → Nat) (oa : Nat) (sz : Nat) (u : St) (o : Nat → Int64) (z1 : Int32) (n : Nat) (r : Nat × Int64 × St) (hf0 : FX4_even n z1 u = some r) (h12 : r.1 ≤ 1) : Met l yL_even wsL_even ({ frames := 13, cells := 1, slots := 6, locals := 344 }) (va_Pc [.ref (ad 0), .int z1, .ref oa] (xPre dC dI cI cL sa (cow ad oa cI cL u o) sz)) (va_Qi (fun a t => (a, t) = (nI r.1, r.2.2, if r.1 = 0 then vp_updL o (0 : Int32).toNatClampNeg r.2.1 else o)) (fun t => wPost dC dI cI cL (va_A (cow ad oa cI cL u o) sz) (cow ad oa cI cL t.1 t.2)) (va_A (cow ad oa cI cL u o) sz)) 1 6 (va_A (cow ad oa cI cL u o) sz) := by
  refine va_MetW (cc := cL_even) (maxL := 4) (ret := (some .int)) (hh := [(0, 8, 11, 13)]) (by decide) rfl ?_
  intro p e s m args below meth c s₁ B hml hv
  obtain ⟨rfl, ⟨hsz, hP, hK, hD0, hZ⟩, hX, hq⟩ := hv
  have hx := B.exec
  have hb := B.bytes
  have hr := B.returns
  have hts := atoms_spec (ws := wsL_even) B.pre
  have hown : s.vm.findClass RL = some m.cls := findClass_of_methodNamed B.named
  have hlocks := B.notSynchronized
  have htab : c.exceptionTable.toList = tableOf [(0, 8, 11, 13)] := vx_table (x := yL_even) B (hts _ List.mem_cons_self)
  subst hsz
  have hD := hD0.self (sz := s.heap.size)
  generalize hAe : va_A (cow ad oa cI cL u o) s.heap.size = A at hD hq ⊢
  have hA : ∀ q : Nat, s.heap.size ≤ q → A q := fun q h => by rw [← hAe]; exact Or.inr h
  have hS : va_S A s.heap s.heap [] := va_S.rf
  have k_1 := hts (.classLink RL 13 "java/lang/IllegalArgumentException") (by decide +kernel)
  have hl := lv_entry ([.ref (ad 0), .int z1, .ref oa]) (n := 4) (Nat.le_of_ble_eq_true rfl)
  rw [lg_entry_eq]
  generalize (lg_sl ([.ref (ad 0), .int z1, .ref oa]) ++ List.replicate (4 - (lg_sl ([.ref (ad 0), .int z1, .ref oa])).length) Slot.unset).toArray = ls at hl ⊢
  have hl : lv_has ls 4 [(0, .ref (ad 0)), (1, .int z1), (2, .ref oa)] := hl
  refine lv_aload_n hx hb dL_even_0 rfl (lv_at hl 2 rfl) ?_
  refine lv_iconst (v := 0) hx hb dL_even_1 (by decide) ?_
  refine lv_aload_n hx hb dL_even_2 rfl (lv_at hl 0 rfl) ?_
  refine lv_iload_n hx hb dL_even_3 rfl (lv_at hl 1 rfl) ?_
  have hPc := hP.sub (ws' := cw ad cI cL u) [0, 1, 2, 3, 4, 5, 6, 7, 8, 9, 10, 11, 12, 13, 14, 15, 16, 17, 18, 19, 20, 21, 22, 23, 24, 25, 26, 27] rfl
  have hDc := hD.sub (ws' := cw ad cI cL u) [0, 1, 2, 3, 4, 5, 6, 7, 8, 9, 10, 11, 12, 13, 14, 15, 16, 17, 18, 19, 20, 21, 22, 23, 24, 25, 26, 27] (by decide) rfl
  have hFc := va_free (wc := cw ad cI cL u) hD hS hA [0, 1, 2, 3, 4, 5, 6, 7, 8, 9, 10, 11, 12, 13, 14, 15, 16, 17, 18, 19, 20, 21, 22, 23, 24, 25, 26, 27] rfl
  refine vx_calll (vx_runV (As := [.int z1]) (rest := [.int (0 : Int32), .ref oa]) ⟨hx, hb, hml, hown, hts⟩ (mX4_even l lt dC dI cI cL ad sa s.heap.size u z1 n r hf0) (cwV 1 hts gL_even_X4_even rfl rfl rfl (by decide +kernel) ⟨Nat.le_of_ble_eq_true rfl, Nat.le_of_ble_eq_true rfl⟩) ⟨xPre_blind, va_recv hK hPc (ci := 4) (q0 := 0) rfl rfl, xPre_of hPc hK hDc hZ hX hq hS hFc⟩ rfl rfl hl.1 rfl (lv_room (Nat.le_of_ble_eq_true rfl)) dL_even_4 ⟨by decide, by decide⟩) hS (fun q _ h => hFc q h) hFc (fun q _ h => hFc q h) (fun E ce q9 u2 t H1 locs ht hvm hpx hB hz1 hk1 hS hce hcv hcl => ?_) (fun r2 u2 t H1 locs ht hvm hw hB hz1 hk1 hS => ?_)
  · obtain ⟨⟨hB1, hB2⟩, hP1, hK1, hD1⟩ := hB
    rw [ht] at hP1
    have e1 : xcode E = r.1 := congrArg Prod.fst hB1
    have e2 : u2 = r.2.2 := congrArg (fun z => z.2.2) hB1
    subst u2
    obtain ⟨hP, hD⟩ := va_join (wr := [(oa, .inl (cL, 1, .inr (.inl o)))]) (w1 := cw ad cI cL r.2.2) hP hD [0, 1, 2, 3, 4, 5, 6, 7, 8, 9, 10, 11, 12, 13, 14, 15, 16, 17, 18, 19, 20, 21, 22, 23, 24, 25, 26, 27] [28] rfl rfl (by decide) (by decide) hk1 hFc hP1 hD1
    have hP := hP.sub (ws' := cow ad oa cI cL r.2.2 o) [1, 2, 3, 4, 5, 6, 7, 8, 9, 10, 11, 12, 13, 14, 15, 16, 17, 18, 19, 20, 21, 22, 23, 24, 25, 26, 27, 28, 0] rfl
    have hD := hD.sub (ws' := cow ad oa cI cL r.2.2 o) [1, 2, 3, 4, 5, 6, 7, 8, 9, 10, 11, 12, 13, 14, 15, 16, 17, 18, 19, 20, 21, 22, 23, 24, 25, 26, 27, 28, 0] (by decide) rfl
    by_cases hE : E = "java/lang/IllegalArgumentException"
    · subst hE
      refine vx_catch (own := RL) (name := "java/lang/IllegalArgumentException") hown [] ⟨0, 8, 11, 13⟩ [] htab (fun z hz => nomatch hz) (by decide) (by decide) k_1 (va_Nw.use rfl hX.1) hce hcv hcl ?_
      refine lv_astore_n (lv' := [(3, .ref q9), (0, .ref (ad 0)), (1, .int z1), (2, .ref oa)]) hx hb dL_even_11 rfl hl (by decide) rfl (fun ls hl => ?_)
      refine lv_iconst (v := 1) hx hb dL_even_12 (by decide) ?_
      have e9 : r.1 = 1 := e1.symm
      refine W.widen (k := 1) (n := 6) (by decide) (by decide) ?_
      exact W.iret (v := 1) hx hb hr (fun t ht hW => ⟨⟨1, (r.2.2, o), rfl, by rw [if_neg (by omega), e9]; rfl, ⟨by rw [ht]; exact hP, va_K.moved hW.alike hK, hD⟩⟩, hS.F ht⟩) hS.2.2 dL_even_13
    · by_cases hE2 : E = "java/lang/IllegalStateException"
      · subst hE2
        have e9 : r.1 = 2 := e1.symm
        omega
      · exact absurd hB2 (by unfold xcode; rw [if_neg hE, if_neg hE2]; decide)
  obtain ⟨hP1, hK1, hD1⟩ := hB
  rw [ht] at hP1
  have e0 : r.1 = 0 := (congrArg Prod.fst hw).symm
  have e1 : r2 = r.2.1 := congrArg (fun z => z.2.1) hw
  have e2 : u2 = r.2.2 := congrArg (fun z => z.2.2) hw
  subst r2 u2
  obtain ⟨hP, hD⟩ := va_join (wr := [(oa, .inl (cL, 1, .inr (.inl o)))]) (w1 := cw ad cI cL r.2.2) hP hD [0, 1, 2, 3, 4, 5, 6, 7, 8, 9, 10, 11, 12, 13, 14, 15, 16, 17, 18, 19, 20, 21, 22, 23, 24, 25, 26, 27] [28] rfl rfl (by decide) (by decide) hk1 hFc hP1 hD1
  have hP := hP.sub (ws' := cow ad oa cI cL r.2.2 o) [1, 2, 3, 4, 5, 6, 7, 8, 9, 10, 11, 12, 13, 14, 15, 16, 17, 18, 19, 20, 21, 22, 23, 24, 25, 26, 27, 28, 0] rfl
  have hD := hD.sub (ws' := cow ad oa cI cL r.2.2 o) [1, 2, 3, 4, 5, 6, 7, 8, 9, 10, 11, 12, 13, 14, 15, 16, 17, 18, 19, 20, 21, 22, 23, 24, 25, 26, 27, 28, 0] (by decide) rfl
  clear hP1 hD1 hK1 hFc hk1 hPc hDc
  generalize H1 = H at hP hS ⊢
  refine va_last (f := o) hx hb hK hP hD hS 28 1 rfl rfl (vp_in_iff.mpr (by decide)) dL_even_7 (fun H locs hP hD hS => ?_)
  have hP : va_P (dC, dI) vwCl (cow ad oa cI cL r.2.2 (vp_updL o (0 : Int32).toNatClampNeg r.2.1)) H := hP
  have hD : va_D A (cow ad oa cI cL r.2.2 (vp_updL o (0 : Int32).toNatClampNeg r.2.1)) := hD
  refine lv_goto (tgt := 14) hx hb dL_even_8 (by decide) ?_
  refine lv_iconst (v := 0) hx hb dL_even_14 (by decide) ?_
  refine W.widen (k := 1) (n := 6) (by decide) (by decide) ?_
  exact W.iret (v := 0) hx hb hr (fun t ht hW => ⟨⟨0, (r.2.2, vp_updL o (0 : Int32).toNatClampNeg r.2.1), rfl, by rw [if_pos e0, e0]; rfl, ⟨by rw [ht]; exact hP, va_K.moved hW.alike hK, hD⟩⟩, hS.F ht⟩) hS.2.2 dL_even_15

set_option maxHeartbeats 4000000 in
set_option maxRecDepth 100000 in
theorem mL_aim (l : Launch) (lt : l.stackTraces = false) (dC : Nat → ClassId) (dI : Nat → Nat → Nat) (cI cL : ClassId) (ad sa : Nat → Nat) (oa : Nat) (sz : Nat) (u : St) (o : Nat → Int64) (z1 : Int32) (z2 : Int32) (n : Nat) (r : Nat × Int32 × St) (hf0 : FX4_aim n z1 z2 u = some r) (h12 : r.1 ≤ 1) : Met l yL_aim wsL_aim ({ frames := 10, cells := 2, slots := 12, locals := 155 }) (va_Pc [.ref (ad 0), .int z1, .int z2, .ref oa] (xPre dC dI cI cL sa (cow ad oa cI cL u o) sz)) (va_Qi (fun a t => (a, t) = (nI r.1, r.2.2, if r.1 = 0 then vp_updL o (0 : Int32).toNatClampNeg r.2.1.toInt64 else o)) (fun t => wPost dC dI cI cL (va_A (cow ad oa cI cL u o) sz) (cow ad oa cI cL t.1 t.2)) (va_A (cow ad oa cI cL u o) sz)) 2 12 (va_A (cow ad oa cI cL u o) sz) := by
  refine va_MetW (cc := cL_aim) (maxL := 5) (ret := (some .int)) (hh := [(0, 10, 13, 13)]) (by decide) rfl ?_
  intro p e s m args below meth c s₁ B hml hv
  obtain ⟨rfl, ⟨hsz, hP, hK, hD0, hZ⟩, hX, hq⟩ := hv
  have hx := B.exec
  have hb := B.bytes
  have hr := B.returns
  have hts := atoms_spec (ws := wsL_aim) B.pre
  have hown : s.vm.findClass RL = some m.cls := findClass_of_methodNamed B.named
  have hlocks := B.notSynchronized
  have htab : c.exceptionTable.toList = tableOf [(0, 10, 13, 13)] := vx_table (x := yL_aim) B (hts _ List.mem_cons_self)
  subst hsz
  have hD := hD0.self (sz := s.heap.size)
  generalize hAe : va_A (cow ad oa cI cL u o) s.heap.size = A at hD hq ⊢
  have hA : ∀ q : Nat, s.heap.size ≤ q → A q := fun q h => by rw [← hAe]; exact Or.inr h
  have hS : va_S A s.heap s.heap [] := va_S.rf
  have k_1 := hts (.classLink RL 13 "java/lang/IllegalArgumentException") (by decide +kernel)
  have hl := lv_entry ([.ref (ad 0), .int z1, .int z2, .ref oa]) (n := 5) (Nat.le_of_ble_eq_true rfl)
  rw [lg_entry_eq]
  generalize (lg_sl ([.ref (ad 0), .int z1, .int z2, .ref oa]) ++ List.replicate (5 - (lg_sl ([.ref (ad 0), .int z1, .int z2, .ref oa])).length) Slot.unset).toArray = ls at hl ⊢
  have hl : lv_has ls 5 [(0, .ref (ad 0)), (1, .int z1), (2, .int z2), (3, .ref oa)] := hl
  refine lv_aload_n hx hb dL_aim_0 rfl (lv_at hl 3 rfl) ?_
  refine lv_iconst (v := 0) hx hb dL_aim_1 (by decide) ?_
  refine lv_aload_n hx hb dL_aim_2 rfl (lv_at hl 0 rfl) ?_
  refine lv_iload_n hx hb dL_aim_3 rfl (lv_at hl 1 rfl) ?_
  refine lv_iload_n hx hb dL_aim_4 rfl (lv_at hl 2 rfl) ?_
  have hPc := hP.sub (ws' := cw ad cI cL u) [0, 1, 2, 3, 4, 5, 6, 7, 8, 9, 10, 11, 12, 13, 14, 15, 16, 17, 18, 19, 20, 21, 22, 23, 24, 25, 26, 27] rfl
  have hDc := hD.sub (ws' := cw ad cI cL u) [0, 1, 2, 3, 4, 5, 6, 7, 8, 9, 10, 11, 12, 13, 14, 15, 16, 17, 18, 19, 20, 21, 22, 23, 24, 25, 26, 27] (by decide) rfl
  have hFc := va_free (wc := cw ad cI cL u) hD hS hA [0, 1, 2, 3, 4, 5, 6, 7, 8, 9, 10, 11, 12, 13, 14, 15, 16, 17, 18, 19, 20, 21, 22, 23, 24, 25, 26, 27] rfl
  refine vx_calli (vx_runV (As := [.int z1, .int z2]) (rest := [.int (0 : Int32), .ref oa]) ⟨hx, hb, hml, hown, hts⟩ (mX4_aim l lt dC dI cI cL ad sa s.heap.size u z1 z2 n r hf0) (cwV 2 hts gL_aim_X4_aim rfl rfl rfl (by decide +kernel) ⟨Nat.le_of_ble_eq_true rfl, Nat.le_of_ble_eq_true rfl⟩) ⟨xPre_blind, va_recv hK hPc (ci := 4) (q0 := 0) rfl rfl, xPre_of hPc hK hDc hZ hX hq hS hFc⟩ rfl rfl hl.1 rfl (lv_room (Nat.le_of_ble_eq_true rfl)) dL_aim_5 ⟨by decide, by decide⟩) hS (fun q _ h => hFc q h) hFc (fun q _ h => hFc q h) (fun E ce q9 u2 t H1 locs ht hvm hpx hB hz1 hk1 hS hce hcv hcl => ?_) (fun r2 u2 t H1 locs ht hvm hw hB hz1 hk1 hS => ?_)
  · obtain ⟨⟨hB1, hB2⟩, hP1, hK1, hD1⟩ := hB
    rw [ht] at hP1
    have e1 : xcode E = r.1 := congrArg Prod.fst hB1
    have e2 : u2 = r.2.2 := congrArg (fun z => z.2.2) hB1
    subst u2
    obtain ⟨hP, hD⟩ := va_join (wr := [(oa, .inl (cL, 1, .inr (.inl o)))]) (w1 := cw ad cI cL r.2.2) hP hD [0, 1, 2, 3, 4, 5, 6, 7, 8, 9, 10, 11, 12, 13, 14, 15, 16, 17, 18, 19, 20, 21, 22, 23, 24, 25, 26, 27] [28] rfl rfl (by decide) (by decide) hk1 hFc hP1 hD1
    have hP := hP.sub (ws' := cow ad oa cI cL r.2.2 o) [1, 2, 3, 4, 5, 6, 7, 8, 9, 10, 11, 12, 13, 14, 15, 16, 17, 18, 19, 20, 21, 22, 23, 24, 25, 26, 27, 28, 0] rfl
    have hD := hD.sub (ws' := cow ad oa cI cL r.2.2 o) [1, 2, 3, 4, 5, 6, 7, 8, 9, 10, 11, 12, 13, 14, 15, 16, 17, 18, 19, 20, 21, 22, 23, 24, 25, 26, 27, 28, 0] (by decide) rfl
    by_cases hE : E = "java/lang/IllegalArgumentException"
    · subst hE
      refine vx_catch (own := RL) (name := "java/lang/IllegalArgumentException") hown [] ⟨0, 10, 13, 13⟩ [] htab (fun z hz => nomatch hz) (by decide) (by decide) k_1 (va_Nw.use rfl hX.1) hce hcv hcl ?_
      refine lv_astore (lv' := [(4, .ref q9), (0, .ref (ad 0)), (1, .int z1), (2, .int z2), (3, .ref oa)]) hx hb dL_aim_13 hl (by decide) rfl (fun ls hl => ?_)
      refine lv_iconst (v := 1) hx hb dL_aim_15 (by decide) ?_
      have e9 : r.1 = 1 := e1.symm
      refine W.widen (k := 2) (n := 12) (by decide) (by decide) ?_
      exact W.iret (v := 1) hx hb hr (fun t ht hW => ⟨⟨1, (r.2.2, o), rfl, by rw [if_neg (by omega), e9]; rfl, ⟨by rw [ht]; exact hP, va_K.moved hW.alike hK, hD⟩⟩, hS.F ht⟩) hS.2.2 dL_aim_16
    · by_cases hE2 : E = "java/lang/IllegalStateException"
      · subst hE2
        have e9 : r.1 = 2 := e1.symm
        omega
      · exact absurd hB2 (by unfold xcode; rw [if_neg hE, if_neg hE2]; decide)
  obtain ⟨hP1, hK1, hD1⟩ := hB
  rw [ht] at hP1
  have e0 : r.1 = 0 := (congrArg Prod.fst hw).symm
  have e1 : r2 = r.2.1 := congrArg (fun z => z.2.1) hw
  have e2 : u2 = r.2.2 := congrArg (fun z => z.2.2) hw
  subst r2 u2
  obtain ⟨hP, hD⟩ := va_join (wr := [(oa, .inl (cL, 1, .inr (.inl o)))]) (w1 := cw ad cI cL r.2.2) hP hD [0, 1, 2, 3, 4, 5, 6, 7, 8, 9, 10, 11, 12, 13, 14, 15, 16, 17, 18, 19, 20, 21, 22, 23, 24, 25, 26, 27] [28] rfl rfl (by decide) (by decide) hk1 hFc hP1 hD1
  have hP := hP.sub (ws' := cow ad oa cI cL r.2.2 o) [1, 2, 3, 4, 5, 6, 7, 8, 9, 10, 11, 12, 13, 14, 15, 16, 17, 18, 19, 20, 21, 22, 23, 24, 25, 26, 27, 28, 0] rfl
  have hD := hD.sub (ws' := cow ad oa cI cL r.2.2 o) [1, 2, 3, 4, 5, 6, 7, 8, 9, 10, 11, 12, 13, 14, 15, 16, 17, 18, 19, 20, 21, 22, 23, 24, 25, 26, 27, 28, 0] (by decide) rfl
  clear hP1 hD1 hK1 hFc hk1 hPc hDc
  generalize H1 = H at hP hS ⊢
  refine lv_i2l (v := r.2.1.toInt64) hx hb dL_aim_8 rfl ?_
  refine va_last (f := o) hx hb hK hP hD hS 28 1 rfl rfl (vp_in_iff.mpr (by decide)) dL_aim_9 (fun H locs hP hD hS => ?_)
  have hP : va_P (dC, dI) vwCl (cow ad oa cI cL r.2.2 (vp_updL o (0 : Int32).toNatClampNeg r.2.1.toInt64)) H := hP
  have hD : va_D A (cow ad oa cI cL r.2.2 (vp_updL o (0 : Int32).toNatClampNeg r.2.1.toInt64)) := hD
  refine lv_goto (tgt := 17) hx hb dL_aim_10 (by decide) ?_
  refine lv_iconst (v := 0) hx hb dL_aim_17 (by decide) ?_
  refine W.widen (k := 2) (n := 12) (by decide) (by decide) ?_
  exact W.iret (v := 0) hx hb hr (fun t ht hW => ⟨⟨0, (r.2.2, vp_updL o (0 : Int32).toNatClampNeg r.2.1.toInt64), rfl, by rw [if_pos e0, e0]; rfl, ⟨by rw [ht]; exact hP, va_K.moved hW.alike hK, hD⟩⟩, hS.F ht⟩) hS.2.2 dL_aim_18

set_option maxHeartbeats 4000000 in
set_option maxRecDepth 100000 in
theorem mL_dim (l : Launch) (lt : l.stackTraces = false) (dC : Nat → ClassId) (dI : Nat → Nat → Nat) (cI cL : ClassId) (ad sa : Nat → Nat) (oa : Nat) (sz : Nat) (u : St) (o : Nat → Int64) (z1 : Int32) (n : Nat) (r : Nat × Int32 × St) (hf0 : FX4_dim n z1 u = some r) (h12 : r.1 ≤ 1) : Met l yL_dim wsL_dim ({ frames := 14, cells := 1, slots := 6, locals := 364 }) (va_Pc [.ref (ad 0), .int z1, .ref oa] (xPre dC dI cI cL sa (cow ad oa cI cL u o) sz)) (va_Qi (fun a t => (a, t) = (nI r.1, r.2.2, if r.1 = 0 then vp_updL o (0 : Int32).toNatClampNeg r.2.1.toInt64 else o)) (fun t => wPost dC dI cI cL (va_A (cow ad oa cI cL u o) sz) (cow ad oa cI cL t.1 t.2)) (va_A (cow ad oa cI cL u o) sz)) 1 6 (va_A (cow ad oa cI cL u o) sz) := by
  refine va_MetW (cc := cL_dim) (maxL := 4) (ret := (some .int)) (hh := [(0, 9, 12, 13)]) (by decide) rfl ?_
  intro p e s m args below meth c s₁ B hml hv
  obtain ⟨rfl, ⟨hsz, hP, hK, hD0, hZ⟩, hX, hq⟩ := hv
  have hx := B.exec
  have hb := B.bytes
  have hr := B.returns
  have hts := atoms_spec (ws := wsL_dim) B.pre
  have hown : s.vm.findClass RL = some m.cls := findClass_of_methodNamed B.named
  have hlocks := B.notSynchronized
  have htab : c.exceptionTable.toList = tableOf [(0, 9, 12, 13)] := vx_table (x := yL_dim) B (hts _ List.mem_cons_self)
  subst hsz
  have hD := hD0.self (sz := s.heap.size)
  generalize hAe : va_A (cow ad oa cI cL u o) s.heap.size = A at hD hq ⊢
  have hA : ∀ q : Nat, s.heap.size ≤ q → A q := fun q h => by rw [← hAe]; exact Or.inr h
  have hS : va_S A s.heap s.heap [] := va_S.rf
  have k_1 := hts (.classLink RL 13 "java/lang/IllegalArgumentException") (by decide +kernel)
  have hl := lv_entry ([.ref (ad 0), .int z1, .ref oa]) (n := 4) (Nat.le_of_ble_eq_true rfl)
  rw [lg_entry_eq]
  generalize (lg_sl ([.ref (ad 0), .int z1, .ref oa]) ++ List.replicate (4 - (lg_sl ([.ref (ad 0), .int z1, .ref oa])).length) Slot.unset).toArray = ls at hl ⊢
  have hl : lv_has ls 4 [(0, .ref (ad 0)), (1, .int z1), (2, .ref oa)] := hl
  refine lv_aload_n hx hb dL_dim_0 rfl (lv_at hl 2 rfl) ?_
  refine lv_iconst (v := 0) hx hb dL_dim_1 (by decide) ?_
  refine lv_aload_n hx hb dL_dim_2 rfl (lv_at hl 0 rfl) ?_
  refine lv_iload_n hx hb dL_dim_3 rfl (lv_at hl 1 rfl) ?_
  have hPc := hP.sub (ws' := cw ad cI cL u) [0, 1, 2, 3, 4, 5, 6, 7, 8, 9, 10, 11, 12, 13, 14, 15, 16, 17, 18, 19, 20, 21, 22, 23, 24, 25, 26, 27] rfl
  have hDc := hD.sub (ws' := cw ad cI cL u) [0, 1, 2, 3, 4, 5, 6, 7, 8, 9, 10, 11, 12, 13, 14, 15, 16, 17, 18, 19, 20, 21, 22, 23, 24, 25, 26, 27] (by decide) rfl
  have hFc := va_free (wc := cw ad cI cL u) hD hS hA [0, 1, 2, 3, 4, 5, 6, 7, 8, 9, 10, 11, 12, 13, 14, 15, 16, 17, 18, 19, 20, 21, 22, 23, 24, 25, 26, 27] rfl
  refine vx_calli (vx_runV (As := [.int z1]) (rest := [.int (0 : Int32), .ref oa]) ⟨hx, hb, hml, hown, hts⟩ (mX4_dim l lt dC dI cI cL ad sa s.heap.size u z1 n r hf0) (cwV 1 hts gL_dim_X4_dim rfl rfl rfl (by decide +kernel) ⟨Nat.le_of_ble_eq_true rfl, Nat.le_of_ble_eq_true rfl⟩) ⟨xPre_blind, va_recv hK hPc (ci := 4) (q0 := 0) rfl rfl, xPre_of hPc hK hDc hZ hX hq hS hFc⟩ rfl rfl hl.1 rfl (lv_room (Nat.le_of_ble_eq_true rfl)) dL_dim_4 ⟨by decide, by decide⟩) hS (fun q _ h => hFc q h) hFc (fun q _ h => hFc q h) (fun E ce q9 u2 t H1 locs ht hvm hpx hB hz1 hk1 hS hce hcv hcl => ?_) (fun r2 u2 t H1 locs ht hvm hw hB hz1 hk1 hS => ?_)
  · obtain ⟨⟨hB1, hB2⟩, hP1, hK1, hD1⟩ := hB
    rw [ht] at hP1
    have e1 : xcode E = r.1 := congrArg Prod.fst hB1
    have e2 : u2 = r.2.2 := congrArg (fun z => z.2.2) hB1
    subst u2
    obtain ⟨hP, hD⟩ := va_join (wr := [(oa, .inl (cL, 1, .inr (.inl o)))]) (w1 := cw ad cI cL r.2.2) hP hD [0, 1, 2, 3, 4, 5, 6, 7, 8, 9, 10, 11, 12, 13, 14, 15, 16, 17, 18, 19, 20, 21, 22, 23, 24, 25, 26, 27] [28] rfl rfl (by decide) (by decide) hk1 hFc hP1 hD1
    have hP := hP.sub (ws' := cow ad oa cI cL r.2.2 o) [1, 2, 3, 4, 5, 6, 7, 8, 9, 10, 11, 12, 13, 14, 15, 16, 17, 18, 19, 20, 21, 22, 23, 24, 25, 26, 27, 28, 0] rfl
    have hD := hD.sub (ws' := cow ad oa cI cL r.2.2 o) [1, 2, 3, 4, 5, 6, 7, 8, 9, 10, 11, 12, 13, 14, 15, 16, 17, 18, 19, 20, 21, 22, 23, 24, 25, 26, 27, 28, 0] (by decide) rfl
    by_cases hE : E = "java/lang/IllegalArgumentException"
    · subst hE
      refine vx_catch (own := RL) (name := "java/lang/IllegalArgumentException") hown [] ⟨0, 9, 12, 13⟩ [] htab (fun z hz => nomatch hz) (by decide) (by decide) k_1 (va_Nw.use rfl hX.1) hce hcv hcl ?_
      refine lv_astore_n (lv' := [(3, .ref q9), (0, .ref (ad 0)), (1, .int z1), (2, .ref oa)]) hx hb dL_dim_12 rfl hl (by decide) rfl (fun ls hl => ?_)
      refine lv_iconst (v := 1) hx hb dL_dim_13 (by decide) ?_
      have e9 : r.1 = 1 := e1.symm
      refine W.widen (k := 1) (n := 6) (by decide) (by decide) ?_
      exact W.iret (v := 1) hx hb hr (fun t ht hW => ⟨⟨1, (r.2.2, o), rfl, by rw [if_neg (by omega), e9]; rfl, ⟨by rw [ht]; exact hP, va_K.moved hW.alike hK, hD⟩⟩, hS.F ht⟩) hS.2.2 dL_dim_14
    · by_cases hE2 : E = "java/lang/IllegalStateException"
      · subst hE2
        have e9 : r.1 = 2 := e1.symm
        omega
      · exact absurd hB2 (by unfold xcode; rw [if_neg hE, if_neg hE2]; decide)
  obtain ⟨hP1, hK1, hD1⟩ := hB
  rw [ht] at hP1
  have e0 : r.1 = 0 := (congrArg Prod.fst hw).symm
  have e1 : r2 = r.2.1 := congrArg (fun z => z.2.1) hw
  have e2 : u2 = r.2.2 := congrArg (fun z => z.2.2) hw
  subst r2 u2
  obtain ⟨hP, hD⟩ := va_join (wr := [(oa, .inl (cL, 1, .inr (.inl o)))]) (w1 := cw ad cI cL r.2.2) hP hD [0, 1, 2, 3, 4, 5, 6, 7, 8, 9, 10, 11, 12, 13, 14, 15, 16, 17, 18, 19, 20, 21, 22, 23, 24, 25, 26, 27] [28] rfl rfl (by decide) (by decide) hk1 hFc hP1 hD1
  have hP := hP.sub (ws' := cow ad oa cI cL r.2.2 o) [1, 2, 3, 4, 5, 6, 7, 8, 9, 10, 11, 12, 13, 14, 15, 16, 17, 18, 19, 20, 21, 22, 23, 24, 25, 26, 27, 28, 0] rfl
  have hD := hD.sub (ws' := cow ad oa cI cL r.2.2 o) [1, 2, 3, 4, 5, 6, 7, 8, 9, 10, 11, 12, 13, 14, 15, 16, 17, 18, 19, 20, 21, 22, 23, 24, 25, 26, 27, 28, 0] (by decide) rfl
  clear hP1 hD1 hK1 hFc hk1 hPc hDc
  generalize H1 = H at hP hS ⊢
  refine lv_i2l (v := r.2.1.toInt64) hx hb dL_dim_7 rfl ?_
  refine va_last (f := o) hx hb hK hP hD hS 28 1 rfl rfl (vp_in_iff.mpr (by decide)) dL_dim_8 (fun H locs hP hD hS => ?_)
  have hP : va_P (dC, dI) vwCl (cow ad oa cI cL r.2.2 (vp_updL o (0 : Int32).toNatClampNeg r.2.1.toInt64)) H := hP
  have hD : va_D A (cow ad oa cI cL r.2.2 (vp_updL o (0 : Int32).toNatClampNeg r.2.1.toInt64)) := hD
  refine lv_goto (tgt := 15) hx hb dL_dim_9 (by decide) ?_
  refine lv_iconst (v := 0) hx hb dL_dim_15 (by decide) ?_
  refine W.widen (k := 1) (n := 6) (by decide) (by decide) ?_
  exact W.iret (v := 0) hx hb hr (fun t ht hW => ⟨⟨0, (r.2.2, vp_updL o (0 : Int32).toNatClampNeg r.2.1.toInt64), rfl, by rw [if_pos e0, e0]; rfl, ⟨by rw [ht]; exact hP, va_K.moved hW.alike hK, hD⟩⟩, hS.F ht⟩) hS.2.2 dL_dim_16

set_option maxHeartbeats 4000000 in
set_option maxRecDepth 100000 in
theorem mL_miss (l : Launch) (lt : l.stackTraces = false) (dC : Nat → ClassId) (dI : Nat → Nat → Nat) (cI cL : ClassId) (ad sa : Nat → Nat) (oa : Nat) (sz : Nat) (u : St) (o : Nat → Int64) (z1 : Int32) (n : Nat) (r : Nat × Int64 × St) (hf0 : FX4_miss n z1 u = some r) (h12 : r.1 ≤ 1) : Met l yL_miss wsL_miss ({ frames := 14, cells := 1, slots := 6, locals := 364 }) (va_Pc [.ref (ad 0), .int z1, .ref oa] (xPre dC dI cI cL sa (cow ad oa cI cL u o) sz)) (va_Qi (fun a t => (a, t) = (nI r.1, r.2.2, if r.1 = 0 then vp_updL o (0 : Int32).toNatClampNeg r.2.1 else o)) (fun t => wPost dC dI cI cL (va_A (cow ad oa cI cL u o) sz) (cow ad oa cI cL t.1 t.2)) (va_A (cow ad oa cI cL u o) sz)) 1 6 (va_A (cow ad oa cI cL u o) sz) := by
  refine va_MetW (cc := cL_miss) (maxL := 4) (ret := (some .int)) (hh := [(0, 8, 11, 13)]) (by decide) rfl ?_
  intro p e s m args below meth c s₁ B hml hv
  obtain ⟨rfl, ⟨hsz, hP, hK, hD0, hZ⟩, hX, hq⟩ := hv
  have hx := B.exec
  have hb := B.bytes
  have hr := B.returns
  have hts := atoms_spec (ws := wsL_miss) B.pre
  have hown : s.vm.findClass RL = some m.cls := findClass_of_methodNamed B.named
  have hlocks := B.notSynchronized
  have htab : c.exceptionTable.toList = tableOf [(0, 8, 11, 13)] := vx_table (x := yL_miss) B (hts _ List.mem_cons_self)
  subst hsz
  have hD := hD0.self (sz := s.heap.size)
  generalize hAe : va_A (cow ad oa cI cL u o) s.heap.size = A at hD hq ⊢
  have hA : ∀ q : Nat, s.heap.size ≤ q → A q := fun q h => by rw [← hAe]; exact Or.inr h
  have hS : va_S A s.heap s.heap [] := va_S.rf
  have k_1 := hts (.classLink RL 13 "java/lang/IllegalArgumentException") (by decide +kernel)
  have hl := lv_entry ([.ref (ad 0), .int z1, .ref oa]) (n := 4) (Nat.le_of_ble_eq_true rfl)
  rw [lg_entry_eq]
  generalize (lg_sl ([.ref (ad 0), .int z1, .ref oa]) ++ List.replicate (4 - (lg_sl ([.ref (ad 0), .int z1, .ref oa])).length) Slot.unset).toArray = ls at hl ⊢
  have hl : lv_has ls 4 [(0, .ref (ad 0)), (1, .int z1), (2, .ref oa)] := hl
  refine lv_aload_n hx hb dL_miss_0 rfl (lv_at hl 2 rfl) ?_
  refine lv_iconst (v := 0) hx hb dL_miss_1 (by decide) ?_
  refine lv_aload_n hx hb dL_miss_2 rfl (lv_at hl 0 rfl) ?_
  refine lv_iload_n hx hb dL_miss_3 rfl (lv_at hl 1 rfl) ?_
  have hPc := hP.sub (ws' := cw ad cI cL u) [0, 1, 2, 3, 4, 5, 6, 7, 8, 9, 10, 11, 12, 13, 14, 15, 16, 17, 18, 19, 20, 21, 22, 23, 24, 25, 26, 27] rfl
  have hDc := hD.sub (ws' := cw ad cI cL u) [0, 1, 2, 3, 4, 5, 6, 7, 8, 9, 10, 11, 12, 13, 14, 15, 16, 17, 18, 19, 20, 21, 22, 23, 24, 25, 26, 27] (by decide) rfl
  have hFc := va_free (wc := cw ad cI cL u) hD hS hA [0, 1, 2, 3, 4, 5, 6, 7, 8, 9, 10, 11, 12, 13, 14, 15, 16, 17, 18, 19, 20, 21, 22, 23, 24, 25, 26, 27] rfl
  refine vx_calll (vx_runV (As := [.int z1]) (rest := [.int (0 : Int32), .ref oa]) ⟨hx, hb, hml, hown, hts⟩ (mX4_miss l lt dC dI cI cL ad sa s.heap.size u z1 n r hf0) (cwV 1 hts gL_miss_X4_miss rfl rfl rfl (by decide +kernel) ⟨Nat.le_of_ble_eq_true rfl, Nat.le_of_ble_eq_true rfl⟩) ⟨xPre_blind, va_recv hK hPc (ci := 4) (q0 := 0) rfl rfl, xPre_of hPc hK hDc hZ hX hq hS hFc⟩ rfl rfl hl.1 rfl (lv_room (Nat.le_of_ble_eq_true rfl)) dL_miss_4 ⟨by decide, by decide⟩) hS (fun q _ h => hFc q h) hFc (fun q _ h => hFc q h) (fun E ce q9 u2 t H1 locs ht hvm hpx hB hz1 hk1 hS hce hcv hcl => ?_) (fun r2 u2 t H1 locs ht hvm hw hB hz1 hk1 hS => ?_)
  · obtain ⟨⟨hB1, hB2⟩, hP1, hK1, hD1⟩ := hB
    rw [ht] at hP1
    have e1 : xcode E = r.1 := congrArg Prod.fst hB1
    have e2 : u2 = r.2.2 := congrArg (fun z => z.2.2) hB1
    subst u2
    obtain ⟨hP, hD⟩ := va_join (wr := [(oa, .inl (cL, 1, .inr (.inl o)))]) (w1 := cw ad cI cL r.2.2) hP hD [0, 1, 2, 3, 4, 5, 6, 7, 8, 9, 10, 11, 12, 13, 14, 15, 16, 17, 18, 19, 20, 21, 22, 23, 24, 25, 26, 27] [28] rfl rfl (by decide) (by decide) hk1 hFc hP1 hD1
    have hP := hP.sub (ws' := cow ad oa cI cL r.2.2 o) [1, 2, 3, 4, 5, 6, 7, 8, 9, 10, 11, 12, 13, 14, 15, 16, 17, 18, 19, 20, 21, 22, 23, 24, 25, 26, 27, 28, 0] rfl
    have hD := hD.sub (ws' := cow ad oa cI cL r.2.2 o) [1, 2, 3, 4, 5, 6, 7, 8, 9, 10, 11, 12, 13, 14, 15, 16, 17, 18, 19, 20, 21, 22, 23, 24, 25, 26, 27, 28, 0] (by decide) rfl
    by_cases hE : E = "java/lang/IllegalArgumentException"
    · subst hE
      refine vx_catch (own := RL) (name := "java/lang/IllegalArgumentException") hown [] ⟨0, 8, 11, 13⟩ [] htab (fun z hz => nomatch hz) (by decide) (by decide) k_1 (va_Nw.use rfl hX.1) hce hcv hcl ?_
      refine lv_astore_n (lv' := [(3, .ref q9), (0, .ref (ad 0)), (1, .int z1), (2, .ref oa)]) hx hb dL_miss_11 rfl hl (by decide) rfl (fun ls hl => ?_)
      refine lv_iconst (v := 1) hx hb dL_miss_12 (by decide) ?_
      have e9 : r.1 = 1 := e1.symm
      refine W.widen (k := 1) (n := 6) (by decide) (by decide) ?_
      exact W.iret (v := 1) hx hb hr (fun t ht hW => ⟨⟨1, (r.2.2, o), rfl, by rw [if_neg (by omega), e9]; rfl, ⟨by rw [ht]; exact hP, va_K.moved hW.alike hK, hD⟩⟩, hS.F ht⟩) hS.2.2 dL_miss_13
    · by_cases hE2 : E = "java/lang/IllegalStateException"
      · subst hE2
        have e9 : r.1 = 2 := e1.symm
        omega
      · exact absurd hB2 (by unfold xcode; rw [if_neg hE, if_neg hE2]; decide)
  obtain ⟨hP1, hK1, hD1⟩ := hB
  rw [ht] at hP1
  have e0 : r.1 = 0 := (congrArg Prod.fst hw).symm
  have e1 : r2 = r.2.1 := congrArg (fun z => z.2.1) hw
  have e2 : u2 = r.2.2 := congrArg (fun z => z.2.2) hw
  subst r2 u2
  obtain ⟨hP, hD⟩ := va_join (wr := [(oa, .inl (cL, 1, .inr (.inl o)))]) (w1 := cw ad cI cL r.2.2) hP hD [0, 1, 2, 3, 4, 5, 6, 7, 8, 9, 10, 11, 12, 13, 14, 15, 16, 17, 18, 19, 20, 21, 22, 23, 24, 25, 26, 27] [28] rfl rfl (by decide) (by decide) hk1 hFc hP1 hD1
  have hP := hP.sub (ws' := cow ad oa cI cL r.2.2 o) [1, 2, 3, 4, 5, 6, 7, 8, 9, 10, 11, 12, 13, 14, 15, 16, 17, 18, 19, 20, 21, 22, 23, 24, 25, 26, 27, 28, 0] rfl
  have hD := hD.sub (ws' := cow ad oa cI cL r.2.2 o) [1, 2, 3, 4, 5, 6, 7, 8, 9, 10, 11, 12, 13, 14, 15, 16, 17, 18, 19, 20, 21, 22, 23, 24, 25, 26, 27, 28, 0] (by decide) rfl
  clear hP1 hD1 hK1 hFc hk1 hPc hDc
  generalize H1 = H at hP hS ⊢
  refine va_last (f := o) hx hb hK hP hD hS 28 1 rfl rfl (vp_in_iff.mpr (by decide)) dL_miss_7 (fun H locs hP hD hS => ?_)
  have hP : va_P (dC, dI) vwCl (cow ad oa cI cL r.2.2 (vp_updL o (0 : Int32).toNatClampNeg r.2.1)) H := hP
  have hD : va_D A (cow ad oa cI cL r.2.2 (vp_updL o (0 : Int32).toNatClampNeg r.2.1)) := hD
  refine lv_goto (tgt := 14) hx hb dL_miss_8 (by decide) ?_
  refine lv_iconst (v := 0) hx hb dL_miss_14 (by decide) ?_
  refine W.widen (k := 1) (n := 6) (by decide) (by decide) ?_
  exact W.iret (v := 0) hx hb hr (fun t ht hW => ⟨⟨0, (r.2.2, vp_updL o (0 : Int32).toNatClampNeg r.2.1), rfl, by rw [if_pos e0, e0]; rfl, ⟨by rw [ht]; exact hP, va_K.moved hW.alike hK, hD⟩⟩, hS.F ht⟩) hS.2.2 dL_miss_15

set_option maxHeartbeats 4000000 in
set_option maxRecDepth 100000 in
theorem mL_sensor (l : Launch) (lt : l.stackTraces = false) (dC : Nat → ClassId) (dI : Nat → Nat → Nat) (cI cL : ClassId) (ad sa : Nat → Nat) (sz : Nat) (u : St) (z1 : Int32) (z2 : Int32) (n : Nat) (r : Nat × St) (hf0 : FX4_sensor n z1 z2 u = some r) (h12 : r.1 ≤ 1) : Met l yL_sensor wsL_sensor ({ frames := 10, cells := 2, slots := 12, locals := 155 }) (va_Pc [.ref (ad 0), .int z1, .int z2] (xPre dC dI cI cL sa (cw ad cI cL u) sz)) (va_Qi (fun a t => (a, t) = (nI r.1, r.2)) (fun t => wPost dC dI cI cL (va_A (cw ad cI cL u) sz) (cw ad cI cL t)) (va_A (cw ad cI cL u) sz)) 2 12 (va_A (cw ad cI cL u) sz) := by
  refine va_MetW (cc := cL_sensor) (maxL := 4) (ret := (some .int)) (hh := [(0, 6, 9, 13)]) (by decide) rfl ?_
  intro p e s m args below meth c s₁ B hml hv
  obtain ⟨rfl, ⟨hsz, hP, hK, hD0, hZ⟩, hX, hq⟩ := hv
  have hx := B.exec
  have hb := B.bytes
  have hr := B.returns
  have hts := atoms_spec (ws := wsL_sensor) B.pre
  have hown : s.vm.findClass RL = some m.cls := findClass_of_methodNamed B.named
  have hlocks := B.notSynchronized
  have htab : c.exceptionTable.toList = tableOf [(0, 6, 9, 13)] := vx_table (x := yL_sensor) B (hts _ List.mem_cons_self)
  subst hsz
  have hD := hD0.self (sz := s.heap.size)
  generalize hAe : va_A (cw ad cI cL u) s.heap.size = A at hD hq ⊢
  have hA : ∀ q : Nat, s.heap.size ≤ q → A q := fun q h => by rw [← hAe]; exact Or.inr h
  have hS : va_S A s.heap s.heap [] := va_S.rf
  have k_1 := hts (.classLink RL 13 "java/lang/IllegalArgumentException") (by decide +kernel)
  have hl := lv_entry ([.ref (ad 0), .int z1, .int z2]) (n := 4) (Nat.le_of_ble_eq_true rfl)
  rw [lg_entry_eq]
  generalize (lg_sl ([.ref (ad 0), .int z1, .int z2]) ++ List.replicate (4 - (lg_sl ([.ref (ad 0), .int z1, .int z2])).length) Slot.unset).toArray = ls at hl ⊢
  have hl : lv_has ls 4 [(0, .ref (ad 0)), (1, .int z1), (2, .int z2)] := hl
  refine lv_aload_n hx hb dL_sensor_0 rfl (lv_at hl 0 rfl) ?_
  refine lv_iload_n hx hb dL_sensor_1 rfl (lv_at hl 1 rfl) ?_
  refine lv_iload_n hx hb dL_sensor_2 rfl (lv_at hl 2 rfl) ?_
  have hPc := hP
  have hDc := hD
  have hFc := freeAll hD hS hA
  refine vx_callv (vx_runV (As := [.int z1, .int z2]) (rest := []) ⟨hx, hb, hml, hown, hts⟩ (mX4_sensor l lt dC dI cI cL ad sa s.heap.size u z1 z2 n r hf0) (cwV 2 hts gL_sensor_X4_sensor rfl rfl rfl (by decide +kernel) ⟨Nat.le_of_ble_eq_true rfl, Nat.le_of_ble_eq_true rfl⟩) ⟨xPre_blind, va_recv hK hPc (ci := 4) (q0 := 0) rfl rfl, xPre_of hPc hK hDc hZ hX hq hS hFc⟩ rfl rfl hl.1 rfl (lv_room (Nat.le_of_ble_eq_true rfl)) dL_sensor_3 ⟨by decide, by decide⟩) hS (fun q _ h => hFc q h) hFc (fun q _ h => hFc q h) (fun E ce q9 u2 t H1 locs ht hvm hpx hB hz1 hk1 hS hce hcv hcl => ?_) (fun u2 t H1 locs ht hvm hw hB hz1 hk1 hS => ?_)
  · obtain ⟨⟨hB1, hB2⟩, hP1, hK1, hD1⟩ := hB
    rw [ht] at hP1
    have e1 : xcode E = r.1 := congrArg Prod.fst hB1
    have e2 : u2 = r.2 := congrArg (fun z => z.2) hB1
    subst u2
    have hP : va_P (dC, dI) vwCl (cw ad cI cL r.2) H1 := hP1
    have hD := hD1.weaken (fun _ _ _ h => hFc _ h)
    by_cases hE : E = "java/lang/IllegalArgumentException"
    · subst hE
      refine vx_catch (own := RL) (name := "java/lang/IllegalArgumentException") hown [] ⟨0, 6, 9, 13⟩ [] htab (fun z hz => nomatch hz) (by decide) (by decide) k_1 (va_Nw.use rfl hX.1) hce hcv hcl ?_
      refine lv_astore_n (lv' := [(3, .ref q9), (0, .ref (ad 0)), (1, .int z1), (2, .int z2)]) hx hb dL_sensor_9 rfl hl (by decide) rfl (fun ls hl => ?_)
      refine lv_iconst (v := 1) hx hb dL_sensor_10 (by decide) ?_
      have e9 : r.1 = 1 := e1.symm
      refine W.widen (k := 2) (n := 12) (by decide) (by decide) ?_
      exact W.iret (v := 1) hx hb hr (fun t ht hW => ⟨⟨1, r.2, rfl, by rw [e9]; rfl, ⟨by rw [ht]; exact hP, va_K.moved hW.alike hK, hD⟩⟩, hS.F ht⟩) hS.2.2 dL_sensor_11
    · by_cases hE2 : E = "java/lang/IllegalStateException"
      · subst hE2
        have e9 : r.1 = 2 := e1.symm
        omega
      · exact absurd hB2 (by unfold xcode; rw [if_neg hE, if_neg hE2]; decide)
  obtain ⟨hP1, hK1, hD1⟩ := hB
  rw [ht] at hP1
  have e0 : r.1 = 0 := (congrArg Prod.fst hw).symm
  have e2 : u2 = r.2 := congrArg Prod.snd hw
  subst u2
  have hP : va_P (dC, dI) vwCl (cw ad cI cL r.2) H1 := hP1
  have hD := hD1.weaken (fun _ _ _ h => hFc _ h)
  clear hP1 hD1 hK1 hFc hk1 hPc hDc
  generalize H1 = H at hP hS ⊢
  refine lv_goto (tgt := 12) hx hb dL_sensor_6 (by decide) ?_
  refine lv_iconst (v := 0) hx hb dL_sensor_12 (by decide) ?_
  refine W.widen (k := 2) (n := 12) (by decide) (by decide) ?_
  exact W.iret (v := 0) hx hb hr (fun t ht hW => ⟨⟨0, r.2, rfl, by rw [e0]; rfl, ⟨by rw [ht]; exact hP, va_K.moved hW.alike hK, hD⟩⟩, hS.F ht⟩) hS.2.2 dL_sensor_13

set_option maxHeartbeats 4000000 in
set_option maxRecDepth 100000 in
theorem mL_daylight (l : Launch) (lt : l.stackTraces = false) (dC : Nat → ClassId) (dI : Nat → Nat → Nat) (cI cL : ClassId) (ad sa : Nat → Nat) (oa : Nat) (sz : Nat) (u : St) (o : Nat → Int64) (z1 : Int32) (z2 : Int32) (n : Nat) (r : Nat × Int32 × St) (hf0 : FX4_daylight n z1 z2 u = some r) (h12 : r.1 ≤ 1) : Met l yL_daylight wsL_daylight ({ frames := 10, cells := 2, slots := 12, locals := 156 }) (va_Pc [.ref (ad 0), .int z1, .int z2, .ref oa] (xPre dC dI cI cL sa (cow ad oa cI cL u o) sz)) (va_Qi (fun a t => (a, t) = (nI r.1, r.2.2, if r.1 = 0 then vp_updL o (0 : Int32).toNatClampNeg r.2.1.toInt64 else o)) (fun t => wPost dC dI cI cL (va_A (cow ad oa cI cL u o) sz) (cow ad oa cI cL t.1 t.2)) (va_A (cow ad oa cI cL u o) sz)) 2 12 (va_A (cow ad oa cI cL u o) sz) := by
  refine va_MetW (cc := cL_daylight) (maxL := 5) (ret := (some .int)) (hh := [(0, 10, 13, 13)]) (by decide) rfl ?_
  intro p e s m args below meth c s₁ B hml hv
  obtain ⟨rfl, ⟨hsz, hP, hK, hD0, hZ⟩, hX, hq⟩ := hv
  have hx := B.exec
  have hb := B.bytes
  have hr := B.returns
  have hts := atoms_spec (ws := wsL_daylight) B.pre
  have hown : s.vm.findClass RL = some m.cls := findClass_of_methodNamed B.named
  have hlocks := B.notSynchronized
  have htab : c.exceptionTable.toList = tableOf [(0, 10, 13, 13)] := vx_table (x := yL_daylight) B (hts _ List.mem_cons_self)
  subst hsz
  have hD := hD0.self (sz := s.heap.size)
  generalize hAe : va_A (cow ad oa cI cL u o) s.heap.size = A at hD hq ⊢
  have hA : ∀ q : Nat, s.heap.size ≤ q → A q := fun q h => by rw [← hAe]; exact Or.inr h
  have hS : va_S A s.heap s.heap [] := va_S.rf
  have k_1 := hts (.classLink RL 13 "java/lang/IllegalArgumentException") (by decide +kernel)
  have hl := lv_entry ([.ref (ad 0), .int z1, .int z2, .ref oa]) (n := 5) (Nat.le_of_ble_eq_true rfl)
  rw [lg_entry_eq]
  generalize (lg_sl ([.ref (ad 0), .int z1, .int z2, .ref oa]) ++ List.replicate (5 - (lg_sl ([.ref (ad 0), .int z1, .int z2, .ref oa])).length) Slot.unset).toArray = ls at hl ⊢
  have hl : lv_has ls 5 [(0, .ref (ad 0)), (1, .int z1), (2, .int z2), (3, .ref oa)] := hl
  refine lv_aload_n hx hb dL_daylight_0 rfl (lv_at hl 3 rfl) ?_
  refine lv_iconst (v := 0) hx hb dL_daylight_1 (by decide) ?_
  refine lv_aload_n hx hb dL_daylight_2 rfl (lv_at hl 0 rfl) ?_
  refine lv_iload_n hx hb dL_daylight_3 rfl (lv_at hl 1 rfl) ?_
  refine lv_iload_n hx hb dL_daylight_4 rfl (lv_at hl 2 rfl) ?_
  have hPc := hP.sub (ws' := cw ad cI cL u) [0, 1, 2, 3, 4, 5, 6, 7, 8, 9, 10, 11, 12, 13, 14, 15, 16, 17, 18, 19, 20, 21, 22, 23, 24, 25, 26, 27] rfl
  have hDc := hD.sub (ws' := cw ad cI cL u) [0, 1, 2, 3, 4, 5, 6, 7, 8, 9, 10, 11, 12, 13, 14, 15, 16, 17, 18, 19, 20, 21, 22, 23, 24, 25, 26, 27] (by decide) rfl
  have hFc := va_free (wc := cw ad cI cL u) hD hS hA [0, 1, 2, 3, 4, 5, 6, 7, 8, 9, 10, 11, 12, 13, 14, 15, 16, 17, 18, 19, 20, 21, 22, 23, 24, 25, 26, 27] rfl
  refine vx_calli (vx_runV (As := [.int z1, .int z2]) (rest := [.int (0 : Int32), .ref oa]) ⟨hx, hb, hml, hown, hts⟩ (mX4_daylight l lt dC dI cI cL ad sa s.heap.size u z1 z2 n r hf0) (cwV 2 hts gL_daylight_X4_daylight rfl rfl rfl (by decide +kernel) ⟨Nat.le_of_ble_eq_true rfl, Nat.le_of_ble_eq_true rfl⟩) ⟨xPre_blind, va_recv hK hPc (ci := 4) (q0 := 0) rfl rfl, xPre_of hPc hK hDc hZ hX hq hS hFc⟩ rfl rfl hl.1 rfl (lv_room (Nat.le_of_ble_eq_true rfl)) dL_daylight_5 ⟨by decide, by decide⟩) hS (fun q _ h => hFc q h) hFc (fun q _ h => hFc q h) (fun E ce q9 u2 t H1 locs ht hvm hpx hB hz1 hk1 hS hce hcv hcl => ?_) (fun r2 u2 t H1 locs ht hvm hw hB hz1 hk1 hS => ?_)
  · obtain ⟨⟨hB1, hB2⟩, hP1, hK1, hD1⟩ := hB
    rw [ht] at hP1
    have e1 : xcode E = r.1 := congrArg Prod.fst hB1
    have e2 : u2 = r.2.2 := congrArg (fun z => z.2.2) hB1
    subst u2
    obtain ⟨hP, hD⟩ := va_join (wr := [(oa, .inl (cL, 1, .inr (.inl o)))]) (w1 := cw ad cI cL r.2.2) hP hD [0, 1, 2, 3, 4, 5, 6, 7, 8, 9, 10, 11, 12, 13, 14, 15, 16, 17, 18, 19, 20, 21, 22, 23, 24, 25, 26, 27] [28] rfl rfl (by decide) (by decide) hk1 hFc hP1 hD1
    have hP := hP.sub (ws' := cow ad oa cI cL r.2.2 o) [1, 2, 3, 4, 5, 6, 7, 8, 9, 10, 11, 12, 13, 14, 15, 16, 17, 18, 19, 20, 21, 22, 23, 24, 25, 26, 27, 28, 0] rfl
    have hD := hD.sub (ws' := cow ad oa cI cL r.2.2 o) [1, 2, 3, 4, 5, 6, 7, 8, 9, 10, 11, 12, 13, 14, 15, 16, 17, 18, 19, 20, 21, 22, 23, 24, 25, 26, 27, 28, 0] (by decide) rfl
    by_cases hE : E = "java/lang/IllegalArgumentException"
    · subst hE
      refine vx_catch (own := RL) (name := "java/lang/IllegalArgumentException") hown [] ⟨0, 10, 13, 13⟩ [] htab (fun z hz => nomatch hz) (by decide) (by decide) k_1 (va_Nw.use rfl hX.1) hce hcv hcl ?_
      refine lv_astore (lv' := [(4, .ref q9), (0, .ref (ad 0)), (1, .int z1), (2, .int z2), (3, .ref oa)]) hx hb dL_daylight_13 hl (by decide) rfl (fun ls hl => ?_)
      refine lv_iconst (v := 1) hx hb dL_daylight_15 (by decide) ?_
      have e9 : r.1 = 1 := e1.symm
      refine W.widen (k := 2) (n := 12) (by decide) (by decide) ?_
      exact W.iret (v := 1) hx hb hr (fun t ht hW => ⟨⟨1, (r.2.2, o), rfl, by rw [if_neg (by omega), e9]; rfl, ⟨by rw [ht]; exact hP, va_K.moved hW.alike hK, hD⟩⟩, hS.F ht⟩) hS.2.2 dL_daylight_16
    · by_cases hE2 : E = "java/lang/IllegalStateException"
      · subst hE2
        have e9 : r.1 = 2 := e1.symm
        omega
      · exact absurd hB2 (by unfold xcode; rw [if_neg hE, if_neg hE2]; decide)
  obtain ⟨hP1, hK1, hD1⟩ := hB
  rw [ht] at hP1
  have e0 : r.1 = 0 := (congrArg Prod.fst hw).symm
  have e1 : r2 = r.2.1 := congrArg (fun z => z.2.1) hw
  have e2 : u2 = r.2.2 := congrArg (fun z => z.2.2) hw
  subst r2 u2
  obtain ⟨hP, hD⟩ := va_join (wr := [(oa, .inl (cL, 1, .inr (.inl o)))]) (w1 := cw ad cI cL r.2.2) hP hD [0, 1, 2, 3, 4, 5, 6, 7, 8, 9, 10, 11, 12, 13, 14, 15, 16, 17, 18, 19, 20, 21, 22, 23, 24, 25, 26, 27] [28] rfl rfl (by decide) (by decide) hk1 hFc hP1 hD1
  have hP := hP.sub (ws' := cow ad oa cI cL r.2.2 o) [1, 2, 3, 4, 5, 6, 7, 8, 9, 10, 11, 12, 13, 14, 15, 16, 17, 18, 19, 20, 21, 22, 23, 24, 25, 26, 27, 28, 0] rfl
  have hD := hD.sub (ws' := cow ad oa cI cL r.2.2 o) [1, 2, 3, 4, 5, 6, 7, 8, 9, 10, 11, 12, 13, 14, 15, 16, 17, 18, 19, 20, 21, 22, 23, 24, 25, 26, 27, 28, 0] (by decide) rfl
  clear hP1 hD1 hK1 hFc hk1 hPc hDc
  generalize H1 = H at hP hS ⊢
  refine lv_i2l (v := r.2.1.toInt64) hx hb dL_daylight_8 rfl ?_
  refine va_last (f := o) hx hb hK hP hD hS 28 1 rfl rfl (vp_in_iff.mpr (by decide)) dL_daylight_9 (fun H locs hP hD hS => ?_)
  have hP : va_P (dC, dI) vwCl (cow ad oa cI cL r.2.2 (vp_updL o (0 : Int32).toNatClampNeg r.2.1.toInt64)) H := hP
  have hD : va_D A (cow ad oa cI cL r.2.2 (vp_updL o (0 : Int32).toNatClampNeg r.2.1.toInt64)) := hD
  refine lv_goto (tgt := 17) hx hb dL_daylight_10 (by decide) ?_
  refine lv_iconst (v := 0) hx hb dL_daylight_17 (by decide) ?_
  refine W.widen (k := 2) (n := 12) (by decide) (by decide) ?_
  exact W.iret (v := 0) hx hb hr (fun t ht hW => ⟨⟨0, (r.2.2, vp_updL o (0 : Int32).toNatClampNeg r.2.1.toInt64), rfl, by rw [if_pos e0, e0]; rfl, ⟨by rw [ht]; exact hP, va_K.moved hW.alike hK, hD⟩⟩, hS.F ht⟩) hS.2.2 dL_daylight_18

set_option maxHeartbeats 4000000 in
set_option maxRecDepth 100000 in
theorem mL_step (l : Launch) (lt : l.stackTraces = false) (dC : Nat → ClassId) (dI : Nat → Nat → Nat) (cI cL : ClassId) (ad sa : Nat → Nat) (oa : Nat) (sz : Nat) (u : St) (o : Nat → Int64) (z1 : Int32) (n : Nat) (r : Nat × Int32 × St) (hf0 : FX4_step n z1 u = some r) (h12 : r.1 ≤ 1) : Met l yL_step wsL_step ({ frames := 9, cells := 1, slots := 6, locals := 134 }) (va_Pc [.ref (ad 0), .int z1, .ref oa] (xPre dC dI cI cL sa (cow ad oa cI cL u o) sz)) (va_Qi (fun a t => (a, t) = (nI r.1, r.2.2, if r.1 = 0 then vp_updL o (0 : Int32).toNatClampNeg r.2.1.toInt64 else o)) (fun t => wPost dC dI cI cL (va_A (cow ad oa cI cL u o) sz) (cow ad oa cI cL t.1 t.2)) (va_A (cow ad oa cI cL u o) sz)) 1 6 (va_A (cow ad oa cI cL u o) sz) := by
  refine va_MetW (cc := cL_step) (maxL := 4) (ret := (some .int)) (hh := [(0, 9, 12, 13)]) (by decide) rfl ?_
  intro p e s m args below meth c s₁ B hml hv
  obtain ⟨rfl, ⟨hsz, hP, hK, hD0, hZ⟩, hX, hq⟩ := hv
  have hx := B.exec
  have hb := B.bytes
  have hr := B.returns
  have hts := atoms_spec (ws := wsL_step) B.pre
  have hown : s.vm.findClass RL = some m.cls := findClass_of_methodNamed B.named
  have hlocks := B.notSynchronized
  have htab : c.exceptionTable.toList = tableOf [(0, 9, 12, 13)] := vx_table (x := yL_step) B (hts _ List.mem_cons_self)
  subst hsz
  have hD := hD0.self (sz := s.heap.size)
  generalize hAe : va_A (cow ad oa cI cL u o) s.heap.size = A at hD hq ⊢
  have hA : ∀ q : Nat, s.heap.size ≤ q → A q := fun q h => by rw [← hAe]; exact Or.inr h
  have hS : va_S A s.heap s.heap [] := va_S.rf
  have k_1 := hts (.classLink RL 13 "java/lang/IllegalArgumentException") (by decide +kernel)
  have hl := lv_entry ([.ref (ad 0), .int z1, .ref oa]) (n := 4) (Nat.le_of_ble_eq_true rfl)
  rw [lg_entry_eq]
  generalize (lg_sl ([.ref (ad 0), .int z1, .ref oa]) ++ List.replicate (4 - (lg_sl ([.ref (ad 0), .int z1, .ref oa])).length) Slot.unset).toArray = ls at hl ⊢
  have hl : lv_has ls 4 [(0, .ref (ad 0)), (1, .int z1), (2, .ref oa)] := hl
  refine lv_aload_n hx hb dL_step_0 rfl (lv_at hl 2 rfl) ?_
  refine lv_iconst (v := 0) hx hb dL_step_1 (by decide) ?_
  refine lv_aload_n hx hb dL_step_2 rfl (lv_at hl 0 rfl) ?_
  refine lv_iload_n hx hb dL_step_3 rfl (lv_at hl 1 rfl) ?_
  have hPc := hP.sub (ws' := cw ad cI cL u) [0, 1, 2, 3, 4, 5, 6, 7, 8, 9, 10, 11, 12, 13, 14, 15, 16, 17, 18, 19, 20, 21, 22, 23, 24, 25, 26, 27] rfl
  have hDc := hD.sub (ws' := cw ad cI cL u) [0, 1, 2, 3, 4, 5, 6, 7, 8, 9, 10, 11, 12, 13, 14, 15, 16, 17, 18, 19, 20, 21, 22, 23, 24, 25, 26, 27] (by decide) rfl
  have hFc := va_free (wc := cw ad cI cL u) hD hS hA [0, 1, 2, 3, 4, 5, 6, 7, 8, 9, 10, 11, 12, 13, 14, 15, 16, 17, 18, 19, 20, 21, 22, 23, 24, 25, 26, 27] rfl
  refine vx_calli (vx_runV (As := [.int z1]) (rest := [.int (0 : Int32), .ref oa]) ⟨hx, hb, hml, hown, hts⟩ (mX4_step l lt dC dI cI cL ad sa s.heap.size u z1 n r hf0) (cwV 1 hts gL_step_X4_step rfl rfl rfl (by decide +kernel) ⟨Nat.le_of_ble_eq_true rfl, Nat.le_of_ble_eq_true rfl⟩) ⟨xPre_blind, va_recv hK hPc (ci := 4) (q0 := 0) rfl rfl, xPre_of hPc hK hDc hZ hX hq hS hFc⟩ rfl rfl hl.1 rfl (lv_room (Nat.le_of_ble_eq_true rfl)) dL_step_4 ⟨by decide, by decide⟩) hS (fun q _ h => hFc q h) hFc (fun q _ h => hFc q h) (fun E ce q9 u2 t H1 locs ht hvm hpx hB hz1 hk1 hS hce hcv hcl => ?_) (fun r2 u2 t H1 locs ht hvm hw hB hz1 hk1 hS => ?_)
  · obtain ⟨⟨hB1, hB2⟩, hP1, hK1, hD1⟩ := hB
    rw [ht] at hP1
    have e1 : xcode E = r.1 := congrArg Prod.fst hB1
    have e2 : u2 = r.2.2 := congrArg (fun z => z.2.2) hB1
    subst u2
    obtain ⟨hP, hD⟩ := va_join (wr := [(oa, .inl (cL, 1, .inr (.inl o)))]) (w1 := cw ad cI cL r.2.2) hP hD [0, 1, 2, 3, 4, 5, 6, 7, 8, 9, 10, 11, 12, 13, 14, 15, 16, 17, 18, 19, 20, 21, 22, 23, 24, 25, 26, 27] [28] rfl rfl (by decide) (by decide) hk1 hFc hP1 hD1
    have hP := hP.sub (ws' := cow ad oa cI cL r.2.2 o) [1, 2, 3, 4, 5, 6, 7, 8, 9, 10, 11, 12, 13, 14, 15, 16, 17, 18, 19, 20, 21, 22, 23, 24, 25, 26, 27, 28, 0] rfl
    have hD := hD.sub (ws' := cow ad oa cI cL r.2.2 o) [1, 2, 3, 4, 5, 6, 7, 8, 9, 10, 11, 12, 13, 14, 15, 16, 17, 18, 19, 20, 21, 22, 23, 24, 25, 26, 27, 28, 0] (by decide) rfl
    by_cases hE : E = "java/lang/IllegalArgumentException"
    · subst hE
      refine vx_catch (own := RL) (name := "java/lang/IllegalArgumentException") hown [] ⟨0, 9, 12, 13⟩ [] htab (fun z hz => nomatch hz) (by decide) (by decide) k_1 (va_Nw.use rfl hX.1) hce hcv hcl ?_
      refine lv_astore_n (lv' := [(3, .ref q9), (0, .ref (ad 0)), (1, .int z1), (2, .ref oa)]) hx hb dL_step_12 rfl hl (by decide) rfl (fun ls hl => ?_)
      refine lv_iconst (v := 1) hx hb dL_step_13 (by decide) ?_
      have e9 : r.1 = 1 := e1.symm
      refine W.widen (k := 1) (n := 6) (by decide) (by decide) ?_
      exact W.iret (v := 1) hx hb hr (fun t ht hW => ⟨⟨1, (r.2.2, o), rfl, by rw [if_neg (by omega), e9]; rfl, ⟨by rw [ht]; exact hP, va_K.moved hW.alike hK, hD⟩⟩, hS.F ht⟩) hS.2.2 dL_step_14
    · by_cases hE2 : E = "java/lang/IllegalStateException"
      · subst hE2
        have e9 : r.1 = 2 := e1.symm
        omega
      · exact absurd hB2 (by unfold xcode; rw [if_neg hE, if_neg hE2]; decide)
  obtain ⟨hP1, hK1, hD1⟩ := hB
  rw [ht] at hP1
  have e0 : r.1 = 0 := (congrArg Prod.fst hw).symm
  have e1 : r2 = r.2.1 := congrArg (fun z => z.2.1) hw
  have e2 : u2 = r.2.2 := congrArg (fun z => z.2.2) hw
  subst r2 u2
  obtain ⟨hP, hD⟩ := va_join (wr := [(oa, .inl (cL, 1, .inr (.inl o)))]) (w1 := cw ad cI cL r.2.2) hP hD [0, 1, 2, 3, 4, 5, 6, 7, 8, 9, 10, 11, 12, 13, 14, 15, 16, 17, 18, 19, 20, 21, 22, 23, 24, 25, 26, 27] [28] rfl rfl (by decide) (by decide) hk1 hFc hP1 hD1
  have hP := hP.sub (ws' := cow ad oa cI cL r.2.2 o) [1, 2, 3, 4, 5, 6, 7, 8, 9, 10, 11, 12, 13, 14, 15, 16, 17, 18, 19, 20, 21, 22, 23, 24, 25, 26, 27, 28, 0] rfl
  have hD := hD.sub (ws' := cow ad oa cI cL r.2.2 o) [1, 2, 3, 4, 5, 6, 7, 8, 9, 10, 11, 12, 13, 14, 15, 16, 17, 18, 19, 20, 21, 22, 23, 24, 25, 26, 27, 28, 0] (by decide) rfl
  clear hP1 hD1 hK1 hFc hk1 hPc hDc
  generalize H1 = H at hP hS ⊢
  refine lv_i2l (v := r.2.1.toInt64) hx hb dL_step_7 rfl ?_
  refine va_last (f := o) hx hb hK hP hD hS 28 1 rfl rfl (vp_in_iff.mpr (by decide)) dL_step_8 (fun H locs hP hD hS => ?_)
  have hP : va_P (dC, dI) vwCl (cow ad oa cI cL r.2.2 (vp_updL o (0 : Int32).toNatClampNeg r.2.1.toInt64)) H := hP
  have hD : va_D A (cow ad oa cI cL r.2.2 (vp_updL o (0 : Int32).toNatClampNeg r.2.1.toInt64)) := hD
  refine lv_goto (tgt := 15) hx hb dL_step_9 (by decide) ?_
  refine lv_iconst (v := 0) hx hb dL_step_15 (by decide) ?_
  refine W.widen (k := 1) (n := 6) (by decide) (by decide) ?_
  exact W.iret (v := 0) hx hb hr (fun t ht hW => ⟨⟨0, (r.2.2, vp_updL o (0 : Int32).toNatClampNeg r.2.1.toInt64), rfl, by rw [if_pos e0, e0]; rfl, ⟨by rw [ht]; exact hP, va_K.moved hW.alike hK, hD⟩⟩, hS.F ht⟩) hS.2.2 dL_step_16

set_option maxHeartbeats 4000000 in
set_option maxRecDepth 100000 in
theorem mL_run (l : Launch) (lt : l.stackTraces = false) (dC : Nat → ClassId) (dI : Nat → Nat → Nat) (cI cL : ClassId) (ad sa : Nat → Nat) (oa : Nat) (sz : Nat) (u : St) (o : Nat → Int64) (z1 : Int32) (n : Nat) (r : Nat × Int32 × St) (hf0 : FX4_run n z1 u = some r) : Met l yL_run wsL_run ({ frames := 13, cells := 2, slots := 12, locals := 344 }) (va_Pc [.ref (ad 0), .int z1, .ref oa] (xPre dC dI cI cL sa (cow ad oa cI cL u o) sz)) (va_Qi (fun a t => (a, t) = (nI r.1, r.2.2, if r.1 = 0 then vp_updL o (0 : Int32).toNatClampNeg r.2.1.toInt64 else o)) (fun t => wPost dC dI cI cL (va_A (cow ad oa cI cL u o) sz) (cow ad oa cI cL t.1 t.2)) (va_A (cow ad oa cI cL u o) sz)) 2 12 (va_A (cow ad oa cI cL u o) sz) := by
  refine va_MetW (cc := cL_run) (maxL := 4) (ret := (some .int)) (hh := [(0, 9, 12, 13), (0, 9, 15, 15)]) (by decide) rfl ?_
  intro p e s m args below meth c s₁ B hml hv
  obtain ⟨rfl, ⟨hsz, hP, hK, hD0, hZ⟩, hX, hq⟩ := hv
  have hx := B.exec
  have hb := B.bytes
  have hr := B.returns
  have hts := atoms_spec (ws := wsL_run) B.pre
  have hown : s.vm.findClass RL = some m.cls := findClass_of_methodNamed B.named
  have hlocks := B.notSynchronized
  have htab : c.exceptionTable.toList = tableOf [(0, 9, 12, 13), (0, 9, 15, 15)] := vx_table (x := yL_run) B (hts _ List.mem_cons_self)
  subst hsz
  have hD := hD0.self (sz := s.heap.size)
  generalize hAe : va_A (cow ad oa cI cL u o) s.heap.size = A at hD hq ⊢
  have hA : ∀ q : Nat, s.heap.size ≤ q → A q := fun q h => by rw [← hAe]; exact Or.inr h
  have hS : va_S A s.heap s.heap [] := va_S.rf
  have k_1 := hts (.classLink RL 13 "java/lang/IllegalArgumentException") (by decide +kernel)
  have k_2 := hts (.classLink RL 15 "java/lang/IllegalStateException") (by decide +kernel)
  have hl := lv_entry ([.ref (ad 0), .int z1, .ref oa]) (n := 4) (Nat.le_of_ble_eq_true rfl)
  rw [lg_entry_eq]
  generalize (lg_sl ([.ref (ad 0), .int z1, .ref oa]) ++ List.replicate (4 - (lg_sl ([.ref (ad 0), .int z1, .ref oa])).length) Slot.unset).toArray = ls at hl ⊢
  have hl : lv_has ls 4 [(0, .ref (ad 0)), (1, .int z1), (2, .ref oa)] := hl
  refine lv_aload_n hx hb dL_run_0 rfl (lv_at hl 2 rfl) ?_
  refine lv_iconst (v := 0) hx hb dL_run_1 (by decide) ?_
  refine lv_aload_n hx hb dL_run_2 rfl (lv_at hl 0 rfl) ?_
  refine lv_iload_n hx hb dL_run_3 rfl (lv_at hl 1 rfl) ?_
  have hPc := hP.sub (ws' := cw ad cI cL u) [0, 1, 2, 3, 4, 5, 6, 7, 8, 9, 10, 11, 12, 13, 14, 15, 16, 17, 18, 19, 20, 21, 22, 23, 24, 25, 26, 27] rfl
  have hDc := hD.sub (ws' := cw ad cI cL u) [0, 1, 2, 3, 4, 5, 6, 7, 8, 9, 10, 11, 12, 13, 14, 15, 16, 17, 18, 19, 20, 21, 22, 23, 24, 25, 26, 27] (by decide) rfl
  have hFc := va_free (wc := cw ad cI cL u) hD hS hA [0, 1, 2, 3, 4, 5, 6, 7, 8, 9, 10, 11, 12, 13, 14, 15, 16, 17, 18, 19, 20, 21, 22, 23, 24, 25, 26, 27] rfl
  refine vx_calli (vx_runV (As := [.int z1]) (rest := [.int (0 : Int32), .ref oa]) ⟨hx, hb, hml, hown, hts⟩ (mX4_run l lt dC dI cI cL ad sa s.heap.size u z1 n r hf0) (cwV 1 hts gL_run_X4_run rfl rfl rfl (by decide +kernel) ⟨Nat.le_of_ble_eq_true rfl, Nat.le_of_ble_eq_true rfl⟩) ⟨xPre_blind, va_recv hK hPc (ci := 4) (q0 := 0) rfl rfl, xPre_of hPc hK hDc hZ hX hq hS hFc⟩ rfl rfl hl.1 rfl (lv_room (Nat.le_of_ble_eq_true rfl)) dL_run_4 ⟨by decide, by decide⟩) hS (fun q _ h => hFc q h) hFc (fun q _ h => hFc q h) (fun E ce q9 u2 t H1 locs ht hvm hpx hB hz1 hk1 hS hce hcv hcl => ?_) (fun r2 u2 t H1 locs ht hvm hw hB hz1 hk1 hS => ?_)
  · obtain ⟨⟨hB1, hB2⟩, hP1, hK1, hD1⟩ := hB
    rw [ht] at hP1
    have e1 : xcode E = r.1 := congrArg Prod.fst hB1
    have e2 : u2 = r.2.2 := congrArg (fun z => z.2.2) hB1
    subst u2
    obtain ⟨hP, hD⟩ := va_join (wr := [(oa, .inl (cL, 1, .inr (.inl o)))]) (w1 := cw ad cI cL r.2.2) hP hD [0, 1, 2, 3, 4, 5, 6, 7, 8, 9, 10, 11, 12, 13, 14, 15, 16, 17, 18, 19, 20, 21, 22, 23, 24, 25, 26, 27] [28] rfl rfl (by decide) (by decide) hk1 hFc hP1 hD1
    have hP := hP.sub (ws' := cow ad oa cI cL r.2.2 o) [1, 2, 3, 4, 5, 6, 7, 8, 9, 10, 11, 12, 13, 14, 15, 16, 17, 18, 19, 20, 21, 22, 23, 24, 25, 26, 27, 28, 0] rfl
    have hD := hD.sub (ws' := cow ad oa cI cL r.2.2 o) [1, 2, 3, 4, 5, 6, 7, 8, 9, 10, 11, 12, 13, 14, 15, 16, 17, 18, 19, 20, 21, 22, 23, 24, 25, 26, 27, 28, 0] (by decide) rfl
    by_cases hE : E = "java/lang/IllegalArgumentException"
    · subst hE
      refine vx_catch (own := RL) (name := "java/lang/IllegalArgumentException") hown [] ⟨0, 9, 12, 13⟩ [⟨0, 9, 15, 15⟩] htab (fun z hz => nomatch hz) (by decide) (by decide) k_1 (va_Nw.use rfl hX.1) hce hcv hcl ?_
      refine lv_astore_n (lv' := [(3, .ref q9), (0, .ref (ad 0)), (1, .int z1), (2, .ref oa)]) hx hb dL_run_12 rfl hl (by decide) rfl (fun ls hl => ?_)
      refine lv_iconst (v := 1) hx hb dL_run_13 (by decide) ?_
      have e9 : r.1 = 1 := e1.symm
      refine W.widen (k := 2) (n := 12) (by decide) (by decide) ?_
      exact W.iret (v := 1) hx hb hr (fun t ht hW => ⟨⟨1, (r.2.2, o), rfl, by rw [if_neg (by omega), e9]; rfl, ⟨by rw [ht]; exact hP, va_K.moved hW.alike hK, hD⟩⟩, hS.F ht⟩) hS.2.2 dL_run_14
    · by_cases hE2 : E = "java/lang/IllegalStateException"
      · subst hE2
        refine vx_catch (own := RL) (name := "java/lang/IllegalStateException") hown [⟨0, 9, 12, 13⟩] ⟨0, 9, 15, 15⟩ [] htab (fun z hz => by rw [List.mem_singleton.mp hz]; exact Or.inr ⟨by decide, "java/lang/IllegalArgumentException", k_1, hX.2.2.2.2.2.2.2.2⟩) (by decide) (by decide) k_2 (va_Nw.use rfl hX.2.1) hce hcv hcl ?_
        refine lv_astore_n (lv' := [(3, .ref q9), (0, .ref (ad 0)), (1, .int z1), (2, .ref oa)]) hx hb dL_run_15 rfl hl (by decide) rfl (fun ls hl => ?_)
        refine lv_iconst (v := 2) hx hb dL_run_16 (by decide) ?_
        have e9 : r.1 = 2 := e1.symm
        refine W.widen (k := 2) (n := 12) (by decide) (by decide) ?_
        exact W.iret (v := 2) hx hb hr (fun t ht hW => ⟨⟨2, (r.2.2, o), rfl, by rw [if_neg (by omega), e9]; rfl, ⟨by rw [ht]; exact hP, va_K.moved hW.alike hK, hD⟩⟩, hS.F ht⟩) hS.2.2 dL_run_17
      · exact absurd hB2 (by unfold xcode; rw [if_neg hE, if_neg hE2]; decide)
  obtain ⟨hP1, hK1, hD1⟩ := hB
  rw [ht] at hP1
  have e0 : r.1 = 0 := (congrArg Prod.fst hw).symm
  have e1 : r2 = r.2.1 := congrArg (fun z => z.2.1) hw
  have e2 : u2 = r.2.2 := congrArg (fun z => z.2.2) hw
  subst r2 u2
  obtain ⟨hP, hD⟩ := va_join (wr := [(oa, .inl (cL, 1, .inr (.inl o)))]) (w1 := cw ad cI cL r.2.2) hP hD [0, 1, 2, 3, 4, 5, 6, 7, 8, 9, 10, 11, 12, 13, 14, 15, 16, 17, 18, 19, 20, 21, 22, 23, 24, 25, 26, 27] [28] rfl rfl (by decide) (by decide) hk1 hFc hP1 hD1
  have hP := hP.sub (ws' := cow ad oa cI cL r.2.2 o) [1, 2, 3, 4, 5, 6, 7, 8, 9, 10, 11, 12, 13, 14, 15, 16, 17, 18, 19, 20, 21, 22, 23, 24, 25, 26, 27, 28, 0] rfl
  have hD := hD.sub (ws' := cow ad oa cI cL r.2.2 o) [1, 2, 3, 4, 5, 6, 7, 8, 9, 10, 11, 12, 13, 14, 15, 16, 17, 18, 19, 20, 21, 22, 23, 24, 25, 26, 27, 28, 0] (by decide) rfl
  clear hP1 hD1 hK1 hFc hk1 hPc hDc
  generalize H1 = H at hP hS ⊢
  refine lv_i2l (v := r.2.1.toInt64) hx hb dL_run_7 rfl ?_
  refine va_last (f := o) hx hb hK hP hD hS 28 1 rfl rfl (vp_in_iff.mpr (by decide)) dL_run_8 (fun H locs hP hD hS => ?_)
  have hP : va_P (dC, dI) vwCl (cow ad oa cI cL r.2.2 (vp_updL o (0 : Int32).toNatClampNeg r.2.1.toInt64)) H := hP
  have hD : va_D A (cow ad oa cI cL r.2.2 (vp_updL o (0 : Int32).toNatClampNeg r.2.1.toInt64)) := hD
  refine lv_goto (tgt := 18) hx hb dL_run_9 (by decide) ?_
  refine lv_iconst (v := 0) hx hb dL_run_18 (by decide) ?_
  refine W.widen (k := 2) (n := 12) (by decide) (by decide) ?_
  exact W.iret (v := 0) hx hb hr (fun t ht hW => ⟨⟨0, (r.2.2, vp_updL o (0 : Int32).toNatClampNeg r.2.1.toInt64), rfl, by rw [if_pos e0, e0]; rfl, ⟨by rw [ht]; exact hP, va_K.moved hW.alike hK, hD⟩⟩, hS.F ht⟩) hS.2.2 dL_run_19

set_option maxHeartbeats 4000000 in
set_option maxRecDepth 100000 in
theorem mL_own (l : Launch) (lt : l.stackTraces = false) (dC : Nat → ClassId) (dI : Nat → Nat → Nat) (cI cL : ClassId) (ad sa : Nat → Nat) (oa : Nat) (sz : Nat) (u : St) (o : Nat → Int64) (z1 : Int32) (z2 : Int32) (n : Nat) (r : Nat × Int32 × St) (hf0 : FX4_own n z1 z2 u = some r) (h12 : r.1 ≤ 1) : Met l yL_own wsL_own ({ frames := 13, cells := 2, slots := 12, locals := 345 }) (va_Pc [.ref (ad 0), .int z1, .int z2, .ref oa] (xPre dC dI cI cL sa (cow ad oa cI cL u o) sz)) (va_Qi (fun a t => (a, t) = (nI r.1, r.2.2, if r.1 = 0 then vp_updL o (0 : Int32).toNatClampNeg r.2.1.toInt64 else o)) (fun t => wPost dC dI cI cL (va_A (cow ad oa cI cL u o) sz) (cow ad oa cI cL t.1 t.2)) (va_A (cow ad oa cI cL u o) sz)) 2 12 (va_A (cow ad oa cI cL u o) sz) := by
  refine va_MetW (cc := cL_own) (maxL := 5) (ret := (some .int)) (hh := [(0, 10, 13, 13)]) (by decide) rfl ?_
  intro p e s m args below meth c s₁ B hml hv
  obtain ⟨rfl, ⟨hsz, hP, hK, hD0, hZ⟩, hX, hq⟩ := hv
  have hx := B.exec
  have hb := B.bytes
  have hr := B.returns
  have hts := atoms_spec (ws := wsL_own) B.pre
  have hown : s.vm.findClass RL = some m.cls := findClass_of_methodNamed B.named
  have hlocks := B.notSynchronized
  have htab : c.exceptionTable.toList = tableOf [(0, 10, 13, 13)] := vx_table (x := yL_own) B (hts _ List.mem_cons_self)
  subst hsz
  have hD := hD0.self (sz := s.heap.size)
  generalize hAe : va_A (cow ad oa cI cL u o) s.heap.size = A at hD hq ⊢
  have hA : ∀ q : Nat, s.heap.size ≤ q → A q := fun q h => by rw [← hAe]; exact Or.inr h
  have hS : va_S A s.heap s.heap [] := va_S.rf
  have k_1 := hts (.classLink RL 13 "java/lang/IllegalArgumentException") (by decide +kernel)
  have hl := lv_entry ([.ref (ad 0), .int z1, .int z2, .ref oa]) (n := 5) (Nat.le_of_ble_eq_true rfl)
  rw [lg_entry_eq]
  generalize (lg_sl ([.ref (ad 0), .int z1, .int z2, .ref oa]) ++ List.replicate (5 - (lg_sl ([.ref (ad 0), .int z1, .int z2, .ref oa])).length) Slot.unset).toArray = ls at hl ⊢
  have hl : lv_has ls 5 [(0, .ref (ad 0)), (1, .int z1), (2, .int z2), (3, .ref oa)] := hl
  refine lv_aload_n hx hb dL_own_0 rfl (lv_at hl 3 rfl) ?_
  refine lv_iconst (v := 0) hx hb dL_own_1 (by decide) ?_
  refine lv_aload_n hx hb dL_own_2 rfl (lv_at hl 0 rfl) ?_
  refine lv_iload_n hx hb dL_own_3 rfl (lv_at hl 1 rfl) ?_
  refine lv_iload_n hx hb dL_own_4 rfl (lv_at hl 2 rfl) ?_
  have hPc := hP.sub (ws' := cw ad cI cL u) [0, 1, 2, 3, 4, 5, 6, 7, 8, 9, 10, 11, 12, 13, 14, 15, 16, 17, 18, 19, 20, 21, 22, 23, 24, 25, 26, 27] rfl
  have hDc := hD.sub (ws' := cw ad cI cL u) [0, 1, 2, 3, 4, 5, 6, 7, 8, 9, 10, 11, 12, 13, 14, 15, 16, 17, 18, 19, 20, 21, 22, 23, 24, 25, 26, 27] (by decide) rfl
  have hFc := va_free (wc := cw ad cI cL u) hD hS hA [0, 1, 2, 3, 4, 5, 6, 7, 8, 9, 10, 11, 12, 13, 14, 15, 16, 17, 18, 19, 20, 21, 22, 23, 24, 25, 26, 27] rfl
  refine vx_calli (vx_runV (As := [.int z1, .int z2]) (rest := [.int (0 : Int32), .ref oa]) ⟨hx, hb, hml, hown, hts⟩ (mX4_own l lt dC dI cI cL ad sa s.heap.size u z1 z2 n r hf0) (cwV 2 hts gL_own_X4_own rfl rfl rfl (by decide +kernel) ⟨Nat.le_of_ble_eq_true rfl, Nat.le_of_ble_eq_true rfl⟩) ⟨xPre_blind, va_recv hK hPc (ci := 4) (q0 := 0) rfl rfl, xPre_of hPc hK hDc hZ hX hq hS hFc⟩ rfl rfl hl.1 rfl (lv_room (Nat.le_of_ble_eq_true rfl)) dL_own_5 ⟨by decide, by decide⟩) hS (fun q _ h => hFc q h) hFc (fun q _ h => hFc q h) (fun E ce q9 u2 t H1 locs ht hvm hpx hB hz1 hk1 hS hce hcv hcl => ?_) (fun r2 u2 t H1 locs ht hvm hw hB hz1 hk1 hS => ?_)
  · obtain ⟨⟨hB1, hB2⟩, hP1, hK1, hD1⟩ := hB
    rw [ht] at hP1
    have e1 : xcode E = r.1 := congrArg Prod.fst hB1
    have e2 : u2 = r.2.2 := congrArg (fun z => z.2.2) hB1
    subst u2
    obtain ⟨hP, hD⟩ := va_join (wr := [(oa, .inl (cL, 1, .inr (.inl o)))]) (w1 := cw ad cI cL r.2.2) hP hD [0, 1, 2, 3, 4, 5, 6, 7, 8, 9, 10, 11, 12, 13, 14, 15, 16, 17, 18, 19, 20, 21, 22, 23, 24, 25, 26, 27] [28] rfl rfl (by decide) (by decide) hk1 hFc hP1 hD1
    have hP := hP.sub (ws' := cow ad oa cI cL r.2.2 o) [1, 2, 3, 4, 5, 6, 7, 8, 9, 10, 11, 12, 13, 14, 15, 16, 17, 18, 19, 20, 21, 22, 23, 24, 25, 26, 27, 28, 0] rfl
    have hD := hD.sub (ws' := cow ad oa cI cL r.2.2 o) [1, 2, 3, 4, 5, 6, 7, 8, 9, 10, 11, 12, 13, 14, 15, 16, 17, 18, 19, 20, 21, 22, 23, 24, 25, 26, 27, 28, 0] (by decide) rfl
    by_cases hE : E = "java/lang/IllegalArgumentException"
    · subst hE
      refine vx_catch (own := RL) (name := "java/lang/IllegalArgumentException") hown [] ⟨0, 10, 13, 13⟩ [] htab (fun z hz => nomatch hz) (by decide) (by decide) k_1 (va_Nw.use rfl hX.1) hce hcv hcl ?_
      refine lv_astore (lv' := [(4, .ref q9), (0, .ref (ad 0)), (1, .int z1), (2, .int z2), (3, .ref oa)]) hx hb dL_own_13 hl (by decide) rfl (fun ls hl => ?_)
      refine lv_iconst (v := 1) hx hb dL_own_15 (by decide) ?_
      have e9 : r.1 = 1 := e1.symm
      refine W.widen (k := 2) (n := 12) (by decide) (by decide) ?_
      exact W.iret (v := 1) hx hb hr (fun t ht hW => ⟨⟨1, (r.2.2, o), rfl, by rw [if_neg (by omega), e9]; rfl, ⟨by rw [ht]; exact hP, va_K.moved hW.alike hK, hD⟩⟩, hS.F ht⟩) hS.2.2 dL_own_16
    · by_cases hE2 : E = "java/lang/IllegalStateException"
      · subst hE2
        have e9 : r.1 = 2 := e1.symm
        omega
      · exact absurd hB2 (by unfold xcode; rw [if_neg hE, if_neg hE2]; decide)
  obtain ⟨hP1, hK1, hD1⟩ := hB
  rw [ht] at hP1
  have e0 : r.1 = 0 := (congrArg Prod.fst hw).symm
  have e1 : r2 = r.2.1 := congrArg (fun z => z.2.1) hw
  have e2 : u2 = r.2.2 := congrArg (fun z => z.2.2) hw
  subst r2 u2
  obtain ⟨hP, hD⟩ := va_join (wr := [(oa, .inl (cL, 1, .inr (.inl o)))]) (w1 := cw ad cI cL r.2.2) hP hD [0, 1, 2, 3, 4, 5, 6, 7, 8, 9, 10, 11, 12, 13, 14, 15, 16, 17, 18, 19, 20, 21, 22, 23, 24, 25, 26, 27] [28] rfl rfl (by decide) (by decide) hk1 hFc hP1 hD1
  have hP := hP.sub (ws' := cow ad oa cI cL r.2.2 o) [1, 2, 3, 4, 5, 6, 7, 8, 9, 10, 11, 12, 13, 14, 15, 16, 17, 18, 19, 20, 21, 22, 23, 24, 25, 26, 27, 28, 0] rfl
  have hD := hD.sub (ws' := cow ad oa cI cL r.2.2 o) [1, 2, 3, 4, 5, 6, 7, 8, 9, 10, 11, 12, 13, 14, 15, 16, 17, 18, 19, 20, 21, 22, 23, 24, 25, 26, 27, 28, 0] (by decide) rfl
  clear hP1 hD1 hK1 hFc hk1 hPc hDc
  generalize H1 = H at hP hS ⊢
  refine lv_i2l (v := r.2.1.toInt64) hx hb dL_own_8 rfl ?_
  refine va_last (f := o) hx hb hK hP hD hS 28 1 rfl rfl (vp_in_iff.mpr (by decide)) dL_own_9 (fun H locs hP hD hS => ?_)
  have hP : va_P (dC, dI) vwCl (cow ad oa cI cL r.2.2 (vp_updL o (0 : Int32).toNatClampNeg r.2.1.toInt64)) H := hP
  have hD : va_D A (cow ad oa cI cL r.2.2 (vp_updL o (0 : Int32).toNatClampNeg r.2.1.toInt64)) := hD
  refine lv_goto (tgt := 17) hx hb dL_own_10 (by decide) ?_
  refine lv_iconst (v := 0) hx hb dL_own_17 (by decide) ?_
  refine W.widen (k := 2) (n := 12) (by decide) (by decide) ?_
  exact W.iret (v := 0) hx hb hr (fun t ht hW => ⟨⟨0, (r.2.2, vp_updL o (0 : Int32).toNatClampNeg r.2.1.toInt64), rfl, by rw [if_pos e0, e0]; rfl, ⟨by rw [ht]; exact hP, va_K.moved hW.alike hK, hD⟩⟩, hS.F ht⟩) hS.2.2 dL_own_18

set_option maxHeartbeats 4000000 in
set_option maxRecDepth 100000 in
theorem mL_used (l : Launch) (lt : l.stackTraces = false) (dC : Nat → ClassId) (dI : Nat → Nat → Nat) (cI cL : ClassId) (ad sa : Nat → Nat) (oa : Nat) (sz : Nat) (u : St) (o : Nat → Int64) (z1 : Int32) (n : Nat) (r : Nat × Int64 × St) (hf0 : FX4_used n z1 u = some r) (h12 : r.1 ≤ 1) : Met l yL_used wsL_used ({ frames := 9, cells := 1, slots := 6, locals := 133 }) (va_Pc [.ref (ad 0), .int z1, .ref oa] (xPre dC dI cI cL sa (cow ad oa cI cL u o) sz)) (va_Qi (fun a t => (a, t) = (nI r.1, r.2.2, if r.1 = 0 then vp_updL o (0 : Int32).toNatClampNeg r.2.1 else o)) (fun t => wPost dC dI cI cL (va_A (cow ad oa cI cL u o) sz) (cow ad oa cI cL t.1 t.2)) (va_A (cow ad oa cI cL u o) sz)) 1 6 (va_A (cow ad oa cI cL u o) sz) := by
  refine va_MetW (cc := cL_used) (maxL := 4) (ret := (some .int)) (hh := [(0, 8, 11, 13)]) (by decide) rfl ?_
  intro p e s m args below meth c s₁ B hml hv
  obtain ⟨rfl, ⟨hsz, hP, hK, hD0, hZ⟩, hX, hq⟩ := hv
  have hx := B.exec
  have hb := B.bytes
  have hr := B.returns
  have hts := atoms_spec (ws := wsL_used) B.pre
  have hown : s.vm.findClass RL = some m.cls := findClass_of_methodNamed B.named
  have hlocks := B.notSynchronized
  have htab : c.exceptionTable.toList = tableOf [(0, 8, 11, 13)] := vx_table (x := yL_used) B (hts _ List.mem_cons_self)
  subst hsz
  have hD := hD0.self (sz := s.heap.size)
  generalize hAe : va_A (cow ad oa cI cL u o) s.heap.size = A at hD hq ⊢
  have hA : ∀ q : Nat, s.heap.size ≤ q → A q := fun q h => by rw [← hAe]; exact Or.inr h
  have hS : va_S A s.heap s.heap [] := va_S.rf
  have k_1 := hts (.classLink RL 13 "java/lang/IllegalArgumentException") (by decide +kernel)
  have hl := lv_entry ([.ref (ad 0), .int z1, .ref oa]) (n := 4) (Nat.le_of_ble_eq_true rfl)
  rw [lg_entry_eq]
  generalize (lg_sl ([.ref (ad 0), .int z1, .ref oa]) ++ List.replicate (4 - (lg_sl ([.ref (ad 0), .int z1, .ref oa])).length) Slot.unset).toArray = ls at hl ⊢
  have hl : lv_has ls 4 [(0, .ref (ad 0)), (1, .int z1), (2, .ref oa)] := hl
  refine lv_aload_n hx hb dL_used_0 rfl (lv_at hl 2 rfl) ?_
  refine lv_iconst (v := 0) hx hb dL_used_1 (by decide) ?_
  refine lv_aload_n hx hb dL_used_2 rfl (lv_at hl 0 rfl) ?_
  refine lv_iload_n hx hb dL_used_3 rfl (lv_at hl 1 rfl) ?_
  have hPc := hP.sub (ws' := cw ad cI cL u) [0, 1, 2, 3, 4, 5, 6, 7, 8, 9, 10, 11, 12, 13, 14, 15, 16, 17, 18, 19, 20, 21, 22, 23, 24, 25, 26, 27] rfl
  have hDc := hD.sub (ws' := cw ad cI cL u) [0, 1, 2, 3, 4, 5, 6, 7, 8, 9, 10, 11, 12, 13, 14, 15, 16, 17, 18, 19, 20, 21, 22, 23, 24, 25, 26, 27] (by decide) rfl
  have hFc := va_free (wc := cw ad cI cL u) hD hS hA [0, 1, 2, 3, 4, 5, 6, 7, 8, 9, 10, 11, 12, 13, 14, 15, 16, 17, 18, 19, 20, 21, 22, 23, 24, 25, 26, 27] rfl
  refine vx_calll (vx_runV (As := [.int z1]) (rest := [.int (0 : Int32), .ref oa]) ⟨hx, hb, hml, hown, hts⟩ (mX4_used l lt dC dI cI cL ad sa s.heap.size u z1 n r hf0) (cwV 1 hts gL_used_X4_used rfl rfl rfl (by decide +kernel) ⟨Nat.le_of_ble_eq_true rfl, Nat.le_of_ble_eq_true rfl⟩) ⟨xPre_blind, va_recv hK hPc (ci := 4) (q0 := 0) rfl rfl, xPre_of hPc hK hDc hZ hX hq hS hFc⟩ rfl rfl hl.1 rfl (lv_room (Nat.le_of_ble_eq_true rfl)) dL_used_4 ⟨by decide, by decide⟩) hS (fun q _ h => hFc q h) hFc (fun q _ h => hFc q h) (fun E ce q9 u2 t H1 locs ht hvm hpx hB hz1 hk1 hS hce hcv hcl => ?_) (fun r2 u2 t H1 locs ht hvm hw hB hz1 hk1 hS => ?_)
  · obtain ⟨⟨hB1, hB2⟩, hP1, hK1, hD1⟩ := hB
    rw [ht] at hP1
    have e1 : xcode E = r.1 := congrArg Prod.fst hB1
    have e2 : u2 = r.2.2 := congrArg (fun z => z.2.2) hB1
    subst u2
    obtain ⟨hP, hD⟩ := va_join (wr := [(oa, .inl (cL, 1, .inr (.inl o)))]) (w1 := cw ad cI cL r.2.2) hP hD [0, 1, 2, 3, 4, 5, 6, 7, 8, 9, 10, 11, 12, 13, 14, 15, 16, 17, 18, 19, 20, 21, 22, 23, 24, 25, 26, 27] [28] rfl rfl (by decide) (by decide) hk1 hFc hP1 hD1
    have hP := hP.sub (ws' := cow ad oa cI cL r.2.2 o) [1, 2, 3, 4, 5, 6, 7, 8, 9, 10, 11, 12, 13, 14, 15, 16, 17, 18, 19, 20, 21, 22, 23, 24, 25, 26, 27, 28, 0] rfl
    have hD := hD.sub (ws' := cow ad oa cI cL r.2.2 o) [1, 2, 3, 4, 5, 6, 7, 8, 9, 10, 11, 12, 13, 14, 15, 16, 17, 18, 19, 20, 21, 22, 23, 24, 25, 26, 27, 28, 0] (by decide) rfl
    by_cases hE : E = "java/lang/IllegalArgumentException"
    · subst hE
      refine vx_catch (own := RL) (name := "java/lang/IllegalArgumentException") hown [] ⟨0, 8, 11, 13⟩ [] htab (fun z hz => nomatch hz) (by decide) (by decide) k_1 (va_Nw.use rfl hX.1) hce hcv hcl ?_
      refine lv_astore_n (lv' := [(3, .ref q9), (0, .ref (ad 0)), (1, .int z1), (2, .ref oa)]) hx hb dL_used_11 rfl hl (by decide) rfl (fun ls hl => ?_)
      refine lv_iconst (v := 1) hx hb dL_used_12 (by decide) ?_
      have e9 : r.1 = 1 := e1.symm
      refine W.widen (k := 1) (n := 6) (by decide) (by decide) ?_
      exact W.iret (v := 1) hx hb hr (fun t ht hW => ⟨⟨1, (r.2.2, o), rfl, by rw [if_neg (by omega), e9]; rfl, ⟨by rw [ht]; exact hP, va_K.moved hW.alike hK, hD⟩⟩, hS.F ht⟩) hS.2.2 dL_used_13
    · by_cases hE2 : E = "java/lang/IllegalStateException"
      · subst hE2
        have e9 : r.1 = 2 := e1.symm
        omega
      · exact absurd hB2 (by unfold xcode; rw [if_neg hE, if_neg hE2]; decide)
  obtain ⟨hP1, hK1, hD1⟩ := hB
  rw [ht] at hP1
  have e0 : r.1 = 0 := (congrArg Prod.fst hw).symm
  have e1 : r2 = r.2.1 := congrArg (fun z => z.2.1) hw
  have e2 : u2 = r.2.2 := congrArg (fun z => z.2.2) hw
  subst r2 u2
  obtain ⟨hP, hD⟩ := va_join (wr := [(oa, .inl (cL, 1, .inr (.inl o)))]) (w1 := cw ad cI cL r.2.2) hP hD [0, 1, 2, 3, 4, 5, 6, 7, 8, 9, 10, 11, 12, 13, 14, 15, 16, 17, 18, 19, 20, 21, 22, 23, 24, 25, 26, 27] [28] rfl rfl (by decide) (by decide) hk1 hFc hP1 hD1
  have hP := hP.sub (ws' := cow ad oa cI cL r.2.2 o) [1, 2, 3, 4, 5, 6, 7, 8, 9, 10, 11, 12, 13, 14, 15, 16, 17, 18, 19, 20, 21, 22, 23, 24, 25, 26, 27, 28, 0] rfl
  have hD := hD.sub (ws' := cow ad oa cI cL r.2.2 o) [1, 2, 3, 4, 5, 6, 7, 8, 9, 10, 11, 12, 13, 14, 15, 16, 17, 18, 19, 20, 21, 22, 23, 24, 25, 26, 27, 28, 0] (by decide) rfl
  clear hP1 hD1 hK1 hFc hk1 hPc hDc
  generalize H1 = H at hP hS ⊢
  refine va_last (f := o) hx hb hK hP hD hS 28 1 rfl rfl (vp_in_iff.mpr (by decide)) dL_used_7 (fun H locs hP hD hS => ?_)
  have hP : va_P (dC, dI) vwCl (cow ad oa cI cL r.2.2 (vp_updL o (0 : Int32).toNatClampNeg r.2.1)) H := hP
  have hD : va_D A (cow ad oa cI cL r.2.2 (vp_updL o (0 : Int32).toNatClampNeg r.2.1)) := hD
  refine lv_goto (tgt := 14) hx hb dL_used_8 (by decide) ?_
  refine lv_iconst (v := 0) hx hb dL_used_14 (by decide) ?_
  refine W.widen (k := 1) (n := 6) (by decide) (by decide) ?_
  exact W.iret (v := 0) hx hb hr (fun t ht hW => ⟨⟨0, (r.2.2, vp_updL o (0 : Int32).toNatClampNeg r.2.1), rfl, by rw [if_pos e0, e0]; rfl, ⟨by rw [ht]; exact hP, va_K.moved hW.alike hK, hD⟩⟩, hS.F ht⟩) hS.2.2 dL_used_15

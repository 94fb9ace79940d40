set_option maxHeartbeats 8000000 in
set_option maxRecDepth 100000 in
/-- THE LAW, from its entry -/
theorem whole_start {p : Program} {e : Env} {s : State} {m : MethodId} {below : List Frame} {meth : Method} {c : Code} (l : Launch) (lt : l.stackTraces = false) {b L : Nat} {xs : Nat → Int32} (hL : L ≤ 2560) (C0 : lw_At p s m meth c b L xs) : W p l e room_1 s m #[Value.ref b] below meth c s.heap [] 0 0 (lw_Z below #[Value.ref b] s) (entryFrame m ([Value.ref b] : List Value).toArray 8) := by
  obtain ⟨hx, hb, hr, hml, hown0, hts0, hXs, hbl, hlocks, hgv⟩ := id C0
  have hown : s.vm.findClass RL = some m.cls := hown0
  have hts : ∀ w ∈ wsL_law, w.before #[Value.ref b] s = true := fun w h => hts0 w (wsL_law_in w h)
  have hA : ∀ q : Nat, s.heap.size ≤ q → (fun q : Nat => s.heap.size ≤ q) q := fun _ h => h
  have hZ := ls_ZN hts0
  obtain ⟨sa, hX⟩ := ls_ZX hts0 hgv
  have hq := ls_zq hts0 hgv
  obtain ⟨dC, dI, cI, cL, hK⟩ := ls_K hts0
  have hS : va_S (fun q : Nat => s.heap.size ≤ q) s.heap s.heap [] := va_S.rf
  have hP : va_P (dC, dI) vwCl [] s.heap := fun k q h => by simp at h
  have hD : va_D (fun q : Nat => s.heap.size ≤ q) [] := ⟨fun i j p q h => by simp at h, fun k q h => by simp at h⟩
  have k1 := hts0 (.classLink RL 8 RX4) (by decide +kernel)
  have k2 := hts0 (.instantiable RX4 4) (by decide +kernel)
  have k3 := hts0 (.initialized RX4) (by decide +kernel)
  have k4 := hts0 (.methodLink RL 73 yX4_init) (by decide +kernel)
  have k5 := hts0 (.instanceMethod yX4_init) (by decide +kernel)
  have k6 := hts0 (.classLink RL 74 RX5) (by decide +kernel)
  have k7 := hts0 (.instantiable RX5 36) (by decide +kernel)
  have k8 := hts0 (.initialized RX5) (by decide +kernel)
  have k9 := hts0 (.methodLink RL 76 yX5_init) (by decide +kernel)
  have k10 := hts0 (.instanceMethod yX5_init) (by decide +kernel)
  have k11 := hts0 (.arrayClass .long) (by decide +kernel)
  have hl := lv_entry ([.ref b]) (n := 8) (Nat.le_of_ble_eq_true rfl)
  rw [lg_entry_eq]
  generalize (lg_sl ([.ref b]) ++ List.replicate (8 - (lg_sl ([.ref b])).length) Slot.unset).toArray = ls at hl ⊢
  have hl : lv_has ls 8 [(0, .ref b)] := hl
  refine va_new (ci := 4) (fs := [.null, .null, .null, .null]) (C := RX4) (T := TX4) (N := 4) hx hb hts inlX4 tyX4 tyX4_ok hown k1 k2 k3 hK hP hD hS hA rfl (fun j hj => by rcases (show j = 0 ∨ j = 1 ∨ j = 2 ∨ j = 3 by omega) with rfl | rfl | rfl | rfl <;> rfl) (show 0 + 1 ≤ 601024 by omega) (show 0 + 4 ≤ 7293034 by omega) dL_law_0 (fun q1 H hP hD hS => ?_)
  refine W.widen (k := 1) (n := 4) (by omega) (by omega) ?_
  refine lv_dup hx hb dL_law_3 rfl ?_
  have hPc := wp_r hP
  have hDc := wd_r hD
  have hFc := wf_of hDc hS hA
  refine va_callv (va_runI (As := []) (rest := [.ref q1]) ⟨hx, hb, hml, hown, hts⟩ (mX4_init l dC dI cI cL q1 H.size) (cwI 0 hts gL_law_X4_init rfl rfl rfl k3 k4 k5 rfl (by decide +kernel) ⟨Nat.le_of_ble_eq_true rfl, Nat.le_of_ble_eq_true rfl⟩) ⟨wPre_blind, wPre_of hPc hK hDc hZ⟩ rfl rfl hl.1 rfl (lv_room (Nat.le_of_ble_eq_true rfl)) dL_law_4 ⟨show 1 + 27 ≤ 601024 by omega, show 4 + 823 ≤ 7293034 by omega⟩) hS (fun q _ h => hFc q h) hFc (fun ad t H1 locs ht hvm hw hB hz1 hk1 hS => ?_)
  obtain ⟨had, hP1, hK1, hD1⟩ := hB
  rw [ht] at hP1
  subst had
  obtain ⟨hP, hD⟩ := wj_r hP hD hk1 hFc hP1 hD1
  clear hP1 hD1 hK1 hPc hDc hFc hk1
  generalize H1 = H at hP hS ⊢
  have hP : va_P (dC, dI) vwCl (cw ad cI cL u0c) H := hP
  have hD : va_D (fun q : Nat => s.heap.size ≤ q) (cw ad cI cL u0c) := hD
  refine W.widen (k := 28) (n := 827) (by omega) (by omega) ?_
  refine lv_astore_n (lv' := [(1, .ref (ad 0)), (0, .ref b)]) hx hb dL_law_7 rfl hl (by decide) rfl (fun ls hl => ?_)
  refine va_new (ci := 5) (fs := [.int 0, .int 0, .null, .null, .null, .null, .int 0, .null, .null, .null, .null, .int 0, .null, .null, .null, .null, .null, .int 0, .int 0, .int 0, .int 0, .null, .int 0, .long 0, .long 0, .null, .null, .null, .null, .null, .null, .null, .int 0, .long 0, .long 0, .long 0]) (C := RX5) (T := TX5) (N := 36) hx hb hts inlX5 tyX5 tyX5_ok hown k6 k7 k8 hK hP hD hS hA rfl (fun j hj => by rcases (show j = 0 ∨ j = 1 ∨ j = 2 ∨ j = 3 ∨ j = 4 ∨ j = 5 ∨ j = 6 ∨ j = 7 ∨ j = 8 ∨ j = 9 ∨ j = 10 ∨ j = 11 ∨ j = 12 ∨ j = 13 ∨ j = 14 ∨ j = 15 ∨ j = 16 ∨ j = 17 ∨ j = 18 ∨ j = 19 ∨ j = 20 ∨ j = 21 ∨ j = 22 ∨ j = 23 ∨ j = 24 ∨ j = 25 ∨ j = 26 ∨ j = 27 ∨ j = 28 ∨ j = 29 ∨ j = 30 ∨ j = 31 ∨ j = 32 ∨ j = 33 ∨ j = 34 ∨ j = 35 by omega) with rfl | rfl | rfl | rfl | rfl | rfl | rfl | rfl | rfl | rfl | rfl | rfl | rfl | rfl | rfl | rfl | rfl | rfl | rfl | rfl | rfl | rfl | rfl | rfl | rfl | rfl | rfl | rfl | rfl | rfl | rfl | rfl | rfl | rfl | rfl | rfl <;> rfl) (show 28 + 1 ≤ 601024 by omega) (show 827 + 36 ≤ 7293034 by omega) dL_law_8 (fun q2 H hP hD hS => ?_)
  refine W.widen (k := 29) (n := 863) (by omega) (by omega) ?_
  refine lv_dup hx hb dL_law_11 rfl ?_
  have hPc := wp_r hP
  have hDc := wd_r hD
  have hFc := wf_of hDc hS hA
  refine va_callv (va_runI (As := []) (rest := [.ref q2]) ⟨hx, hb, hml, hown, hts⟩ (mX5_init l dC dI cI cL q2 H.size) (cwI 0 hts gL_law_X5_init rfl rfl rfl k8 k9 k10 rfl (by decide +kernel) ⟨Nat.le_of_ble_eq_true rfl, Nat.le_of_ble_eq_true rfl⟩) ⟨wPre_blind, wPre_of hPc hK hDc hZ⟩ rfl rfl hl.1 rfl (lv_room (Nat.le_of_ble_eq_true rfl)) dL_law_12 ⟨show 29 + 21 ≤ 601024 by omega, show 863 + 627 ≤ 7293034 by omega⟩) hS (fun q _ h => hFc q h) hFc (fun am t H1 locs ht hvm hw hB hz1 hk1 hS => ?_)
  obtain ⟨ham, hP1, hK1, hD1⟩ := hB
  rw [ht] at hP1
  subst ham
  obtain ⟨hP, hD⟩ := wj_r hP hD hk1 hFc hP1 hD1
  clear hP1 hD1 hK1 hPc hDc hFc hk1
  generalize H1 = H at hP hS ⊢
  refine W.widen (k := 50) (n := 1490) (by omega) (by omega) ?_
  refine lv_astore_n (lv' := [(2, .ref (am 0)), (1, .ref (ad 0)), (0, .ref b)]) hx hb dL_law_15 rfl hl (by decide) rfl (fun ls hl => ?_)
  refine lv_iconst (v := 1) hx hb dL_law_16 (by decide) ?_
  refine newaL (N := 1) hx hb k11 hK hP hD hS hA (by decide) (by decide) (by decide) (show 50 + 1 ≤ 601024 by omega) (show 1490 + 1 ≤ 7293034 by omega) dL_law_17 (fun oa H hP hD hS => ?_)
  refine W.widen (k := 51) (n := 1491) (by omega) (by omega) ?_
  have hP := wp_rot hP
  have hD := wd_rot hD
  refine lv_astore_n (lv' := [(3, .ref oa), (2, .ref (am 0)), (1, .ref (ad 0)), (0, .ref b)]) hx hb dL_law_19 rfl hl (by decide) rfl (fun ls hl => ?_)
  refine lv_iconst (v := 0) hx hb dL_law_20 (by decide) ?_
  refine lv_istore (lv' := [(4, .int 0), (3, .ref oa), (2, .ref (am 0)), (1, .ref (ad 0)), (0, .ref b)]) hx hb dL_law_21 hl (by decide) rfl (fun ls hl => ?_)
  obtain ⟨N0, hR⟩ := lawR_of (xs := xs) (L := L) 512 0 u0c u0m RR_0 (by omega)
  exact law_loop lt hL C0 hZ hX hq hK (N := N0 + 1) (by omega) 512 0 u0c u0m (fun _ => 0) H _ 51 1491 ls (hR (N0 + 1) (by omega)) (by omega) (by omega) (by omega) hP hD hS (lv_sub hl [4, 3, 2, 1, 0] rfl)

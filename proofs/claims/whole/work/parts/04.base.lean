/-! our own words: a state is four functions: ints, longs, int arrays, long arrays -/
abbrev St : Type := (Nat → Int32) × (Nat → Int64) × (Nat → Nat → Int32) × (Nat → Nat → Int64)
abbrev gI (u : St) (k : Nat) : Int32 := u.1 k
abbrev gJ (u : St) (k : Nat) : Int64 := u.2.1 k
abbrev gA (u : St) (k : Nat) : Nat → Int32 := u.2.2.1 k
abbrev gL (u : St) (k : Nat) : Nat → Int64 := u.2.2.2 k
def sI (u : St) (k : Nat) (v : Int32) : St := (fun j => if j = k then v else u.1 j, u.2)
def sJ (u : St) (k : Nat) (v : Int64) : St := (u.1, fun j => if j = k then v else u.2.1 j, u.2.2)
def sA (u : St) (k : Nat) (f : Nat → Int32) : St := (u.1, u.2.1, fun j => if j = k then f else u.2.2.1 j, u.2.2.2)
def sL (u : St) (k : Nat) (f : Nat → Int64) : St := (u.1, u.2.1, u.2.2.1, fun j => if j = k then f else u.2.2.2 j)
/-- the index is looked at -/
def ck (i : Int32) (n : Nat) : Bool := decide (0 ≤ i.toInt ∧ i.toInt < n)
theorem ck_in {i : Int32} {n : Nat} (h : ck i n = true) : vp_in i n := vp_in_iff.mpr (of_decide_eq_true h)
theorem ck_of {β : Type} {i : Int32} {n : Nat} {T : Option β} {r : β} (h : (if ck i n = true then T else none) = some r) : vp_in i n ∧ T = some r := by
  by_cases c : ck i n = true
  · rw [if_pos c] at h; exact ⟨ck_in c, h⟩
  · rw [if_neg c] at h; cases h
theorem nz_of {β : Type} {c : Prop} [Decidable c] {T : Option β} {r : β} (h : (if c then none else T) = some r) : ¬ c ∧ T = some r := by
  by_cases d : c
  · rw [if_pos d] at h; cases h
  · rw [if_neg d] at h; exact ⟨d, h⟩
theorem ps_of {β : Type} {c : Prop} [Decidable c] {T : Option β} {r : β} (h : (if c then T else none) = some r) : c ∧ T = some r := by
  by_cases d : c
  · rw [if_pos d] at h; exact ⟨d, h⟩
  · rw [if_neg d] at h; cases h
theorem ob {α β : Type} {x : Option α} {f : α → Option β} {r : β} (h : x.bind f = some r) : ∃ w, x = some w ∧ f w = some r := by
  cases x with
  | none => cases h
  | some w => exact ⟨w, rfl, h⟩
theorem nar_bool {v : Int32} (h : v = 0 ∨ v = 1) : narrow .boolean (.int v) = .int v := by
  rcases h with rfl | rfl <;> rfl
theorem lcmp_ge {x y : Int64} {A B : Prop} (a : y ≤ x → A) (b : ¬ y ≤ x → B) : (0 ≤ lg_cmp x y → A) ∧ (¬ 0 ≤ lg_cmp x y → B) := ⟨fun h => a ((lg_cmp_ge x y).mp h), fun h => b (fun q => h ((lg_cmp_ge x y).mpr q))⟩
/-- all of a world's cells are free -/
theorem freeAll {A0 : Nat → Prop} {ws : va_W} {H0 H : Heap} {locs : List Loc} (hD : va_D A0 ws) (hS : va_S A0 H0 H locs) (hA : ∀ q, H0.size ≤ q → A0 q) : ∀ q, va_A ws H.size q → A0 q := by
  rintro q (⟨k, e, h⟩ | h)
  · exact hD.2 k _ h
  · exact hA q (Nat.le_trans hS.1 h)
/-- a callee without a world: all cells stay -/
theorem keepP {D : va_G} {cl : List vw_C} {ws : va_W} {H H1 : Heap} (hP : va_P D cl ws H) (hk : ∀ q : Nat, q < H.size → ¬ va_A [] H.size q → H1[q]? = H[q]?) : va_P D cl ws H1 := by
  intro k q h
  have hlt : q.1 < H.size := (hP k q h).lt
  refine va_at.kept (hP k q h) (hk q.1 hlt ?_)
  rintro (⟨k2, e2, h2⟩ | h2)
  · simp at h2
  · omega
theorem freeNil {A0 : Nat → Prop} {H0 H : Heap} {locs : List Loc} (hS : va_S A0 H0 H locs) (hA : ∀ q, H0.size ≤ q → A0 q) : ∀ q, va_A [] H.size q → A0 q := by
  rintro q (⟨k, e, h⟩ | h)
  · simp at h
  · exact hA q (Nat.le_trans hS.1 h)
/-- the nest mates' links to LampChoice.quotient -/
def ZN (U : State) : Prop := va_Nw (.methodLinkNest RX0 85 yX4_quotient RX4) U ∧ va_Nw (.methodLinkNest RX1 86 yX4_quotient RX4) U ∧ va_Nw (.methodLinkNest RX2 57 yX4_quotient RX4) U ∧ va_Nw (.methodLinkNest RX3 80 yX4_quotient RX4) U
theorem ZN.same {u U : State} (h : u.vm = U.vm) (z : ZN u) : ZN U := ⟨va_Nw.same rfl h z.1, va_Nw.same rfl h z.2.1, va_Nw.same rfl h z.2.2.1, va_Nw.same rfl h z.2.2.2⟩
theorem ZN.warm {s U : State} (h : s.WarmedH U.vm) (z : ZN s) : ZN U := ⟨va_Nw.warmM h z.1, va_Nw.warmM h z.2.1, va_Nw.warmM h z.2.2.1, va_Nw.warmM h z.2.2.2⟩
/-- the start of a method over a world -/
def wPre (dC : Nat → ClassId) (dI : Nat → Nat → Nat) (cI cL : ClassId) (ws : va_W) (sz : Nat) : State → Prop := fun U => U.heap.size = sz ∧ va_P (dC, dI) vwCl ws U.heap ∧ va_K (dC, dI) vwCl [(cI, .int), (cL, .long)] U ∧ va_D (fun _ => True) ws ∧ ZN U
def wPost (dC : Nat → ClassId) (dI : Nat → Nat → Nat) (cI cL : ClassId) (A : Nat → Prop) (ws : va_W) : State → Prop := fun t => va_P (dC, dI) vwCl ws t.heap ∧ va_K (dC, dI) vwCl [(cI, .int), (cL, .long)] t ∧ va_D A ws
theorem wPre_blind {dC : Nat → ClassId} {dI : Nat → Nat → Nat} {cI cL : ClassId} {ws : va_W} {sz : Nat} {av : List Value} : FrameBlind (va_Pc av (wPre dC dI cI cL ws sz)) := fun a U g mk q => by
  obtain ⟨q0, q1, qP, qK, qD, qZ⟩ := q
  exact ⟨q0, q1, qP, va_K.moved (u := U) (U := U.calling g mk a) (Vm.Alike.refl U.vm) qK, qD, ZN.same (u := U) (U := U.calling g mk a) rfl qZ⟩
theorem wPre_of {dC : Nat → ClassId} {dI : Nat → Nat → Nat} {cI cL : ClassId} {ws : va_W} {s : State} {H : Heap} {A : Nat → Prop} {av : List Value} (hP : va_P (dC, dI) vwCl ws H) (hK : va_K (dC, dI) vwCl [(cI, .int), (cL, .long)] s) (hD : va_D A ws) (hZ : ZN s) : ∀ U : State, U.heap = H → s.WarmedH U.vm → va_Pc av (wPre dC dI cI cL ws H.size) av.toArray U :=
  fun U hU hW => ⟨rfl, by rw [hU], by rw [hU]; exact hP, va_K.moved hW.alike hK, hD.weaken (fun _ _ _ _ => trivial), hZ.warm hW⟩
/-- the start of a static method that looks at no cell -/
def nPre (sz : Nat) : State → Prop := fun U => U.heap.size = sz
theorem nPre_blind {sz : Nat} {av : List Value} : FrameBlind (va_Pc av (nPre sz)) := fun a U g mk q => q
theorem nPre_of {s : State} {H : Heap} {av : List Value} : ∀ U : State, U.heap = H → s.WarmedH U.vm → va_Pc av (nPre H.size) av.toArray U := fun U hU _ => ⟨rfl, by show U.heap.size = H.size; rw [hU]⟩
/-- arraycopy's numbers are looked at -/
def ckc (sp dp n : Int32) (n0 n1 : Nat) : Bool := decide (¬ sp < 0 ∧ ¬ dp < 0 ∧ ¬ n < 0 ∧ sp.toNatClampNeg + n.toNatClampNeg ≤ n0 ∧ dp.toNatClampNeg + n.toNatClampNeg ≤ n1)
theorem ckc_of {β : Type} {sp dp n : Int32} {n0 n1 : Nat} {T : Option β} {r : β} (h : (if ckc sp dp n n0 n1 = true then T else none) = some r) : (¬ sp < 0 ∧ ¬ dp < 0 ∧ ¬ n < 0 ∧ sp.toNatClampNeg + n.toNatClampNeg ≤ n0 ∧ dp.toNatClampNeg + n.toNatClampNeg ≤ n1) ∧ T = some r := by
  by_cases c : ckc sp dp n n0 n1 = true
  · rw [if_pos c] at h; exact ⟨of_decide_eq_true c, h⟩
  · rw [if_neg c] at h; cases h
section NewA
variable {p : Program} {l : Launch} {e : Env} {R : Room} {s : State} {m : MethodId} {args : Array Value} {below : List Frame} {meth : Method} {c : Code} {H H0 : Heap} {locs : List Loc} {cells slots : Nat} {Q : State → Prop} {cc : ByteArray} {D : va_G} {cl : List vw_C} {ws : va_W} {A : Nat → Prop} {cI cL : ClassId} {pc : Nat} {ls : Array Slot} {rest : List Value}
theorem newaI (hexec : p.tables.exec = Jvm.exec) (hb : c.code = cc) (harr : (Cond.arrayClass .int).before args s = true) (hK : va_K D cl [(cI, .int), (cL, .long)] s) (hP : va_P D cl ws H) (hD : va_D A ws) (hS : va_S A H0 H locs) (hA : ∀ q, H0.size ≤ q → A q) {n : Int32} {N : Nat} (hn : ¬ n < 0) (hN : n.toNatClampNeg = N) (hbytes : N * 4 ≤ 536870912) (hcells : cells + 1 ≤ R.cells) (hslots : slots + N ≤ R.slots) (hdg : decode cc pc = .ok (.newarray .int, 2))
    (kk : ∀ (q : Nat) (H1 : Heap), va_P D cl (ws ++ [(q, .inl (cI, N, .inl (fun _ => 0)))]) H1 → va_D A (ws ++ [(q, .inl (cI, N, .inl (fun _ => 0)))]) → va_S A H0 H1 locs → W p l e R s m args below meth c H1 locs (cells + 1) (slots + N) Q (F0 m (pc + 2) ls (.ref q :: rest))) : W p l e R s m args below meth c H locs cells slots Q (F0 m pc ls (.int n :: rest)) := by
  refine va_newa (atype := .int) (N' := N) (a0 := (N, .inl (fun _ => 0))) (ty := .int) (n := n) hexec hb harr rfl hK hP hD hS hA (fun _ => rfl) hn hN hbytes hcells hslots hdg (fun q cA H1 hK1 hP1 hD1 hS1 => ?_)
  have h1 : va_RA s cA .int := (hK1.2 2 _ rfl).2
  have h0 : va_RA s cI .int := (hK.2 0 _ rfl).2
  have e9 : cA = cI := Option.some.inj ((show s.vm.findClass ("[" ++ FieldType.int.toString) = some cA from h1).symm.trans h0)
  subst e9
  exact kk q H1 hP1 hD1 hS1
theorem newaL (hexec : p.tables.exec = Jvm.exec) (hb : c.code = cc) (harr : (Cond.arrayClass .long).before args s = true) (hK : va_K D cl [(cI, .int), (cL, .long)] s) (hP : va_P D cl ws H) (hD : va_D A ws) (hS : va_S A H0 H locs) (hA : ∀ q, H0.size ≤ q → A q) {n : Int32} {N : Nat} (hn : ¬ n < 0) (hN : n.toNatClampNeg = N) (hbytes : N * 8 ≤ 536870912) (hcells : cells + 1 ≤ R.cells) (hslots : slots + N ≤ R.slots) (hdg : decode cc pc = .ok (.newarray .long, 2))
    (kk : ∀ (q : Nat) (H1 : Heap), va_P D cl (ws ++ [(q, .inl (cL, N, .inr (.inl (fun _ => 0))))]) H1 → va_D A (ws ++ [(q, .inl (cL, N, .inr (.inl (fun _ => 0))))]) → va_S A H0 H1 locs → W p l e R s m args below meth c H1 locs (cells + 1) (slots + N) Q (F0 m (pc + 2) ls (.ref q :: rest))) : W p l e R s m args below meth c H locs cells slots Q (F0 m pc ls (.int n :: rest)) := by
  refine va_newa (atype := .long) (N' := N) (a0 := (N, .inr (.inl (fun _ => 0)))) (ty := .long) (n := n) hexec hb harr rfl hK hP hD hS hA (fun _ => rfl) hn hN hbytes hcells hslots hdg (fun q cA H1 hK1 hP1 hD1 hS1 => ?_)
  have h1 : va_RA s cA .long := (hK1.2 2 _ rfl).2
  have h0 : va_RA s cL .long := (hK.2 1 _ rfl).2
  have e9 : cA = cL := Option.some.inj ((show s.vm.findClass ("[" ++ FieldType.long.toString) = some cA from h1).symm.trans h0)
  subst e9
  exact kk q H1 hP1 hD1 hS1
end NewA
/-! with fuel enough: what a pure function comes to -/
def Ev {α : Type} (f : Nat → Option α) (v : α) : Prop := ∃ n0, ∀ n, n0 ≤ n → f n = some v
theorem Ev_succ {α : Type} (f : Nat → Option α) (v : α) : Ev f v ↔ Ev (fun n => f (n + 1)) v := by
  constructor
  · rintro ⟨n0, h⟩; exact ⟨n0, fun n hn => h (n + 1) (by omega)⟩
  · rintro ⟨n0, h⟩
    refine ⟨n0 + 1, fun n hn => ?_⟩
    obtain ⟨k, rfl⟩ : ∃ k, n = k + 1 := ⟨n - 1, by omega⟩
    exact h k (by omega)
theorem Ev_some {α : Type} {a v : α} (h : a = v) : Ev (fun _ => some a) v := ⟨0, fun _ _ => by rw [h]⟩
theorem Ev_bind {α β : Type} {g : Nat → Option α} {k : Nat → α → Option β} {w : α} {v : β} (h : Ev g w) : Ev (fun n => (g n).bind (k n)) v ↔ Ev (fun n => k n w) v := by
  obtain ⟨n1, h1⟩ := h
  constructor
  · rintro ⟨n0, h0⟩
    refine ⟨max n0 n1, fun n hn => ?_⟩
    have h2 : (g n).bind (k n) = some v := h0 n (by omega)
    rw [h1 n (by omega)] at h2
    exact h2
  · rintro ⟨n0, h0⟩
    refine ⟨max n0 n1, fun n hn => ?_⟩
    show (g n).bind (k n) = some v
    rw [h1 n (by omega)]
    exact h0 n (by omega)
theorem Ev_unique {α : Type} {f : Nat → Option α} {v w : α} (h1 : Ev f v) (h2 : Ev f w) : v = w := by
  obtain ⟨n1, h1⟩ := h1
  obtain ⟨n2, h2⟩ := h2
  have a := h1 (max n1 n2) (by omega)
  have b := h2 (max n1 n2) (by omega)
  rw [a] at b
  exact Option.some.inj b
theorem ck_nI {k n : Nat} (h : k < n) (hn : n < 2 ^ 31) : ck (nI k) n = true := by
  have : (nI k).toInt = (k : Int) := nI_toInt (by omega)
  unfold ck
  rw [this]
  exact decide_eq_true ⟨by omega, by omega⟩
/-- the class's cells: X4.room: R 1; X4.choice: R 2; X4.scenes: R 3; X4.days: R 4; X2.strengths: R 5; X2.watts: R 6; X2.lives: R 7; X2.cents: R 8; X2.placeX: R 9; X2.placeY: R 10; X2.held: R 11; X2.pointX: R 12; X2.pointY: R 13; X2.wanted: R 14; X2.kinds: I 0; X2.places: I 1; X2.points: I 2; X2.height: I 3; X0.room: R 1; X0.lights: R 15; X0.reach: R 16; X0.gathered: R 17; X0.tried: R 18; X0.leastLevel: J 0; X0.sumOfLevels: J 1; X0.lamps: R 19; X0.levels: R 20; X0.watts: I 4; X0.found: I 5; X0.known: I 6; X3.room: R 1; X3.choice: R 2; X3.aims: R 21; X3.dims: R 22; X3.misses: R 23; X3.sweeps: I 7; X3.known: I 8; X1.room: R 1; X1.choice: R 2; X1.sensors: R 24; X1.daylights: R 25; X1.ownLevels: R 26; X1.lasted: R 27; X1.farthestStep: I 9; X1.minutes: I 10; X1.wattMinutes: J 2; X1.paid: J 3; X1.renewed: J 4 -/
def cw (ad : Nat → Nat) (cI cL : ClassId) (u : St) : va_W := [(ad 0, .inr (4, [.ref (ad 1), .ref (ad 2), .ref (ad 3), .ref (ad 4)])), (ad 1, .inr (2, [.ref (ad 5), .ref (ad 6), .ref (ad 7), .ref (ad 8), .ref (ad 9), .ref (ad 10), .ref (ad 11), .ref (ad 12), .ref (ad 13), .ref (ad 14), .int (gI u 0), .int (gI u 1), .int (gI u 2), .int (gI u 3)])), (ad 2, .inr (0, [.ref (ad 1), .ref (ad 15), .ref (ad 16), .ref (ad 17), .ref (ad 18), .long (gJ u 0), .long (gJ u 1), .ref (ad 19), .ref (ad 20), .int (gI u 4), .int (gI u 5), .int (gI u 6)])), (ad 3, .inr (3, [.ref (ad 1), .ref (ad 2), .ref (ad 21), .ref (ad 22), .ref (ad 23), .int (gI u 7), .int (gI u 8)])), (ad 4, .inr (1, [.ref (ad 1), .ref (ad 2), .ref (ad 24), .ref (ad 25), .ref (ad 26), .ref (ad 27), .int (gI u 9), .int (gI u 10), .long (gJ u 2), .long (gJ u 3), .long (gJ u 4)])), (ad 5, .inl (cI, 3, .inl (gA u 0))), (ad 6, .inl (cI, 3, .inl (gA u 1))), (ad 7, .inl (cI, 3, .inl (gA u 2))), (ad 8, .inl (cI, 3, .inl (gA u 3))), (ad 9, .inl (cI, 7, .inl (gA u 4))), (ad 10, .inl (cI, 7, .inl (gA u 5))), (ad 11, .inl (cI, 7, .inl (gA u 6))), (ad 12, .inl (cI, 16, .inl (gA u 7))), (ad 13, .inl (cI, 16, .inl (gA u 8))), (ad 14, .inl (cI, 16, .inl (gA u 9))), (ad 15, .inl (cI, 336, .inl (gA u 10))), (ad 16, .inl (cI, 128, .inl (gA u 11))), (ad 17, .inl (cI, 128, .inl (gA u 12))), (ad 18, .inl (cI, 7, .inl (gA u 13))), (ad 19, .inl (cI, 7, .inl (gA u 14))), (ad 20, .inl (cI, 16, .inl (gA u 15))), (ad 21, .inl (cI, 16, .inl (gA u 16))), (ad 22, .inl (cI, 7, .inl (gA u 17))), (ad 23, .inl (cL, 16, .inr (.inl (gL u 0)))), (ad 24, .inl (cI, 7, .inl (gA u 18))), (ad 25, .inl (cI, 16, .inl (gA u 19))), (ad 26, .inl (cI, 7, .inl (gA u 20))), (ad 27, .inl (cI, 7, .inl (gA u 21)))]
/-- the reference's cells: X5.code: I 0; X5.kinds: I 1; X5.strengths: R 1; X5.watts: R 2; X5.lives: R 3; X5.cents: R 4; X5.places: I 2; X5.xs: R 5; X5.ys: R 6; X5.held: R 7; X5.sensors: R 8; X5.points: I 3; X5.pointXs: R 9; X5.pointYs: R 10; X5.wanted: R 11; X5.aims: R 12; X5.daylights: R 13; X5.height: I 4; X5.most: I 5; X5.isKnown: I 6; X5.found: I 7; X5.best: R 14; X5.bestWatts: I 8; X5.bestLeast: J 0; X5.bestSum: J 1; X5.choice: R 15; X5.sums: R 16; X5.wattsBefore: R 17; X5.lights: R 18; X5.dims: R 19; X5.levels: R 20; X5.lasted: R 21; X5.minutes: I 9; X5.energy: J 2; X5.paid: J 3; X5.renewed: J 4 -/
def mw (ad : Nat → Nat) (cI cL : ClassId) (u : St) : va_W := [(ad 0, .inr (5, [.int (gI u 0), .int (gI u 1), .ref (ad 1), .ref (ad 2), .ref (ad 3), .ref (ad 4), .int (gI u 2), .ref (ad 5), .ref (ad 6), .ref (ad 7), .ref (ad 8), .int (gI u 3), .ref (ad 9), .ref (ad 10), .ref (ad 11), .ref (ad 12), .ref (ad 13), .int (gI u 4), .int (gI u 5), .int (gI u 6), .int (gI u 7), .ref (ad 14), .int (gI u 8), .long (gJ u 0), .long (gJ u 1), .ref (ad 15), .ref (ad 16), .ref (ad 17), .ref (ad 18), .ref (ad 19), .ref (ad 20), .ref (ad 21), .int (gI u 9), .long (gJ u 2), .long (gJ u 3), .long (gJ u 4)])), (ad 1, .inl (cI, 3, .inl (gA u 0))), (ad 2, .inl (cI, 3, .inl (gA u 1))), (ad 3, .inl (cI, 3, .inl (gA u 2))), (ad 4, .inl (cI, 3, .inl (gA u 3))), (ad 5, .inl (cI, 7, .inl (gA u 4))), (ad 6, .inl (cI, 7, .inl (gA u 5))), (ad 7, .inl (cI, 7, .inl (gA u 6))), (ad 8, .inl (cI, 7, .inl (gA u 7))), (ad 9, .inl (cI, 16, .inl (gA u 8))), (ad 10, .inl (cI, 16, .inl (gA u 9))), (ad 11, .inl (cI, 16, .inl (gA u 10))), (ad 12, .inl (cI, 16, .inl (gA u 11))), (ad 13, .inl (cI, 16, .inl (gA u 12))), (ad 14, .inl (cI, 7, .inl (gA u 13))), (ad 15, .inl (cI, 7, .inl (gA u 14))), (ad 16, .inl (cI, 128, .inl (gA u 15))), (ad 17, .inl (cI, 8, .inl (gA u 16))), (ad 18, .inl (cI, 336, .inl (gA u 17))), (ad 19, .inl (cI, 7, .inl (gA u 18))), (ad 20, .inl (cI, 7, .inl (gA u 19))), (ad 21, .inl (cI, 7, .inl (gA u 20)))]

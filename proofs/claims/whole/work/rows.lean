section
-- ===== PART A: goes FIRST, ahead of the names: the tables' words, and 'selects' of the private methods out of them =====
/-- a private method of a class that the tables say can be made, by its rows of tables_1 -/
def lw_okq (q : MethodName × Nat) : Prop := (q.1.cls ≠ "java/lang/invoke/MethodHandle" ∧ q.1.cls ≠ "java/lang/invoke/VarHandle") ∧ Cond.instantiable q.1.cls q.2 ∈ tables_1 ∧ Cond.privateMethod q.1 ∈ tables_1 ∧ Cond.instanceMethod q.1 ∈ tables_1
theorem lw_p0 : lw_okq (⟨"LampChoice$Choice", "fillLights", "()V"⟩, 12) := ⟨⟨by decide +kernel, by decide +kernel⟩, List.mem_of_getElem? (i := 90) (by decide +kernel), List.mem_of_getElem? (i := 246) (by decide +kernel), List.mem_of_getElem? (i := 247) (by decide +kernel)⟩
theorem lw_p1 : lw_okq (⟨"LampChoice$Choice", "fillReach", "()V"⟩, 12) := ⟨⟨by decide +kernel, by decide +kernel⟩, List.mem_of_getElem? (i := 90) (by decide +kernel), List.mem_of_getElem? (i := 261) (by decide +kernel), List.mem_of_getElem? (i := 262) (by decide +kernel)⟩
theorem lw_p2 : lw_okq (⟨"LampChoice$Choice", "mostLight", "(II)I"⟩, 12) := ⟨⟨by decide +kernel, by decide +kernel⟩, List.mem_of_getElem? (i := 90) (by decide +kernel), List.mem_of_getElem? (i := 265) (by decide +kernel), List.mem_of_getElem? (i := 266) (by decide +kernel)⟩
theorem lw_p3 : lw_okq (⟨"LampChoice$Choice", "canBecomeEnough", "(I)Z"⟩, 12) := ⟨⟨by decide +kernel, by decide +kernel⟩, List.mem_of_getElem? (i := 90) (by decide +kernel), List.mem_of_getElem? (i := 276) (by decide +kernel), List.mem_of_getElem? (i := 277) (by decide +kernel)⟩
theorem lw_p4 : lw_okq (⟨"LampChoice$Choice", "tryFrom", "(II)V"⟩, 12) := ⟨⟨by decide +kernel, by decide +kernel⟩, List.mem_of_getElem? (i := 90) (by decide +kernel), List.mem_of_getElem? (i := 280) (by decide +kernel), List.mem_of_getElem? (i := 281) (by decide +kernel)⟩
theorem lw_p5 : lw_okq (⟨"LampChoice$Choice", "weigh", "(I)V"⟩, 12) := ⟨⟨by decide +kernel, by decide +kernel⟩, List.mem_of_getElem? (i := 90) (by decide +kernel), List.mem_of_getElem? (i := 284) (by decide +kernel), List.mem_of_getElem? (i := 285) (by decide +kernel)⟩
theorem lw_p6 : lw_okq (⟨"LampChoice$Choice", "gather", "(II)V"⟩, 12) := ⟨⟨by decide +kernel, by decide +kernel⟩, List.mem_of_getElem? (i := 90) (by decide +kernel), List.mem_of_getElem? (i := 301) (by decide +kernel), List.mem_of_getElem? (i := 302) (by decide +kernel)⟩
theorem lw_p7 : lw_okq (⟨"LampChoice", "settleScene", "()V"⟩, 4) := ⟨⟨by decide +kernel, by decide +kernel⟩, List.mem_of_getElem? (i := 16) (by decide +kernel), List.mem_of_getElem? (i := 309) (by decide +kernel), List.mem_of_getElem? (i := 310) (by decide +kernel)⟩
theorem lw_p8 : lw_okq (⟨"LampChoice$Scenes", "sweep", "()Z"⟩, 7) := ⟨⟨by decide +kernel, by decide +kernel⟩, List.mem_of_getElem? (i := 140) (by decide +kernel), List.mem_of_getElem? (i := 323) (by decide +kernel), List.mem_of_getElem? (i := 324) (by decide +kernel)⟩
theorem lw_p9 : lw_okq (⟨"LampChoice$Scenes", "fittingDim", "(I)I"⟩, 7) := ⟨⟨by decide +kernel, by decide +kernel⟩, List.mem_of_getElem? (i := 140) (by decide +kernel), List.mem_of_getElem? (i := 327) (by decide +kernel), List.mem_of_getElem? (i := 328) (by decide +kernel)⟩
theorem lw_p10 : lw_okq (⟨"LampChoice$Scenes", "moveTo", "(II)V"⟩, 7) := ⟨⟨by decide +kernel, by decide +kernel⟩, List.mem_of_getElem? (i := 140) (by decide +kernel), List.mem_of_getElem? (i := 338) (by decide +kernel), List.mem_of_getElem? (i := 339) (by decide +kernel)⟩
theorem lw_p11 : lw_okq (⟨"java/lang/Throwable", "fillInStackTrace", "(I)Ljava/lang/Throwable;"⟩, 6) := ⟨⟨by decide +kernel, by decide +kernel⟩, List.mem_of_getElem? (i := 391) (by decide +kernel), List.mem_of_getElem? (i := 389) (by decide +kernel), List.mem_of_getElem? (i := 390) (by decide +kernel)⟩
theorem lw_p12 : lw_okq (⟨"LampChoice", "lampsGo", "()V"⟩, 4) := ⟨⟨by decide +kernel, by decide +kernel⟩, List.mem_of_getElem? (i := 16) (by decide +kernel), List.mem_of_getElem? (i := 445) (by decide +kernel), List.mem_of_getElem? (i := 446) (by decide +kernel)⟩
theorem lw_p13 : lw_okq (⟨"LampChoice", "checkPlace", "(I)V"⟩, 4) := ⟨⟨by decide +kernel, by decide +kernel⟩, List.mem_of_getElem? (i := 16) (by decide +kernel), List.mem_of_getElem? (i := 490) (by decide +kernel), List.mem_of_getElem? (i := 491) (by decide +kernel)⟩
theorem lw_p14 : lw_okq (⟨"LampChoice", "checkPoint", "(I)V"⟩, 4) := ⟨⟨by decide +kernel, by decide +kernel⟩, List.mem_of_getElem? (i := 16) (by decide +kernel), List.mem_of_getElem? (i := 501) (by decide +kernel), List.mem_of_getElem? (i := 502) (by decide +kernel)⟩
theorem lw_p15 : lw_okq (⟨"LampChoice$Days", "follow", "(II)V"⟩, 11) := ⟨⟨by decide +kernel, by decide +kernel⟩, List.mem_of_getElem? (i := 173) (by decide +kernel), List.mem_of_getElem? (i := 599) (by decide +kernel), List.mem_of_getElem? (i := 600) (by decide +kernel)⟩
def lw_privs_1 : List (MethodName × Nat) := [(⟨"LampChoice$Choice", "fillLights", "()V"⟩, 12), (⟨"LampChoice$Choice", "fillReach", "()V"⟩, 12), (⟨"LampChoice$Choice", "mostLight", "(II)I"⟩, 12), (⟨"LampChoice$Choice", "canBecomeEnough", "(I)Z"⟩, 12), (⟨"LampChoice$Choice", "tryFrom", "(II)V"⟩, 12), (⟨"LampChoice$Choice", "weigh", "(I)V"⟩, 12), (⟨"LampChoice$Choice", "gather", "(II)V"⟩, 12), (⟨"LampChoice", "settleScene", "()V"⟩, 4), (⟨"LampChoice$Scenes", "sweep", "()Z"⟩, 7), (⟨"LampChoice$Scenes", "fittingDim", "(I)I"⟩, 7), (⟨"LampChoice$Scenes", "moveTo", "(II)V"⟩, 7), (⟨"java/lang/Throwable", "fillInStackTrace", "(I)Ljava/lang/Throwable;"⟩, 6), (⟨"LampChoice", "lampsGo", "()V"⟩, 4), (⟨"LampChoice", "checkPlace", "(I)V"⟩, 4), (⟨"LampChoice", "checkPoint", "(I)V"⟩, 4), (⟨"LampChoice$Days", "follow", "(II)V"⟩, 11)]
theorem lw_r1 : ∀ q ∈ lw_privs_1, lw_okq q := List.forall_mem_cons.mpr ⟨lw_p0, List.forall_mem_cons.mpr ⟨lw_p1, List.forall_mem_cons.mpr ⟨lw_p2, List.forall_mem_cons.mpr ⟨lw_p3, List.forall_mem_cons.mpr ⟨lw_p4, List.forall_mem_cons.mpr ⟨lw_p5, List.forall_mem_cons.mpr ⟨lw_p6, List.forall_mem_cons.mpr ⟨lw_p7, List.forall_mem_cons.mpr ⟨lw_p8, List.forall_mem_cons.mpr ⟨lw_p9, List.forall_mem_cons.mpr ⟨lw_p10, List.forall_mem_cons.mpr ⟨lw_p11, List.forall_mem_cons.mpr ⟨lw_p12, List.forall_mem_cons.mpr ⟨lw_p13, List.forall_mem_cons.mpr ⟨lw_p14, List.forall_mem_cons.mpr ⟨lw_p15, fun _ h => absurd h List.not_mem_nil⟩⟩⟩⟩⟩⟩⟩⟩⟩⟩⟩⟩⟩⟩⟩⟩
theorem lw_p16 : lw_okq (⟨"LampChoice$Days", "needOf", "(I)I"⟩, 11) := ⟨⟨by decide +kernel, by decide +kernel⟩, List.mem_of_getElem? (i := 173) (by decide +kernel), List.mem_of_getElem? (i := 603) (by decide +kernel), List.mem_of_getElem? (i := 604) (by decide +kernel)⟩
theorem lw_p17 : lw_okq (⟨"LampChoice$Days", "stepTowards", "(II)I"⟩, 11) := ⟨⟨by decide +kernel, by decide +kernel⟩, List.mem_of_getElem? (i := 173) (by decide +kernel), List.mem_of_getElem? (i := 611) (by decide +kernel), List.mem_of_getElem? (i := 612) (by decide +kernel)⟩
theorem lw_p18 : lw_okq (⟨"LampChoice$Days", "shine", "(II)V"⟩, 11) := ⟨⟨by decide +kernel, by decide +kernel⟩, List.mem_of_getElem? (i := 173) (by decide +kernel), List.mem_of_getElem? (i := 619) (by decide +kernel), List.mem_of_getElem? (i := 620) (by decide +kernel)⟩
theorem lw_p19 : lw_okq (⟨"LampChoiceModel", "renew", "()V"⟩, 36) := ⟨⟨by decide +kernel, by decide +kernel⟩, List.mem_of_getElem? (i := 637) (by decide +kernel), List.mem_of_getElem? (i := 764) (by decide +kernel), List.mem_of_getElem? (i := 765) (by decide +kernel)⟩
theorem lw_p20 : lw_okq (⟨"LampChoiceModel", "isPlace", "(I)Z"⟩, 36) := ⟨⟨by decide +kernel, by decide +kernel⟩, List.mem_of_getElem? (i := 637) (by decide +kernel), List.mem_of_getElem? (i := 784) (by decide +kernel), List.mem_of_getElem? (i := 785) (by decide +kernel)⟩
theorem lw_p21 : lw_okq (⟨"LampChoiceModel", "isKind", "(I)Z"⟩, 36) := ⟨⟨by decide +kernel, by decide +kernel⟩, List.mem_of_getElem? (i := 637) (by decide +kernel), List.mem_of_getElem? (i := 788) (by decide +kernel), List.mem_of_getElem? (i := 789) (by decide +kernel)⟩
theorem lw_p22 : lw_okq (⟨"LampChoiceModel", "isPoint", "(I)Z"⟩, 36) := ⟨⟨by decide +kernel, by decide +kernel⟩, List.mem_of_getElem? (i := 637) (by decide +kernel), List.mem_of_getElem? (i := 796) (by decide +kernel), List.mem_of_getElem? (i := 797) (by decide +kernel)⟩
theorem lw_p23 : lw_okq (⟨"LampChoiceModel", "lightOf", "(III)I"⟩, 36) := ⟨⟨by decide +kernel, by decide +kernel⟩, List.mem_of_getElem? (i := 637) (by decide +kernel), List.mem_of_getElem? (i := 800) (by decide +kernel), List.mem_of_getElem? (i := 801) (by decide +kernel)⟩
theorem lw_p24 : lw_okq (⟨"LampChoiceModel", "findBest", "()V"⟩, 36) := ⟨⟨by decide +kernel, by decide +kernel⟩, List.mem_of_getElem? (i := 637) (by decide +kernel), List.mem_of_getElem? (i := 808) (by decide +kernel), List.mem_of_getElem? (i := 809) (by decide +kernel)⟩
theorem lw_p25 : lw_okq (⟨"LampChoiceModel", "firstOf", "(I)I"⟩, 36) := ⟨⟨by decide +kernel, by decide +kernel⟩, List.mem_of_getElem? (i := 637) (by decide +kernel), List.mem_of_getElem? (i := 812) (by decide +kernel), List.mem_of_getElem? (i := 813) (by decide +kernel)⟩
theorem lw_p26 : lw_okq (⟨"LampChoiceModel", "addUp", "(I)V"⟩, 36) := ⟨⟨by decide +kernel, by decide +kernel⟩, List.mem_of_getElem? (i := 637) (by decide +kernel), List.mem_of_getElem? (i := 816) (by decide +kernel), List.mem_of_getElem? (i := 817) (by decide +kernel)⟩
theorem lw_p27 : lw_okq (⟨"LampChoiceModel", "look", "()V"⟩, 36) := ⟨⟨by decide +kernel, by decide +kernel⟩, List.mem_of_getElem? (i := 637) (by decide +kernel), List.mem_of_getElem? (i := 820) (by decide +kernel), List.mem_of_getElem? (i := 821) (by decide +kernel)⟩
theorem lw_p28 : lw_okq (⟨"LampChoiceModel", "nextChoice", "()I"⟩, 36) := ⟨⟨by decide +kernel, by decide +kernel⟩, List.mem_of_getElem? (i := 637) (by decide +kernel), List.mem_of_getElem? (i := 824) (by decide +kernel), List.mem_of_getElem? (i := 825) (by decide +kernel)⟩
theorem lw_p29 : lw_okq (⟨"LampChoiceModel", "sweep", "()I"⟩, 36) := ⟨⟨by decide +kernel, by decide +kernel⟩, List.mem_of_getElem? (i := 637) (by decide +kernel), List.mem_of_getElem? (i := 853) (by decide +kernel), List.mem_of_getElem? (i := 854) (by decide +kernel)⟩
theorem lw_p30 : lw_okq (⟨"LampChoiceModel", "hasLamp", "(I)Z"⟩, 36) := ⟨⟨by decide +kernel, by decide +kernel⟩, List.mem_of_getElem? (i := 637) (by decide +kernel), List.mem_of_getElem? (i := 857) (by decide +kernel), List.mem_of_getElem? (i := 858) (by decide +kernel)⟩
theorem lw_p31 : lw_okq (⟨"LampChoiceModel", "dimOf", "(I)I"⟩, 36) := ⟨⟨by decide +kernel, by decide +kernel⟩, List.mem_of_getElem? (i := 637) (by decide +kernel), List.mem_of_getElem? (i := 861) (by decide +kernel), List.mem_of_getElem? (i := 862) (by decide +kernel)⟩
def lw_privs_2 : List (MethodName × Nat) := [(⟨"LampChoice$Days", "needOf", "(I)I"⟩, 11), (⟨"LampChoice$Days", "stepTowards", "(II)I"⟩, 11), (⟨"LampChoice$Days", "shine", "(II)V"⟩, 11), (⟨"LampChoiceModel", "renew", "()V"⟩, 36), (⟨"LampChoiceModel", "isPlace", "(I)Z"⟩, 36), (⟨"LampChoiceModel", "isKind", "(I)Z"⟩, 36), (⟨"LampChoiceModel", "isPoint", "(I)Z"⟩, 36), (⟨"LampChoiceModel", "lightOf", "(III)I"⟩, 36), (⟨"LampChoiceModel", "findBest", "()V"⟩, 36), (⟨"LampChoiceModel", "firstOf", "(I)I"⟩, 36), (⟨"LampChoiceModel", "addUp", "(I)V"⟩, 36), (⟨"LampChoiceModel", "look", "()V"⟩, 36), (⟨"LampChoiceModel", "nextChoice", "()I"⟩, 36), (⟨"LampChoiceModel", "sweep", "()I"⟩, 36), (⟨"LampChoiceModel", "hasLamp", "(I)Z"⟩, 36), (⟨"LampChoiceModel", "dimOf", "(I)I"⟩, 36)]
theorem lw_r2 : ∀ q ∈ lw_privs_2, lw_okq q := List.forall_mem_cons.mpr ⟨lw_p16, List.forall_mem_cons.mpr ⟨lw_p17, List.forall_mem_cons.mpr ⟨lw_p18, List.forall_mem_cons.mpr ⟨lw_p19, List.forall_mem_cons.mpr ⟨lw_p20, List.forall_mem_cons.mpr ⟨lw_p21, List.forall_mem_cons.mpr ⟨lw_p22, List.forall_mem_cons.mpr ⟨lw_p23, List.forall_mem_cons.mpr ⟨lw_p24, List.forall_mem_cons.mpr ⟨lw_p25, List.forall_mem_cons.mpr ⟨lw_p26, List.forall_mem_cons.mpr ⟨lw_p27, List.forall_mem_cons.mpr ⟨lw_p28, List.forall_mem_cons.mpr ⟨lw_p29, List.forall_mem_cons.mpr ⟨lw_p30, List.forall_mem_cons.mpr ⟨lw_p31, fun _ h => absurd h List.not_mem_nil⟩⟩⟩⟩⟩⟩⟩⟩⟩⟩⟩⟩⟩⟩⟩⟩
theorem lw_p32 : lw_okq (⟨"LampChoiceModel", "missOf", "(I)J"⟩, 36) := ⟨⟨by decide +kernel, by decide +kernel⟩, List.mem_of_getElem? (i := 637) (by decide +kernel), List.mem_of_getElem? (i := 865) (by decide +kernel), List.mem_of_getElem? (i := 866) (by decide +kernel)⟩
theorem lw_p33 : lw_okq (⟨"LampChoiceModel", "needOf", "(I)I"⟩, 36) := ⟨⟨by decide +kernel, by decide +kernel⟩, List.mem_of_getElem? (i := 637) (by decide +kernel), List.mem_of_getElem? (i := 895) (by decide +kernel), List.mem_of_getElem? (i := 896) (by decide +kernel)⟩
theorem lw_p34 : lw_okq (⟨"LampChoiceModel", "minute", "(II)V"⟩, 36) := ⟨⟨by decide +kernel, by decide +kernel⟩, List.mem_of_getElem? (i := 637) (by decide +kernel), List.mem_of_getElem? (i := 899) (by decide +kernel), List.mem_of_getElem? (i := 900) (by decide +kernel)⟩
def lw_privs_3 : List (MethodName × Nat) := [(⟨"LampChoiceModel", "missOf", "(I)J"⟩, 36), (⟨"LampChoiceModel", "needOf", "(I)I"⟩, 36), (⟨"LampChoiceModel", "minute", "(II)V"⟩, 36)]
theorem lw_r3 : ∀ q ∈ lw_privs_3, lw_okq q := List.forall_mem_cons.mpr ⟨lw_p32, List.forall_mem_cons.mpr ⟨lw_p33, List.forall_mem_cons.mpr ⟨lw_p34, fun _ h => absurd h List.not_mem_nil⟩⟩⟩
def lw_privs : List (MethodName × Nat) := lw_privs_1 ++ (lw_privs_2 ++ (lw_privs_3))
def lw_tbl : List Cond := k2_sels lw_privs ++ tables_1
theorem lw_privs_ok : ∀ q ∈ lw_privs, lw_okq q := by
  show ∀ q ∈ lw_privs_1 ++ (lw_privs_2 ++ (lw_privs_3)), lw_okq q
  exact List.forall_mem_append.mpr ⟨lw_r1, List.forall_mem_append.mpr ⟨lw_r2, lw_r3⟩⟩

/-! ===== BEGIN words of one list among another's, by their places ===== -/
theorem goodIn_r {big : List Cond} (ws : List Cond) (ps : List Nat) (hp : ws = ps.filterMap (fun i => big[i]?)) (h : ws.all goodWord = true) : GoodIn big ws := by
  intro w hw
  have h1 := List.all_eq_true.mp h w hw
  rw [hp] at hw
  obtain ⟨i, -, hi⟩ := List.mem_filterMap.mp hw
  have hm : w ∈ big := by first | exact List.mem_of_getElem? hi | exact List.getElem?_mem hi
  exact ⟨hm, good_of_word h1⟩
theorem goodIn_app {big a b : List Cond} (ha : GoodIn big a) (hb : GoodIn big b) : GoodIn big (a ++ b) := fun w h => (List.mem_append.mp h).elim (ha w) (hb w)
theorem goodIn_ca {big a b : List Cond} {c : Cond} (ha : GoodIn big (c :: a)) (hb : GoodIn big b) : GoodIn big (c :: (a ++ b)) := fun w h => (List.mem_cons.mp h).elim (fun e => ha w (List.mem_cons.mpr (Or.inl e))) (fun h => (List.mem_append.mp h).elim (fun h => ha w (List.mem_cons.mpr (Or.inr h))) (hb w))
theorem goodIn_sub {big ws : List Cond} (hm : ∀ w ∈ ws, w ∈ big) (h : ws.all goodWord = true) : GoodIn big ws := fun w hw => ⟨hm w hw, good_of_word (List.all_eq_true.mp h w hw)⟩
/-! ===== END ===== -/

/-! ===== BEGIN exceptions that leave a method, and their catching by the caller (launches without stack traces) ===== -/
section VXA
/-! The laws vx_back, vx_callV, vx_callS, vx_callSW, vx_throw0, vx_throwS follow proofs of the library, with one case more: JvmDerived/Free/Laws.lean (Back.of_free), Shelf42/LK1.lean (callV, callS), Shelf/KitTraced.lean (throwNew0V, throwNewS). -/
-- (names of Bundle are written out below)
/-- where a method has thrown q: the class by its name, the cell, what was written, the world -/
def vx_T (XC : String → State → State → Prop) (st : State) (q : Addr) (t : State) (mc ms : Nat) (free : Addr → Prop) : Prop :=
  ∃ (E : String) (ce : Cell) (L : List Loc), XC E st t ∧ t.heap[q]? = some ce ∧ ce.vm = .none ∧ st.vm.findClass E = some ce.cls ∧ st.WarmedH t.vm ∧ st.sameButNew ({ t with vm := st.vm } : State) L mc ms ∧ ∀ z ∈ L, free z.base
def vx_Q (Qc : Array Value → State → Outcome → State → Prop) (XC : String → State → State → Prop) (mc ms : Nat) (free : Addr → Prop) : Array Value → State → Outcome → State → Prop := fun a st o t =>
  (Qc a st o t ∧ ∃ L, FrameEnd st o t L mc ms ∧ ∀ q ∈ L, free q.base) ∨ ∃ q, o = .threw q ∧ vx_T XC st q t mc ms free
/-- a callee that returns or throws -/
def vx_Met (l : Launch) (y : MethodName) (ws : List Cond) (rm : Room) (Pc : Array Value → State → Prop) (Qc : Array Value → State → Outcome → State → Prop) (XC : String → State → State → Prop) (mc ms : Nat) (free : Addr → Prop) : Prop :=
  MetFree l y (headSpec ws rm) Pc (fun _ _ _ _ _ => True) (vx_Q Qc XC mc ms free)
def vx_Post (XC : String → State → State → Prop) (mc ms : Nat) (free : Addr → Prop) : Pt → Array Value → Addr → Pt → Prop := fun A a q B =>
  ∃ (g : JFrame) (mk : MethodId) (t : State) (L : List Loc) (E : String) (ce : Cell), B.U.heap = t.heap ∧ B.U.vm = t.vm ∧ XC E (A.U.calling g mk a) t ∧ t.heap[q]? = some ce ∧ ce.vm = .none ∧ A.U.vm.findClass E = some ce.cls ∧ B.locs = A.locs ++ L ∧ (∀ z ∈ L, free z.base) ∧ B.cells = A.cells + mc ∧ B.slots = A.slots + ms
def vx_Back (l : Launch) (R : Room) (p : Program) (e : Env) (below : List Frame) (s : State) (sargs : Array Value) (y : MethodName) (len W9 : Nat)
    (Pre : Pt → Array Value → Prop) (Post : Pt → Array Value → Option Value → Pt → Prop) (PostX : Pt → Array Value → Addr → Pt → Prop) : Prop :=
  ∀ (m : MethodId) (meth : Method) (c : Code) (A : Pt) (g : JFrame) (ig : Instr) (mk : MethodId) (a : Array Value),
    Stand p l e R s m sargs below meth c A.U A.locs A.cells A.slots → g.method = m → g.locals.size = c.maxLocals → decode c.code g.pc = .ok (ig, len) →
    2 * g.monitorRoom + (g.stack.map fun v => v.category).sum ≤ W9 → A.U.methodNamed? y = some mk → Pre A a →
    (∃ (v : Option Value) (B : Pt), Stand p l e R s m sargs below meth c B.U B.locs B.cells B.slots ∧ Post A a v B ∧
      Steps p.tables e below (doInvoke e (A.U.setTop g) [] mk a).1 (B.U.setTop { g with pc := g.pc + len, stack := v.toList ++ g.stack })) ∨
    (∃ (q : Addr) (B : Pt), Stand p l e R s m sargs below meth c B.U B.locs B.cells B.slots ∧ PostX A a q B ∧
      Steps p.tables e below (doInvoke e (A.U.setTop g) [] mk a).1 ((B.U.setTop g).pushFrame (.throwing q)))
section Payer
variable {l : Launch} {R : Room} {p : Program} {e : Env} {below : List Frame} {s : State} {sargs : Array Value} {y : MethodName} {len W9 : Nat}
theorem vx_back {ws : List Cond} {rm : Room} {Pc : Array Value → State → Prop} {Qc : Array Value → State → Outcome → State → Prop} {XC : String → State → State → Prop} {mc ms : Nat} {free : Addr → Prop} {bytes : ByteArray} {maxL : Nat} {ret : Option FieldType}
    (hM : vx_Met l y ws rm Pc Qc XC mc ms free) (hblind : FrameBlind Pc) (hrc : rm.cells = mc) (hrs : rm.slots = ms)
    (hframes : rm.frames + 1 ≤ R.frames) (hlocals : W9 + (maxL + 11) + rm.locals ≤ R.locals)
    (hws : ∀ w ∈ ws, ∀ a' U, s.WarmedH U.vm → w.before a' U = true) (hcode : Cond.code y bytes maxL ret ∈ ws) (hinit : ∀ a' U, s.WarmedH U.vm → (Cond.initialized y.cls).before a' U = true) :
    vx_Back l R p e below s sargs y len W9 (PreOf R mc ms Pc) (PostOf Qc mc ms free) (vx_Post XC mc ms free) := by
  intro m meth c A g ig mk a X hg hsize hdg hW hn hp
  have h1 : (headSpec ws rm).pre.before a A.U = true := atoms_intro fun w hw => hws w hw _ _ X.warmed
  have h2 : (Cond.code y bytes maxL ret).before a A.U = true := hws _ hcode _ _ X.warmed
  have h3 : (Cond.initialized y.cls).before a A.U = true := hinit _ _ X.warmed
  have h4 : A.cells + (headSpec ws rm).room.cells ≤ R.cells := by rw [show (headSpec ws rm).room.cells = mc from hrc]; exact hp.1
  have h5 : A.slots + (headSpec ws rm).room.slots ≤ R.slots := by rw [show (headSpec ws rm).room.slots = ms from hrs]; exact hp.2.1
  have hPc : Pc a (A.U.calling g mk a) := hblind _ _ _ _ hp.2.2
  obtain ⟨U, Ls, c0, s0⟩ := A
  dsimp only [Pt.U, Pt.locs, Pt.cells, Pt.slots] at h1 h2 h3 h4 h5 X hn hPc ⊢
  obtain ⟨methY, cY, hmY, hcY, -, hlY, -, -, -, -⟩ := Cond.code_spec hn h2
  obtain ⟨kY, hkY, -⟩ := className_of_methodNamed hn
  have hinitY : kY.init = .initialized := Cond.initialized_spec (findClass_of_methodNamed hn) hkY h3
  have h : At U g.method c below := by rw [hg]; exact X.here
  have hlocals9 : W9 + (maxL + 11) + (headSpec ws rm).room.locals ≤ R.locals := hlocals
  have happ : (headSpec ws rm).appliesLoose y e.platform (U.calling g mk a) = true :=
    Spec.appliesLoose_calling (g := g) h hdg hn hkY hinitY
      (X.room_calling (g := g) (R' := (headSpec ws rm).room) hsize hmY hcY hframes (by rw [hlY]; omega) h4 h5) h1
  obtain ⟨mid, hmid⟩ := h.above
  have hfr : (U.setTop g).frames = (.java g :: mid) ++ below := by rw [State.frames_setTop' g h.top, hmid]; rfl
  obtain ⟨o, s₂, hsteps, -, hend, hq⟩ := Steps.callFree hM p X.admits X.cas X.clock (acts := []) hfr happ hPc trivial
  have hq' : vx_Q Qc XC mc ms free a (U.calling g mk a) o s₂ := hq
  rw [State.frames_setTop' g h.top] at hend
  obtain ⟨g₀, hg0⟩ := Option.isSome_iff_exists.mp h.top
  obtain ⟨r, hr⟩ := State.topJava?_eq_some.mp hg0
  have hr' : (({ U with heap := s₂.heap, slotsUsed := s₂.slotsUsed } : State).setVm s₂.vm).frames = .java g₀ :: r := hr
  rcases hq' with ⟨hqc, L, hfe, hL⟩ | ⟨q, rfl, E, ce, L, hx, hce, hcv, hcl, hW₂, hsm, hL⟩
  · obtain ⟨⟨v, rfl⟩, hW₂, e2, q2, q3, q4, q5, q6⟩ := id hfe
    have e3 : s₂ = ({ (U.calling g mk a).setFrames s₂.frames with heap := s₂.heap, slotsUsed := s₂.slotsUsed } : State).setVm s₂.vm := by
      have : s₂ = ({ s₂ with vm := (U.calling g mk a).vm } : State).setVm s₂.vm := rfl
      rw [e2] at this
      exact this
    obtain ⟨c₂, i₂, len₂, hc₂, hd₂, hf₂⟩ := hend
    have hW' : U.WarmedH s₂.vm := hW₂
    have hcc : c₂ = c := by
      have h1 : s₂.code? g.method = U.code? g.method := by
        rw [State.code?_eq, State.code?_eq, hW'.alike.method?]
      exact Option.some.inj (hc₂.symm.trans (h1.trans h.code))
    subst hcc
    have hlen : len₂ = len := by rw [hdg] at hd₂; cases hd₂; rfl
    subst hlen
    have hs₂ : s₂ = (({ U with heap := s₂.heap, slotsUsed := s₂.slotsUsed } : State).setVm s₂.vm).setTop { g with pc := g.pc + len₂, stack := v.toList ++ g.stack } := by
      refine e3.trans ?_
      rw [hf₂, State.calling_eq h.top, State.setFrames_setFrames, State.setTop_of_frames _ hr', hr]
      rfl
    have hsame : U.sameButNew ({ U with heap := s₂.heap, slotsUsed := s₂.slotsUsed } : State) L mc ms := by
      refine ⟨?_, q2, q3, q4, q5, q6⟩
      obtain ⟨t, ht, -⟩ := State.frames_cons hr
      show ({ U with heap := s₂.heap, slotsUsed := s₂.slotsUsed } : State) = { U.setFrames U.frames with heap := s₂.heap, slotsUsed := s₂.slotsUsed }
      rw [State.setFrames_self ht]
    subst hg
    refine Or.inl ⟨v, ⟨(({ U with heap := s₂.heap, slotsUsed := s₂.slotsUsed } : State).setVm s₂.vm), Ls ++ L, c0 + mc, s0 + ms⟩,
      ⟨X.admits, X.cas, X.clock, X.frames, X.room, X.hears, X.method, X.code, (X.here.setHeapUsed s₂.heap s₂.slotsUsed).setVm hW'.alike, X.tail, State.WarmedH.trans X.warmed hW', X.limits, X.bytes, X.same.trans (hsame.setVm s.vm)⟩,
      ⟨g, mk, s₂, L, rfl, rfl, hqc, rfl, hL, rfl, rfl⟩, ?_⟩
    show Steps p.tables e below _ ((({ U with heap := s₂.heap, slotsUsed := s₂.slotsUsed } : State).setVm s₂.vm).setTop { g with pc := g.pc + len₂, stack := v.toList ++ g.stack })
    rw [← hs₂]
    exact hsteps
  · obtain ⟨e2, q2, q3, q4, q5, q6⟩ := id hsm
    have e3 : s₂ = ({ (U.calling g mk a).setFrames s₂.frames with heap := s₂.heap, slotsUsed := s₂.slotsUsed } : State).setVm s₂.vm := by
      have : s₂ = ({ s₂ with vm := (U.calling g mk a).vm } : State).setVm s₂.vm := rfl
      rw [e2] at this
      exact this
    have hf₂ : s₂.frames = .throwing q :: .java g :: U.frames.tail := hend
    have hW' : U.WarmedH s₂.vm := hW₂
    have hs₂ : s₂ = ((({ U with heap := s₂.heap, slotsUsed := s₂.slotsUsed } : State).setVm s₂.vm).setTop g).pushFrame (.throwing q) := by
      refine e3.trans ?_
      rw [hf₂, State.calling_eq h.top, State.setFrames_setFrames, State.pushFrame, State.frames_setTop _ hr', State.setTop_of_frames _ hr', State.setFrames_setFrames, hr]
      rfl
    have hsame : U.sameButNew ({ U with heap := s₂.heap, slotsUsed := s₂.slotsUsed } : State) L mc ms := by
      refine ⟨?_, q2, q3, q4, q5, q6⟩
      obtain ⟨t, ht, -⟩ := State.frames_cons hr
      show ({ U with heap := s₂.heap, slotsUsed := s₂.slotsUsed } : State) = { U.setFrames U.frames with heap := s₂.heap, slotsUsed := s₂.slotsUsed }
      rw [State.setFrames_self ht]
    subst hg
    refine Or.inr ⟨q, ⟨(({ U with heap := s₂.heap, slotsUsed := s₂.slotsUsed } : State).setVm s₂.vm), Ls ++ L, c0 + mc, s0 + ms⟩,
      ⟨X.admits, X.cas, X.clock, X.frames, X.room, X.hears, X.method, X.code, (X.here.setHeapUsed s₂.heap s₂.slotsUsed).setVm hW'.alike, X.tail, State.WarmedH.trans X.warmed hW', X.limits, X.bytes, X.same.trans (hsame.setVm s.vm)⟩,
      ⟨g, mk, s₂, L, E, ce, rfl, rfl, hx, hce, hcv, hcl, rfl, hL, rfl, rfl⟩, ?_⟩
    show Steps p.tables e below _ (((({ U with heap := s₂.heap, slotsUsed := s₂.slotsUsed } : State).setVm s₂.vm).setTop g).pushFrame (.throwing q))
    rw [← hs₂]
    exact hsteps
end Payer
section Calls
variable {p : Program} {l : Launch} {e : Env} {R : Room} {s : State} {m : MethodId} {args : Array Value} {below : List Frame} {meth : Method} {c : Code} {T : State} {locs : List Loc} {cells slots : Nat}
theorem vx_callV (X : Stand p l e R s m args below meth c T locs cells slots) (hexec : p.tables.exec = Jvm.exec) {own C : String} {index : Nat} {y : MethodName} {bytes : ByteArray} {maxL : Nat} {ret : Option FieldType}
    (hown : s.vm.findClass own = some m.cls) (hlink : (Cond.methodLink own index y).before args s = true) (hinst : (Cond.instanceMethod y).before args s = true) (hsel : (Cond.selects C y y).before args s = true)
    (hcode : (Cond.code y bytes maxL ret).before args s = true) (hy : y.cls ≠ "java/lang/invoke/MethodHandle" ∧ y.cls ≠ "java/lang/invoke/VarHandle")
    {W9 : Nat} {Pre : Pt → Array Value → Prop} {Post : Pt → Array Value → Option Value → Pt → Prop} {PostX : Pt → Array Value → Addr → Pt → Prop} (hK : vx_Back l R p e below s args y 3 W9 Pre Post PostX)
    {b : Addr} {cellB : Cell} (hcell : T.heap[b]? = some cellB) (hobj : cellB.vm.isStatics = false) (hcls : s.vm.findClass C = some cellB.cls)
    {g : JFrame} (hg : g.method = m) (hsize : g.locals.size = c.maxLocals) {argsL rest : List Value} (hlen : ∀ sig, parseMethodDescriptor y.desc = some sig → argsL.length = sig.parameters.length)
    (hstack : g.stack = argsL.reverse ++ .ref b :: rest) (hW : 2 * g.monitorRoom + (rest.map fun v => v.category).sum ≤ W9) (hdg : decode c.code g.pc = .ok (.invokevirtual index, 3))
    (hpre : ∀ vm₁, s.WarmedH vm₁ → Pre ⟨T.setVm vm₁, locs, cells, slots⟩ (Value.ref b :: argsL).toArray) :
    (∃ (v : Option Value) (vm₁ : Vm) (B : Pt), s.WarmedH vm₁ ∧ Stand p l e R s m args below meth c B.U B.locs B.cells B.slots ∧ Post ⟨T.setVm vm₁, locs, cells, slots⟩ (Value.ref b :: argsL).toArray v B ∧
      ∀ target, Steps p.tables e below (B.U.setTop { g with pc := g.pc + 3, stack := v.toList ++ rest }) target → Steps p.tables e below (T.setTop g) target) ∨
    (∃ (q : Addr) (vm₁ : Vm) (B : Pt), s.WarmedH vm₁ ∧ Stand p l e R s m args below meth c B.U B.locs B.cells B.slots ∧ PostX ⟨T.setVm vm₁, locs, cells, slots⟩ (Value.ref b :: argsL).toArray q B ∧
      Steps p.tables e below (T.setTop g) ((B.U.setTop { g with stack := rest }).pushFrame (.throwing q))) := by
  obtain ⟨mk, methM, hnamed, hmethM, hstM, habM⟩ := Cond.instanceMethod_spec hinst
  obtain ⟨methM', cM, hmethM', -, -, -, -, -, -, hsigM⟩ := Cond.code_spec hnamed hcode
  cases hmethM.symm.trans hmethM'
  obtain ⟨c2, r2, m2, q1, q2, q3, q4, kP, hkP, hkPi⟩ := Cond.selects_spec hsel
  cases hcls.symm.trans q1
  cases (State.methodFound?_of_named hnamed hy).symm.trans q2
  cases hnamed.symm.trans q3
  have hselP : selectMethod e.platform s.vm cellB.cls mk = .method mk := by rw [Launch.admits_selectMethod X.admits]; exact q4
  obtain ⟨vm₁, X₁, hstep₁⟩ := X.invokevirtual hexec hown hlink hnamed hmethM hstM hkP hkPi hy (a := b) (cell := cellB) hcell
    (fun z h => by rw [h] at hobj; cases hobj) hselP hmethM habM hkP hkPi (g := g) hg (argsL := argsL) (rest := rest) (hlen _ hsigM) hstack hdg
  rcases hK m meth c ⟨T.setVm vm₁, locs, cells, slots⟩ { g with stack := rest } (.invokevirtual index) mk (Value.ref b :: argsL).toArray X₁ hg hsize hdg hW (X₁.named hnamed) (hpre vm₁ X₁.warmed) with ⟨v, B, X', hpost, hsteps⟩ | ⟨q, B, X', hpost, hsteps⟩
  · exact Or.inl ⟨v, vm₁, B, X₁.warmed, X', hpost, fun target h => hstep₁ _ fun acts => by rw [doInvoke_state]; exact hsteps.trans h⟩
  · exact Or.inr ⟨q, vm₁, B, X₁.warmed, X', hpost, hstep₁ _ fun acts => by rw [doInvoke_state]; exact hsteps⟩
theorem vx_callS (X : Stand p l e R s m args below meth c T locs cells slots) (hexec : p.tables.exec = Jvm.exec) {own : String} {index : Nat} {y : MethodName} {bytes : ByteArray} {maxL : Nat} {ret : Option FieldType}
    (hown : s.vm.findClass own = some m.cls) (hlink : (Cond.methodLink own index y).before args s = true) (hstat : (Cond.static y).before args s = true) (hinit : (Cond.initialized y.cls).before args s = true)
    (hcode : (Cond.code y bytes maxL ret).before args s = true) (hy : y.cls ≠ "java/lang/invoke/MethodHandle" ∧ y.cls ≠ "java/lang/invoke/VarHandle")
    {W9 : Nat} {Pre : Pt → Array Value → Prop} {Post : Pt → Array Value → Option Value → Pt → Prop} {PostX : Pt → Array Value → Addr → Pt → Prop} (hK : vx_Back l R p e below s args y 3 W9 Pre Post PostX)
    {g : JFrame} (hg : g.method = m) (hsize : g.locals.size = c.maxLocals) {argsL rest : List Value} (hlen : ∀ sig, parseMethodDescriptor y.desc = some sig → argsL.length = sig.parameters.length)
    (hstack : g.stack = argsL.reverse ++ rest) (hW : 2 * g.monitorRoom + (rest.map fun v => v.category).sum ≤ W9) (hdg : decode c.code g.pc = .ok (.invokestatic index, 3))
    (hpre : ∀ vm₁, s.WarmedH vm₁ → Pre ⟨T.setVm vm₁, locs, cells, slots⟩ argsL.toArray) :
    (∃ (v : Option Value) (vm₁ : Vm) (B : Pt), s.WarmedH vm₁ ∧ Stand p l e R s m args below meth c B.U B.locs B.cells B.slots ∧ Post ⟨T.setVm vm₁, locs, cells, slots⟩ argsL.toArray v B ∧
      ∀ target, Steps p.tables e below (B.U.setTop { g with pc := g.pc + 3, stack := v.toList ++ rest }) target → Steps p.tables e below (T.setTop g) target) ∨
    (∃ (q : Addr) (vm₁ : Vm) (B : Pt), s.WarmedH vm₁ ∧ Stand p l e R s m args below meth c B.U B.locs B.cells B.slots ∧ PostX ⟨T.setVm vm₁, locs, cells, slots⟩ argsL.toArray q B ∧
      Steps p.tables e below (T.setTop g) ((B.U.setTop { g with stack := rest }).pushFrame (.throwing q))) := by
  obtain ⟨mk, hnamed⟩ := Cond.code_named hcode
  obtain ⟨methM, cM, hmethM, -, -, -, -, -, -, hsigM⟩ := Cond.code_spec hnamed hcode
  have hstatic : methM.isStatic = true := Cond.static_spec hnamed hmethM hstat
  obtain ⟨kP, hkP, -⟩ := className_of_methodNamed hnamed
  have hinitP : kP.init = .initialized := Cond.initialized_spec (findClass_of_methodNamed hnamed) hkP hinit
  obtain ⟨vm₁, X₁, hstep₁⟩ := X.invokestatic hexec hown hlink hnamed hmethM hstatic hkP hinitP hy (g := g) hg (argsL := argsL) (rest := rest) (hlen _ hsigM) hstack hdg
  rcases hK m meth c ⟨T.setVm vm₁, locs, cells, slots⟩ { g with stack := rest } (.invokestatic index) mk argsL.toArray X₁ hg hsize hdg hW (X₁.named hnamed) (hpre vm₁ X₁.warmed) with ⟨v, B, X', hpost, hsteps⟩ | ⟨q, B, X', hpost, hsteps⟩
  · exact Or.inl ⟨v, vm₁, B, X₁.warmed, X', hpost, fun target h => hstep₁ _ fun acts => by rw [doInvoke_state]; exact hsteps.trans h⟩
  · exact Or.inr ⟨q, vm₁, B, X₁.warmed, X', hpost, hstep₁ _ fun acts => by rw [doInvoke_state]; exact hsteps⟩
end Calls
theorem vx_cls {s : State} {T : State} {vm₁ : Vm} {E : String} {k : ClassId} (hW : s.WarmedH vm₁) (h : (T.setVm vm₁).vm.findClass E = some k) : s.vm.findClass E = some k := by
  have h1 : vm₁.findClass E = some k := h
  rw [hW.alike.findClass] at h1
  exact h1
/-- the method's frame g, with q thrown over it -/
def vx_W (p : Program) (l : Launch) (e : Env) (R : Room) (s : State) (m : MethodId) (args : Array Value) (below : List Frame) (meth : Method) (c : Code) (H : Heap) (locs : List Loc) (cells slots : Nat) (Q : State → Prop) (g : JFrame) (q : Addr) : Prop :=
  ∀ T : State, T.heap = H → Stand p l e R s m args below meth c T locs cells slots → ∃ t, Steps p.tables e below ((T.setTop g).pushFrame (.throwing q)) t ∧ Q t
def vx_Run (p : Program) (l : Launch) (e : Env) (R : Room) (s : State) (m : MethodId) (args : Array Value) (below : List Frame) (meth : Method) (c : Code) (H : Heap) (locs : List Loc) (cells slots mc ms : Nat) (g : JFrame) (rest : List Value) (Qa : State → Outcome → State → Prop) (XC : String → State → State → Prop) (free : Addr → Prop) : Prop :=
  ∀ T : State, T.heap = H → Stand p l e R s m args below meth c T locs cells slots →
    (∃ (v : Option Value) (st₀ t T' : State) (L : List Loc), st₀.heap = H ∧ Stand p l e R s m args below meth c T' (locs ++ L) (cells + mc) (slots + ms) ∧ (∀ q ∈ L, free q.base) ∧ T'.heap = t.heap ∧ T'.vm = t.vm ∧ Qa st₀ (.returned v) t ∧
      Goes p e below T g T' { g with pc := g.pc + 3, stack := v.toList ++ rest }) ∨
    (∃ (q : Addr) (st₀ t T' : State) (L : List Loc) (E : String) (ce : Cell), st₀.heap = H ∧ Stand p l e R s m args below meth c T' (locs ++ L) (cells + mc) (slots + ms) ∧ (∀ z ∈ L, free z.base) ∧ T'.heap = t.heap ∧ T'.vm = t.vm ∧ XC E st₀ t ∧ t.heap[q]? = some ce ∧ ce.vm = .none ∧ s.vm.findClass E = some ce.cls ∧
      Steps p.tables e below (T.setTop g) ((T'.setTop { g with stack := rest }).pushFrame (.throwing q)))
def vx_X {S : Type} (px : S → Prop) (B : String → S → State → Prop) (A : Nat → Prop) : String → State → State → Prop := fun E st t => ∃ u : S, px u ∧ B E u t ∧ va_F A st t
section Runs
variable {p : Program} {l : Launch} {e : Env} {R : Room} {s : State} {m : MethodId} {args : Array Value} {below : List Frame} {meth : Method} {c : Code} {H : Heap} {locs : List Loc} {cells slots : Nat}
variable {y : MethodName} {bytes cc : ByteArray} {maxL nL mc ms n index : Nat} {ret : Option FieldType} {ws : List Cond} {rm : Room} {Pc : Array Value → State → Prop} {Qc : Array Value → State → Outcome → State → Prop} {XC : String → State → State → Prop} {free : Addr → Prop} {Ts : List Cond} {own C : String} {b : Addr} {As rest : List Value} {g : JFrame}
theorem vx_callBack (cb : CallB R s args own index y bytes maxL ret ws rm mc ms n) (hM : vx_Met l y ws rm Pc Qc XC mc ms free) (hbl : FrameBlind Pc) : vx_Back l R p e below s args y 3 8 (PreOf R mc ms Pc) (PostOf Qc mc ms free) (vx_Post XC mc ms free) := by
  obtain ⟨hrc, hrs, hfr, hlo, hws, hcw, -, hini, -⟩ := cb
  exact vx_back (bytes := bytes) (maxL := maxL) (ret := ret) hM hbl hrc hrs hfr hlo hws hcw (fun a' U hW => word_at hW (Or.inl (by first | rfl | simp [Cond.onTables, Cond.keeps, Cond.steady])) hini)
theorem vx_runV (S : CallFix p m c cc nL s args Ts own) (hM : vx_Met l y ws rm Pc Qc XC mc ms free) (cw : CallW R s args own C index y bytes maxL ret ws rm mc ms n) (hp : PreV s H C b Pc As)
    (hg : g.method = m) (hn : As.length = n) (hsize : g.locals.size = nL) (hstack : g.stack = As.reverse ++ .ref b :: rest) (hW : 2 * g.monitorRoom + (rest.map fun v => v.category).sum ≤ 8) (hdg : decode cc g.pc = .ok (.invokevirtual index, 3)) (hf : cells + mc ≤ R.cells ∧ slots + ms ≤ R.slots) :
    vx_Run p l e R s m args below meth c H locs cells slots mc ms g rest (Qc (Value.ref b :: As).toArray) XC free := by
  have hK : vx_Back l R p e below s args y 3 8 (PreOf R mc ms Pc) (PostOf Qc mc ms free) (vx_Post XC mc ms free) := vx_callBack cw.1 hM hp.1
  obtain ⟨⟨-, -, -, -, -, -, hcode, -, hy, hlen, hl⟩, hin, hse⟩ := cw
  obtain ⟨hx, hb, hml, ho, -⟩ := S
  obtain ⟨-, ⟨cellB, hcB, hoB, hclB⟩, hPc⟩ := hp
  intro T hT X
  rcases vx_callV X hx (C := C) (bytes := bytes) (maxL := maxL) (ret := ret) ho hl hin hse hcode hy hK (by rw [hT]; exact hcB) hoB hclB hg (hsize.trans hml.symm) (argsL := As) (rest := rest) (fun sig h => hn.trans (hlen sig h)) hstack hW (by rw [hb]; exact hdg)
    (fun vm₁ hW₁ => ⟨hf.1, hf.2, hPc (T.setVm vm₁) hT hW₁⟩) with ⟨v, vm₁, ⟨U', l2, c2, s2⟩, hW₁, X', ⟨g', mk, t, L, e1, e2, hq, h1, hL, h2, h3⟩, st⟩ | ⟨q, vm₁, ⟨U', l2, c2, s2⟩, hW₁, X', ⟨g', mk, t, L, E, ce, e1, e2, hq, hce, hcv, hcl, h1, hL, h2, h3⟩, st⟩
  · dsimp only [Pt.U, Pt.locs, Pt.cells, Pt.slots] at X' e1 e2 h1 h2 h3 st
    subst h1; subst h2; subst h3
    exact Or.inl ⟨v, (T.setVm vm₁).calling g' mk (Value.ref b :: As).toArray, t, U', L, hT, X', hL, e1, e2, hq, st⟩
  · dsimp only [Pt.U, Pt.locs, Pt.cells, Pt.slots] at X' e1 e2 h1 h2 h3 st hcl
    subst h1; subst h2; subst h3
    exact Or.inr ⟨q, (T.setVm vm₁).calling g' mk (Value.ref b :: As).toArray, t, U', L, E, ce, hT, X', hL, e1, e2, hq, hce, hcv, vx_cls hW₁ hcl, st⟩
theorem vx_runS (S : CallFix p m c cc nL s args Ts own) (hM : vx_Met l y ws rm Pc Qc XC mc ms free) (cw : CallB R s args own index y bytes maxL ret ws rm mc ms n ∧ (Cond.static y).before args s = true) (hp : PreS s H Pc As)
    (hg : g.method = m) (hn : As.length = n) (hsize : g.locals.size = nL) (hstack : g.stack = As.reverse ++ rest) (hW : 2 * g.monitorRoom + (rest.map fun v => v.category).sum ≤ 8) (hdg : decode cc g.pc = .ok (.invokestatic index, 3)) (hf : cells + mc ≤ R.cells ∧ slots + ms ≤ R.slots) :
    vx_Run p l e R s m args below meth c H locs cells slots mc ms g rest (Qc As.toArray) XC free := by
  have hK : vx_Back l R p e below s args y 3 8 (PreOf R mc ms Pc) (PostOf Qc mc ms free) (vx_Post XC mc ms free) := vx_callBack cw.1 hM hp.1
  obtain ⟨⟨-, -, -, -, -, -, hcode, hini, hy, hlen, hl⟩, hstt⟩ := cw
  obtain ⟨hx, hb, hml, ho, -⟩ := S
  intro T hT X
  rcases vx_callS X hx (bytes := bytes) (maxL := maxL) (ret := ret) ho hl hstt hini hcode hy hK hg (hsize.trans hml.symm) (argsL := As) (rest := rest) (fun sig h => hn.trans (hlen sig h)) hstack hW (by rw [hb]; exact hdg)
    (fun vm₁ hW₁ => ⟨hf.1, hf.2, hp.2 (T.setVm vm₁) hT hW₁⟩) with ⟨v, vm₁, ⟨U', l2, c2, s2⟩, hW₁, X', ⟨g', mk, t, L, e1, e2, hq, h1, hL, h2, h3⟩, st⟩ | ⟨q, vm₁, ⟨U', l2, c2, s2⟩, hW₁, X', ⟨g', mk, t, L, E, ce, e1, e2, hq, hce, hcv, hcl, h1, hL, h2, h3⟩, st⟩
  · dsimp only [Pt.U, Pt.locs, Pt.cells, Pt.slots] at X' e1 e2 h1 h2 h3 st
    subst h1; subst h2; subst h3
    exact Or.inl ⟨v, (T.setVm vm₁).calling g' mk As.toArray, t, U', L, hT, X', hL, e1, e2, hq, st⟩
  · dsimp only [Pt.U, Pt.locs, Pt.cells, Pt.slots] at X' e1 e2 h1 h2 h3 st hcl
    subst h1; subst h2; subst h3
    exact Or.inr ⟨q, (T.setVm vm₁).calling g' mk As.toArray, t, U', L, E, ce, hT, X', hL, e1, e2, hq, hce, hcv, vx_cls hW₁ hcl, st⟩
end Runs
section Rows
variable {p : Program} {l : Launch} {e : Env} {R : Room} {s : State} {m : MethodId} {args : Array Value} {below : List Frame} {meth : Method} {c : Code} {H : Heap} {locs : List Loc} {cells slots : Nat} {Q : State → Prop}
variable {mc ms : Nat} {free : Addr → Prop} {A0 A1 : Nat → Prop} {H0 : Heap} {a : Array Value} {pc : Nat} {ls : Array Slot} {st0 rest : List Value}
theorem vx_keep {st₀ t T' : State} {L : List Loc} (h0 : st₀.heap = H) (e1 : T'.heap = t.heap) (hS : va_S A0 H0 H locs) (hA : ∀ q, q < H.size → A1 q → A0 q) (hf : ∀ q, free q → A0 q) (hL : ∀ q ∈ L, free q.base) (hF : va_F A1 st₀ t) :
    H.size ≤ T'.heap.size ∧ (∀ q : Nat, q < H.size → ¬ A1 q → T'.heap[q]? = H[q]?) ∧ va_S A0 H0 T'.heap (locs ++ L) := by
  obtain ⟨hz, hk⟩ := hF
  rw [h0] at hz hk
  exact ⟨by rw [e1]; exact hz, fun q h1 h2 => by rw [e1]; exact hk q h1 h2,
    ⟨Nat.le_trans hS.1 (by rw [e1]; exact hz), fun q h1 h2 => by rw [e1, hk q (Nat.lt_of_lt_of_le h1 hS.1) (fun z => h2 (hA q (Nat.lt_of_lt_of_le h1 hS.1) z))]; exact hS.2.1 q h1 h2, fun q hq => by
      rcases List.mem_append.mp hq with h | h
      · exact hS.2.2 q h
      · exact hf _ (hL q h)⟩⟩
theorem vx_calli {S SX : Type} {post : Int32 → S → Prop} {px : SX → Prop} {B : S → State → Prop} {BX : String → SX → State → Prop} {AX : Nat → Prop} (hr : vx_Run p l e R s m args below meth c H locs cells slots mc ms (F0 m pc ls st0) rest (va_Qi post B A1 a) (vx_X px BX AX) free) (hS : va_S A0 H0 H locs) (hA : ∀ q, q < H.size → A1 q → A0 q) (hf : ∀ q, free q → A0 q) (hAX : ∀ q, q < H.size → AX q → A0 q)
    (kx : ∀ (E : String) (ce : Cell) (q9 : Addr) (u : SX) (t : State) (H1 : Heap) (locs1 : List Loc), t.heap = H1 → s.vm.Alike t.vm → px u → BX E u t → H.size ≤ H1.size → (∀ q : Nat, q < H.size → ¬ AX q → H1[q]? = H[q]?) → va_S A0 H0 H1 locs1 → H1[q9]? = some ce → ce.vm = .none → s.vm.findClass E = some ce.cls → vx_W p l e R s m args below meth c H1 locs1 (cells + mc) (slots + ms) Q (F0 m pc ls rest) q9)
    (kk : ∀ (r : Int32) (u : S) (t : State) (H1 : Heap) (locs1 : List Loc), t.heap = H1 → s.vm.Alike t.vm → post r u → B u t → H.size ≤ H1.size → (∀ q : Nat, q < H.size → ¬ A1 q → H1[q]? = H[q]?) → va_S A0 H0 H1 locs1 → W p l e R s m args below meth c H1 locs1 (cells + mc) (slots + ms) Q (F0 m (pc + 3) ls (.int r :: rest))) : W p l e R s m args below meth c H locs cells slots Q (F0 m pc ls st0) := by
  intro T hT X
  rcases hr T hT X with ⟨v, st₀, t, T', L, h0, X', hL, e1, e2, ⟨⟨r, u, hv, hp, hb⟩, hF⟩, st⟩ | ⟨q, st₀, t, T', L, E, ce, h0, X', hL, e1, e2, ⟨u, hp, hb, hF⟩, hce, hcv, hcl, st⟩
  · cases hv
    obtain ⟨k1, k2, k3⟩ := vx_keep h0 e1 hS hA hf hL hF
    obtain ⟨t2, a1, b1⟩ := kk r u t T'.heap (locs ++ L) e1.symm (by rw [← e2]; exact X'.warmed.alike) hp hb k1 k2 k3 T' rfl X'
    exact ⟨t2, st t2 a1, b1⟩
  · obtain ⟨k1, k2, k3⟩ := vx_keep h0 e1 hS hAX hf hL hF
    obtain ⟨t2, a1, b1⟩ := kx E ce q u t T'.heap (locs ++ L) e1.symm (by rw [← e2]; exact X'.warmed.alike) hp hb k1 k2 k3 (by rw [e1]; exact hce) hcv hcl T' rfl X'
    exact ⟨t2, st.trans a1, b1⟩
theorem vx_calll {S SX : Type} {post : Int64 → S → Prop} {px : SX → Prop} {B : S → State → Prop} {BX : String → SX → State → Prop} {AX : Nat → Prop} (hr : vx_Run p l e R s m args below meth c H locs cells slots mc ms (F0 m pc ls st0) rest (va_Ql post B A1 a) (vx_X px BX AX) free) (hS : va_S A0 H0 H locs) (hA : ∀ q, q < H.size → A1 q → A0 q) (hf : ∀ q, free q → A0 q) (hAX : ∀ q, q < H.size → AX q → A0 q)
    (kx : ∀ (E : String) (ce : Cell) (q9 : Addr) (u : SX) (t : State) (H1 : Heap) (locs1 : List Loc), t.heap = H1 → s.vm.Alike t.vm → px u → BX E u t → H.size ≤ H1.size → (∀ q : Nat, q < H.size → ¬ AX q → H1[q]? = H[q]?) → va_S A0 H0 H1 locs1 → H1[q9]? = some ce → ce.vm = .none → s.vm.findClass E = some ce.cls → vx_W p l e R s m args below meth c H1 locs1 (cells + mc) (slots + ms) Q (F0 m pc ls rest) q9)
    (kk : ∀ (r : Int64) (u : S) (t : State) (H1 : Heap) (locs1 : List Loc), t.heap = H1 → s.vm.Alike t.vm → post r u → B u t → H.size ≤ H1.size → (∀ q : Nat, q < H.size → ¬ A1 q → H1[q]? = H[q]?) → va_S A0 H0 H1 locs1 → W p l e R s m args below meth c H1 locs1 (cells + mc) (slots + ms) Q (F0 m (pc + 3) ls (.long r :: rest))) : W p l e R s m args below meth c H locs cells slots Q (F0 m pc ls st0) := by
  intro T hT X
  rcases hr T hT X with ⟨v, st₀, t, T', L, h0, X', hL, e1, e2, ⟨⟨r, u, hv, hp, hb⟩, hF⟩, st⟩ | ⟨q, st₀, t, T', L, E, ce, h0, X', hL, e1, e2, ⟨u, hp, hb, hF⟩, hce, hcv, hcl, st⟩
  · cases hv
    obtain ⟨k1, k2, k3⟩ := vx_keep h0 e1 hS hA hf hL hF
    obtain ⟨t2, a1, b1⟩ := kk r u t T'.heap (locs ++ L) e1.symm (by rw [← e2]; exact X'.warmed.alike) hp hb k1 k2 k3 T' rfl X'
    exact ⟨t2, st t2 a1, b1⟩
  · obtain ⟨k1, k2, k3⟩ := vx_keep h0 e1 hS hAX hf hL hF
    obtain ⟨t2, a1, b1⟩ := kx E ce q u t T'.heap (locs ++ L) e1.symm (by rw [← e2]; exact X'.warmed.alike) hp hb k1 k2 k3 (by rw [e1]; exact hce) hcv hcl T' rfl X'
    exact ⟨t2, st.trans a1, b1⟩
theorem vx_callf {S SX : Type} {post : UInt32 → S → Prop} {px : SX → Prop} {B : S → State → Prop} {BX : String → SX → State → Prop} {AX : Nat → Prop} (hr : vx_Run p l e R s m args below meth c H locs cells slots mc ms (F0 m pc ls st0) rest (va_Qf post B A1 a) (vx_X px BX AX) free) (hS : va_S A0 H0 H locs) (hA : ∀ q, q < H.size → A1 q → A0 q) (hf : ∀ q, free q → A0 q) (hAX : ∀ q, q < H.size → AX q → A0 q)
    (kx : ∀ (E : String) (ce : Cell) (q9 : Addr) (u : SX) (t : State) (H1 : Heap) (locs1 : List Loc), t.heap = H1 → s.vm.Alike t.vm → px u → BX E u t → H.size ≤ H1.size → (∀ q : Nat, q < H.size → ¬ AX q → H1[q]? = H[q]?) → va_S A0 H0 H1 locs1 → H1[q9]? = some ce → ce.vm = .none → s.vm.findClass E = some ce.cls → vx_W p l e R s m args below meth c H1 locs1 (cells + mc) (slots + ms) Q (F0 m pc ls rest) q9)
    (kk : ∀ (r : UInt32) (u : S) (t : State) (H1 : Heap) (locs1 : List Loc), t.heap = H1 → s.vm.Alike t.vm → post r u → B u t → H.size ≤ H1.size → (∀ q : Nat, q < H.size → ¬ A1 q → H1[q]? = H[q]?) → va_S A0 H0 H1 locs1 → W p l e R s m args below meth c H1 locs1 (cells + mc) (slots + ms) Q (F0 m (pc + 3) ls (.float r :: rest))) : W p l e R s m args below meth c H locs cells slots Q (F0 m pc ls st0) := by
  intro T hT X
  rcases hr T hT X with ⟨v, st₀, t, T', L, h0, X', hL, e1, e2, ⟨⟨r, u, hv, hp, hb⟩, hF⟩, st⟩ | ⟨q, st₀, t, T', L, E, ce, h0, X', hL, e1, e2, ⟨u, hp, hb, hF⟩, hce, hcv, hcl, st⟩
  · cases hv
    obtain ⟨k1, k2, k3⟩ := vx_keep h0 e1 hS hA hf hL hF
    obtain ⟨t2, a1, b1⟩ := kk r u t T'.heap (locs ++ L) e1.symm (by rw [← e2]; exact X'.warmed.alike) hp hb k1 k2 k3 T' rfl X'
    exact ⟨t2, st t2 a1, b1⟩
  · obtain ⟨k1, k2, k3⟩ := vx_keep h0 e1 hS hAX hf hL hF
    obtain ⟨t2, a1, b1⟩ := kx E ce q u t T'.heap (locs ++ L) e1.symm (by rw [← e2]; exact X'.warmed.alike) hp hb k1 k2 k3 (by rw [e1]; exact hce) hcv hcl T' rfl X'
    exact ⟨t2, st.trans a1, b1⟩
theorem vx_calld {S SX : Type} {post : UInt64 → S → Prop} {px : SX → Prop} {B : S → State → Prop} {BX : String → SX → State → Prop} {AX : Nat → Prop} (hr : vx_Run p l e R s m args below meth c H locs cells slots mc ms (F0 m pc ls st0) rest (va_Qd post B A1 a) (vx_X px BX AX) free) (hS : va_S A0 H0 H locs) (hA : ∀ q, q < H.size → A1 q → A0 q) (hf : ∀ q, free q → A0 q) (hAX : ∀ q, q < H.size → AX q → A0 q)
    (kx : ∀ (E : String) (ce : Cell) (q9 : Addr) (u : SX) (t : State) (H1 : Heap) (locs1 : List Loc), t.heap = H1 → s.vm.Alike t.vm → px u → BX E u t → H.size ≤ H1.size → (∀ q : Nat, q < H.size → ¬ AX q → H1[q]? = H[q]?) → va_S A0 H0 H1 locs1 → H1[q9]? = some ce → ce.vm = .none → s.vm.findClass E = some ce.cls → vx_W p l e R s m args below meth c H1 locs1 (cells + mc) (slots + ms) Q (F0 m pc ls rest) q9)
    (kk : ∀ (r : UInt64) (u : S) (t : State) (H1 : Heap) (locs1 : List Loc), t.heap = H1 → s.vm.Alike t.vm → post r u → B u t → H.size ≤ H1.size → (∀ q : Nat, q < H.size → ¬ A1 q → H1[q]? = H[q]?) → va_S A0 H0 H1 locs1 → W p l e R s m args below meth c H1 locs1 (cells + mc) (slots + ms) Q (F0 m (pc + 3) ls (.double r :: rest))) : W p l e R s m args below meth c H locs cells slots Q (F0 m pc ls st0) := by
  intro T hT X
  rcases hr T hT X with ⟨v, st₀, t, T', L, h0, X', hL, e1, e2, ⟨⟨r, u, hv, hp, hb⟩, hF⟩, st⟩ | ⟨q, st₀, t, T', L, E, ce, h0, X', hL, e1, e2, ⟨u, hp, hb, hF⟩, hce, hcv, hcl, st⟩
  · cases hv
    obtain ⟨k1, k2, k3⟩ := vx_keep h0 e1 hS hA hf hL hF
    obtain ⟨t2, a1, b1⟩ := kk r u t T'.heap (locs ++ L) e1.symm (by rw [← e2]; exact X'.warmed.alike) hp hb k1 k2 k3 T' rfl X'
    exact ⟨t2, st t2 a1, b1⟩
  · obtain ⟨k1, k2, k3⟩ := vx_keep h0 e1 hS hAX hf hL hF
    obtain ⟨t2, a1, b1⟩ := kx E ce q u t T'.heap (locs ++ L) e1.symm (by rw [← e2]; exact X'.warmed.alike) hp hb k1 k2 k3 (by rw [e1]; exact hce) hcv hcl T' rfl X'
    exact ⟨t2, st.trans a1, b1⟩
theorem vx_callv {S SX : Type} {post : S → Prop} {px : SX → Prop} {B : S → State → Prop} {BX : String → SX → State → Prop} {AX : Nat → Prop} (hr : vx_Run p l e R s m args below meth c H locs cells slots mc ms (F0 m pc ls st0) rest (va_Qv post B A1 a) (vx_X px BX AX) free) (hS : va_S A0 H0 H locs) (hA : ∀ q, q < H.size → A1 q → A0 q) (hf : ∀ q, free q → A0 q) (hAX : ∀ q, q < H.size → AX q → A0 q)
    (kx : ∀ (E : String) (ce : Cell) (q9 : Addr) (u : SX) (t : State) (H1 : Heap) (locs1 : List Loc), t.heap = H1 → s.vm.Alike t.vm → px u → BX E u t → H.size ≤ H1.size → (∀ q : Nat, q < H.size → ¬ AX q → H1[q]? = H[q]?) → va_S A0 H0 H1 locs1 → H1[q9]? = some ce → ce.vm = .none → s.vm.findClass E = some ce.cls → vx_W p l e R s m args below meth c H1 locs1 (cells + mc) (slots + ms) Q (F0 m pc ls rest) q9)
    (kk : ∀ (u : S) (t : State) (H1 : Heap) (locs1 : List Loc), t.heap = H1 → s.vm.Alike t.vm → post u → B u t → H.size ≤ H1.size → (∀ q : Nat, q < H.size → ¬ A1 q → H1[q]? = H[q]?) → va_S A0 H0 H1 locs1 → W p l e R s m args below meth c H1 locs1 (cells + mc) (slots + ms) Q (F0 m (pc + 3) ls (rest))) : W p l e R s m args below meth c H locs cells slots Q (F0 m pc ls st0) := by
  intro T hT X
  rcases hr T hT X with ⟨v, st₀, t, T', L, h0, X', hL, e1, e2, ⟨⟨u, hv, hp, hb⟩, hF⟩, st⟩ | ⟨q, st₀, t, T', L, E, ce, h0, X', hL, e1, e2, ⟨u, hp, hb, hF⟩, hce, hcv, hcl, st⟩
  · cases hv
    obtain ⟨k1, k2, k3⟩ := vx_keep h0 e1 hS hA hf hL hF
    obtain ⟨t2, a1, b1⟩ := kk u t T'.heap (locs ++ L) e1.symm (by rw [← e2]; exact X'.warmed.alike) hp hb k1 k2 k3 T' rfl X'
    exact ⟨t2, st t2 a1, b1⟩
  · obtain ⟨k1, k2, k3⟩ := vx_keep h0 e1 hS hAX hf hL hF
    obtain ⟨t2, a1, b1⟩ := kx E ce q u t T'.heap (locs ++ L) e1.symm (by rw [← e2]; exact X'.warmed.alike) hp hb k1 k2 k3 (by rw [e1]; exact hce) hcv hcl T' rfl X'
    exact ⟨t2, st.trans a1, b1⟩
end Rows
section Ends
variable {p : Program} {l : Launch} {e : Env} {R : Room} {s : State} {m : MethodId} {args : Array Value} {below : List Frame} {meth : Method} {c : Code} {H : Heap} {locs : List Loc} {cells slots : Nat} {Q : State → Prop}
variable {mc ms : Nat} {free : Addr → Prop} {A0 A1 : Nat → Prop} {H0 : Heap} {a : Array Value} {ls : Array Slot} {st0 rest : List Value}
variable {Qc : Array Value → State → Outcome → State → Prop} {XC : String → State → State → Prop}
/-- what a body that may throw owes at its end -/
def vx_MQ (below : List Frame) (Qc : Array Value → State → Outcome → State → Prop) (XC : String → State → State → Prop) (a : Array Value) (s : State) (mc ms : Nat) (free : Addr → Prop) : State → Prop := fun t =>
  ∃ o, t.status = .running ∧ Ended t below o ∧ vx_Q Qc XC mc ms free a s o t
theorem vx_ret {g : JFrame} {mc ms : Nat} (k : W p l e R s m args below meth c H locs cells slots (MQ below Qc args s mc ms free) g) : W p l e R s m args below meth c H locs cells slots (vx_MQ below Qc XC args s mc ms free) g := by
  intro T hT X
  obtain ⟨t, a1, o, b1, b2, b3, b4⟩ := k T hT X
  exact ⟨t, a1, o, b1, b2, Or.inl ⟨b3, b4⟩⟩
/-- not caught here: it goes on to the caller -/
theorem vx_widen {g : JFrame} {q : Addr} {k n : Nat} (h1 : cells ≤ k) (h2 : slots ≤ n) (kk : vx_W p l e R s m args below meth c H locs k n Q g q) : vx_W p l e R s m args below meth c H locs cells slots Q g q := fun T hT X => kk T hT (stand_widen X h1 h2)
theorem vx_out {pc : Nat} {E : String} {ce : Cell} {q : Addr} {mc ms : Nat} (hout : ∀ x ∈ c.exceptionTable.toList, covers x pc = false) (hlocks : meth.locks = false) (hcell : H[q]? = some ce) (hv : ce.vm = .none) (hcl : s.vm.findClass E = some ce.cls)
    (hx : ∀ t : State, t.heap = H → s.vm.Alike t.vm → XC E s t) (hf : ∀ z ∈ locs, free z.base) (hc : cells ≤ mc) (hs : slots ≤ ms) :
    vx_W p l e R s m args below meth c H locs cells slots (vx_MQ below Qc XC args s mc ms free) (F0 m pc ls rest) q := by
  intro T hT X
  obtain ⟨st1, hrun, hend, hW, hsm⟩ := X.leaveThrown q (g := F0 m pc ls rest) rfl rfl rfl hout hlocks
  have hcell9 : (T.setFrames (.throwing q :: below)).heap[q]? = some ce := by
    show T.heap[q]? = some ce
    rw [hT]; exact hcell
  exact ⟨_, st1, .threw q, hrun, hend, Or.inr ⟨q, rfl, E, ce, locs, hx _ hT hW.alike, hcell9, hv, hcl, hW, hsm.mono hc hs, hf⟩⟩
theorem vx_frame {U : State} {k n : Nat} (h : s.sameButNew ({ U with vm := s.vm } : State) locs k n) : s.heap.size ≤ U.heap.size ∧ ∀ q : Nat, q < s.heap.size → (∀ z ∈ locs, z.base ≠ q) → U.heap[q]? = s.heap[q]? := by
  obtain ⟨-, h2, -, -, -, h6⟩ := h
  refine ⟨h2, fun q hq hz => ?_⟩
  obtain ⟨c9, e1, e2, e3, e4⟩ := h6 q _ (Array.getElem?_eq_getElem hq)
  have hs : c9.slots = (s.heap[q]).slots := Array.ext_getElem? fun i => e4 i fun hm => hz _ hm rfl
  have h9 : c9 = s.heap[q] := by
    rw [hs] at e2
    exact e2
  have e5 : U.heap[q]? = some c9 := e1
  rw [e5, h9, Array.getElem?_eq_getElem hq]
/-- the words of a throw but the four that speak of the heap -/
def vx_no (w : Cond) : Bool := decide (w ≠ .isRef (.static Bundle.tN "UNASSIGNED_STACK" Bundle.steD)) && decide (w ≠ .isRef (.static Bundle.tN "SUPPRESSED_SENTINEL" Bundle.listD)) && decide (w ≠ .laysStatic Bundle.tN "UNASSIGNED_STACK" Bundle.steD) && decide (w ≠ .laysStatic Bundle.tN "SUPPRESSED_SENTINEL" Bundle.listD)
def vx_at0 (own : String) (ic : Nat) (X : String) (names : List String) : List Cond := (Bundle.ownAtoms0 own ic X names).filter vx_no
def vx_atS (own : String) (ic : Nat) (X : String) (names : List String) : List Cond := (Bundle.ownAtoms own ic X names).filter vx_no
/-- a word that the tables alone decide, or a good one -/
def vx_ot (w : Cond) : Bool := w.onTables || goodWord w
theorem vx_ot_at {args a' : Array Value} {s U : State} {w : Cond} (hW : s.WarmedH U.vm) (hvm : s.vm = U.vm) (hg : vx_ot w = true) (h : w.before args s = true) : w.before a' U = true := by
  simp only [vx_ot, Bool.or_eq_true] at hg
  rcases hg with hg | hg
  · exact va_tabs hg hvm h
  · exact word_at hW (good_of_word hg) h
/-- a list's words: the good ones out of the method's own list, the others by premises of their own -/
theorem vx_hat {args : Array Value} {s : State} {L B : List Cond} (h1 : ∀ w ∈ L.filter goodWord, w.before args s = true) (h2 : ∀ w ∈ L.filter (fun w => !goodWord w), w ∈ B) (h3 : ∀ w ∈ B, w.before args s = true) : ∀ w ∈ L, w.before args s = true := by
  intro w hw
  by_cases g : goodWord w = true
  · exact h1 w (List.mem_filter.mpr ⟨hw, g⟩)
  · refine h3 w (h2 w (List.mem_filter.mpr ⟨hw, ?_⟩))
    show (!goodWord w) = true
    cases hgw : goodWord w
    · rfl
    · exact absurd hgw g
theorem vx_c {args : Array Value} {s : State} {w : Cond} {B : List Cond} (h : w.before args s = true) (t : ∀ w ∈ B, w.before args s = true) : ∀ w' ∈ w :: B, w'.before args s = true := fun w' h' => (List.mem_cons.mp h').elim (fun e => by rw [e]; exact h) (t w')
theorem vx_n {args : Array Value} {s : State} : ∀ w ∈ ([] : List Cond), w.before args s = true := fun _ h => nomatch h
theorem vx_own {args : Array Value} {s : State} {L : List Cond} (h1 : ∀ w ∈ L.filter vx_no, w.before args s = true)
    (hU : (Cond.isRef (.static Bundle.tN "UNASSIGNED_STACK" Bundle.steD)).before args s = true) (hN : (Cond.isRef (.static Bundle.tN "SUPPRESSED_SENTINEL" Bundle.listD)).before args s = true)
    (lU : (Cond.laysStatic Bundle.tN "UNASSIGNED_STACK" Bundle.steD).before args s = true) (lN : (Cond.laysStatic Bundle.tN "SUPPRESSED_SENTINEL" Bundle.listD).before args s = true) : ∀ w ∈ L, w.before args s = true := by
  intro w hw
  by_cases e1 : w = .isRef (.static Bundle.tN "UNASSIGNED_STACK" Bundle.steD)
  · rw [e1]; exact hU
  · by_cases e2 : w = .isRef (.static Bundle.tN "SUPPRESSED_SENTINEL" Bundle.listD)
    · rw [e2]; exact hN
    · by_cases e3 : w = .laysStatic Bundle.tN "UNASSIGNED_STACK" Bundle.steD
      · rw [e3]; exact lU
      · by_cases e4 : w = .laysStatic Bundle.tN "SUPPRESSED_SENTINEL" Bundle.listD
        · rw [e4]; exact lN
        · exact h1 w (List.mem_filter.mpr ⟨hw, by unfold vx_no; rw [decide_eq_true e1, decide_eq_true e2, decide_eq_true e3, decide_eq_true e4]; rfl⟩)
/-- where a static field lies, its class's statics cell in H -/
def vx_L (C n d : String) (A : Nat → Prop) (U : State) (H : Heap) : Prop := ∃ (c : ClassId) (k : Class) (i : Nat) (f : Field) (a : Nat) (cell : Cell), U.vm.findClass C = some c ∧ U.fieldFound? C n d = some (c, k, i, f) ∧ f.isStatic = true ∧ k.statics = some a ∧ H[a]? = some cell ∧ cell.vm.isStatics = true ∧ cell.cls = c ∧ f.slot < cell.slots.size ∧ k.staticTypes[f.slot]? = some f.type ∧ ¬ A a
theorem vx_L.moved {C n d : String} {A : Nat → Prop} {u U : State} {H : Heap} (hvm : u.vm.Alike U.vm) (h : vx_L C n d A u H) : vx_L C n d A U H := by
  obtain ⟨c, k, i, f, a, cell, h1, h2, h3, h4, h5, h6, h7, h8, h9, h10⟩ := h
  obtain ⟨k', hi', he⟩ := State.fieldFound?_setVm hvm h2
  exact ⟨c, k', i, f, a, cell, by rw [hvm.findClass]; exact h1, hi', h3, by rw [he]; exact h4, h5, h6, h7, h8, by rw [he]; exact h9, h10⟩
theorem vx_L.kept {C n d : String} {A : Nat → Prop} {U : State} {H H1 : Heap} (h : vx_L C n d A U H) (hq : ∀ a : Nat, a < H.size → ¬ A a → H1[a]? = H[a]?) : vx_L C n d A U H1 := by
  obtain ⟨c, k, i, f, a, cell, h1, h2, h3, h4, h5, h6, h7, h8, h9, h10⟩ := h
  exact ⟨c, k, i, f, a, cell, h1, h2, h3, h4, by rw [hq a (Array.getElem?_eq_some_iff.mp h5).1 h10]; exact h5, h6, h7, h8, h9, h10⟩
theorem vx_L.narrow {C n d : String} {A B : Nat → Prop} {U : State} {H : Heap} (h : vx_L C n d A U H) (hAB : ∀ q, B q → A q) : vx_L C n d B U H := by
  obtain ⟨c, k, i, f, a, cell, h1, h2, h3, h4, h5, h6, h7, h8, h9, h10⟩ := h
  exact ⟨c, k, i, f, a, cell, h1, h2, h3, h4, h5, h6, h7, h8, h9, fun z => h10 (hAB _ z)⟩
theorem vx_L.word {C n d : String} {A : Nat → Prop} {s : State} {args : Array Value} (h : vx_L C n d A s s.heap) : (Cond.laysStatic C n d).before args s = true := by
  obtain ⟨c, k, i, f, a, cell, h1, h2, h3, h4, h5, h6, h7, h8, h9, -⟩ := h
  show (Cond.laysStatic C n d).holds args s none s [] = true
  exact Cond.laysStatic_of h1 h2 h3 h4 h5 h6 h7 h8 h9
/-- .. and what it holds: null or some reference -/
def vx_Zq (C n d : String) (A : Nat → Prop) (U : State) (H : Heap) : Prop := va_Zq C n d A U H ∧ vx_L C n d A U H
theorem vx_Zq.moved {C n d : String} {A : Nat → Prop} {u U : State} {H : Heap} (hvm : u.vm.Alike U.vm) (h : vx_Zq C n d A u H) : vx_Zq C n d A U H := ⟨va_Zq.moved hvm h.1, vx_L.moved hvm h.2⟩
theorem vx_Zq.kept {C n d : String} {A : Nat → Prop} {U : State} {H H1 : Heap} (h : vx_Zq C n d A U H) (hq : ∀ a : Nat, a < H.size → ¬ A a → H1[a]? = H[a]?) : vx_Zq C n d A U H1 := ⟨va_Zq.kept h.1 hq, vx_L.kept h.2 hq⟩
theorem vx_Zq.narrow {C n d : String} {A B : Nat → Prop} {U : State} {H : Heap} (h : vx_Zq C n d A U H) (hAB : ∀ q, B q → A q) : vx_Zq C n d B U H := ⟨va_Zq.narrow h.1 hAB, vx_L.narrow h.2 hAB⟩
theorem vx_Zqof {args : Array Value} {s : State} {C n d : String} {A : Nat → Prop} (hl : (Cond.laysStatic C n d).before args s = true) (hini : (Cond.initialized C).before args s = true) (h : (Cond.isRef (.static C n d)).before args s = true) (hA : ∀ a : Nat, a < s.heap.size → ¬ A a) : vx_Zq C n d A s s.heap := by
  refine ⟨va_Zqof hl hini h hA, ?_⟩
  obtain ⟨c, k, i, f, a, cell, h1, h2, h3, h4, h5, h6, h7, h8, h9⟩ := Cond.laysStatic_spec hl
  exact ⟨c, k, i, f, a, cell, h1, h2, h3, h4, h5, h6, h7, h8, h9, hA a (Array.getElem?_eq_some_iff.mp h5).1⟩
theorem vx_isRef {C n d : String} {v : Value} {A : Nat → Prop} {s : State} {args : Array Value} (h : va_Z C n d v A s s.heap) (hv : v.isRef = true) : (Cond.isRef (.static C n d)).before args s = true := by
  obtain ⟨cf, kf, fi, f, a, cell, h1, h2, h3, h4, h5, h6, h7, -⟩ := h
  have he : (Term.static C n d).eval args s none [] s = some v := by
    simp [Term.eval, State.fieldNamed?, h1, h2, h4, h5, h6, h7]
  simp only [Cond.before, Cond.holds, Cond.value, he]
  cases v <;> simp_all [Value.isRef]
theorem vx_isRefq {C n d : String} {A : Nat → Prop} {s : State} {args : Array Value} (h : va_Zq C n d A s s.heap) : (Cond.isRef (.static C n d)).before args s = true := by
  rcases h with h | ⟨t, h⟩
  · exact vx_isRef h rfl
  · exact vx_isRef h rfl
/-- the same frame, seen from here: as if the method were called anew in this heap -/
theorem vx_rebase {T : State} (X : Stand p l e R s m args below meth c T locs cells slots) {R' : Room} (hf : R'.frames ≤ R.frames) (hl : R'.locals ≤ R.locals) (hc : cells + R'.cells ≤ R.cells) (hs : slots + R'.slots ≤ R.slots) :
    Stand p l e R' ((T.setVm s.vm).setFrames (.invoking m args :: below)) m args below meth c T [] 0 0 := by
  have htop : (T.setVm s.vm).topJava?.isSome := X.here.top
  have hF : ((T.setVm s.vm).setFrames (.invoking m args :: below)).frames = .invoking m args :: below := State.frames_setFrames _ (State.cur_lt_of_top htop)
  obtain ⟨g₀, hg0⟩ := Option.isSome_iff_exists.mp htop
  obtain ⟨r, hr⟩ := State.topJava?_eq_some.mp hg0
  have hl9 : e.platform.stackLimits (T.setVm s.vm).me = e.platform.stackLimits s.me := X.limits
  have hb9 : (T.setVm s.vm).me.stackBytes = s.me.stackBytes := X.bytes
  refine ⟨X.admits, X.cas, X.clock, hF, ?_, X.hears, X.method, X.code, X.here, X.tail, X.warmed, ?_, ?_, ?_⟩
  · have h := X.room
    have hU : ((T.setVm s.vm).setFrames (.invoking m args :: below)).localsInUse = s.localsInUse := by
      rw [State.localsInUse_invoking hF (meth := meth) (c := c) X.method X.code, State.localsInUse_invoking X.frames X.method X.code]
    simp only [State.hasRoom, Bool.and_eq_true, decide_eq_true_eq] at h ⊢
    obtain ⟨⟨⟨⟨h1, h2, h3, h4, h5, h6⟩, h7⟩, h8⟩, h9⟩ := h
    rw [X.frames, List.length_cons] at h2 h3
    have q1 := X.heapSize
    have q2 := X.used
    simp only [hF, hU, List.length_cons, State.stackLimits_setFrames, State.stackBytes_setFrames, hl9, hb9]
    refine ⟨⟨⟨⟨by omega, by omega, by omega, by omega, by omega, h6⟩, ?_⟩, ?_⟩, X.book⟩
    · show T.heap.size + R'.cells ≤ e.platform.maxCells
      omega
    · show T.slotsUsed + R'.slots ≤ e.platform.maxSlots
      omega
  · rw [State.stackLimits_setFrames]; rfl
  · rw [State.stackBytes_setFrames]; rfl
  · refine ⟨?_, Nat.le_refl _, Nat.le_refl _, ?_, ?_, fun a c9 h9 => ⟨c9, h9, rfl, rfl, fun _ _ => rfl⟩⟩
    · obtain ⟨t, ht, -⟩ := State.frames_cons hr
      show T.setVm s.vm = { ((T.setVm s.vm).setFrames (.invoking m args :: below)).setFrames (T.setVm s.vm).frames with heap := T.heap, slotsUsed := T.slotsUsed }
      rw [State.setFrames_setFrames, State.setFrames_self ht]
      rfl
    · show T.slotsUsed = T.slotsUsed + ((T.heap.toList.drop T.heap.size).map (·.slots.size)).sum
      rw [List.drop_eq_nil_of_le (Nat.le_of_eq Array.length_toList)]
      rfl
    · show ((T.heap.toList.drop T.heap.size).map (·.slots.size)).sum ≤ 0
      rw [List.drop_eq_nil_of_le (Nat.le_of_eq Array.length_toList)]
      exact Nat.le_refl _
/-- 'throw new E()': new; dup; invokespecial; athrow -/
theorem vx_throw0 {cc : ByteArray} {pc : Nat} (hexec : p.tables.exec = Jvm.exec) (hb : c.code = cc) (hl : l.stackTraces = false) {own cls : String} {names : List String} {ik ic mc ms : Nat} {A : Nat → Prop}
    (hown : s.vm.findClass own = some m.cls) (hcls : Bundle.fit cls = true) (hnames : ∀ n ∈ names, Bundle.fit n = true)
    (hk : (Cond.classLink own ik cls).before args s = true) (hini : (Cond.initialized cls).before args s = true) (hat : ∀ w ∈ vx_at0 own ic cls names, w.before args s = true)
    (hgood : ∀ w ∈ Cond.classLink own ik cls :: Cond.initialized cls :: vx_at0 own ic cls names, vx_ot w = true)
    (hU : vx_Zq Bundle.tN "UNASSIGNED_STACK" Bundle.steD A s s.heap) (hN : vx_Zq Bundle.tN "SUPPRESSED_SENTINEL" Bundle.listD A s s.heap) (hS : va_S A s.heap H locs) (hsize : ls.size = c.maxLocals)
    (d0 : decode cc pc = .ok (.new ik, 3)) (d3 : decode cc (pc + 3) = .ok (.dup, 1)) (d4 : decode cc (pc + 4) = .ok (.invokespecial ic, 3)) (d7 : decode cc (pc + 7) = .ok (.athrow, 1))
    (hout : ∀ x ∈ c.exceptionTable.toList, covers x (pc + 7) = false)
    (hRframes : names.length + 3 < R.frames) (hRlocals : (rest.map fun v => v.category).sum + (13 * (names.length + 1) + 42) ≤ R.locals) (hRcells : cells + 1 ≤ R.cells) (hRslots : slots + 6 ≤ R.slots) (hlocks : meth.locks = false)
    (hx : ∀ t : State, s.vm.Alike t.vm → H.size ≤ t.heap.size → (∀ q : Nat, q < H.size → t.heap[q]? = H[q]?) → XC cls s t)
    (hf : ∀ z ∈ locs, free z.base) (hc : cells + 1 ≤ mc) (hs : slots + 6 ≤ ms) :
    W p l e R s m args below meth c H locs cells slots (vx_MQ below Qc XC args s mc ms free) (F0 m pc ls rest) := by
  intro T hT X
  have htr : e.platform.stackTraces = false := (show e.platform.stackTraces = l.stackTraces by rw [X.admits.platform]).trans hl
  have Y := vx_rebase X (R' := { frames := R.frames, locals := R.locals, cells := 1, slots := 6 }) (Nat.le_refl _) (Nat.le_refl _) hRcells hRslots
  obtain ⟨s', hA⟩ : ∃ z, z = (T.setVm s.vm).setFrames (.invoking m args :: below) := ⟨_, rfl⟩
  rw [← hA] at Y
  have hvm : s'.vm = s.vm := by rw [hA]; rfl
  have hhp : s'.heap = H := by rw [hA]; exact hT
  have hW0 : s.WarmedH s'.vm := by rw [hvm]; exact State.WarmedH.refl s
  have hat' : ∀ w ∈ vx_at0 own ic cls names, w.before args s' = true := fun w hw => vx_ot_at hW0 hvm.symm (hgood w (List.mem_cons_of_mem _ (List.mem_cons_of_mem _ hw))) (hat w hw)
  have hk' : (Cond.classLink own ik cls).before args s' = true := vx_ot_at hW0 hvm.symm (hgood _ List.mem_cons_self) hk
  have hini' : (Cond.initialized cls).before args s' = true := vx_ot_at hW0 hvm.symm (hgood _ (List.mem_cons_of_mem _ List.mem_cons_self)) hini
  have hU' : vx_Zq Bundle.tN "UNASSIGNED_STACK" Bundle.steD A s' s'.heap := by rw [hhp]; exact vx_Zq.moved hW0.alike (hU.kept hS.2.1)
  have hN' : vx_Zq Bundle.tN "SUPPRESSED_SENTINEL" Bundle.listD A s' s'.heap := by rw [hhp]; exact vx_Zq.moved hW0.alike (hN.kept hS.2.1)
  have h : ∀ w ∈ Bundle.ownAtoms0 own ic cls names, w.before args s' = true := vx_own hat' (vx_isRefq hU'.1) (vx_isRefq hN'.1) hU'.2.word hN'.2.word
  have hown' : s'.vm.findClass own = some m.cls := by rw [hvm]; exact hown
  have hins : (Cond.instantiable cls 6).before args s' = true := h _ (by simp [Bundle.ownAtoms0])
  obtain ⟨vm₁, cX, kX, hfX, hkX, -, -, X₁, st1⟩ := Y.newCold hexec (own := own) (C := cls) (index := ik) (n := 6) hown' hk' hins hini'
    (g := F0 m pc ls rest) rfl (by rw [hb]; exact d0) (Nat.le_refl _) (Nat.le_refl _)
  generalize hT1 : (T.setVm vm₁).pushCell { cls := cX, slots := kX.instanceTypes.map defaultValue, vm := .none } = T1 at X₁ st1
  have hcat : (Value.ref T.heap.size).category = 1 := rfl
  have hcellA : T1.heap[T.heap.size]? = some (freshCell cX kX) := by rw [← hT1]; exact State.heap_pushCell_size _ _
  have d3' : decode c.code (pc + 3) = .ok (.dup, 1) := by rw [hb]; exact d3
  obtain ⟨U, hsteps, hrun, hend, hW, hsame, ce, hce, hO⟩ := X₁.ctorThrow0 hexec htr (own := own) (cls := cls) (names := names) (ic := ic) hown' hcls hnames h (fun x hx => nomatch hx) hfX hkX hcellA (by rw [hhp, hT]; exact Nat.le_refl _)
    (g := { method := m, pc := pc + 4, locals := ls, stack := .ref T.heap.size :: .ref T.heap.size :: rest, locked := none }) rfl hsize rfl rfl (rest := rest) rfl
    (by rw [hb]; exact d4) (by rw [hb]; exact d7) hout hRframes (by simp only [List.map_cons, List.sum_cons, hcat]; omega) hlocks
  obtain ⟨f1, f2⟩ := vx_frame hsame
  rw [hhp] at f1 f2
  have hWs : s.WarmedH U.vm := State.WarmedH.trans hW0 hW
  have hcl : s.vm.findClass cls = some ce.cls := by
    have h9 := hO.cls
    rw [hvm] at h9
    exact h9
  have hall : s.sameButNew ({ U with vm := s.vm } : State) locs mc ms := by
    subst hA
    obtain ⟨e1, e2⟩ := hsame
    rw [State.setFrames_setFrames] at e1
    have h2 : (T.setVm s.vm).sameButNew ({ U with vm := s.vm } : State) [] (0 + 1) (0 + 6) := ⟨e1, e2⟩
    have h3 := X.same.trans h2
    rw [List.append_nil] at h3
    exact h3.mono hc hs
  refine ⟨U, ?_, .threw T.heap.size, hrun, hend, Or.inr ⟨T.heap.size, rfl, cls, ce, locs, hx U hWs.alike f1 (fun q hq => f2 q hq (fun z hz => nomatch hz)), hce, hO.vm, hcl, hWs, hall, hf⟩⟩
  refine st1 _ ?_
  show Steps p.tables e below (T1.setTop { method := m, pc := pc + 3, locals := ls, stack := .ref T.heap.size :: rest, locked := none }) _
  jvm_step X₁.here [X₁.here.top, hexec, d3', Value.category]
  exact hsteps
/-- 'throw new E("text")': new; dup; ldc; invokespecial; athrow -/
theorem vx_throwS {cc : ByteArray} {pc : Nat} (hexec : p.tables.exec = Jvm.exec) (hb : c.code = cc) (hl : l.stackTraces = false) {own cls text : String} {names : List String} {ik is ic mc ms sa : Nat} {A : Nat → Prop}
    (hown : s.vm.findClass own = some m.cls) (hcls : Bundle.fit cls = true) (hnames : ∀ n ∈ names, Bundle.fit n = true)
    (hk : (Cond.classLink own ik cls).before args s = true) (hini : (Cond.initialized cls).before args s = true) (hstr : vk_R own is text sa s) (hat : ∀ w ∈ vx_atS own ic cls names, w.before args s = true)
    (hgood : ∀ w ∈ Cond.classLink own ik cls :: Cond.initialized cls :: vx_atS own ic cls names, vx_ot w = true)
    (hU : vx_Zq Bundle.tN "UNASSIGNED_STACK" Bundle.steD A s s.heap) (hN : vx_Zq Bundle.tN "SUPPRESSED_SENTINEL" Bundle.listD A s s.heap) (hS : va_S A s.heap H locs) (hsize : ls.size = c.maxLocals)
    (d0 : decode cc pc = .ok (.new ik, 3)) (d3 : decode cc (pc + 3) = .ok (.dup, 1)) (d4 : decode cc (pc + 4) = .ok (.ldc is, 2)) (d6 : decode cc (pc + 6) = .ok (.invokespecial ic, 3)) (d9 : decode cc (pc + 9) = .ok (.athrow, 1))
    (hout : ∀ x ∈ c.exceptionTable.toList, covers x (pc + 9) = false)
    (hRframes : names.length + 3 < R.frames) (hRlocals : (rest.map fun v => v.category).sum + (13 * (names.length + 1) + 43) ≤ R.locals) (hRcells : cells + 1 ≤ R.cells) (hRslots : slots + 6 ≤ R.slots) (hlocks : meth.locks = false)
    (hx : ∀ t : State, s.vm.Alike t.vm → H.size ≤ t.heap.size → (∀ q : Nat, q < H.size → t.heap[q]? = H[q]?) → XC cls s t)
    (hf : ∀ z ∈ locs, free z.base) (hc : cells + 1 ≤ mc) (hs : slots + 6 ≤ ms) :
    W p l e R s m args below meth c H locs cells slots (vx_MQ below Qc XC args s mc ms free) (F0 m pc ls rest) := by
  intro T hT X
  have htr : e.platform.stackTraces = false := (show e.platform.stackTraces = l.stackTraces by rw [X.admits.platform]).trans hl
  have Y := vx_rebase X (R' := { frames := R.frames, locals := R.locals, cells := 1, slots := 6 }) (Nat.le_refl _) (Nat.le_refl _) hRcells hRslots
  obtain ⟨s', hA⟩ : ∃ z, z = (T.setVm s.vm).setFrames (.invoking m args :: below) := ⟨_, rfl⟩
  rw [← hA] at Y
  have hvm : s'.vm = s.vm := by rw [hA]; rfl
  have hhp : s'.heap = H := by rw [hA]; exact hT
  have hW0 : s.WarmedH s'.vm := by rw [hvm]; exact State.WarmedH.refl s
  have hat' : ∀ w ∈ vx_atS own ic cls names, w.before args s' = true := fun w hw => vx_ot_at hW0 hvm.symm (hgood w (List.mem_cons_of_mem _ (List.mem_cons_of_mem _ hw))) (hat w hw)
  have hk' : (Cond.classLink own ik cls).before args s' = true := vx_ot_at hW0 hvm.symm (hgood _ List.mem_cons_self) hk
  have hini' : (Cond.initialized cls).before args s' = true := vx_ot_at hW0 hvm.symm (hgood _ (List.mem_cons_of_mem _ List.mem_cons_self)) hini
  have hU' : vx_Zq Bundle.tN "UNASSIGNED_STACK" Bundle.steD A s' s'.heap := by rw [hhp]; exact vx_Zq.moved hW0.alike (hU.kept hS.2.1)
  have hN' : vx_Zq Bundle.tN "SUPPRESSED_SENTINEL" Bundle.listD A s' s'.heap := by rw [hhp]; exact vx_Zq.moved hW0.alike (hN.kept hS.2.1)
  have h : ∀ w ∈ Bundle.ownAtoms own ic cls names, w.before args s' = true := vx_own hat' (vx_isRefq hU'.1) (vx_isRefq hN'.1) hU'.2.word hN'.2.word
  have hown' : s'.vm.findClass own = some m.cls := by rw [hvm]; exact hown
  have hins : (Cond.instantiable cls 6).before args s' = true := h _ (by simp [Bundle.ownAtoms])
  obtain ⟨vm₁, cX, kX, hfX, hkX, -, -, X₁, st1⟩ := Y.newCold hexec (own := own) (C := cls) (index := ik) (n := 6) hown' hk' hins hini'
    (g := F0 m pc ls rest) rfl (by rw [hb]; exact d0) (Nat.le_refl _) (Nat.le_refl _)
  generalize hT1 : (T.setVm vm₁).pushCell { cls := cX, slots := kX.instanceTypes.map defaultValue, vm := .none } = T1 at X₁ st1
  have hcat : (Value.ref T.heap.size).category = 1 := rfl
  have hcellA : T1.heap[T.heap.size]? = some (freshCell cX kX) := by rw [← hT1]; exact State.heap_pushCell_size _ _
  have d3' : decode c.code (pc + 3) = .ok (.dup, 1) := by rw [hb]; exact d3
  have d4' : decode c.code (pc + 4) = .ok (.ldc is, 2) := by rw [hb]; exact d4
  have hstr' : vk_R own is text sa s' := vk_R.warm hW0 hstr
  obtain ⟨U, hsteps, hrun, hend, hW, hsame, ce, hce, hO⟩ := X₁.ctorThrowS hexec htr (own := own) (cls := cls) (names := names) (ic := ic) hown' hcls hnames h (fun x hx => nomatch hx) hfX hkX hcellA (by rw [hhp, hT]; exact Nat.le_refl _) (msg := .ref sa) rfl
    (g := { method := m, pc := pc + 6, locals := ls, stack := .ref sa :: .ref T.heap.size :: .ref T.heap.size :: rest, locked := none }) rfl hsize rfl rfl (rest := rest) rfl
    (by rw [hb]; exact d6) (by rw [hb]; exact d9) hout hRframes (by simp only [List.map_cons, List.sum_cons, hcat]; omega) hlocks
  obtain ⟨f1, f2⟩ := vx_frame hsame
  rw [hhp] at f1 f2
  have hWs : s.WarmedH U.vm := State.WarmedH.trans hW0 hW
  have hcl : s.vm.findClass cls = some ce.cls := by
    have h9 := hO.cls
    rw [hvm] at h9
    exact h9
  have hall : s.sameButNew ({ U with vm := s.vm } : State) locs mc ms := by
    subst hA
    obtain ⟨e1, e2⟩ := hsame
    rw [State.setFrames_setFrames] at e1
    have h2 : (T.setVm s.vm).sameButNew ({ U with vm := s.vm } : State) [] (0 + 1) (0 + 6) := ⟨e1, e2⟩
    have h3 := X.same.trans h2
    rw [List.append_nil] at h3
    exact h3.mono hc hs
  refine ⟨U, ?_, .threw T.heap.size, hrun, hend, Or.inr ⟨T.heap.size, rfl, cls, ce, locs, hx U hWs.alike f1 (fun q hq => f2 q hq (fun z hz => nomatch hz)), hce, hO.vm, hcl, hWs, hall, hf⟩⟩
  refine st1 _ ?_
  show Steps p.tables e below (T1.setTop { method := m, pc := pc + 3, locals := ls, stack := .ref T.heap.size :: rest, locked := none }) _
  jvm_step X₁.here [X₁.here.top, hexec, d3', Value.category]
  exact X₁.ldcString hexec (own := own) (text := text) (index := is) (a := sa) hown' hstr'.1 hstr'.2
    (g := { method := m, pc := pc + 4, locals := ls, stack := .ref T.heap.size :: .ref T.heap.size :: rest, locked := none }) rfl d4' _ hsteps
/-- 'throw new E("text")', the text by a wide index -/
theorem vx_throwSW {cc : ByteArray} {pc : Nat} (hexec : p.tables.exec = Jvm.exec) (hb : c.code = cc) (hl : l.stackTraces = false) {own cls text : String} {names : List String} {ik is ic mc ms sa : Nat} {A : Nat → Prop}
    (hown : s.vm.findClass own = some m.cls) (hcls : Bundle.fit cls = true) (hnames : ∀ n ∈ names, Bundle.fit n = true)
    (hk : (Cond.classLink own ik cls).before args s = true) (hini : (Cond.initialized cls).before args s = true) (hstr : vk_R own is text sa s) (hat : ∀ w ∈ vx_atS own ic cls names, w.before args s = true)
    (hgood : ∀ w ∈ Cond.classLink own ik cls :: Cond.initialized cls :: vx_atS own ic cls names, vx_ot w = true)
    (hU : vx_Zq Bundle.tN "UNASSIGNED_STACK" Bundle.steD A s s.heap) (hN : vx_Zq Bundle.tN "SUPPRESSED_SENTINEL" Bundle.listD A s s.heap) (hS : va_S A s.heap H locs) (hsize : ls.size = c.maxLocals)
    (d0 : decode cc pc = .ok (.new ik, 3)) (d3 : decode cc (pc + 3) = .ok (.dup, 1)) (d4 : decode cc (pc + 4) = .ok (.ldc_w is, 3)) (d7 : decode cc (pc + 7) = .ok (.invokespecial ic, 3)) (d10 : decode cc (pc + 10) = .ok (.athrow, 1))
    (hout : ∀ x ∈ c.exceptionTable.toList, covers x (pc + 10) = false)
    (hRframes : names.length + 3 < R.frames) (hRlocals : (rest.map fun v => v.category).sum + (13 * (names.length + 1) + 43) ≤ R.locals) (hRcells : cells + 1 ≤ R.cells) (hRslots : slots + 6 ≤ R.slots) (hlocks : meth.locks = false)
    (hx : ∀ t : State, s.vm.Alike t.vm → H.size ≤ t.heap.size → (∀ q : Nat, q < H.size → t.heap[q]? = H[q]?) → XC cls s t)
    (hf : ∀ z ∈ locs, free z.base) (hc : cells + 1 ≤ mc) (hs : slots + 6 ≤ ms) :
    W p l e R s m args below meth c H locs cells slots (vx_MQ below Qc XC args s mc ms free) (F0 m pc ls rest) := by
  intro T hT X
  have htr : e.platform.stackTraces = false := (show e.platform.stackTraces = l.stackTraces by rw [X.admits.platform]).trans hl
  have Y := vx_rebase X (R' := { frames := R.frames, locals := R.locals, cells := 1, slots := 6 }) (Nat.le_refl _) (Nat.le_refl _) hRcells hRslots
  obtain ⟨s', hA⟩ : ∃ z, z = (T.setVm s.vm).setFrames (.invoking m args :: below) := ⟨_, rfl⟩
  rw [← hA] at Y
  have hvm : s'.vm = s.vm := by rw [hA]; rfl
  have hhp : s'.heap = H := by rw [hA]; exact hT
  have hW0 : s.WarmedH s'.vm := by rw [hvm]; exact State.WarmedH.refl s
  have hat' : ∀ w ∈ vx_atS own ic cls names, w.before args s' = true := fun w hw => vx_ot_at hW0 hvm.symm (hgood w (List.mem_cons_of_mem _ (List.mem_cons_of_mem _ hw))) (hat w hw)
  have hk' : (Cond.classLink own ik cls).before args s' = true := vx_ot_at hW0 hvm.symm (hgood _ List.mem_cons_self) hk
  have hini' : (Cond.initialized cls).before args s' = true := vx_ot_at hW0 hvm.symm (hgood _ (List.mem_cons_of_mem _ List.mem_cons_self)) hini
  have hU' : vx_Zq Bundle.tN "UNASSIGNED_STACK" Bundle.steD A s' s'.heap := by rw [hhp]; exact vx_Zq.moved hW0.alike (hU.kept hS.2.1)
  have hN' : vx_Zq Bundle.tN "SUPPRESSED_SENTINEL" Bundle.listD A s' s'.heap := by rw [hhp]; exact vx_Zq.moved hW0.alike (hN.kept hS.2.1)
  have h : ∀ w ∈ Bundle.ownAtoms own ic cls names, w.before args s' = true := vx_own hat' (vx_isRefq hU'.1) (vx_isRefq hN'.1) hU'.2.word hN'.2.word
  have hown' : s'.vm.findClass own = some m.cls := by rw [hvm]; exact hown
  have hins : (Cond.instantiable cls 6).before args s' = true := h _ (by simp [Bundle.ownAtoms])
  obtain ⟨vm₁, cX, kX, hfX, hkX, -, -, X₁, st1⟩ := Y.newCold hexec (own := own) (C := cls) (index := ik) (n := 6) hown' hk' hins hini'
    (g := F0 m pc ls rest) rfl (by rw [hb]; exact d0) (Nat.le_refl _) (Nat.le_refl _)
  generalize hT1 : (T.setVm vm₁).pushCell { cls := cX, slots := kX.instanceTypes.map defaultValue, vm := .none } = T1 at X₁ st1
  have hcat : (Value.ref T.heap.size).category = 1 := rfl
  have hcellA : T1.heap[T.heap.size]? = some (freshCell cX kX) := by rw [← hT1]; exact State.heap_pushCell_size _ _
  have d3' : decode c.code (pc + 3) = .ok (.dup, 1) := by rw [hb]; exact d3
  have d4' : decode c.code (pc + 4) = .ok (.ldc_w is, 3) := by rw [hb]; exact d4
  have hstr' : vk_R own is text sa s' := vk_R.warm hW0 hstr
  obtain ⟨U, hsteps, hrun, hend, hW, hsame, ce, hce, hO⟩ := X₁.ctorThrowS hexec htr (own := own) (cls := cls) (names := names) (ic := ic) hown' hcls hnames h (fun x hx => nomatch hx) hfX hkX hcellA (by rw [hhp, hT]; exact Nat.le_refl _) (msg := .ref sa) rfl
    (g := { method := m, pc := pc + 7, locals := ls, stack := .ref sa :: .ref T.heap.size :: .ref T.heap.size :: rest, locked := none }) rfl hsize rfl rfl (rest := rest) rfl
    (by rw [hb]; exact d7) (by rw [hb]; exact d10) hout hRframes (by simp only [List.map_cons, List.sum_cons, hcat]; omega) hlocks
  obtain ⟨f1, f2⟩ := vx_frame hsame
  rw [hhp] at f1 f2
  have hWs : s.WarmedH U.vm := State.WarmedH.trans hW0 hW
  have hcl : s.vm.findClass cls = some ce.cls := by
    have h9 := hO.cls
    rw [hvm] at h9
    exact h9
  have hall : s.sameButNew ({ U with vm := s.vm } : State) locs mc ms := by
    subst hA
    obtain ⟨e1, e2⟩ := hsame
    rw [State.setFrames_setFrames] at e1
    have h2 : (T.setVm s.vm).sameButNew ({ U with vm := s.vm } : State) [] (0 + 1) (0 + 6) := ⟨e1, e2⟩
    have h3 := X.same.trans h2
    rw [List.append_nil] at h3
    exact h3.mono hc hs
  refine ⟨U, ?_, .threw T.heap.size, hrun, hend, Or.inr ⟨T.heap.size, rfl, cls, ce, locs, hx U hWs.alike f1 (fun q hq => f2 q hq (fun z hz => nomatch hz)), hce, hO.vm, hcl, hWs, hall, hf⟩⟩
  refine st1 _ ?_
  show Steps p.tables e below (T1.setTop { method := m, pc := pc + 3, locals := ls, stack := .ref T.heap.size :: rest, locked := none }) _
  jvm_step X₁.here [X₁.here.top, hexec, d3', Value.category]
  exact X₁.ldcStringW hexec (own := own) (text := text) (index := is) (a := sa) hown' hstr'.1 hstr'.2
    (g := { method := m, pc := pc + 4, locals := ls, stack := .ref T.heap.size :: .ref T.heap.size :: rest, locked := none }) rfl d4' _ hsteps
end Ends
section Bodies
variable {l : Launch}
theorem vx_ofW {y : MethodName} {ws ws' : List Cond} {rm : Room} {Pc : Array Value → State → Prop} {Qc : Array Value → State → Outcome → State → Prop} {XC : String → State → State → Prop} {mc ms : Nat} {free : Addr → Prop} {cc : ByteArray} {maxL : Nat} {ret : Option FieldType}
    (hy : plainName y.cls = true) (hw : ws = Cond.code y cc maxL ret :: ws')
    (body : ∀ p e s m args below meth c s₁, BodyLoose p l y (headSpec ws rm) cc maxL ret e s m args below meth c s₁ → c.maxLocals = maxL → (∀ x ∈ c.exceptionTable.toList, False) → Pc args s →
      W p l e (headSpec ws rm).room s m args below meth c s.heap [] 0 0 (vx_MQ below Qc XC args s mc ms free) (entryFrame m args maxL)) : vx_Met l y ws rm Pc Qc XC mc ms free := by
  refine MetFree.of_bodyS (code := cc) (maxLocals := maxL) (ret := ret) hy ?_ ?_
  · intro args s m h hn
    obtain ⟨meth, c, h1, h2, h3, h4, h5, h6, -, -⟩ := Cond.code_spec hn (atoms_spec (ws := ws) h _ (by rw [hw]; exact List.mem_cons_self))
    exact ⟨meth, c, h1, h2, h3, h4, h5, h6⟩
  · intro p e s m args below meth c s₁ B hml hP _
    have hh0 : s₁.heap = s.heap := by rw [B.state]; rfl
    have ht : ∀ x ∈ c.exceptionTable.toList, False := by
      obtain ⟨meth9, c9, h1, h2, -, -, -, -, h7, -⟩ := Cond.code_spec B.named (atoms_spec (ws := ws) B.pre _ (by rw [hw]; exact List.mem_cons_self))
      cases Option.some.inj (h1.symm.trans B.method)
      cases Option.some.inj (h2.symm.trans (Stand.of_body B).code)
      intro x hx
      rw [Array.isEmpty_iff.mp h7] at hx
      cases hx
    obtain ⟨t, a1, o, b1, b2, b3⟩ := body p e s m args below meth c s₁ B hml ht hP s₁ hh0 (Stand.of_body B)
    exact ⟨t, o, a1, b1, b2, b3⟩
/-- the table of a body with handlers -/
theorem vx_table {p : Program} {x y : MethodName} {S : Spec} {cc bytes : ByteArray} {maxL maxL' : Nat} {ret ret' : Option FieldType} {e : Env} {s s₁ : State} {m : MethodId} {args : Array Value} {below : List Frame} {meth : Method} {c : Code} {hh : List (Nat × Nat × Nat × Nat)}
    (B : BodyLoose p l y S cc maxL ret e s m args below meth c s₁) (h : (Cond.codeWith y bytes maxL' ret' hh).before args s = true) : c.exceptionTable.toList = tableOf hh := by
  obtain ⟨m9, meth9, c9, hn9, h1, h2, -, -, h6, -⟩ := Cond.codeWith_spec h
  cases Option.some.inj (hn9.symm.trans B.named)
  cases Option.some.inj (h1.symm.trans B.method)
  cases Option.some.inj (h2.symm.trans (Stand.of_body B).code)
  rw [← h6, table_eq]
end Bodies
end VXA
/-! ===== END ===== -/
/-! ===== BEGIN a static call of a method with an exception table ===== -/
section VXS
variable {p : Program} {l : Launch} {e : Env} {R : Room} {s : State} {m : MethodId} {args : Array Value} {below : List Frame} {meth : Method} {c : Code} {T : State} {H : Heap} {locs : List Loc} {cells slots : Nat}
abbrev vx_CSW (R : Room) (s : State) (args : Array Value) (own : String) (index : Nat) (y : MethodName) (bytes : ByteArray) (maxL : Nat) (ret : Option FieldType) (hh : List (Nat × Nat × Nat × Nat)) (ws : List Cond) (rm : Room) (mc ms n : Nat) : Prop :=
  (rm.cells = mc ∧ rm.slots = ms ∧ rm.frames + 1 ≤ R.frames ∧ 8 + (maxL + 11) + rm.locals ≤ R.locals ∧ (∀ w ∈ ws, ∀ (a' : Array Value) (U : State), s.WarmedH U.vm → w.before a' U = true) ∧ Cond.codeWith y bytes maxL ret hh ∈ ws) ∧
  (Cond.codeWith y bytes maxL ret hh).before args s = true ∧ (Cond.initialized y.cls).before args s = true ∧ (y.cls ≠ "java/lang/invoke/MethodHandle" ∧ y.cls ≠ "java/lang/invoke/VarHandle") ∧
  (∀ sig, parseMethodDescriptor y.desc = some sig → n = sig.parameters.length) ∧ (Cond.methodLink own index y).before args s = true ∧ (Cond.static y).before args s = true
theorem vx_cwSW {own : String} {index maxL mc ms : Nat} {y : MethodName} {bytes : ByteArray} {ret : Option FieldType} {hh : List (Nat × Nat × Nat × Nat)} {Ts ws ws' : List Cond} {rm : Room} (n : Nat) (ht : ∀ w ∈ Ts, w.before args s = true) (hT : GoodIn Ts (va_wsS own index y ws)) (hw : ws = Cond.codeWith y bytes maxL ret hh :: ws') (hrc : rm.cells = mc) (hrs : rm.slots = ms)
    (hd : y.cls ≠ "java/lang/invoke/MethodHandle" ∧ y.cls ≠ "java/lang/invoke/VarHandle" ∧ (parseMethodDescriptor y.desc).map (fun d => d.parameters.length) = some n) (hR : rm.frames + 1 ≤ R.frames ∧ 8 + (maxL + 11) + rm.locals ≤ R.locals) :
    vx_CSW R s args own index y bytes maxL ret hh ws rm mc ms n := by
  have ok : ∀ w ∈ va_wsS own index y ws, w.before args s = true := fun w h => ht w (hT w h).1
  have hG : GoodIn Ts ws := fun w h => hT w (by unfold va_wsS; exact List.mem_append_right _ h)
  have hc : Cond.codeWith y bytes maxL ret hh ∈ ws := by rw [hw]; exact List.mem_cons_self
  refine ⟨⟨hrc, hrs, hR.1, hR.2, pay_in ht hG, hc⟩, ht _ (hG _ hc).1, ok _ (by simp [va_wsS]), ⟨hd.1, hd.2.1⟩, fun sig h => ?_, ok _ (by simp [va_wsS]), ok _ (by simp [va_wsS])⟩
  have h2 := hd.2.2
  rw [h] at h2
  exact (Option.some.inj h2).symm
theorem vx_callSW (X : Stand p l e R s m args below meth c T locs cells slots) (hexec : p.tables.exec = Jvm.exec) {own : String} {index : Nat} {y : MethodName} {bytes : ByteArray} {maxL : Nat} {ret : Option FieldType} {hh : List (Nat × Nat × Nat × Nat)}
    (hown : s.vm.findClass own = some m.cls) (hlink : (Cond.methodLink own index y).before args s = true) (hstat : (Cond.static y).before args s = true) (hinit : (Cond.initialized y.cls).before args s = true)
    (hcode : (Cond.codeWith y bytes maxL ret hh).before args s = true) (hy : y.cls ≠ "java/lang/invoke/MethodHandle" ∧ y.cls ≠ "java/lang/invoke/VarHandle")
    {W9 : Nat} {Pre : Pt → Array Value → Prop} {Post : Pt → Array Value → Option Value → Pt → Prop} (hK : Back l R p e below s args y 3 W9 Pre Post)
    {g : JFrame} (hg : g.method = m) (hsize : g.locals.size = c.maxLocals) {argsL rest : List Value} (hlen : ∀ sig, parseMethodDescriptor y.desc = some sig → argsL.length = sig.parameters.length)
    (hstack : g.stack = argsL.reverse ++ rest) (hW : 2 * g.monitorRoom + (rest.map fun v => v.category).sum ≤ W9) (hdg : decode c.code g.pc = .ok (.invokestatic index, 3))
    (hpre : ∀ vm₁, s.WarmedH vm₁ → Pre ⟨T.setVm vm₁, locs, cells, slots⟩ argsL.toArray) :
    ∃ (v : Option Value) (vm₁ : Vm) (B : Pt), s.WarmedH vm₁ ∧ Stand p l e R s m args below meth c B.U B.locs B.cells B.slots ∧ Post ⟨T.setVm vm₁, locs, cells, slots⟩ argsL.toArray v B ∧
      ∀ target, Steps p.tables e below (B.U.setTop { g with pc := g.pc + 3, stack := v.toList ++ rest }) target → Steps p.tables e below (T.setTop g) target := by
  obtain ⟨mk, methM, cM, hnamed, hmethM, -, -, -, -, -, -, hsigM⟩ := Cond.codeWith_spec hcode
  have hstatic : methM.isStatic = true := Cond.static_spec hnamed hmethM hstat
  obtain ⟨kP, hkP, -⟩ := className_of_methodNamed hnamed
  have hinitP : kP.init = .initialized := Cond.initialized_spec (findClass_of_methodNamed hnamed) hkP hinit
  obtain ⟨vm₁, X₁, hstep₁⟩ := X.invokestatic hexec hown hlink hnamed hmethM hstatic hkP hinitP hy (g := g) hg (argsL := argsL) (rest := rest) (hlen _ hsigM) hstack hdg
  obtain ⟨v, B, X', hpost, hsteps⟩ := hK m meth c ⟨T.setVm vm₁, locs, cells, slots⟩ { g with stack := rest } (.invokestatic index) mk argsL.toArray X₁ hg hsize hdg hW (X₁.named hnamed) (hpre vm₁ X₁.warmed)
  exact ⟨v, vm₁, B, X₁.warmed, X', hpost, fun target h => hstep₁ _ fun acts => by rw [doInvoke_state]; exact hsteps.trans h⟩
theorem vx_runSW {y : MethodName} {bytes cc : ByteArray} {maxL nL mc ms n index : Nat} {ret : Option FieldType} {hh : List (Nat × Nat × Nat × Nat)} {ws : List Cond} {rm : Room} {Pc : Array Value → State → Prop} {Qc : Array Value → State → Outcome → State → Prop} {free : Addr → Prop} {Ts : List Cond} {own : String} {As rest : List Value} {g : JFrame}
    (S : CallFix p m c cc nL s args Ts own) (hM : Met l y ws rm Pc Qc mc ms free) (cw : vx_CSW R s args own index y bytes maxL ret hh ws rm mc ms n) (hp : PreS s H Pc As)
    (hg : g.method = m) (hn : As.length = n) (hsize : g.locals.size = nL) (hstack : g.stack = As.reverse ++ rest) (hW : 2 * g.monitorRoom + (rest.map fun v => v.category).sum ≤ 8) (hdg : decode cc g.pc = .ok (.invokestatic index, 3)) (hf : cells + mc ≤ R.cells ∧ slots + ms ≤ R.slots) :
    va_Run p l e R s m args below meth c H locs cells slots mc ms g rest (Qc As.toArray) (free) := by
  obtain ⟨⟨hrc, hrs, hfr, hlo, hws, hcw⟩, hcode, hini, hy, hlen, hl, hstt⟩ := cw
  have hK : Back l R p e below s args y 3 8 (PreOf R mc ms Pc) (PostOf Qc mc ms free) := va_backW (hh := hh) (bytes := bytes) (maxL := maxL) (ret := ret) hM hp.1 hrc hrs hfr hlo hws hcw (fun a' U hW => word_at hW (Or.inl (by first | rfl | simp [Cond.onTables, Cond.keeps, Cond.steady])) hini)
  obtain ⟨hx, hb, hml, ho, -⟩ := S
  intro T hT X
  obtain ⟨v, vm₁, ⟨U', l2, c2, s2⟩, hW₁, X', ⟨g', mk, t, L, e1, e2, hq, h1, hL, h2, h3⟩, st⟩ := vx_callSW X hx (hh := hh) (bytes := bytes) (maxL := maxL) (ret := ret) ho hl hstt hini hcode hy hK hg (hsize.trans hml.symm) (argsL := As) (rest := rest) (fun sig h => hn.trans (hlen sig h)) hstack hW (by rw [hb]; exact hdg)
    (fun vm₁ hW₁ => ⟨hf.1, hf.2, hp.2 (T.setVm vm₁) hT hW₁⟩)
  dsimp only [Pt.U, Pt.locs, Pt.cells, Pt.slots] at X' e1 e2 h1 h2 h3 st
  subst h1; subst h2; subst h3
  exact ⟨v, (T.setVm vm₁).calling g' mk As.toArray, t, U', L, hT, X', hL, e1, e2, hq, st⟩
/-- a thing of a world lies in the heap -/
theorem vx_lt {D : va_G} {cl : List vw_C} {ws : va_W} {H1 : Heap} (h : va_P D cl ws H1) {k : Nat} {q : Nat × va_E} (hk : ws[k]? = some q) : q.1 < H1.size := (h k q hk).lt
end VXS
/-! ===== END ===== -/
/-! ===== BEGIN methods with a table of their own: called by a name, returning or throwing ===== -/
section VXH
/-! vx_backW, vx_callVX, vx_callSX, vx_callVW, vx_runVW, vx_runVX, vx_runSX, vx_ofWH follow the same proofs as their sisters above (Free/Laws.lean, Shelf42/LK1.lean); vx_outP calls Shelf42/NT130.lean (outThrough). -/
section
variable {l : Launch} {R : Room} {p : Program} {e : Env} {below : List Frame} {s : State} {sargs : Array Value} {y : MethodName} {len W9 : Nat}
theorem vx_backW {ws : List Cond} {rm : Room} {Pc : Array Value → State → Prop} {Qc : Array Value → State → Outcome → State → Prop} {XC : String → State → State → Prop} {mc ms : Nat} {free : Addr → Prop} {bytes : ByteArray} {maxL : Nat} {ret : Option FieldType} {hh : List (Nat × Nat × Nat × Nat)}
    (hM : vx_Met l y ws rm Pc Qc XC mc ms free) (hblind : FrameBlind Pc) (hrc : rm.cells = mc) (hrs : rm.slots = ms)
    (hframes : rm.frames + 1 ≤ R.frames) (hlocals : W9 + (maxL + 11) + rm.locals ≤ R.locals)
    (hws : ∀ w ∈ ws, ∀ a' U, s.WarmedH U.vm → w.before a' U = true) (hcode : Cond.codeWith y bytes maxL ret hh ∈ ws) (hinit : ∀ a' U, s.WarmedH U.vm → (Cond.initialized y.cls).before a' U = true) :
    vx_Back l R p e below s sargs y len W9 (PreOf R mc ms Pc) (PostOf Qc mc ms free) (vx_Post XC mc ms free) := by
  intro m meth c A g ig mk a X hg hsize hdg hW hn hp
  have h1 : (headSpec ws rm).pre.before a A.U = true := atoms_intro fun w hw => hws w hw _ _ X.warmed
  have h2 : (Cond.codeWith y bytes maxL ret hh).before a A.U = true := hws _ hcode _ _ X.warmed
  have h3 : (Cond.initialized y.cls).before a A.U = true := hinit _ _ X.warmed
  have h4 : A.cells + (headSpec ws rm).room.cells ≤ R.cells := by rw [show (headSpec ws rm).room.cells = mc from hrc]; exact hp.1
  have h5 : A.slots + (headSpec ws rm).room.slots ≤ R.slots := by rw [show (headSpec ws rm).room.slots = ms from hrs]; exact hp.2.1
  have hPc : Pc a (A.U.calling g mk a) := hblind _ _ _ _ hp.2.2
  obtain ⟨U, Ls, c0, s0⟩ := A
  dsimp only [Pt.U, Pt.locs, Pt.cells, Pt.slots] at h1 h2 h3 h4 h5 X hn hPc ⊢
  obtain ⟨m9, methY, cY, hn9, hmY, hcY, -, hlY, -⟩ := Cond.codeWith_spec h2
  cases Option.some.inj (hn9.symm.trans hn)
  obtain ⟨kY, hkY, -⟩ := className_of_methodNamed hn
  have hinitY : kY.init = .initialized := Cond.initialized_spec (findClass_of_methodNamed hn) hkY h3
  have h : At U g.method c below := by rw [hg]; exact X.here
  have hlocals9 : W9 + (maxL + 11) + (headSpec ws rm).room.locals ≤ R.locals := hlocals
  have happ : (headSpec ws rm).appliesLoose y e.platform (U.calling g mk a) = true :=
    Spec.appliesLoose_calling (g := g) h hdg hn hkY hinitY
      (X.room_calling (g := g) (R' := (headSpec ws rm).room) hsize hmY hcY hframes (by rw [hlY]; omega) h4 h5) h1
  obtain ⟨mid, hmid⟩ := h.above
  have hfr : (U.setTop g).frames = (.java g :: mid) ++ below := by rw [State.frames_setTop' g h.top, hmid]; rfl
  obtain ⟨o, s₂, hsteps, -, hend, hq⟩ := Steps.callFree hM p X.admits X.cas X.clock (acts := []) hfr happ hPc trivial
  have hq' : vx_Q Qc XC mc ms free a (U.calling g mk a) o s₂ := hq
  rw [State.frames_setTop' g h.top] at hend
  obtain ⟨g₀, hg0⟩ := Option.isSome_iff_exists.mp h.top
  obtain ⟨r, hr⟩ := State.topJava?_eq_some.mp hg0
  have hr' : (({ U with heap := s₂.heap, slotsUsed := s₂.slotsUsed } : State).setVm s₂.vm).frames = .java g₀ :: r := hr
  rcases hq' with ⟨hqc, L, hfe, hL⟩ | ⟨q, rfl, E, ce, L, hx, hce, hcv, hcl, hW₂, hsm, hL⟩
  · obtain ⟨⟨v, rfl⟩, hW₂, e2, q2, q3, q4, q5, q6⟩ := id hfe
    have e3 : s₂ = ({ (U.calling g mk a).setFrames s₂.frames with heap := s₂.heap, slotsUsed := s₂.slotsUsed } : State).setVm s₂.vm := by
      have : s₂ = ({ s₂ with vm := (U.calling g mk a).vm } : State).setVm s₂.vm := rfl
      rw [e2] at this
      exact this
    obtain ⟨c₂, i₂, len₂, hc₂, hd₂, hf₂⟩ := hend
    have hW' : U.WarmedH s₂.vm := hW₂
    have hcc : c₂ = c := by
      have h1 : s₂.code? g.method = U.code? g.method := by
        rw [State.code?_eq, State.code?_eq, hW'.alike.method?]
      exact Option.some.inj (hc₂.symm.trans (h1.trans h.code))
    subst hcc
    have hlen : len₂ = len := by rw [hdg] at hd₂; cases hd₂; rfl
    subst hlen
    have hs₂ : s₂ = (({ U with heap := s₂.heap, slotsUsed := s₂.slotsUsed } : State).setVm s₂.vm).setTop { g with pc := g.pc + len₂, stack := v.toList ++ g.stack } := by
      refine e3.trans ?_
      rw [hf₂, State.calling_eq h.top, State.setFrames_setFrames, State.setTop_of_frames _ hr', hr]
      rfl
    have hsame : U.sameButNew ({ U with heap := s₂.heap, slotsUsed := s₂.slotsUsed } : State) L mc ms := by
      refine ⟨?_, q2, q3, q4, q5, q6⟩
      obtain ⟨t, ht, -⟩ := State.frames_cons hr
      show ({ U with heap := s₂.heap, slotsUsed := s₂.slotsUsed } : State) = { U.setFrames U.frames with heap := s₂.heap, slotsUsed := s₂.slotsUsed }
      rw [State.setFrames_self ht]
    subst hg
    refine Or.inl ⟨v, ⟨(({ U with heap := s₂.heap, slotsUsed := s₂.slotsUsed } : State).setVm s₂.vm), Ls ++ L, c0 + mc, s0 + ms⟩,
      ⟨X.admits, X.cas, X.clock, X.frames, X.room, X.hears, X.method, X.code, (X.here.setHeapUsed s₂.heap s₂.slotsUsed).setVm hW'.alike, X.tail, State.WarmedH.trans X.warmed hW', X.limits, X.bytes, X.same.trans (hsame.setVm s.vm)⟩,
      ⟨g, mk, s₂, L, rfl, rfl, hqc, rfl, hL, rfl, rfl⟩, ?_⟩
    show Steps p.tables e below _ ((({ U with heap := s₂.heap, slotsUsed := s₂.slotsUsed } : State).setVm s₂.vm).setTop { g with pc := g.pc + len₂, stack := v.toList ++ g.stack })
    rw [← hs₂]
    exact hsteps
  · obtain ⟨e2, q2, q3, q4, q5, q6⟩ := id hsm
    have e3 : s₂ = ({ (U.calling g mk a).setFrames s₂.frames with heap := s₂.heap, slotsUsed := s₂.slotsUsed } : State).setVm s₂.vm := by
      have : s₂ = ({ s₂ with vm := (U.calling g mk a).vm } : State).setVm s₂.vm := rfl
      rw [e2] at this
      exact this
    have hf₂ : s₂.frames = .throwing q :: .java g :: U.frames.tail := hend
    have hW' : U.WarmedH s₂.vm := hW₂
    have hs₂ : s₂ = ((({ U with heap := s₂.heap, slotsUsed := s₂.slotsUsed } : State).setVm s₂.vm).setTop g).pushFrame (.throwing q) := by
      refine e3.trans ?_
      rw [hf₂, State.calling_eq h.top, State.setFrames_setFrames, State.pushFrame, State.frames_setTop _ hr', State.setTop_of_frames _ hr', State.setFrames_setFrames, hr]
      rfl
    have hsame : U.sameButNew ({ U with heap := s₂.heap, slotsUsed := s₂.slotsUsed } : State) L mc ms := by
      refine ⟨?_, q2, q3, q4, q5, q6⟩
      obtain ⟨t, ht, -⟩ := State.frames_cons hr
      show ({ U with heap := s₂.heap, slotsUsed := s₂.slotsUsed } : State) = { U.setFrames U.frames with heap := s₂.heap, slotsUsed := s₂.slotsUsed }
      rw [State.setFrames_self ht]
    subst hg
    refine Or.inr ⟨q, ⟨(({ U with heap := s₂.heap, slotsUsed := s₂.slotsUsed } : State).setVm s₂.vm), Ls ++ L, c0 + mc, s0 + ms⟩,
      ⟨X.admits, X.cas, X.clock, X.frames, X.room, X.hears, X.method, X.code, (X.here.setHeapUsed s₂.heap s₂.slotsUsed).setVm hW'.alike, X.tail, State.WarmedH.trans X.warmed hW', X.limits, X.bytes, X.same.trans (hsame.setVm s.vm)⟩,
      ⟨g, mk, s₂, L, E, ce, rfl, rfl, hx, hce, hcv, hcl, rfl, hL, rfl, rfl⟩, ?_⟩
    show Steps p.tables e below _ (((({ U with heap := s₂.heap, slotsUsed := s₂.slotsUsed } : State).setVm s₂.vm).setTop g).pushFrame (.throwing q))
    rw [← hs₂]
    exact hsteps
end
variable {p : Program} {l : Launch} {e : Env} {R : Room} {s : State} {m : MethodId} {args : Array Value} {below : List Frame} {meth : Method} {c : Code} {T : State} {H : Heap} {locs : List Loc} {cells slots : Nat}
theorem vx_callVX (X : Stand p l e R s m args below meth c T locs cells slots) (hexec : p.tables.exec = Jvm.exec) {own C : String} {index : Nat} {y : MethodName} {bytes : ByteArray} {maxL : Nat} {ret : Option FieldType} {hh : List (Nat × Nat × Nat × Nat)}
    (hown : s.vm.findClass own = some m.cls) (hlink : (Cond.methodLink own index y).before args s = true) (hinst : (Cond.instanceMethod y).before args s = true) (hsel : (Cond.selects C y y).before args s = true)
    (hcode : (Cond.codeWith y bytes maxL ret hh).before args s = true) (hy : y.cls ≠ "java/lang/invoke/MethodHandle" ∧ y.cls ≠ "java/lang/invoke/VarHandle")
    {W9 : Nat} {Pre : Pt → Array Value → Prop} {Post : Pt → Array Value → Option Value → Pt → Prop} {PostX : Pt → Array Value → Addr → Pt → Prop} (hK : vx_Back l R p e below s args y 3 W9 Pre Post PostX)
    {b : Addr} {cellB : Cell} (hcell : T.heap[b]? = some cellB) (hobj : cellB.vm.isStatics = false) (hcls : s.vm.findClass C = some cellB.cls)
    {g : JFrame} (hg : g.method = m) (hsize : g.locals.size = c.maxLocals) {argsL rest : List Value} (hlen : ∀ sig, parseMethodDescriptor y.desc = some sig → argsL.length = sig.parameters.length)
    (hstack : g.stack = argsL.reverse ++ .ref b :: rest) (hW : 2 * g.monitorRoom + (rest.map fun v => v.category).sum ≤ W9) (hdg : decode c.code g.pc = .ok (.invokevirtual index, 3))
    (hpre : ∀ vm₁, s.WarmedH vm₁ → Pre ⟨T.setVm vm₁, locs, cells, slots⟩ (Value.ref b :: argsL).toArray) :
    (∃ (v : Option Value) (vm₁ : Vm) (B : Pt), s.WarmedH vm₁ ∧ Stand p l e R s m args below meth c B.U B.locs B.cells B.slots ∧ Post ⟨T.setVm vm₁, locs, cells, slots⟩ (Value.ref b :: argsL).toArray v B ∧
      ∀ target, Steps p.tables e below (B.U.setTop { g with pc := g.pc + 3, stack := v.toList ++ rest }) target → Steps p.tables e below (T.setTop g) target) ∨
    (∃ (q : Addr) (vm₁ : Vm) (B : Pt), s.WarmedH vm₁ ∧ Stand p l e R s m args below meth c B.U B.locs B.cells B.slots ∧ PostX ⟨T.setVm vm₁, locs, cells, slots⟩ (Value.ref b :: argsL).toArray q B ∧
      Steps p.tables e below (T.setTop g) ((B.U.setTop { g with stack := rest }).pushFrame (.throwing q))) := by
  obtain ⟨mk, methM, hnamed, hmethM, hstM, habM⟩ := Cond.instanceMethod_spec hinst
  obtain ⟨m8, methM', cM, hn8, hmethM', -, -, -, -, -, -, hsigM⟩ := Cond.codeWith_spec hcode
  cases Option.some.inj (hn8.symm.trans hnamed)
  cases hmethM.symm.trans hmethM'
  obtain ⟨c2, r2, m2, q1, q2, q3, q4, kP, hkP, hkPi⟩ := Cond.selects_spec hsel
  cases hcls.symm.trans q1
  cases (State.methodFound?_of_named hnamed hy).symm.trans q2
  cases hnamed.symm.trans q3
  have hselP : selectMethod e.platform s.vm cellB.cls mk = .method mk := by rw [Launch.admits_selectMethod X.admits]; exact q4
  obtain ⟨vm₁, X₁, hstep₁⟩ := X.invokevirtual hexec hown hlink hnamed hmethM hstM hkP hkPi hy (a := b) (cell := cellB) hcell
    (fun z h => by rw [h] at hobj; cases hobj) hselP hmethM habM hkP hkPi (g := g) hg (argsL := argsL) (rest := rest) (hlen _ hsigM) hstack hdg
  rcases hK m meth c ⟨T.setVm vm₁, locs, cells, slots⟩ { g with stack := rest } (.invokevirtual index) mk (Value.ref b :: argsL).toArray X₁ hg hsize hdg hW (X₁.named hnamed) (hpre vm₁ X₁.warmed) with ⟨v, B, X', hpost, hsteps⟩ | ⟨q, B, X', hpost, hsteps⟩
  · exact Or.inl ⟨v, vm₁, B, X₁.warmed, X', hpost, fun target h => hstep₁ _ fun acts => by rw [doInvoke_state]; exact hsteps.trans h⟩
  · exact Or.inr ⟨q, vm₁, B, X₁.warmed, X', hpost, hstep₁ _ fun acts => by rw [doInvoke_state]; exact hsteps⟩
theorem vx_callSX (X : Stand p l e R s m args below meth c T locs cells slots) (hexec : p.tables.exec = Jvm.exec) {own : String} {index : Nat} {y : MethodName} {bytes : ByteArray} {maxL : Nat} {ret : Option FieldType} {hh : List (Nat × Nat × Nat × Nat)}
    (hown : s.vm.findClass own = some m.cls) (hlink : (Cond.methodLink own index y).before args s = true) (hstat : (Cond.static y).before args s = true) (hinit : (Cond.initialized y.cls).before args s = true)
    (hcode : (Cond.codeWith y bytes maxL ret hh).before args s = true) (hy : y.cls ≠ "java/lang/invoke/MethodHandle" ∧ y.cls ≠ "java/lang/invoke/VarHandle")
    {W9 : Nat} {Pre : Pt → Array Value → Prop} {Post : Pt → Array Value → Option Value → Pt → Prop} {PostX : Pt → Array Value → Addr → Pt → Prop} (hK : vx_Back l R p e below s args y 3 W9 Pre Post PostX)
    {g : JFrame} (hg : g.method = m) (hsize : g.locals.size = c.maxLocals) {argsL rest : List Value} (hlen : ∀ sig, parseMethodDescriptor y.desc = some sig → argsL.length = sig.parameters.length)
    (hstack : g.stack = argsL.reverse ++ rest) (hW : 2 * g.monitorRoom + (rest.map fun v => v.category).sum ≤ W9) (hdg : decode c.code g.pc = .ok (.invokestatic index, 3))
    (hpre : ∀ vm₁, s.WarmedH vm₁ → Pre ⟨T.setVm vm₁, locs, cells, slots⟩ argsL.toArray) :
    (∃ (v : Option Value) (vm₁ : Vm) (B : Pt), s.WarmedH vm₁ ∧ Stand p l e R s m args below meth c B.U B.locs B.cells B.slots ∧ Post ⟨T.setVm vm₁, locs, cells, slots⟩ argsL.toArray v B ∧
      ∀ target, Steps p.tables e below (B.U.setTop { g with pc := g.pc + 3, stack := v.toList ++ rest }) target → Steps p.tables e below (T.setTop g) target) ∨
    (∃ (q : Addr) (vm₁ : Vm) (B : Pt), s.WarmedH vm₁ ∧ Stand p l e R s m args below meth c B.U B.locs B.cells B.slots ∧ PostX ⟨T.setVm vm₁, locs, cells, slots⟩ argsL.toArray q B ∧
      Steps p.tables e below (T.setTop g) ((B.U.setTop { g with stack := rest }).pushFrame (.throwing q))) := by
  obtain ⟨mk, methM, cM, hnamed, hmethM, -, -, -, -, -, -, hsigM⟩ := Cond.codeWith_spec hcode
  have hstatic : methM.isStatic = true := Cond.static_spec hnamed hmethM hstat
  obtain ⟨kP, hkP, -⟩ := className_of_methodNamed hnamed
  have hinitP : kP.init = .initialized := Cond.initialized_spec (findClass_of_methodNamed hnamed) hkP hinit
  obtain ⟨vm₁, X₁, hstep₁⟩ := X.invokestatic hexec hown hlink hnamed hmethM hstatic hkP hinitP hy (g := g) hg (argsL := argsL) (rest := rest) (hlen _ hsigM) hstack hdg
  rcases hK m meth c ⟨T.setVm vm₁, locs, cells, slots⟩ { g with stack := rest } (.invokestatic index) mk argsL.toArray X₁ hg hsize hdg hW (X₁.named hnamed) (hpre vm₁ X₁.warmed) with ⟨v, B, X', hpost, hsteps⟩ | ⟨q, B, X', hpost, hsteps⟩
  · exact Or.inl ⟨v, vm₁, B, X₁.warmed, X', hpost, fun target h => hstep₁ _ fun acts => by rw [doInvoke_state]; exact hsteps.trans h⟩
  · exact Or.inr ⟨q, vm₁, B, X₁.warmed, X', hpost, hstep₁ _ fun acts => by rw [doInvoke_state]; exact hsteps⟩
theorem vx_callVW (X : Stand p l e R s m args below meth c T locs cells slots) (hexec : p.tables.exec = Jvm.exec) {own C : String} {index : Nat} {y : MethodName} {bytes : ByteArray} {maxL : Nat} {ret : Option FieldType} {hh : List (Nat × Nat × Nat × Nat)}
    (hown : s.vm.findClass own = some m.cls) (hlink : (Cond.methodLink own index y).before args s = true) (hinst : (Cond.instanceMethod y).before args s = true) (hsel : (Cond.selects C y y).before args s = true)
    (hcode : (Cond.codeWith y bytes maxL ret hh).before args s = true) (hy : y.cls ≠ "java/lang/invoke/MethodHandle" ∧ y.cls ≠ "java/lang/invoke/VarHandle")
    {W9 : Nat} {Pre : Pt → Array Value → Prop} {Post : Pt → Array Value → Option Value → Pt → Prop} (hK : Back l R p e below s args y 3 W9 Pre Post)
    {b : Addr} {cellB : Cell} (hcell : T.heap[b]? = some cellB) (hobj : cellB.vm.isStatics = false) (hcls : s.vm.findClass C = some cellB.cls)
    {g : JFrame} (hg : g.method = m) (hsize : g.locals.size = c.maxLocals) {argsL rest : List Value} (hlen : ∀ sig, parseMethodDescriptor y.desc = some sig → argsL.length = sig.parameters.length)
    (hstack : g.stack = argsL.reverse ++ .ref b :: rest) (hW : 2 * g.monitorRoom + (rest.map fun v => v.category).sum ≤ W9) (hdg : decode c.code g.pc = .ok (.invokevirtual index, 3))
    (hpre : ∀ vm₁, s.WarmedH vm₁ → Pre ⟨T.setVm vm₁, locs, cells, slots⟩ (Value.ref b :: argsL).toArray) :
    ∃ (v : Option Value) (vm₁ : Vm) (B : Pt), s.WarmedH vm₁ ∧ Stand p l e R s m args below meth c B.U B.locs B.cells B.slots ∧ Post ⟨T.setVm vm₁, locs, cells, slots⟩ (Value.ref b :: argsL).toArray v B ∧
      ∀ target, Steps p.tables e below (B.U.setTop { g with pc := g.pc + 3, stack := v.toList ++ rest }) target → Steps p.tables e below (T.setTop g) target := by
  obtain ⟨mk, methM, hnamed, hmethM, hstM, habM⟩ := Cond.instanceMethod_spec hinst
  obtain ⟨m8, methM', cM, hn8, hmethM', -, -, -, -, -, -, hsigM⟩ := Cond.codeWith_spec hcode
  cases Option.some.inj (hn8.symm.trans hnamed)
  cases hmethM.symm.trans hmethM'
  obtain ⟨c2, r2, m2, q1, q2, q3, q4, kP, hkP, hkPi⟩ := Cond.selects_spec hsel
  cases hcls.symm.trans q1
  cases (State.methodFound?_of_named hnamed hy).symm.trans q2
  cases hnamed.symm.trans q3
  have hselP : selectMethod e.platform s.vm cellB.cls mk = .method mk := by rw [Launch.admits_selectMethod X.admits]; exact q4
  obtain ⟨vm₁, X₁, hstep₁⟩ := X.invokevirtual hexec hown hlink hnamed hmethM hstM hkP hkPi hy (a := b) (cell := cellB) hcell
    (fun z h => by rw [h] at hobj; cases hobj) hselP hmethM habM hkP hkPi (g := g) hg (argsL := argsL) (rest := rest) (hlen _ hsigM) hstack hdg
  obtain ⟨v, B, X', hpost, hsteps⟩ := hK m meth c ⟨T.setVm vm₁, locs, cells, slots⟩ { g with stack := rest } (.invokevirtual index) mk (Value.ref b :: argsL).toArray X₁ hg hsize hdg hW (X₁.named hnamed) (hpre vm₁ X₁.warmed)
  exact ⟨v, vm₁, B, X₁.warmed, X', hpost, fun target h => hstep₁ _ fun acts => by rw [doInvoke_state]; exact hsteps.trans h⟩
abbrev vx_CVW (R : Room) (s : State) (args : Array Value) (own C : String) (index : Nat) (y : MethodName) (bytes : ByteArray) (maxL : Nat) (ret : Option FieldType) (hh : List (Nat × Nat × Nat × Nat)) (ws : List Cond) (rm : Room) (mc ms n : Nat) : Prop :=
  (rm.cells = mc ∧ rm.slots = ms ∧ rm.frames + 1 ≤ R.frames ∧ 8 + (maxL + 11) + rm.locals ≤ R.locals ∧ (∀ w ∈ ws, ∀ (a' : Array Value) (U : State), s.WarmedH U.vm → w.before a' U = true) ∧ Cond.codeWith y bytes maxL ret hh ∈ ws) ∧
  (Cond.codeWith y bytes maxL ret hh).before args s = true ∧ (Cond.initialized y.cls).before args s = true ∧ (y.cls ≠ "java/lang/invoke/MethodHandle" ∧ y.cls ≠ "java/lang/invoke/VarHandle") ∧
  (∀ sig, parseMethodDescriptor y.desc = some sig → n = sig.parameters.length) ∧ (Cond.methodLink own index y).before args s = true ∧ (Cond.instanceMethod y).before args s = true ∧ (Cond.selects C y y).before args s = true
theorem vx_cwVW {own C : String} {index maxL mc ms : Nat} {y : MethodName} {bytes : ByteArray} {ret : Option FieldType} {hh : List (Nat × Nat × Nat × Nat)} {Ts ws ws' : List Cond} {rm : Room} (n : Nat) (ht : ∀ w ∈ Ts, w.before args s = true) (hT : GoodIn Ts (wsV own index C y ws)) (hw : ws = Cond.codeWith y bytes maxL ret hh :: ws') (hrc : rm.cells = mc) (hrs : rm.slots = ms)
    (hd : y.cls = C ∧ y.cls ≠ "java/lang/invoke/MethodHandle" ∧ y.cls ≠ "java/lang/invoke/VarHandle" ∧ (parseMethodDescriptor y.desc).map (fun d => d.parameters.length) = some n) (hR : rm.frames + 1 ≤ R.frames ∧ 8 + (maxL + 11) + rm.locals ≤ R.locals) :
    vx_CVW R s args own C index y bytes maxL ret hh ws rm mc ms n := by
  obtain ⟨hC, hd⟩ := hd
  subst hC
  have ok : ∀ w ∈ wsV own index y.cls y ws, w.before args s = true := fun w h => ht w (hT w h).1
  have hG : GoodIn Ts ws := fun w h => hT w (by unfold wsV; exact List.mem_append_right _ h)
  have hc : Cond.codeWith y bytes maxL ret hh ∈ ws := by rw [hw]; exact List.mem_cons_self
  refine ⟨⟨hrc, hrs, hR.1, hR.2, pay_in ht hG, hc⟩, ht _ (hG _ hc).1, ok _ (by simp [wsV]), ⟨hd.1, hd.2.1⟩, fun sig h => ?_, ok _ (by simp [wsV]), ok _ (by simp [wsV]), ok _ (by simp [wsV])⟩
  have h2 := hd.2.2
  rw [h] at h2
  exact (Option.some.inj h2).symm
theorem vx_runVW {y : MethodName} {bytes cc : ByteArray} {maxL nL mc ms n index : Nat} {ret : Option FieldType} {hh : List (Nat × Nat × Nat × Nat)} {ws : List Cond} {rm : Room} {Pc : Array Value → State → Prop} {Qc : Array Value → State → Outcome → State → Prop} {free : Addr → Prop} {Ts : List Cond} {own C : String} {b : Addr} {As rest : List Value} {g : JFrame}
    (S : CallFix p m c cc nL s args Ts own) (hM : Met l y ws rm Pc Qc mc ms free) (cw : vx_CVW R s args own C index y bytes maxL ret hh ws rm mc ms n) (hp : PreV s H C b Pc As)
    (hg : g.method = m) (hn : As.length = n) (hsize : g.locals.size = nL) (hstack : g.stack = As.reverse ++ .ref b :: rest) (hW : 2 * g.monitorRoom + (rest.map fun v => v.category).sum ≤ 8) (hdg : decode cc g.pc = .ok (.invokevirtual index, 3)) (hf : cells + mc ≤ R.cells ∧ slots + ms ≤ R.slots) :
    va_Run p l e R s m args below meth c H locs cells slots mc ms g rest (Qc (Value.ref b :: As).toArray) free := by
  obtain ⟨⟨hrc, hrs, hfr, hlo, hws, hcw⟩, hcode, hini, hy, hlen, hl, hin, hse⟩ := cw
  have hK : Back l R p e below s args y 3 8 (PreOf R mc ms Pc) (PostOf Qc mc ms free) := va_backW (hh := hh) (bytes := bytes) (maxL := maxL) (ret := ret) hM hp.1 hrc hrs hfr hlo hws hcw (fun a' U hW => word_at hW (Or.inl (by first | rfl | simp [Cond.onTables, Cond.keeps, Cond.steady])) hini)
  obtain ⟨hx, hb, hml, ho, -⟩ := S
  obtain ⟨-, ⟨cellB, hcB, hoB, hclB⟩, hPc⟩ := hp
  intro T hT X
  obtain ⟨v, vm₁, ⟨U', l2, c2, s2⟩, hW₁, X', ⟨g', mk, t, L, e1, e2, hq, h1, hL, h2, h3⟩, st⟩ := vx_callVW X hx (C := C) (hh := hh) (bytes := bytes) (maxL := maxL) (ret := ret) ho hl hin hse hcode hy hK (by rw [hT]; exact hcB) hoB hclB hg (hsize.trans hml.symm) (argsL := As) (rest := rest) (fun sig h => hn.trans (hlen sig h)) hstack hW (by rw [hb]; exact hdg)
    (fun vm₁ hW₁ => ⟨hf.1, hf.2, hPc (T.setVm vm₁) hT hW₁⟩)
  dsimp only [Pt.U, Pt.locs, Pt.cells, Pt.slots] at X' e1 e2 h1 h2 h3 st
  subst h1; subst h2; subst h3
  exact ⟨v, (T.setVm vm₁).calling g' mk (Value.ref b :: As).toArray, t, U', L, hT, X', hL, e1, e2, hq, st⟩
section
variable {y : MethodName} {bytes cc : ByteArray} {maxL nL mc ms n index : Nat} {ret : Option FieldType} {ws : List Cond} {rm : Room} {Pc : Array Value → State → Prop} {Qc : Array Value → State → Outcome → State → Prop} {XC : String → State → State → Prop} {free : Addr → Prop} {Ts : List Cond} {own C : String} {b : Addr} {As rest : List Value} {g : JFrame}
theorem vx_runVX {hh : List (Nat × Nat × Nat × Nat)} (S : CallFix p m c cc nL s args Ts own) (hM : vx_Met l y ws rm Pc Qc XC mc ms free) (cw : vx_CVW R s args own C index y bytes maxL ret hh ws rm mc ms n) (hp : PreV s H C b Pc As)
    (hg : g.method = m) (hn : As.length = n) (hsize : g.locals.size = nL) (hstack : g.stack = As.reverse ++ .ref b :: rest) (hW : 2 * g.monitorRoom + (rest.map fun v => v.category).sum ≤ 8) (hdg : decode cc g.pc = .ok (.invokevirtual index, 3)) (hf : cells + mc ≤ R.cells ∧ slots + ms ≤ R.slots) :
    vx_Run p l e R s m args below meth c H locs cells slots mc ms g rest (Qc (Value.ref b :: As).toArray) XC free := by
  obtain ⟨⟨hrc, hrs, hfr, hlo, hws, hcw⟩, hcode, hini, hy, hlen, hl, hin, hse⟩ := cw
  have hK : vx_Back l R p e below s args y 3 8 (PreOf R mc ms Pc) (PostOf Qc mc ms free) (vx_Post XC mc ms free) := vx_backW (hh := hh) (bytes := bytes) (maxL := maxL) (ret := ret) hM hp.1 hrc hrs hfr hlo hws hcw (fun a' U hW => word_at hW (Or.inl (by first | rfl | simp [Cond.onTables, Cond.keeps, Cond.steady])) hini)
  obtain ⟨hx, hb, hml, ho, -⟩ := S
  obtain ⟨-, ⟨cellB, hcB, hoB, hclB⟩, hPc⟩ := hp
  intro T hT X
  rcases vx_callVX X hx (C := C) (hh := hh) (bytes := bytes) (maxL := maxL) (ret := ret) ho hl hin hse hcode hy hK (by rw [hT]; exact hcB) hoB hclB hg (hsize.trans hml.symm) (argsL := As) (rest := rest) (fun sig h => hn.trans (hlen sig h)) hstack hW (by rw [hb]; exact hdg)
    (fun vm₁ hW₁ => ⟨hf.1, hf.2, hPc (T.setVm vm₁) hT hW₁⟩) with ⟨v, vm₁, ⟨U', l2, c2, s2⟩, hW₁, X', ⟨g', mk, t, L, e1, e2, hq, h1, hL, h2, h3⟩, st⟩ | ⟨q, vm₁, ⟨U', l2, c2, s2⟩, hW₁, X', ⟨g', mk, t, L, E, ce, e1, e2, hq, hce, hcv, hcl, h1, hL, h2, h3⟩, st⟩
  · dsimp only [Pt.U, Pt.locs, Pt.cells, Pt.slots] at X' e1 e2 h1 h2 h3 st
    subst h1; subst h2; subst h3
    exact Or.inl ⟨v, (T.setVm vm₁).calling g' mk (Value.ref b :: As).toArray, t, U', L, hT, X', hL, e1, e2, hq, st⟩
  · dsimp only [Pt.U, Pt.locs, Pt.cells, Pt.slots] at X' e1 e2 h1 h2 h3 st hcl
    subst h1; subst h2; subst h3
    exact Or.inr ⟨q, (T.setVm vm₁).calling g' mk (Value.ref b :: As).toArray, t, U', L, E, ce, hT, X', hL, e1, e2, hq, hce, hcv, vx_cls hW₁ hcl, st⟩
theorem vx_runSX {hh : List (Nat × Nat × Nat × Nat)} (S : CallFix p m c cc nL s args Ts own) (hM : vx_Met l y ws rm Pc Qc XC mc ms free) (cw : vx_CSW R s args own index y bytes maxL ret hh ws rm mc ms n) (hp : PreS s H Pc As)
    (hg : g.method = m) (hn : As.length = n) (hsize : g.locals.size = nL) (hstack : g.stack = As.reverse ++ rest) (hW : 2 * g.monitorRoom + (rest.map fun v => v.category).sum ≤ 8) (hdg : decode cc g.pc = .ok (.invokestatic index, 3)) (hf : cells + mc ≤ R.cells ∧ slots + ms ≤ R.slots) :
    vx_Run p l e R s m args below meth c H locs cells slots mc ms g rest (Qc As.toArray) XC free := by
  obtain ⟨⟨hrc, hrs, hfr, hlo, hws, hcw⟩, hcode, hini, hy, hlen, hl, hstt⟩ := cw
  have hK : vx_Back l R p e below s args y 3 8 (PreOf R mc ms Pc) (PostOf Qc mc ms free) (vx_Post XC mc ms free) := vx_backW (hh := hh) (bytes := bytes) (maxL := maxL) (ret := ret) hM hp.1 hrc hrs hfr hlo hws hcw (fun a' U hW => word_at hW (Or.inl (by first | rfl | simp [Cond.onTables, Cond.keeps, Cond.steady])) hini)
  obtain ⟨hx, hb, hml, ho, -⟩ := S
  intro T hT X
  rcases vx_callSX X hx (hh := hh) (bytes := bytes) (maxL := maxL) (ret := ret) ho hl hstt hini hcode hy hK hg (hsize.trans hml.symm) (argsL := As) (rest := rest) (fun sig h => hn.trans (hlen sig h)) hstack hW (by rw [hb]; exact hdg)
    (fun vm₁ hW₁ => ⟨hf.1, hf.2, hp.2 (T.setVm vm₁) hT hW₁⟩) with ⟨v, vm₁, ⟨U', l2, c2, s2⟩, hW₁, X', ⟨g', mk, t, L, e1, e2, hq, h1, hL, h2, h3⟩, st⟩ | ⟨q, vm₁, ⟨U', l2, c2, s2⟩, hW₁, X', ⟨g', mk, t, L, E, ce, e1, e2, hq, hce, hcv, hcl, h1, hL, h2, h3⟩, st⟩
  · dsimp only [Pt.U, Pt.locs, Pt.cells, Pt.slots] at X' e1 e2 h1 h2 h3 st
    subst h1; subst h2; subst h3
    exact Or.inl ⟨v, (T.setVm vm₁).calling g' mk As.toArray, t, U', L, hT, X', hL, e1, e2, hq, st⟩
  · dsimp only [Pt.U, Pt.locs, Pt.cells, Pt.slots] at X' e1 e2 h1 h2 h3 st hcl
    subst h1; subst h2; subst h3
    exact Or.inr ⟨q, (T.setVm vm₁).calling g' mk As.toArray, t, U', L, E, ce, hT, X', hL, e1, e2, hq, hce, hcv, vx_cls hW₁ hcl, st⟩
end
end VXH
theorem vx_ofWH {l : Launch} {y : MethodName} {ws ws' : List Cond} {rm : Room} {Pc : Array Value → State → Prop} {Qc : Array Value → State → Outcome → State → Prop} {XC : String → State → State → Prop} {mc ms : Nat} {free : Addr → Prop} {cc : ByteArray} {maxL : Nat} {ret : Option FieldType} {hh : List (Nat × Nat × Nat × Nat)}
    (hy : plainName y.cls = true) (hw : ws = Cond.codeWith y cc maxL ret hh :: ws')
    (body : ∀ p e s m args below meth c s₁, BodyLoose p l y (headSpec ws rm) cc maxL ret e s m args below meth c s₁ → c.maxLocals = maxL → Pc args s →
      W p l e (headSpec ws rm).room s m args below meth c s.heap [] 0 0 (vx_MQ below Qc XC args s mc ms free) (entryFrame m args maxL)) : vx_Met l y ws rm Pc Qc XC mc ms free := by
  refine MetFree.of_bodyS (code := cc) (maxLocals := maxL) (ret := ret) hy ?_ ?_
  · intro args s m h hn
    obtain ⟨m9, meth, c, hn9, h1, h2, h3, h4, -, h5, h6, -⟩ := Cond.codeWith_spec (atoms_spec (ws := ws) h _ (by rw [hw]; exact List.mem_cons_self))
    cases hn.symm.trans hn9
    exact ⟨meth, c, h1, h2, h3, h4, h5, h6⟩
  · intro p e s m args below meth c s₁ B hml hP _
    have hh0 : s₁.heap = s.heap := by rw [B.state]; rfl
    obtain ⟨t, a1, o, b1, b2, b3⟩ := body p e s m args below meth c s₁ B hml hP s₁ hh0 (Stand.of_body B)
    exact ⟨t, o, a1, b1, b2, b3⟩
/-! ===== END ===== -/
end
section
/-! ===== BEGIN printed: names, fields, word lists, decode rows ===== -/
def RX0 : String := "LampChoice$Choice"
def TX0 : u_T := fun k => match k with
  | 0 => ("LampChoice$Choice", "room", "LLampChoice$Room;", true)
  | 1 => ("LampChoice$Choice", "lights", "[I", true)
  | 2 => ("LampChoice$Choice", "reach", "[I", true)
  | 3 => ("LampChoice$Choice", "gathered", "[I", true)
  | 4 => ("LampChoice$Choice", "tried", "[I", true)
  | 5 => ("LampChoice$Choice", "leastLevel", "J", false)
  | 6 => ("LampChoice$Choice", "sumOfLevels", "J", false)
  | 7 => ("LampChoice$Choice", "lamps", "[I", true)
  | 8 => ("LampChoice$Choice", "levels", "[I", true)
  | 9 => ("LampChoice$Choice", "watts", "I", false)
  | 10 => ("LampChoice$Choice", "found", "Z", false)
  | _ => ("LampChoice$Choice", "known", "Z", false)
def tyX0 : Nat → FieldType := fun k => match k with
  | 0 => .object "LampChoice$Room"
  | 1 => .array .int
  | 2 => .array .int
  | 3 => .array .int
  | 4 => .array .int
  | 5 => .long
  | 6 => .long
  | 7 => .array .int
  | 8 => .array .int
  | 9 => .int
  | 10 => .boolean
  | _ => .boolean
abbrev wsX00 : List Cond := u_ws RX0 TX0 12
theorem nmX0 : ∀ a, a < 12 → ∀ b, b < 12 → a ≠ b → (TX0 a).2.1 ≠ (TX0 b).2.1 := by decide +kernel
theorem tyX0_ok : ∀ k, k < 12 → parseFieldDescriptor (TX0 k).2.2.1 = some (tyX0 k) := by decide +kernel
abbrev cX0_init : ByteArray := prog_2_method_1_code
def yX0_init : MethodName := ⟨RX0, "<init>", "(LLampChoice$Room;)V"⟩
abbrev cX0_settle : ByteArray := prog_2_method_2_code
def yX0_settle : MethodName := ⟨RX0, "settle", "()V"⟩
abbrev cX0_lampLight : ByteArray := prog_2_method_3_code
def yX0_lampLight : MethodName := ⟨RX0, "lampLight", "(II)I"⟩
abbrev cX0_hasLamps : ByteArray := prog_2_method_4_code
def yX0_hasLamps : MethodName := ⟨RX0, "hasLamps", "()Z"⟩
abbrev cX0_evennessAbove : ByteArray := prog_2_method_5_code
def yX0_evennessAbove : MethodName := ⟨RX0, "evennessAbove", "()J"⟩
abbrev cX0_evennessBelow : ByteArray := prog_2_method_6_code
def yX0_evennessBelow : MethodName := ⟨RX0, "evennessBelow", "()J"⟩
abbrev cX0_commonDivisor : ByteArray := prog_2_method_7_code
def yX0_commonDivisor : MethodName := ⟨RX0, "commonDivisor", "(JJ)J"⟩
abbrev cX0_lightRow : ByteArray := prog_2_method_8_code
def yX0_lightRow : MethodName := ⟨RX0, "lightRow", "(II)I"⟩
abbrev cX0_fillLights : ByteArray := prog_2_method_9_code
def yX0_fillLights : MethodName := ⟨RX0, "fillLights", "()V"⟩
abbrev cX0_fillReach : ByteArray := prog_2_method_10_code
def yX0_fillReach : MethodName := ⟨RX0, "fillReach", "()V"⟩
abbrev cX0_mostLight : ByteArray := prog_2_method_11_code
def yX0_mostLight : MethodName := ⟨RX0, "mostLight", "(II)I"⟩
abbrev cX0_tryFrom : ByteArray := prog_2_method_12_code
def yX0_tryFrom : MethodName := ⟨RX0, "tryFrom", "(II)V"⟩
abbrev cX0_gather : ByteArray := prog_2_method_13_code
def yX0_gather : MethodName := ⟨RX0, "gather", "(II)V"⟩
abbrev cX0_canBecomeEnough : ByteArray := prog_2_method_14_code
def yX0_canBecomeEnough : MethodName := ⟨RX0, "canBecomeEnough", "(I)Z"⟩
abbrev cX0_weigh : ByteArray := prog_2_method_15_code
def yX0_weigh : MethodName := ⟨RX0, "weigh", "(I)V"⟩
def RX1 : String := "LampChoice$Days"
def TX1 : u_T := fun k => match k with
  | 0 => ("LampChoice$Days", "room", "LLampChoice$Room;", true)
  | 1 => ("LampChoice$Days", "choice", "LLampChoice$Choice;", true)
  | 2 => ("LampChoice$Days", "sensors", "[I", true)
  | 3 => ("LampChoice$Days", "daylights", "[I", true)
  | 4 => ("LampChoice$Days", "ownLevels", "[I", true)
  | 5 => ("LampChoice$Days", "lasted", "[I", true)
  | 6 => ("LampChoice$Days", "farthestStep", "I", false)
  | 7 => ("LampChoice$Days", "minutes", "I", false)
  | 8 => ("LampChoice$Days", "wattMinutes", "J", false)
  | 9 => ("LampChoice$Days", "paid", "J", false)
  | _ => ("LampChoice$Days", "renewed", "J", false)
def tyX1 : Nat → FieldType := fun k => match k with
  | 0 => .object "LampChoice$Room"
  | 1 => .object "LampChoice$Choice"
  | 2 => .array .int
  | 3 => .array .int
  | 4 => .array .int
  | 5 => .array .int
  | 6 => .int
  | 7 => .int
  | 8 => .long
  | 9 => .long
  | _ => .long
abbrev wsX10 : List Cond := u_ws RX1 TX1 11
theorem nmX1 : ∀ a, a < 11 → ∀ b, b < 11 → a ≠ b → (TX1 a).2.1 ≠ (TX1 b).2.1 := by decide +kernel
theorem tyX1_ok : ∀ k, k < 11 → parseFieldDescriptor (TX1 k).2.2.1 = some (tyX1 k) := by decide +kernel
abbrev cX1_init : ByteArray := prog_3_method_1_code
def yX1_init : MethodName := ⟨RX1, "<init>", "(LLampChoice$Room;LLampChoice$Choice;)V"⟩
abbrev cX1_startAnew : ByteArray := prog_3_method_2_code
def yX1_startAnew : MethodName := ⟨RX1, "startAnew", "()V"⟩
abbrev cX1_pass : ByteArray := prog_3_method_3_code
def yX1_pass : MethodName := ⟨RX1, "pass", "(I)V"⟩
abbrev cX1_follow : ByteArray := prog_3_method_4_code
def yX1_follow : MethodName := ⟨RX1, "follow", "(II)V"⟩
abbrev cX1_stepTowards : ByteArray := prog_3_method_5_code
def yX1_stepTowards : MethodName := ⟨RX1, "stepTowards", "(II)I"⟩
abbrev cX1_needOf : ByteArray := prog_3_method_6_code
def yX1_needOf : MethodName := ⟨RX1, "needOf", "(I)I"⟩
abbrev cX1_shine : ByteArray := prog_3_method_7_code
def yX1_shine : MethodName := ⟨RX1, "shine", "(II)V"⟩
def RX2 : String := "LampChoice$Room"
def TX2 : u_T := fun k => match k with
  | 0 => ("LampChoice$Room", "strengths", "[I", true)
  | 1 => ("LampChoice$Room", "watts", "[I", true)
  | 2 => ("LampChoice$Room", "lives", "[I", true)
  | 3 => ("LampChoice$Room", "cents", "[I", true)
  | 4 => ("LampChoice$Room", "placeX", "[I", true)
  | 5 => ("LampChoice$Room", "placeY", "[I", true)
  | 6 => ("LampChoice$Room", "held", "[I", true)
  | 7 => ("LampChoice$Room", "pointX", "[I", true)
  | 8 => ("LampChoice$Room", "pointY", "[I", true)
  | 9 => ("LampChoice$Room", "wanted", "[I", true)
  | 10 => ("LampChoice$Room", "kinds", "I", false)
  | 11 => ("LampChoice$Room", "places", "I", false)
  | 12 => ("LampChoice$Room", "points", "I", false)
  | _ => ("LampChoice$Room", "height", "I", false)
def tyX2 : Nat → FieldType := fun k => match k with
  | 0 => .array .int
  | 1 => .array .int
  | 2 => .array .int
  | 3 => .array .int
  | 4 => .array .int
  | 5 => .array .int
  | 6 => .array .int
  | 7 => .array .int
  | 8 => .array .int
  | 9 => .array .int
  | 10 => .int
  | 11 => .int
  | 12 => .int
  | _ => .int
abbrev wsX20 : List Cond := u_ws RX2 TX2 14
theorem nmX2 : ∀ a, a < 14 → ∀ b, b < 14 → a ≠ b → (TX2 a).2.1 ≠ (TX2 b).2.1 := by decide +kernel
theorem tyX2_ok : ∀ k, k < 14 → parseFieldDescriptor (TX2 k).2.2.1 = some (tyX2 k) := by decide +kernel
abbrev cX2_init : ByteArray := prog_4_method_1_code
def yX2_init : MethodName := ⟨RX2, "<init>", "()V"⟩
abbrev cX2_addKind : ByteArray := prog_4_method_2_code
def yX2_addKind : MethodName := ⟨RX2, "addKind", "(IIII)I"⟩
abbrev cX2_addPlace : ByteArray := prog_4_method_3_code
def yX2_addPlace : MethodName := ⟨RX2, "addPlace", "(II)I"⟩
abbrev cX2_addPoint : ByteArray := prog_4_method_4_code
def yX2_addPoint : MethodName := ⟨RX2, "addPoint", "(III)I"⟩
abbrev cX2_mayHave : ByteArray := prog_4_method_5_code
def yX2_mayHave : MethodName := ⟨RX2, "mayHave", "(II)Z"⟩
abbrev cX2_wattsOf : ByteArray := prog_4_method_6_code
def yX2_wattsOf : MethodName := ⟨RX2, "wattsOf", "(I)I"⟩
abbrev cX2_lightOf : ByteArray := prog_4_method_7_code
def yX2_lightOf : MethodName := ⟨RX2, "lightOf", "(III)I"⟩
def RX3 : String := "LampChoice$Scenes"
def TX3 : u_T := fun k => match k with
  | 0 => ("LampChoice$Scenes", "room", "LLampChoice$Room;", true)
  | 1 => ("LampChoice$Scenes", "choice", "LLampChoice$Choice;", true)
  | 2 => ("LampChoice$Scenes", "aims", "[I", true)
  | 3 => ("LampChoice$Scenes", "dims", "[I", true)
  | 4 => ("LampChoice$Scenes", "misses", "[J", true)
  | 5 => ("LampChoice$Scenes", "sweeps", "I", false)
  | _ => ("LampChoice$Scenes", "known", "Z", false)
def tyX3 : Nat → FieldType := fun k => match k with
  | 0 => .object "LampChoice$Room"
  | 1 => .object "LampChoice$Choice"
  | 2 => .array .int
  | 3 => .array .int
  | 4 => .array .long
  | 5 => .int
  | _ => .boolean
abbrev wsX30 : List Cond := u_ws RX3 TX3 7
theorem nmX3 : ∀ a, a < 7 → ∀ b, b < 7 → a ≠ b → (TX3 a).2.1 ≠ (TX3 b).2.1 := by decide +kernel
theorem tyX3_ok : ∀ k, k < 7 → parseFieldDescriptor (TX3 k).2.2.1 = some (tyX3 k) := by decide +kernel
abbrev cX3_init : ByteArray := prog_5_method_1_code
def yX3_init : MethodName := ⟨RX3, "<init>", "(LLampChoice$Room;LLampChoice$Choice;)V"⟩
abbrev cX3_changeAim : ByteArray := prog_5_method_2_code
def yX3_changeAim : MethodName := ⟨RX3, "changeAim", "(II)I"⟩
abbrev cX3_settle : ByteArray := prog_5_method_3_code
def yX3_settle : MethodName := ⟨RX3, "settle", "()V"⟩
abbrev cX3_sweep : ByteArray := prog_5_method_4_code
def yX3_sweep : MethodName := ⟨RX3, "sweep", "()Z"⟩
abbrev cX3_fittingDim : ByteArray := prog_5_method_5_code
def yX3_fittingDim : MethodName := ⟨RX3, "fittingDim", "(I)I"⟩
abbrev cX3_moveTo : ByteArray := prog_5_method_6_code
def yX3_moveTo : MethodName := ⟨RX3, "moveTo", "(II)V"⟩
def RX4 : String := "LampChoice"
def TX4 : u_T := fun k => match k with
  | 0 => ("LampChoice", "room", "LLampChoice$Room;", true)
  | 1 => ("LampChoice", "choice", "LLampChoice$Choice;", true)
  | 2 => ("LampChoice", "scenes", "LLampChoice$Scenes;", true)
  | _ => ("LampChoice", "days", "LLampChoice$Days;", true)
def tyX4 : Nat → FieldType := fun k => match k with
  | 0 => .object "LampChoice$Room"
  | 1 => .object "LampChoice$Choice"
  | 2 => .object "LampChoice$Scenes"
  | _ => .object "LampChoice$Days"
abbrev wsX40 : List Cond := u_ws RX4 TX4 4
theorem nmX4 : ∀ a, a < 4 → ∀ b, b < 4 → a ≠ b → (TX4 a).2.1 ≠ (TX4 b).2.1 := by decide +kernel
theorem tyX4_ok : ∀ k, k < 4 → parseFieldDescriptor (TX4 k).2.2.1 = some (tyX4 k) := by decide +kernel
abbrev cX4_init : ByteArray := prog_1_method_1_code
def yX4_init : MethodName := ⟨RX4, "<init>", "()V"⟩
abbrev cX4_kind : ByteArray := prog_1_method_2_code
def yX4_kind : MethodName := ⟨RX4, "kind", "(IIII)I"⟩
abbrev cX4_place : ByteArray := prog_1_method_3_code
def yX4_place : MethodName := ⟨RX4, "place", "(II)I"⟩
abbrev cX4_point : ByteArray := prog_1_method_4_code
def yX4_point : MethodName := ⟨RX4, "point", "(III)I"⟩
abbrev cX4_height : ByteArray := prog_1_method_5_code
def yX4_height : MethodName := ⟨RX4, "height", "(I)I"⟩
abbrev cX4_hold : ByteArray := prog_1_method_6_code
def yX4_hold : MethodName := ⟨RX4, "hold", "(II)V"⟩
abbrev cX4_light : ByteArray := prog_1_method_7_code
def yX4_light : MethodName := ⟨RX4, "light", "(III)I"⟩
abbrev cX4_best : ByteArray := prog_1_method_8_code
def yX4_best : MethodName := ⟨RX4, "best", "()I"⟩
abbrev cX4_lamp : ByteArray := prog_1_method_9_code
def yX4_lamp : MethodName := ⟨RX4, "lamp", "(I)I"⟩
abbrev cX4_level : ByteArray := prog_1_method_10_code
def yX4_level : MethodName := ⟨RX4, "level", "(I)I"⟩
abbrev cX4_even : ByteArray := prog_1_method_11_code
def yX4_even : MethodName := ⟨RX4, "even", "(I)J"⟩
abbrev cX4_aim : ByteArray := prog_1_method_12_code
def yX4_aim : MethodName := ⟨RX4, "aim", "(II)I"⟩
abbrev cX4_scene : ByteArray := prog_1_method_13_code
def yX4_scene : MethodName := ⟨RX4, "scene", "()I"⟩
abbrev cX4_dim : ByteArray := prog_1_method_14_code
def yX4_dim : MethodName := ⟨RX4, "dim", "(I)I"⟩
abbrev cX4_miss : ByteArray := prog_1_method_15_code
def yX4_miss : MethodName := ⟨RX4, "miss", "(I)J"⟩
abbrev cX4_sensor : ByteArray := prog_1_method_16_code
def yX4_sensor : MethodName := ⟨RX4, "sensor", "(II)V"⟩
abbrev cX4_daylight : ByteArray := prog_1_method_17_code
def yX4_daylight : MethodName := ⟨RX4, "daylight", "(II)I"⟩
abbrev cX4_step : ByteArray := prog_1_method_18_code
def yX4_step : MethodName := ⟨RX4, "step", "(I)I"⟩
abbrev cX4_run : ByteArray := prog_1_method_19_code
def yX4_run : MethodName := ⟨RX4, "run", "(I)I"⟩
abbrev cX4_own : ByteArray := prog_1_method_20_code
def yX4_own : MethodName := ⟨RX4, "own", "(II)I"⟩
abbrev cX4_used : ByteArray := prog_1_method_21_code
def yX4_used : MethodName := ⟨RX4, "used", "(I)J"⟩
abbrev cX4_checkPlace : ByteArray := prog_1_method_22_code
def yX4_checkPlace : MethodName := ⟨RX4, "checkPlace", "(I)V"⟩
abbrev cX4_checkPoint : ByteArray := prog_1_method_23_code
def yX4_checkPoint : MethodName := ⟨RX4, "checkPoint", "(I)V"⟩
abbrev cX4_checkBounds : ByteArray := prog_1_method_24_code
def yX4_checkBounds : MethodName := ⟨RX4, "checkBounds", "(III)V"⟩
abbrev cX4_checkCount : ByteArray := prog_1_method_25_code
def yX4_checkCount : MethodName := ⟨RX4, "checkCount", "(II)V"⟩
abbrev cX4_lampsGo : ByteArray := prog_1_method_26_code
def yX4_lampsGo : MethodName := ⟨RX4, "lampsGo", "()V"⟩
abbrev cX4_settleScene : ByteArray := prog_1_method_27_code
def yX4_settleScene : MethodName := ⟨RX4, "settleScene", "()V"⟩
abbrev cX4_quotient : ByteArray := prog_1_method_28_code
def yX4_quotient : MethodName := ⟨RX4, "quotient", "(JJ)J"⟩
def RX5 : String := "LampChoiceModel"
def TX5 : u_T := fun k => match k with
  | 0 => ("LampChoiceModel", "code", "I", false)
  | 1 => ("LampChoiceModel", "kinds", "I", false)
  | 2 => ("LampChoiceModel", "strengths", "[I", true)
  | 3 => ("LampChoiceModel", "watts", "[I", true)
  | 4 => ("LampChoiceModel", "lives", "[I", true)
  | 5 => ("LampChoiceModel", "cents", "[I", true)
  | 6 => ("LampChoiceModel", "places", "I", false)
  | 7 => ("LampChoiceModel", "xs", "[I", true)
  | 8 => ("LampChoiceModel", "ys", "[I", true)
  | 9 => ("LampChoiceModel", "held", "[I", true)
  | 10 => ("LampChoiceModel", "sensors", "[I", true)
  | 11 => ("LampChoiceModel", "points", "I", false)
  | 12 => ("LampChoiceModel", "pointXs", "[I", true)
  | 13 => ("LampChoiceModel", "pointYs", "[I", true)
  | 14 => ("LampChoiceModel", "wanted", "[I", true)
  | 15 => ("LampChoiceModel", "aims", "[I", true)
  | 16 => ("LampChoiceModel", "daylights", "[I", true)
  | 17 => ("LampChoiceModel", "height", "I", false)
  | 18 => ("LampChoiceModel", "most", "I", false)
  | 19 => ("LampChoiceModel", "isKnown", "Z", false)
  | 20 => ("LampChoiceModel", "found", "Z", false)
  | 21 => ("LampChoiceModel", "best", "[I", true)
  | 22 => ("LampChoiceModel", "bestWatts", "I", false)
  | 23 => ("LampChoiceModel", "bestLeast", "J", false)
  | 24 => ("LampChoiceModel", "bestSum", "J", false)
  | 25 => ("LampChoiceModel", "choice", "[I", true)
  | 26 => ("LampChoiceModel", "sums", "[I", true)
  | 27 => ("LampChoiceModel", "wattsBefore", "[I", true)
  | 28 => ("LampChoiceModel", "lights", "[I", true)
  | 29 => ("LampChoiceModel", "dims", "[I", true)
  | 30 => ("LampChoiceModel", "levels", "[I", true)
  | 31 => ("LampChoiceModel", "lasted", "[I", true)
  | 32 => ("LampChoiceModel", "minutes", "I", false)
  | 33 => ("LampChoiceModel", "energy", "J", false)
  | 34 => ("LampChoiceModel", "paid", "J", false)
  | _ => ("LampChoiceModel", "renewed", "J", false)
def tyX5 : Nat → FieldType := fun k => match k with
  | 0 => .int
  | 1 => .int
  | 2 => .array .int
  | 3 => .array .int
  | 4 => .array .int
  | 5 => .array .int
  | 6 => .int
  | 7 => .array .int
  | 8 => .array .int
  | 9 => .array .int
  | 10 => .array .int
  | 11 => .int
  | 12 => .array .int
  | 13 => .array .int
  | 14 => .array .int
  | 15 => .array .int
  | 16 => .array .int
  | 17 => .int
  | 18 => .int
  | 19 => .boolean
  | 20 => .boolean
  | 21 => .array .int
  | 22 => .int
  | 23 => .long
  | 24 => .long
  | 25 => .array .int
  | 26 => .array .int
  | 27 => .array .int
  | 28 => .array .int
  | 29 => .array .int
  | 30 => .array .int
  | 31 => .array .int
  | 32 => .int
  | 33 => .long
  | 34 => .long
  | _ => .long
abbrev wsX50 : List Cond := u_ws RX5 TX5 36
theorem nmX5 : ∀ a, a < 36 → ∀ b, b < 36 → a ≠ b → (TX5 a).2.1 ≠ (TX5 b).2.1 := by decide +kernel
theorem tyX5_ok : ∀ k, k < 36 → parseFieldDescriptor (TX5 k).2.2.1 = some (tyX5 k) := by decide +kernel
abbrev cX5_init : ByteArray := prog_7_method_1_code
def yX5_init : MethodName := ⟨RX5, "<init>", "()V"⟩
abbrev cX5_thrown : ByteArray := prog_7_method_2_code
def yX5_thrown : MethodName := ⟨RX5, "thrown", "()I"⟩
abbrev cX5_isIn : ByteArray := prog_7_method_3_code
def yX5_isIn : MethodName := ⟨RX5, "isIn", "(III)Z"⟩
abbrev cX5_isKind : ByteArray := prog_7_method_4_code
def yX5_isKind : MethodName := ⟨RX5, "isKind", "(I)Z"⟩
abbrev cX5_isPlace : ByteArray := prog_7_method_5_code
def yX5_isPlace : MethodName := ⟨RX5, "isPlace", "(I)Z"⟩
abbrev cX5_isPoint : ByteArray := prog_7_method_6_code
def yX5_isPoint : MethodName := ⟨RX5, "isPoint", "(I)Z"⟩
abbrev cX5_renew : ByteArray := prog_7_method_7_code
def yX5_renew : MethodName := ⟨RX5, "renew", "()V"⟩
abbrev cX5_kind : ByteArray := prog_7_method_8_code
def yX5_kind : MethodName := ⟨RX5, "kind", "(IIII)I"⟩
abbrev cX5_place : ByteArray := prog_7_method_9_code
def yX5_place : MethodName := ⟨RX5, "place", "(II)I"⟩
abbrev cX5_point : ByteArray := prog_7_method_10_code
def yX5_point : MethodName := ⟨RX5, "point", "(III)I"⟩
abbrev cX5_height : ByteArray := prog_7_method_11_code
def yX5_height : MethodName := ⟨RX5, "height", "(I)I"⟩
abbrev cX5_hold : ByteArray := prog_7_method_12_code
def yX5_hold : MethodName := ⟨RX5, "hold", "(II)V"⟩
abbrev cX5_lightOf : ByteArray := prog_7_method_13_code
def yX5_lightOf : MethodName := ⟨RX5, "lightOf", "(III)I"⟩
abbrev cX5_light : ByteArray := prog_7_method_14_code
def yX5_light : MethodName := ⟨RX5, "light", "(III)I"⟩
abbrev cX5_firstOf : ByteArray := prog_7_method_15_code
def yX5_firstOf : MethodName := ⟨RX5, "firstOf", "(I)I"⟩
abbrev cX5_addUp : ByteArray := prog_7_method_16_code
def yX5_addUp : MethodName := ⟨RX5, "addUp", "(I)V"⟩
abbrev cX5_nextChoice : ByteArray := prog_7_method_17_code
def yX5_nextChoice : MethodName := ⟨RX5, "nextChoice", "()I"⟩
abbrev cX5_look : ByteArray := prog_7_method_18_code
def yX5_look : MethodName := ⟨RX5, "look", "()V"⟩
abbrev cX5_findBest : ByteArray := prog_7_method_19_code
def yX5_findBest : MethodName := ⟨RX5, "findBest", "()V"⟩
abbrev cX5_best : ByteArray := prog_7_method_20_code
def yX5_best : MethodName := ⟨RX5, "best", "()I"⟩
abbrev cX5_lamp : ByteArray := prog_7_method_21_code
def yX5_lamp : MethodName := ⟨RX5, "lamp", "(I)I"⟩
abbrev cX5_level : ByteArray := prog_7_method_22_code
def yX5_level : MethodName := ⟨RX5, "level", "(I)I"⟩
abbrev cX5_common : ByteArray := prog_7_method_23_code
def yX5_common : MethodName := ⟨RX5, "common", "(JJ)J"⟩
abbrev cX5_even : ByteArray := prog_7_method_24_code
def yX5_even : MethodName := ⟨RX5, "even", "(I)J"⟩
abbrev cX5_aim : ByteArray := prog_7_method_25_code
def yX5_aim : MethodName := ⟨RX5, "aim", "(II)I"⟩
abbrev cX5_hasLamp : ByteArray := prog_7_method_26_code
def yX5_hasLamp : MethodName := ⟨RX5, "hasLamp", "(I)Z"⟩
abbrev cX5_missOf : ByteArray := prog_7_method_27_code
def yX5_missOf : MethodName := ⟨RX5, "missOf", "(I)J"⟩
abbrev cX5_dimOf : ByteArray := prog_7_method_28_code
def yX5_dimOf : MethodName := ⟨RX5, "dimOf", "(I)I"⟩
abbrev cX5_sweep : ByteArray := prog_7_method_29_code
def yX5_sweep : MethodName := ⟨RX5, "sweep", "()I"⟩
abbrev cX5_scene : ByteArray := prog_7_method_30_code
def yX5_scene : MethodName := ⟨RX5, "scene", "()I"⟩
abbrev cX5_dim : ByteArray := prog_7_method_31_code
def yX5_dim : MethodName := ⟨RX5, "dim", "(I)I"⟩
abbrev cX5_miss : ByteArray := prog_7_method_32_code
def yX5_miss : MethodName := ⟨RX5, "miss", "(I)J"⟩
abbrev cX5_sensor : ByteArray := prog_7_method_33_code
def yX5_sensor : MethodName := ⟨RX5, "sensor", "(II)V"⟩
abbrev cX5_daylight : ByteArray := prog_7_method_34_code
def yX5_daylight : MethodName := ⟨RX5, "daylight", "(II)I"⟩
abbrev cX5_step : ByteArray := prog_7_method_35_code
def yX5_step : MethodName := ⟨RX5, "step", "(I)I"⟩
abbrev cX5_needOf : ByteArray := prog_7_method_36_code
def yX5_needOf : MethodName := ⟨RX5, "needOf", "(I)I"⟩
abbrev cX5_minute : ByteArray := prog_7_method_37_code
def yX5_minute : MethodName := ⟨RX5, "minute", "(II)V"⟩
abbrev cX5_run : ByteArray := prog_7_method_38_code
def yX5_run : MethodName := ⟨RX5, "run", "(I)I"⟩
abbrev cX5_own : ByteArray := prog_7_method_39_code
def yX5_own : MethodName := ⟨RX5, "own", "(II)I"⟩
abbrev cX5_used : ByteArray := prog_7_method_40_code
def yX5_used : MethodName := ⟨RX5, "used", "(I)J"⟩
def RJ9 : String := "java/lang/Math"
def TJ9 : u_T := fun k => match k with
  | _ => ("", "", "", false)
def tyJ9 : Nat → FieldType := fun k => match k with
  | _ => .int
abbrev wsJ90 : List Cond := u_ws RJ9 TJ9 0
theorem nmJ9 : ∀ a, a < 0 → ∀ b, b < 0 → a ≠ b → (TJ9 a).2.1 ≠ (TJ9 b).2.1 := by decide +kernel
theorem tyJ9_ok : ∀ k, k < 0 → parseFieldDescriptor (TJ9 k).2.2.1 = some (tyJ9 k) := by decide +kernel
abbrev cJ9_max_7cf53 : ByteArray := prog_11_method_65_code
def yJ9_max_7cf53 : MethodName := ⟨RJ9, "max", "(II)I"⟩
abbrev cJ9_max_f86c9 : ByteArray := prog_11_method_66_code
def yJ9_max_f86c9 : MethodName := ⟨RJ9, "max", "(JJ)J"⟩
abbrev cJ9_min_7cf53 : ByteArray := prog_11_method_69_code
def yJ9_min_7cf53 : MethodName := ⟨RJ9, "min", "(II)I"⟩
abbrev cJ9_min_f86c9 : ByteArray := prog_11_method_70_code
def yJ9_min_f86c9 : MethodName := ⟨RJ9, "min", "(JJ)J"⟩
def RJ0 : String := "java/lang/String"
def TJ0 : u_T := fun k => match k with
  | _ => ("", "", "", false)
def tyJ0 : Nat → FieldType := fun k => match k with
  | _ => .int
abbrev wsJ00 : List Cond := u_ws RJ0 TJ0 0
theorem nmJ0 : ∀ a, a < 0 → ∀ b, b < 0 → a ≠ b → (TJ0 a).2.1 ≠ (TJ0 b).2.1 := by decide +kernel
theorem tyJ0_ok : ∀ k, k < 0 → parseFieldDescriptor (TJ0 k).2.2.1 = some (tyJ0 k) := by decide +kernel
def RJ10 : String := "java/lang/System"
def TJ10 : u_T := fun k => match k with
  | _ => ("", "", "", false)
def tyJ10 : Nat → FieldType := fun k => match k with
  | _ => .int
abbrev wsJ100 : List Cond := u_ws RJ10 TJ10 0
theorem nmJ10 : ∀ a, a < 0 → ∀ b, b < 0 → a ≠ b → (TJ10 a).2.1 ≠ (TJ10 b).2.1 := by decide +kernel
theorem tyJ10_ok : ∀ k, k < 0 → parseFieldDescriptor (TJ10 k).2.2.1 = some (tyJ10 k) := by decide +kernel
def RJ7 : String := "java/util/Arrays"
def TJ7 : u_T := fun k => match k with
  | _ => ("", "", "", false)
def tyJ7 : Nat → FieldType := fun k => match k with
  | _ => .int
abbrev wsJ70 : List Cond := u_ws RJ7 TJ7 0
theorem nmJ7 : ∀ a, a < 0 → ∀ b, b < 0 → a ≠ b → (TJ7 a).2.1 ≠ (TJ7 b).2.1 := by decide +kernel
theorem tyJ7_ok : ∀ k, k < 0 → parseFieldDescriptor (TJ7 k).2.2.1 = some (tyJ7 k) := by decide +kernel
abbrev cJ7_fill_53178 : ByteArray := prog_16_method_103_code
def yJ7_fill_53178 : MethodName := ⟨RJ7, "fill", "([II)V"⟩
def RL : String := "LampChoiceLaw"
abbrev cL_kind : ByteArray := method_3_code
def yL_kind : MethodName := ⟨RL, "kind", "(LLampChoice;IIII[J)I"⟩
abbrev cL_place : ByteArray := method_4_code
def yL_place : MethodName := ⟨RL, "place", "(LLampChoice;II[J)I"⟩
abbrev cL_point : ByteArray := method_5_code
def yL_point : MethodName := ⟨RL, "point", "(LLampChoice;III[J)I"⟩
abbrev cL_height : ByteArray := method_6_code
def yL_height : MethodName := ⟨RL, "height", "(LLampChoice;I[J)I"⟩
abbrev cL_hold : ByteArray := method_7_code
def yL_hold : MethodName := ⟨RL, "hold", "(LLampChoice;II)I"⟩
abbrev cL_light : ByteArray := method_8_code
def yL_light : MethodName := ⟨RL, "light", "(LLampChoice;III[J)I"⟩
abbrev cL_lamp : ByteArray := method_9_code
def yL_lamp : MethodName := ⟨RL, "lamp", "(LLampChoice;I[J)I"⟩
abbrev cL_level : ByteArray := method_10_code
def yL_level : MethodName := ⟨RL, "level", "(LLampChoice;I[J)I"⟩
abbrev cL_even : ByteArray := method_11_code
def yL_even : MethodName := ⟨RL, "even", "(LLampChoice;I[J)I"⟩
abbrev cL_aim : ByteArray := method_12_code
def yL_aim : MethodName := ⟨RL, "aim", "(LLampChoice;II[J)I"⟩
abbrev cL_dim : ByteArray := method_13_code
def yL_dim : MethodName := ⟨RL, "dim", "(LLampChoice;I[J)I"⟩
abbrev cL_miss : ByteArray := method_14_code
def yL_miss : MethodName := ⟨RL, "miss", "(LLampChoice;I[J)I"⟩
abbrev cL_sensor : ByteArray := method_15_code
def yL_sensor : MethodName := ⟨RL, "sensor", "(LLampChoice;II)I"⟩
abbrev cL_daylight : ByteArray := method_16_code
def yL_daylight : MethodName := ⟨RL, "daylight", "(LLampChoice;II[J)I"⟩
abbrev cL_step : ByteArray := method_17_code
def yL_step : MethodName := ⟨RL, "step", "(LLampChoice;I[J)I"⟩
abbrev cL_run : ByteArray := method_18_code
def yL_run : MethodName := ⟨RL, "run", "(LLampChoice;I[J)I"⟩
abbrev cL_own : ByteArray := method_19_code
def yL_own : MethodName := ⟨RL, "own", "(LLampChoice;II[J)I"⟩
abbrev cL_used : ByteArray := method_20_code
def yL_used : MethodName := ⟨RL, "used", "(LLampChoice;I[J)I"⟩
abbrev cL_law : ByteArray := code
def yL_law : MethodName := ⟨RL, "law", "([I)Z"⟩
def wsX0_init : List Cond := .code yX0_init cX0_init 2 none :: ([.methodLink RX0 3 objectInit, .instanceMethod objectInit, .code objectInit ⟨#[0xb1]⟩ 1 none, .arrayClass .int, .fieldLink RX0 9 "LampChoice$Choice" "lights" "[I", .fieldLink RX0 15 "LampChoice$Choice" "reach" "[I", .fieldLink RX0 18 "LampChoice$Choice" "gathered" "[I", .fieldLink RX0 21 "LampChoice$Choice" "tried" "[I", .fieldLink RX0 24 "LampChoice$Choice" "lamps" "[I", .fieldLink RX0 27 "LampChoice$Choice" "levels" "[I", .fieldLink RX0 30 "LampChoice$Choice" "room" "LLampChoice$Room;"] ++ wsX00)
def wsJ7_fill_53178 : List Cond := .code yJ7_fill_53178 cJ7_fill_53178 4 none :: ([])
def wsX0_lightRow : List Cond := .code yX0_lightRow cX0_lightRow 2 (some .int) :: ([])
def wsX4_quotient : List Cond := .code yX4_quotient cX4_quotient 4 (some .long) :: ([])
def wsX2_lightOf : List Cond := .code yX2_lightOf cX2_lightOf 6 (some .int) :: ([.fieldLink RX2 24 "LampChoice$Room" "placeX" "[I", .fieldLink RX2 33 "LampChoice$Room" "pointX" "[I", .fieldLink RX2 27 "LampChoice$Room" "placeY" "[I", .fieldLink RX2 36 "LampChoice$Room" "pointY" "[I", .constantLong RX2 55 (1000), .fieldLink RX2 9 "LampChoice$Room" "strengths" "[I", .fieldLink RX2 42 "LampChoice$Room" "height" "I", .static yX4_quotient, .initialized RX4, .code yX4_quotient cX4_quotient 4 (some .long)] ++ wsX20)
def wsX0_fillLights : List Cond := .code yX0_fillLights cX0_fillLights 5 none :: ([.fieldLink RX0 30 "LampChoice$Choice" "room" "LLampChoice$Room;", .fieldLink RX0 65 "LampChoice$Room" "places" "I", .fieldLink RX0 88 "LampChoice$Room" "kinds" "I", .fieldLink RX0 75 "LampChoice$Room" "points" "I", .fieldLink RX0 9 "LampChoice$Choice" "lights" "[I", .methodLink RX0 61 yX0_lightRow, .static yX0_lightRow, .initialized RX0, .code yX0_lightRow cX0_lightRow 2 (some .int), .methodLink RX0 91 yX2_lightOf, .instanceMethod yX2_lightOf, .selects RX2 yX2_lightOf yX2_lightOf, .initialized RX2, .code yX2_lightOf cX2_lightOf 6 (some .int), .fieldLink RX2 24 "LampChoice$Room" "placeX" "[I", .fieldLink RX2 33 "LampChoice$Room" "pointX" "[I", .fieldLink RX2 27 "LampChoice$Room" "placeY" "[I", .fieldLink RX2 36 "LampChoice$Room" "pointY" "[I", .constantLong RX2 55 (1000), .fieldLink RX2 9 "LampChoice$Room" "strengths" "[I", .fieldLink RX2 42 "LampChoice$Room" "height" "I", .static yX4_quotient, .initialized RX4, .code yX4_quotient cX4_quotient 4 (some .long)] ++ wsX00 ++ wsX20)
def wsX2_mayHave : List Cond := .code yX2_mayHave cX2_mayHave 3 (some .boolean) :: ([.fieldLink RX2 30 "LampChoice$Room" "held" "[I"] ++ wsX20)
def wsX0_mostLight : List Cond := .code yX0_mostLight cX0_mostLight 5 (some .int) :: ([.fieldLink RX0 30 "LampChoice$Choice" "room" "LLampChoice$Room;", .fieldLink RX0 88 "LampChoice$Room" "kinds" "I", .fieldLink RX0 9 "LampChoice$Choice" "lights" "[I", .methodLink RX0 102 Lib.Math.max.name, .static Lib.Math.max.name, .initialized "java/lang/Math", .code Lib.Math.max.name Lib.Math.max.code 2 (some .int), .methodLink RX0 98 yX2_mayHave, .instanceMethod yX2_mayHave, .selects RX2 yX2_mayHave yX2_mayHave, .initialized RX2, .code yX2_mayHave cX2_mayHave 3 (some .boolean), .fieldLink RX2 30 "LampChoice$Room" "held" "[I", .methodLink RX0 61 yX0_lightRow, .static yX0_lightRow, .initialized RX0, .code yX0_lightRow cX0_lightRow 2 (some .int)] ++ wsX00 ++ wsX20)
def wsX0_fillReach : List Cond := .code yX0_fillReach cX0_fillReach 4 none :: ([.fieldLink RX0 30 "LampChoice$Choice" "room" "LLampChoice$Room;", .fieldLink RX0 65 "LampChoice$Room" "places" "I", .fieldLink RX0 75 "LampChoice$Room" "points" "I", .fieldLink RX0 15 "LampChoice$Choice" "reach" "[I", .methodLink RX0 95 yX0_mostLight, .instanceMethod yX0_mostLight, .selects RX0 yX0_mostLight yX0_mostLight, .initialized RX0, .code yX0_mostLight cX0_mostLight 5 (some .int), .fieldLink RX0 88 "LampChoice$Room" "kinds" "I", .fieldLink RX0 9 "LampChoice$Choice" "lights" "[I", .methodLink RX0 102 Lib.Math.max.name, .static Lib.Math.max.name, .initialized "java/lang/Math", .code Lib.Math.max.name Lib.Math.max.code 2 (some .int), .methodLink RX0 98 yX2_mayHave, .instanceMethod yX2_mayHave, .selects RX2 yX2_mayHave yX2_mayHave, .initialized RX2, .code yX2_mayHave cX2_mayHave 3 (some .boolean), .fieldLink RX2 30 "LampChoice$Room" "held" "[I", .methodLink RX0 61 yX0_lightRow, .static yX0_lightRow, .code yX0_lightRow cX0_lightRow 2 (some .int)] ++ wsX00 ++ wsX20)
def wsX0_canBecomeEnough : List Cond := .code yX0_canBecomeEnough cX0_canBecomeEnough 4 (some .boolean) :: ([.fieldLink RX0 30 "LampChoice$Choice" "room" "LLampChoice$Room;", .fieldLink RX0 75 "LampChoice$Room" "points" "I", .fieldLink RX0 18 "LampChoice$Choice" "gathered" "[I", .fieldLink RX0 15 "LampChoice$Choice" "reach" "[I", .fieldLink RX0 127 "LampChoice$Room" "wanted" "[I"] ++ wsX00 ++ wsX20)
def wsX0_weigh : List Cond := .code yX0_weigh cX0_weigh 8 none :: ([.fieldLink RX0 30 "LampChoice$Choice" "room" "LLampChoice$Room;", .fieldLink RX0 65 "LampChoice$Room" "places" "I", .fieldLink RX0 75 "LampChoice$Room" "points" "I", .fieldLink RX0 18 "LampChoice$Choice" "gathered" "[I", .methodLink RX0 130 Lib.MathLoose.min_long.x, .static Lib.MathLoose.min_long.x, .initialized "java/lang/Math", .code Lib.MathLoose.min_long.x Lib.MathLoose.min_long.code 4 (some .long), .methodLink RX0 133 Lib.MathLoose.max_long.x, .static Lib.MathLoose.max_long.x, .code Lib.MathLoose.max_long.x Lib.MathLoose.max_long.code 4 (some .long), .fieldLink RX0 38 "LampChoice$Choice" "found" "Z", .fieldLink RX0 115 "LampChoice$Choice" "watts" "I", .fieldLink RX0 78 "LampChoice$Choice" "sumOfLevels" "J", .fieldLink RX0 71 "LampChoice$Choice" "leastLevel" "J", .fieldLink RX0 21 "LampChoice$Choice" "tried" "[I", .fieldLink RX0 24 "LampChoice$Choice" "lamps" "[I", .methodLink RX0 121 arraycopyName, .native arraycopyName, .static arraycopyName, .initialized "java/lang/System", .fieldLink RX0 27 "LampChoice$Choice" "levels" "[I"] ++ wsX00 ++ wsX20)
def wsX2_wattsOf : List Cond := .code yX2_wattsOf cX2_wattsOf 2 (some .int) :: ([.fieldLink RX2 15 "LampChoice$Room" "watts" "[I"] ++ wsX20)
def wsX0_gather : List Cond := .code yX0_gather cX0_gather 7 none :: ([.fieldLink RX0 18 "LampChoice$Choice" "gathered" "[I", .fieldLink RX0 30 "LampChoice$Choice" "room" "LLampChoice$Room;", .fieldLink RX0 75 "LampChoice$Room" "points" "I", .methodLink RX0 121 arraycopyName, .native arraycopyName, .static arraycopyName, .initialized "java/lang/System", .fieldLink RX0 9 "LampChoice$Choice" "lights" "[I", .methodLink RX0 61 yX0_lightRow, .static yX0_lightRow, .initialized RX0, .code yX0_lightRow cX0_lightRow 2 (some .int)] ++ wsX00 ++ wsX20)
def wsX0_tryFrom_r1 : List Cond := [Cond.fieldLink RX0 30 "LampChoice$Choice" "room" "LLampChoice$Room;", Cond.fieldLink RX0 65 "LampChoice$Room" "places" "I", Cond.fieldLink RX0 88 "LampChoice$Room" "kinds" "I", Cond.fieldLink RX0 38 "LampChoice$Choice" "found" "Z", Cond.fieldLink RX0 115 "LampChoice$Choice" "watts" "I", Cond.fieldLink RX0 21 "LampChoice$Choice" "tried" "[I", Cond.methodLink RX0 107 yX0_weigh, Cond.instanceMethod yX0_weigh, Cond.selects RX0 yX0_weigh yX0_weigh, Cond.initialized RX0, Cond.code yX0_weigh cX0_weigh 8 none, Cond.fieldLink RX0 75 "LampChoice$Room" "points" "I", Cond.fieldLink RX0 18 "LampChoice$Choice" "gathered" "[I", Cond.methodLink RX0 130 Lib.MathLoose.min_long.x, Cond.static Lib.MathLoose.min_long.x, Cond.initialized "java/lang/Math", Cond.code Lib.MathLoose.min_long.x Lib.MathLoose.min_long.code 4 (some .long), Cond.methodLink RX0 133 Lib.MathLoose.max_long.x, Cond.static Lib.MathLoose.max_long.x, Cond.code Lib.MathLoose.max_long.x Lib.MathLoose.max_long.code 4 (some .long), Cond.fieldLink RX0 78 "LampChoice$Choice" "sumOfLevels" "J", Cond.fieldLink RX0 71 "LampChoice$Choice" "leastLevel" "J", Cond.fieldLink RX0 24 "LampChoice$Choice" "lamps" "[I", Cond.methodLink RX0 121 arraycopyName]
def wsX0_tryFrom_r2 : List Cond := [Cond.native arraycopyName, Cond.static arraycopyName, Cond.initialized "java/lang/System", Cond.fieldLink RX0 27 "LampChoice$Choice" "levels" "[I", Cond.methodLink RX0 111 yX2_wattsOf, Cond.instanceMethod yX2_wattsOf, Cond.selects RX2 yX2_wattsOf yX2_wattsOf, Cond.initialized RX2, Cond.code yX2_wattsOf cX2_wattsOf 2 (some .int), Cond.fieldLink RX2 15 "LampChoice$Room" "watts" "[I", Cond.methodLink RX0 98 yX2_mayHave, Cond.instanceMethod yX2_mayHave, Cond.selects RX2 yX2_mayHave yX2_mayHave, Cond.code yX2_mayHave cX2_mayHave 3 (some .boolean), Cond.fieldLink RX2 30 "LampChoice$Room" "held" "[I", Cond.methodLink RX0 118 yX0_gather, Cond.instanceMethod yX0_gather, Cond.selects RX0 yX0_gather yX0_gather, Cond.code yX0_gather cX0_gather 7 none, Cond.fieldLink RX0 9 "LampChoice$Choice" "lights" "[I", Cond.methodLink RX0 61 yX0_lightRow, Cond.static yX0_lightRow, Cond.code yX0_lightRow cX0_lightRow 2 (some .int), Cond.methodLink RX0 53 yX0_canBecomeEnough]
def wsX0_tryFrom_r3 : List Cond := [Cond.instanceMethod yX0_canBecomeEnough, Cond.selects RX0 yX0_canBecomeEnough yX0_canBecomeEnough, Cond.code yX0_canBecomeEnough cX0_canBecomeEnough 4 (some .boolean), Cond.fieldLink RX0 15 "LampChoice$Choice" "reach" "[I", Cond.fieldLink RX0 127 "LampChoice$Room" "wanted" "[I", Cond.methodLink RX0 57 yX0_tryFrom, Cond.instanceMethod yX0_tryFrom, Cond.selects RX0 yX0_tryFrom yX0_tryFrom]
def wsX0_tryFrom : List Cond := .code yX0_tryFrom cX0_tryFrom 5 none :: ((wsX0_tryFrom_r1 ++ (wsX0_tryFrom_r2 ++ wsX0_tryFrom_r3)) ++ wsX00 ++ wsX20)
def wsX0_settle_r1 : List Cond := [Cond.fieldLink RX0 34 "LampChoice$Choice" "known" "Z", Cond.fieldLink RX0 38 "LampChoice$Choice" "found" "Z", Cond.fieldLink RX0 24 "LampChoice$Choice" "lamps" "[I", Cond.methodLink RX0 41 yJ7_fill_53178, Cond.static yJ7_fill_53178, Cond.initialized RJ7, Cond.code yJ7_fill_53178 cJ7_fill_53178 4 none, Cond.methodLink RX0 47 yX0_fillLights, Cond.instanceMethod yX0_fillLights, Cond.selects RX0 yX0_fillLights yX0_fillLights, Cond.initialized RX0, Cond.code yX0_fillLights cX0_fillLights 5 none, Cond.fieldLink RX0 30 "LampChoice$Choice" "room" "LLampChoice$Room;", Cond.fieldLink RX0 65 "LampChoice$Room" "places" "I", Cond.fieldLink RX0 88 "LampChoice$Room" "kinds" "I", Cond.fieldLink RX0 75 "LampChoice$Room" "points" "I", Cond.fieldLink RX0 9 "LampChoice$Choice" "lights" "[I", Cond.methodLink RX0 61 yX0_lightRow, Cond.static yX0_lightRow, Cond.code yX0_lightRow cX0_lightRow 2 (some .int), Cond.methodLink RX0 91 yX2_lightOf, Cond.instanceMethod yX2_lightOf, Cond.selects RX2 yX2_lightOf yX2_lightOf, Cond.initialized RX2]
def wsX0_settle_r2 : List Cond := [Cond.code yX2_lightOf cX2_lightOf 6 (some .int), Cond.fieldLink RX2 24 "LampChoice$Room" "placeX" "[I", Cond.fieldLink RX2 33 "LampChoice$Room" "pointX" "[I", Cond.fieldLink RX2 27 "LampChoice$Room" "placeY" "[I", Cond.fieldLink RX2 36 "LampChoice$Room" "pointY" "[I", Cond.constantLong RX2 55 (1000), Cond.fieldLink RX2 9 "LampChoice$Room" "strengths" "[I", Cond.fieldLink RX2 42 "LampChoice$Room" "height" "I", Cond.static yX4_quotient, Cond.initialized RX4, Cond.code yX4_quotient cX4_quotient 4 (some .long), Cond.methodLink RX0 50 yX0_fillReach, Cond.instanceMethod yX0_fillReach, Cond.selects RX0 yX0_fillReach yX0_fillReach, Cond.code yX0_fillReach cX0_fillReach 4 none, Cond.fieldLink RX0 15 "LampChoice$Choice" "reach" "[I", Cond.methodLink RX0 95 yX0_mostLight, Cond.instanceMethod yX0_mostLight, Cond.selects RX0 yX0_mostLight yX0_mostLight, Cond.code yX0_mostLight cX0_mostLight 5 (some .int), Cond.methodLink RX0 102 Lib.Math.max.name, Cond.static Lib.Math.max.name, Cond.initialized "java/lang/Math", Cond.code Lib.Math.max.name Lib.Math.max.code 2 (some .int)]
def wsX0_settle_r3 : List Cond := [Cond.methodLink RX0 98 yX2_mayHave, Cond.instanceMethod yX2_mayHave, Cond.selects RX2 yX2_mayHave yX2_mayHave, Cond.code yX2_mayHave cX2_mayHave 3 (some .boolean), Cond.fieldLink RX2 30 "LampChoice$Room" "held" "[I", Cond.methodLink RX0 53 yX0_canBecomeEnough, Cond.instanceMethod yX0_canBecomeEnough, Cond.selects RX0 yX0_canBecomeEnough yX0_canBecomeEnough, Cond.code yX0_canBecomeEnough cX0_canBecomeEnough 4 (some .boolean), Cond.fieldLink RX0 18 "LampChoice$Choice" "gathered" "[I", Cond.fieldLink RX0 127 "LampChoice$Room" "wanted" "[I", Cond.methodLink RX0 57 yX0_tryFrom, Cond.instanceMethod yX0_tryFrom, Cond.selects RX0 yX0_tryFrom yX0_tryFrom, Cond.code yX0_tryFrom cX0_tryFrom 5 none, Cond.fieldLink RX0 115 "LampChoice$Choice" "watts" "I", Cond.fieldLink RX0 21 "LampChoice$Choice" "tried" "[I", Cond.methodLink RX0 107 yX0_weigh, Cond.instanceMethod yX0_weigh, Cond.selects RX0 yX0_weigh yX0_weigh, Cond.code yX0_weigh cX0_weigh 8 none, Cond.methodLink RX0 130 Lib.MathLoose.min_long.x, Cond.static Lib.MathLoose.min_long.x, Cond.code Lib.MathLoose.min_long.x Lib.MathLoose.min_long.code 4 (some .long)]
def wsX0_settle_r4 : List Cond := [Cond.methodLink RX0 133 Lib.MathLoose.max_long.x, Cond.static Lib.MathLoose.max_long.x, Cond.code Lib.MathLoose.max_long.x Lib.MathLoose.max_long.code 4 (some .long), Cond.fieldLink RX0 78 "LampChoice$Choice" "sumOfLevels" "J", Cond.fieldLink RX0 71 "LampChoice$Choice" "leastLevel" "J", Cond.methodLink RX0 121 arraycopyName, Cond.native arraycopyName, Cond.static arraycopyName, Cond.initialized "java/lang/System", Cond.fieldLink RX0 27 "LampChoice$Choice" "levels" "[I", Cond.methodLink RX0 111 yX2_wattsOf, Cond.instanceMethod yX2_wattsOf, Cond.selects RX2 yX2_wattsOf yX2_wattsOf, Cond.code yX2_wattsOf cX2_wattsOf 2 (some .int), Cond.fieldLink RX2 15 "LampChoice$Room" "watts" "[I", Cond.methodLink RX0 118 yX0_gather, Cond.instanceMethod yX0_gather, Cond.selects RX0 yX0_gather yX0_gather, Cond.code yX0_gather cX0_gather 7 none]
def wsX0_settle : List Cond := .code yX0_settle cX0_settle 1 none :: ((wsX0_settle_r1 ++ (wsX0_settle_r2 ++ (wsX0_settle_r3 ++ wsX0_settle_r4))) ++ wsX00 ++ wsX20)
def wsX0_lampLight : List Cond := .code yX0_lampLight cX0_lampLight 4 (some .int) :: ([.fieldLink RX0 24 "LampChoice$Choice" "lamps" "[I", .fieldLink RX0 9 "LampChoice$Choice" "lights" "[I", .methodLink RX0 61 yX0_lightRow, .static yX0_lightRow, .initialized RX0, .code yX0_lightRow cX0_lightRow 2 (some .int)] ++ wsX00)
def wsX0_hasLamps : List Cond := .code yX0_hasLamps cX0_hasLamps 2 (some .boolean) :: ([.fieldLink RX0 30 "LampChoice$Choice" "room" "LLampChoice$Room;", .fieldLink RX0 65 "LampChoice$Room" "places" "I", .fieldLink RX0 24 "LampChoice$Choice" "lamps" "[I"] ++ wsX00 ++ wsX20)
def wsX0_commonDivisor : List Cond := .code yX0_commonDivisor cX0_commonDivisor 11 (some .long) :: ([])
def wsX0_evennessAbove : List Cond := .code yX0_evennessAbove cX0_evennessAbove 3 (some .long) :: ([.fieldLink RX0 71 "LampChoice$Choice" "leastLevel" "J", .fieldLink RX0 30 "LampChoice$Choice" "room" "LLampChoice$Room;", .fieldLink RX0 75 "LampChoice$Room" "points" "I", .fieldLink RX0 78 "LampChoice$Choice" "sumOfLevels" "J", .methodLink RX0 81 yX0_commonDivisor, .static yX0_commonDivisor, .initialized RX0, .code yX0_commonDivisor cX0_commonDivisor 11 (some .long), .static yX4_quotient, .initialized RX4, .code yX4_quotient cX4_quotient 4 (some .long)] ++ wsX00 ++ wsX20)
def wsX0_evennessBelow : List Cond := .code yX0_evennessBelow cX0_evennessBelow 1 (some .long) :: ([.fieldLink RX0 78 "LampChoice$Choice" "sumOfLevels" "J", .fieldLink RX0 71 "LampChoice$Choice" "leastLevel" "J", .fieldLink RX0 30 "LampChoice$Choice" "room" "LLampChoice$Room;", .fieldLink RX0 75 "LampChoice$Room" "points" "I", .methodLink RX0 81 yX0_commonDivisor, .static yX0_commonDivisor, .initialized RX0, .code yX0_commonDivisor cX0_commonDivisor 11 (some .long), .static yX4_quotient, .initialized RX4, .code yX4_quotient cX4_quotient 4 (some .long)] ++ wsX00 ++ wsX20)
def wsX1_init : List Cond := .code yX1_init cX1_init 4 none :: ([.methodLink RX1 3 objectInit, .instanceMethod objectInit, .code objectInit ⟨#[0xb1]⟩ 1 none, .arrayClass .int, .fieldLink RX1 9 "LampChoice$Days" "sensors" "[I", .fieldLink RX1 15 "LampChoice$Days" "daylights" "[I", .fieldLink RX1 18 "LampChoice$Days" "ownLevels" "[I", .fieldLink RX1 21 "LampChoice$Days" "lasted" "[I", .fieldLink RX1 24 "LampChoice$Days" "farthestStep" "I", .fieldLink RX1 28 "LampChoice$Days" "room" "LLampChoice$Room;", .fieldLink RX1 32 "LampChoice$Days" "choice" "LLampChoice$Choice;"] ++ wsX10)
def wsX1_startAnew : List Cond := .code yX1_startAnew cX1_startAnew 1 none :: ([.fieldLink RX1 18 "LampChoice$Days" "ownLevels" "[I", .fieldLink RX1 21 "LampChoice$Days" "lasted" "[I", .methodLink RX1 36 yJ7_fill_53178, .static yJ7_fill_53178, .initialized RJ7, .code yJ7_fill_53178 cJ7_fill_53178 4 none] ++ wsX10)
def wsX1_needOf : List Cond := .code yX1_needOf cX1_needOf 6 (some .int) :: ([.fieldLink RX1 9 "LampChoice$Days" "sensors" "[I", .fieldLink RX1 28 "LampChoice$Days" "room" "LLampChoice$Room;", .fieldLink RX1 78 "LampChoice$Room" "wanted" "[I", .fieldLink RX1 15 "LampChoice$Days" "daylights" "[I", .fieldLink RX1 32 "LampChoice$Days" "choice" "LLampChoice$Choice;", .constantLong RX1 84 (100), .methodLink RX1 90 Lib.MathLoose.min_long.x, .static Lib.MathLoose.min_long.x, .initialized "java/lang/Math", .code Lib.MathLoose.min_long.x Lib.MathLoose.min_long.code 4 (some .long), .methodLink RX1 81 yX0_lampLight, .instanceMethod yX0_lampLight, .selects RX0 yX0_lampLight yX0_lampLight, .initialized RX0, .code yX0_lampLight cX0_lampLight 4 (some .int), .fieldLink RX0 24 "LampChoice$Choice" "lamps" "[I", .fieldLink RX0 9 "LampChoice$Choice" "lights" "[I", .methodLink RX0 61 yX0_lightRow, .static yX0_lightRow, .code yX0_lightRow cX0_lightRow 2 (some .int), .static yX4_quotient, .initialized RX4, .code yX4_quotient cX4_quotient 4 (some .long)] ++ wsX10 ++ wsX20 ++ wsX00)
def wsX1_stepTowards : List Cond := .code yX1_stepTowards cX1_stepTowards 3 (some .int) :: ([.fieldLink RX1 24 "LampChoice$Days" "farthestStep" "I", .methodLink RX1 70 Lib.Math.min.name, .static Lib.Math.min.name, .initialized "java/lang/Math", .code Lib.Math.min.name Lib.Math.min.code 2 (some .int), .methodLink RX1 75 Lib.Math.max.name, .static Lib.Math.max.name, .code Lib.Math.max.name Lib.Math.max.code 2 (some .int)] ++ wsX10)
def wsX1_shine : List Cond := .code yX1_shine cX1_shine 7 none :: ([.fieldLink RX1 32 "LampChoice$Days" "choice" "LLampChoice$Choice;", .fieldLink RX1 47 "LampChoice$Choice" "lamps" "[I", .fieldLink RX1 18 "LampChoice$Days" "ownLevels" "[I", .fieldLink RX1 92 "LampChoice$Days" "wattMinutes" "J", .fieldLink RX1 28 "LampChoice$Days" "room" "LLampChoice$Room;", .fieldLink RX1 96 "LampChoice$Room" "watts" "[I", .fieldLink RX1 99 "LampChoice$Room" "lives" "[I", .fieldLink RX1 21 "LampChoice$Days" "lasted" "[I", .fieldLink RX1 102 "LampChoice$Days" "renewed" "J", .fieldLink RX1 105 "LampChoice$Days" "paid" "J", .fieldLink RX1 108 "LampChoice$Room" "cents" "[I", .static yX4_quotient, .initialized RX4, .code yX4_quotient cX4_quotient 4 (some .long)] ++ wsX10 ++ wsX00 ++ wsX20)
def wsX1_follow_r1 : List Cond := [Cond.fieldLink RX1 18 "LampChoice$Days" "ownLevels" "[I", Cond.methodLink RX1 59 yX1_needOf, Cond.instanceMethod yX1_needOf, Cond.selects RX1 yX1_needOf yX1_needOf, Cond.initialized RX1, Cond.code yX1_needOf cX1_needOf 6 (some .int), Cond.fieldLink RX1 9 "LampChoice$Days" "sensors" "[I", Cond.fieldLink RX1 28 "LampChoice$Days" "room" "LLampChoice$Room;", Cond.fieldLink RX1 78 "LampChoice$Room" "wanted" "[I", Cond.fieldLink RX1 15 "LampChoice$Days" "daylights" "[I", Cond.fieldLink RX1 32 "LampChoice$Days" "choice" "LLampChoice$Choice;", Cond.constantLong RX1 84 (100), Cond.methodLink RX1 90 Lib.MathLoose.min_long.x, Cond.static Lib.MathLoose.min_long.x, Cond.initialized "java/lang/Math", Cond.code Lib.MathLoose.min_long.x Lib.MathLoose.min_long.code 4 (some .long), Cond.methodLink RX1 81 yX0_lampLight, Cond.instanceMethod yX0_lampLight, Cond.selects RX0 yX0_lampLight yX0_lampLight, Cond.initialized RX0, Cond.code yX0_lampLight cX0_lampLight 4 (some .int), Cond.fieldLink RX0 24 "LampChoice$Choice" "lamps" "[I", Cond.fieldLink RX0 9 "LampChoice$Choice" "lights" "[I", Cond.methodLink RX0 61 yX0_lightRow]
def wsX1_follow_r2 : List Cond := [Cond.static yX0_lightRow, Cond.code yX0_lightRow cX0_lightRow 2 (some .int), Cond.static yX4_quotient, Cond.initialized RX4, Cond.code yX4_quotient cX4_quotient 4 (some .long), Cond.methodLink RX1 63 yX1_stepTowards, Cond.instanceMethod yX1_stepTowards, Cond.selects RX1 yX1_stepTowards yX1_stepTowards, Cond.code yX1_stepTowards cX1_stepTowards 3 (some .int), Cond.fieldLink RX1 24 "LampChoice$Days" "farthestStep" "I", Cond.methodLink RX1 70 Lib.Math.min.name, Cond.static Lib.Math.min.name, Cond.code Lib.Math.min.name Lib.Math.min.code 2 (some .int), Cond.methodLink RX1 75 Lib.Math.max.name, Cond.static Lib.Math.max.name, Cond.code Lib.Math.max.name Lib.Math.max.code 2 (some .int), Cond.methodLink RX1 67 yX1_shine, Cond.instanceMethod yX1_shine, Cond.selects RX1 yX1_shine yX1_shine, Cond.code yX1_shine cX1_shine 7 none, Cond.fieldLink RX1 47 "LampChoice$Choice" "lamps" "[I", Cond.fieldLink RX1 92 "LampChoice$Days" "wattMinutes" "J", Cond.fieldLink RX1 96 "LampChoice$Room" "watts" "[I", Cond.fieldLink RX1 99 "LampChoice$Room" "lives" "[I"]
def wsX1_follow_r3 : List Cond := [Cond.fieldLink RX1 21 "LampChoice$Days" "lasted" "[I", Cond.fieldLink RX1 102 "LampChoice$Days" "renewed" "J", Cond.fieldLink RX1 105 "LampChoice$Days" "paid" "J", Cond.fieldLink RX1 108 "LampChoice$Room" "cents" "[I"]
def wsX1_follow : List Cond := .code yX1_follow cX1_follow 5 none :: ((wsX1_follow_r1 ++ (wsX1_follow_r2 ++ wsX1_follow_r3)) ++ wsX10 ++ wsX20 ++ wsX00)
def wsX1_pass_r1 : List Cond := [Cond.fieldLink RX1 28 "LampChoice$Days" "room" "LLampChoice$Room;", Cond.fieldLink RX1 42 "LampChoice$Room" "places" "I", Cond.fieldLink RX1 32 "LampChoice$Days" "choice" "LLampChoice$Choice;", Cond.fieldLink RX1 47 "LampChoice$Choice" "lamps" "[I", Cond.fieldLink RX1 56 "LampChoice$Days" "minutes" "I", Cond.methodLink RX1 52 yX1_follow, Cond.instanceMethod yX1_follow, Cond.selects RX1 yX1_follow yX1_follow, Cond.initialized RX1, Cond.code yX1_follow cX1_follow 5 none, Cond.fieldLink RX1 18 "LampChoice$Days" "ownLevels" "[I", Cond.methodLink RX1 59 yX1_needOf, Cond.instanceMethod yX1_needOf, Cond.selects RX1 yX1_needOf yX1_needOf, Cond.code yX1_needOf cX1_needOf 6 (some .int), Cond.fieldLink RX1 9 "LampChoice$Days" "sensors" "[I", Cond.fieldLink RX1 78 "LampChoice$Room" "wanted" "[I", Cond.fieldLink RX1 15 "LampChoice$Days" "daylights" "[I", Cond.constantLong RX1 84 (100), Cond.methodLink RX1 90 Lib.MathLoose.min_long.x, Cond.static Lib.MathLoose.min_long.x, Cond.initialized "java/lang/Math", Cond.code Lib.MathLoose.min_long.x Lib.MathLoose.min_long.code 4 (some .long), Cond.methodLink RX1 81 yX0_lampLight]
def wsX1_pass_r2 : List Cond := [Cond.instanceMethod yX0_lampLight, Cond.selects RX0 yX0_lampLight yX0_lampLight, Cond.initialized RX0, Cond.code yX0_lampLight cX0_lampLight 4 (some .int), Cond.fieldLink RX0 24 "LampChoice$Choice" "lamps" "[I", Cond.fieldLink RX0 9 "LampChoice$Choice" "lights" "[I", Cond.methodLink RX0 61 yX0_lightRow, Cond.static yX0_lightRow, Cond.code yX0_lightRow cX0_lightRow 2 (some .int), Cond.static yX4_quotient, Cond.initialized RX4, Cond.code yX4_quotient cX4_quotient 4 (some .long), Cond.methodLink RX1 63 yX1_stepTowards, Cond.instanceMethod yX1_stepTowards, Cond.selects RX1 yX1_stepTowards yX1_stepTowards, Cond.code yX1_stepTowards cX1_stepTowards 3 (some .int), Cond.fieldLink RX1 24 "LampChoice$Days" "farthestStep" "I", Cond.methodLink RX1 70 Lib.Math.min.name, Cond.static Lib.Math.min.name, Cond.code Lib.Math.min.name Lib.Math.min.code 2 (some .int), Cond.methodLink RX1 75 Lib.Math.max.name, Cond.static Lib.Math.max.name, Cond.code Lib.Math.max.name Lib.Math.max.code 2 (some .int), Cond.methodLink RX1 67 yX1_shine]
def wsX1_pass_r3 : List Cond := [Cond.instanceMethod yX1_shine, Cond.selects RX1 yX1_shine yX1_shine, Cond.code yX1_shine cX1_shine 7 none, Cond.fieldLink RX1 92 "LampChoice$Days" "wattMinutes" "J", Cond.fieldLink RX1 96 "LampChoice$Room" "watts" "[I", Cond.fieldLink RX1 99 "LampChoice$Room" "lives" "[I", Cond.fieldLink RX1 21 "LampChoice$Days" "lasted" "[I", Cond.fieldLink RX1 102 "LampChoice$Days" "renewed" "J", Cond.fieldLink RX1 105 "LampChoice$Days" "paid" "J", Cond.fieldLink RX1 108 "LampChoice$Room" "cents" "[I"]
def wsX1_pass : List Cond := .code yX1_pass cX1_pass 3 none :: ((wsX1_pass_r1 ++ (wsX1_pass_r2 ++ wsX1_pass_r3)) ++ wsX10 ++ wsX20 ++ wsX00)
def wsX2_init : List Cond := .code yX2_init cX2_init 2 none :: ([.methodLink RX2 3 objectInit, .instanceMethod objectInit, .code objectInit ⟨#[0xb1]⟩ 1 none, .arrayClass .int, .fieldLink RX2 9 "LampChoice$Room" "strengths" "[I", .fieldLink RX2 15 "LampChoice$Room" "watts" "[I", .fieldLink RX2 18 "LampChoice$Room" "lives" "[I", .fieldLink RX2 21 "LampChoice$Room" "cents" "[I", .fieldLink RX2 24 "LampChoice$Room" "placeX" "[I", .fieldLink RX2 27 "LampChoice$Room" "placeY" "[I", .fieldLink RX2 30 "LampChoice$Room" "held" "[I", .fieldLink RX2 33 "LampChoice$Room" "pointX" "[I", .fieldLink RX2 36 "LampChoice$Room" "pointY" "[I", .fieldLink RX2 39 "LampChoice$Room" "wanted" "[I", .fieldLink RX2 42 "LampChoice$Room" "height" "I"] ++ wsX20)
def wsX2_addKind : List Cond := .code yX2_addKind cX2_addKind 6 (some .int) :: ([.fieldLink RX2 46 "LampChoice$Room" "kinds" "I", .fieldLink RX2 9 "LampChoice$Room" "strengths" "[I", .fieldLink RX2 15 "LampChoice$Room" "watts" "[I", .fieldLink RX2 18 "LampChoice$Room" "lives" "[I", .fieldLink RX2 21 "LampChoice$Room" "cents" "[I"] ++ wsX20)
def wsX2_addPlace : List Cond := .code yX2_addPlace cX2_addPlace 4 (some .int) :: ([.fieldLink RX2 49 "LampChoice$Room" "places" "I", .fieldLink RX2 24 "LampChoice$Room" "placeX" "[I", .fieldLink RX2 27 "LampChoice$Room" "placeY" "[I"] ++ wsX20)
def wsX2_addPoint : List Cond := .code yX2_addPoint cX2_addPoint 5 (some .int) :: ([.fieldLink RX2 52 "LampChoice$Room" "points" "I", .fieldLink RX2 33 "LampChoice$Room" "pointX" "[I", .fieldLink RX2 36 "LampChoice$Room" "pointY" "[I", .fieldLink RX2 39 "LampChoice$Room" "wanted" "[I"] ++ wsX20)
def wsX3_init : List Cond := .code yX3_init cX3_init 3 none :: ([.methodLink RX3 3 objectInit, .instanceMethod objectInit, .code objectInit ⟨#[0xb1]⟩ 1 none, .arrayClass .int, .fieldLink RX3 9 "LampChoice$Scenes" "aims" "[I", .fieldLink RX3 15 "LampChoice$Scenes" "dims" "[I", .arrayClass .long, .fieldLink RX3 18 "LampChoice$Scenes" "misses" "[J", .fieldLink RX3 22 "LampChoice$Scenes" "room" "LLampChoice$Room;", .fieldLink RX3 26 "LampChoice$Scenes" "choice" "LLampChoice$Choice;"] ++ wsX30)
def wsX3_changeAim : List Cond := .code yX3_changeAim cX3_changeAim 4 (some .int) :: ([.fieldLink RX3 9 "LampChoice$Scenes" "aims" "[I", .fieldLink RX3 30 "LampChoice$Scenes" "known" "Z"] ++ wsX30)
def wsX3_fittingDim : List Cond := .code yX3_fittingDim cX3_fittingDim 9 (some .int) :: ([.fieldLink RX3 22 "LampChoice$Scenes" "room" "LLampChoice$Room;", .fieldLink RX3 40 "LampChoice$Room" "points" "I", .fieldLink RX3 26 "LampChoice$Scenes" "choice" "LLampChoice$Choice;", .fieldLink RX3 18 "LampChoice$Scenes" "misses" "[J", .fieldLink RX3 15 "LampChoice$Scenes" "dims" "[I", .constantLong RX3 78 (2), .constantLong RX3 46 (100), .methodLink RX3 84 Lib.MathLoose.min_long.x, .static Lib.MathLoose.min_long.x, .initialized "java/lang/Math", .code Lib.MathLoose.min_long.x Lib.MathLoose.min_long.code 4 (some .long), .methodLink RX3 74 yX0_lampLight, .instanceMethod yX0_lampLight, .selects RX0 yX0_lampLight yX0_lampLight, .initialized RX0, .code yX0_lampLight cX0_lampLight 4 (some .int), .fieldLink RX0 24 "LampChoice$Choice" "lamps" "[I", .fieldLink RX0 9 "LampChoice$Choice" "lights" "[I", .methodLink RX0 61 yX0_lightRow, .static yX0_lightRow, .code yX0_lightRow cX0_lightRow 2 (some .int), .static yX4_quotient, .initialized RX4, .code yX4_quotient cX4_quotient 4 (some .long)] ++ wsX30 ++ wsX20 ++ wsX00)
def wsX3_moveTo : List Cond := .code yX3_moveTo cX3_moveTo 6 none :: ([.fieldLink RX3 15 "LampChoice$Scenes" "dims" "[I", .fieldLink RX3 22 "LampChoice$Scenes" "room" "LLampChoice$Room;", .fieldLink RX3 40 "LampChoice$Room" "points" "I", .fieldLink RX3 18 "LampChoice$Scenes" "misses" "[J", .fieldLink RX3 26 "LampChoice$Scenes" "choice" "LLampChoice$Choice;", .methodLink RX3 74 yX0_lampLight, .instanceMethod yX0_lampLight, .selects RX0 yX0_lampLight yX0_lampLight, .initialized RX0, .code yX0_lampLight cX0_lampLight 4 (some .int), .fieldLink RX0 24 "LampChoice$Choice" "lamps" "[I", .fieldLink RX0 9 "LampChoice$Choice" "lights" "[I", .methodLink RX0 61 yX0_lightRow, .static yX0_lightRow, .code yX0_lightRow cX0_lightRow 2 (some .int)] ++ wsX30 ++ wsX20 ++ wsX00)
def wsX3_sweep_r1 : List Cond := [Cond.fieldLink RX3 22 "LampChoice$Scenes" "room" "LLampChoice$Room;", Cond.fieldLink RX3 60 "LampChoice$Room" "places" "I", Cond.fieldLink RX3 26 "LampChoice$Scenes" "choice" "LLampChoice$Choice;", Cond.fieldLink RX3 63 "LampChoice$Choice" "lamps" "[I", Cond.fieldLink RX3 15 "LampChoice$Scenes" "dims" "[I", Cond.methodLink RX3 66 yX3_fittingDim, Cond.instanceMethod yX3_fittingDim, Cond.selects RX3 yX3_fittingDim yX3_fittingDim, Cond.initialized RX3, Cond.code yX3_fittingDim cX3_fittingDim 9 (some .int), Cond.fieldLink RX3 40 "LampChoice$Room" "points" "I", Cond.fieldLink RX3 18 "LampChoice$Scenes" "misses" "[J", Cond.constantLong RX3 78 (2), Cond.constantLong RX3 46 (100), Cond.methodLink RX3 84 Lib.MathLoose.min_long.x, Cond.static Lib.MathLoose.min_long.x, Cond.initialized "java/lang/Math", Cond.code Lib.MathLoose.min_long.x Lib.MathLoose.min_long.code 4 (some .long), Cond.methodLink RX3 74 yX0_lampLight, Cond.instanceMethod yX0_lampLight, Cond.selects RX0 yX0_lampLight yX0_lampLight, Cond.initialized RX0, Cond.code yX0_lampLight cX0_lampLight 4 (some .int), Cond.fieldLink RX0 24 "LampChoice$Choice" "lamps" "[I"]
def wsX3_sweep_r2 : List Cond := [Cond.fieldLink RX0 9 "LampChoice$Choice" "lights" "[I", Cond.methodLink RX0 61 yX0_lightRow, Cond.static yX0_lightRow, Cond.code yX0_lightRow cX0_lightRow 2 (some .int), Cond.static yX4_quotient, Cond.initialized RX4, Cond.code yX4_quotient cX4_quotient 4 (some .long), Cond.methodLink RX3 70 yX3_moveTo, Cond.instanceMethod yX3_moveTo, Cond.selects RX3 yX3_moveTo yX3_moveTo, Cond.code yX3_moveTo cX3_moveTo 6 none]
def wsX3_sweep : List Cond := .code yX3_sweep cX3_sweep 4 (some .boolean) :: ((wsX3_sweep_r1 ++ wsX3_sweep_r2) ++ wsX30 ++ wsX20 ++ wsX00)
def wsX3_settle_r1 : List Cond := [Cond.fieldLink RX3 30 "LampChoice$Scenes" "known" "Z", Cond.fieldLink RX3 15 "LampChoice$Scenes" "dims" "[I", Cond.fieldLink RX3 22 "LampChoice$Scenes" "room" "LLampChoice$Room;", Cond.fieldLink RX3 40 "LampChoice$Room" "points" "I", Cond.fieldLink RX3 18 "LampChoice$Scenes" "misses" "[J", Cond.constantLong RX3 46 (100), Cond.fieldLink RX3 9 "LampChoice$Scenes" "aims" "[I", Cond.fieldLink RX3 48 "LampChoice$Scenes" "sweeps" "I", Cond.fieldLink RX3 26 "LampChoice$Scenes" "choice" "LLampChoice$Choice;", Cond.methodLink RX3 34 yJ7_fill_53178, Cond.static yJ7_fill_53178, Cond.initialized RJ7, Cond.code yJ7_fill_53178 cJ7_fill_53178 4 none, Cond.methodLink RX3 51 yX0_hasLamps, Cond.instanceMethod yX0_hasLamps, Cond.selects RX0 yX0_hasLamps yX0_hasLamps, Cond.initialized RX0, Cond.code yX0_hasLamps cX0_hasLamps 2 (some .boolean), Cond.fieldLink RX0 30 "LampChoice$Choice" "room" "LLampChoice$Room;", Cond.fieldLink RX0 65 "LampChoice$Room" "places" "I", Cond.fieldLink RX0 24 "LampChoice$Choice" "lamps" "[I", Cond.methodLink RX3 57 yX3_sweep, Cond.instanceMethod yX3_sweep, Cond.selects RX3 yX3_sweep yX3_sweep]
def wsX3_settle_r2 : List Cond := [Cond.initialized RX3, Cond.code yX3_sweep cX3_sweep 4 (some .boolean), Cond.fieldLink RX3 60 "LampChoice$Room" "places" "I", Cond.fieldLink RX3 63 "LampChoice$Choice" "lamps" "[I", Cond.methodLink RX3 66 yX3_fittingDim, Cond.instanceMethod yX3_fittingDim, Cond.selects RX3 yX3_fittingDim yX3_fittingDim, Cond.code yX3_fittingDim cX3_fittingDim 9 (some .int), Cond.constantLong RX3 78 (2), Cond.methodLink RX3 84 Lib.MathLoose.min_long.x, Cond.static Lib.MathLoose.min_long.x, Cond.initialized "java/lang/Math", Cond.code Lib.MathLoose.min_long.x Lib.MathLoose.min_long.code 4 (some .long), Cond.methodLink RX3 74 yX0_lampLight, Cond.instanceMethod yX0_lampLight, Cond.selects RX0 yX0_lampLight yX0_lampLight, Cond.code yX0_lampLight cX0_lampLight 4 (some .int), Cond.fieldLink RX0 9 "LampChoice$Choice" "lights" "[I", Cond.methodLink RX0 61 yX0_lightRow, Cond.static yX0_lightRow, Cond.code yX0_lightRow cX0_lightRow 2 (some .int), Cond.static yX4_quotient, Cond.initialized RX4, Cond.code yX4_quotient cX4_quotient 4 (some .long)]
def wsX3_settle_r3 : List Cond := [Cond.methodLink RX3 70 yX3_moveTo, Cond.instanceMethod yX3_moveTo, Cond.selects RX3 yX3_moveTo yX3_moveTo, Cond.code yX3_moveTo cX3_moveTo 6 none]
def wsX3_settle : List Cond := .code yX3_settle cX3_settle 2 none :: ((wsX3_settle_r1 ++ (wsX3_settle_r2 ++ wsX3_settle_r3)) ++ wsX30 ++ wsX20 ++ wsX00)
def wsX4_init_r1 : List Cond := [Cond.methodLink RX4 1 objectInit, Cond.instanceMethod objectInit, Cond.code objectInit ⟨#[0xb1]⟩ 1 none, Cond.classLink RX4 7 RX2, Cond.instantiable RX2 14, Cond.initialized RX2, Cond.classLink RX4 10 RX0, Cond.instantiable RX0 12, Cond.initialized RX0, Cond.fieldLink RX4 15 "LampChoice" "room" "LLampChoice$Room;", Cond.fieldLink RX4 21 "LampChoice" "choice" "LLampChoice$Choice;", Cond.classLink RX4 25 RX3, Cond.instantiable RX3 7, Cond.initialized RX3, Cond.fieldLink RX4 30 "LampChoice" "scenes" "LLampChoice$Scenes;", Cond.classLink RX4 34 RX1, Cond.instantiable RX1 11, Cond.initialized RX1, Cond.fieldLink RX4 37 "LampChoice" "days" "LLampChoice$Days;", Cond.methodLink RX4 9 yX2_init, Cond.instanceMethod yX2_init, Cond.code yX2_init cX2_init 2 none, Cond.methodLink RX2 3 objectInit, Cond.arrayClass .int]
def wsX4_init_r2 : List Cond := [Cond.fieldLink RX2 9 "LampChoice$Room" "strengths" "[I", Cond.fieldLink RX2 15 "LampChoice$Room" "watts" "[I", Cond.fieldLink RX2 18 "LampChoice$Room" "lives" "[I", Cond.fieldLink RX2 21 "LampChoice$Room" "cents" "[I", Cond.fieldLink RX2 24 "LampChoice$Room" "placeX" "[I", Cond.fieldLink RX2 27 "LampChoice$Room" "placeY" "[I", Cond.fieldLink RX2 30 "LampChoice$Room" "held" "[I", Cond.fieldLink RX2 33 "LampChoice$Room" "pointX" "[I", Cond.fieldLink RX2 36 "LampChoice$Room" "pointY" "[I", Cond.fieldLink RX2 39 "LampChoice$Room" "wanted" "[I", Cond.fieldLink RX2 42 "LampChoice$Room" "height" "I", Cond.methodLink RX4 12 yX0_init, Cond.instanceMethod yX0_init, Cond.code yX0_init cX0_init 2 none, Cond.methodLink RX0 3 objectInit, Cond.fieldLink RX0 9 "LampChoice$Choice" "lights" "[I", Cond.fieldLink RX0 15 "LampChoice$Choice" "reach" "[I", Cond.fieldLink RX0 18 "LampChoice$Choice" "gathered" "[I", Cond.fieldLink RX0 21 "LampChoice$Choice" "tried" "[I", Cond.fieldLink RX0 24 "LampChoice$Choice" "lamps" "[I", Cond.fieldLink RX0 27 "LampChoice$Choice" "levels" "[I", Cond.fieldLink RX0 30 "LampChoice$Choice" "room" "LLampChoice$Room;", Cond.methodLink RX4 27 yX3_init, Cond.instanceMethod yX3_init]
def wsX4_init_r3 : List Cond := [Cond.code yX3_init cX3_init 3 none, Cond.methodLink RX3 3 objectInit, Cond.fieldLink RX3 9 "LampChoice$Scenes" "aims" "[I", Cond.fieldLink RX3 15 "LampChoice$Scenes" "dims" "[I", Cond.arrayClass .long, Cond.fieldLink RX3 18 "LampChoice$Scenes" "misses" "[J", Cond.fieldLink RX3 22 "LampChoice$Scenes" "room" "LLampChoice$Room;", Cond.fieldLink RX3 26 "LampChoice$Scenes" "choice" "LLampChoice$Choice;", Cond.methodLink RX4 36 yX1_init, Cond.instanceMethod yX1_init, Cond.code yX1_init cX1_init 4 none, Cond.methodLink RX1 3 objectInit, Cond.fieldLink RX1 9 "LampChoice$Days" "sensors" "[I", Cond.fieldLink RX1 15 "LampChoice$Days" "daylights" "[I", Cond.fieldLink RX1 18 "LampChoice$Days" "ownLevels" "[I", Cond.fieldLink RX1 21 "LampChoice$Days" "lasted" "[I", Cond.fieldLink RX1 24 "LampChoice$Days" "farthestStep" "I", Cond.fieldLink RX1 28 "LampChoice$Days" "room" "LLampChoice$Room;", Cond.fieldLink RX1 32 "LampChoice$Days" "choice" "LLampChoice$Choice;"]
def wsX4_init : List Cond := .code yX4_init cX4_init 3 none :: ((wsX4_init_r1 ++ (wsX4_init_r2 ++ wsX4_init_r3)) ++ wsX20 ++ wsX00 ++ wsX40 ++ wsX30 ++ wsX10)
def wsX4_checkBounds : List Cond := .code yX4_checkBounds cX4_checkBounds 3 none :: ([.classLink RX4 172 "java/lang/IllegalArgumentException", .initialized "java/lang/IllegalArgumentException"] ++ (vx_atS RX4 176 "java/lang/IllegalArgumentException" ["java/lang/RuntimeException", "java/lang/Exception"]).filter goodWord)
def wsX4_checkCount : List Cond := .code yX4_checkCount cX4_checkCount 2 none :: ([.classLink RX4 146 "java/lang/IllegalStateException", .initialized "java/lang/IllegalStateException"] ++ (vx_atS RX4 150 "java/lang/IllegalStateException" ["java/lang/RuntimeException", "java/lang/Exception"]).filter goodWord)
def wsX4_lampsGo : List Cond := .code yX4_lampsGo cX4_lampsGo 1 none :: ([.fieldLink RX4 21 "LampChoice" "choice" "LLampChoice$Choice;", .fieldLink RX4 179 "LampChoice$Choice" "known" "Z", .fieldLink RX4 30 "LampChoice" "scenes" "LLampChoice$Scenes;", .fieldLink RX4 182 "LampChoice$Scenes" "known" "Z", .fieldLink RX4 37 "LampChoice" "days" "LLampChoice$Days;", .methodLink RX4 183 yX1_startAnew, .instanceMethod yX1_startAnew, .selects RX1 yX1_startAnew yX1_startAnew, .initialized RX1, .code yX1_startAnew cX1_startAnew 1 none, .fieldLink RX1 18 "LampChoice$Days" "ownLevels" "[I", .fieldLink RX1 21 "LampChoice$Days" "lasted" "[I", .methodLink RX1 36 yJ7_fill_53178, .static yJ7_fill_53178, .initialized RJ7, .code yJ7_fill_53178 cJ7_fill_53178 4 none] ++ wsX40 ++ wsX00 ++ wsX30 ++ wsX10)
def wsX4_kind_r1 : List Cond := [Cond.constant RX4 45 (100000), Cond.fieldLink RX4 15 "LampChoice" "room" "LLampChoice$Room;", Cond.fieldLink RX4 46 "LampChoice$Room" "kinds" "I", Cond.methodLink RX4 41 yX4_checkBounds, Cond.static yX4_checkBounds, Cond.initialized RX4, Cond.code yX4_checkBounds cX4_checkBounds 3 none, Cond.classLink RX4 172 "java/lang/IllegalArgumentException", Cond.initialized "java/lang/IllegalArgumentException", Cond.methodLink RX4 50 yX4_checkCount, Cond.static yX4_checkCount, Cond.code yX4_checkCount cX4_checkCount 2 none, Cond.classLink RX4 146 "java/lang/IllegalStateException", Cond.initialized "java/lang/IllegalStateException", Cond.methodLink RX4 54 yX2_addKind, Cond.instanceMethod yX2_addKind, Cond.selects RX2 yX2_addKind yX2_addKind, Cond.initialized RX2, Cond.code yX2_addKind cX2_addKind 6 (some .int), Cond.fieldLink RX2 46 "LampChoice$Room" "kinds" "I", Cond.fieldLink RX2 9 "LampChoice$Room" "strengths" "[I", Cond.fieldLink RX2 15 "LampChoice$Room" "watts" "[I", Cond.fieldLink RX2 18 "LampChoice$Room" "lives" "[I", Cond.fieldLink RX2 21 "LampChoice$Room" "cents" "[I"]
def wsX4_kind_r2 : List Cond := [Cond.methodLink RX4 58 yX4_lampsGo, Cond.instanceMethod yX4_lampsGo, Cond.selects RX4 yX4_lampsGo yX4_lampsGo, Cond.code yX4_lampsGo cX4_lampsGo 1 none, Cond.fieldLink RX4 21 "LampChoice" "choice" "LLampChoice$Choice;", Cond.fieldLink RX4 179 "LampChoice$Choice" "known" "Z", Cond.fieldLink RX4 30 "LampChoice" "scenes" "LLampChoice$Scenes;", Cond.fieldLink RX4 182 "LampChoice$Scenes" "known" "Z", Cond.fieldLink RX4 37 "LampChoice" "days" "LLampChoice$Days;", Cond.methodLink RX4 183 yX1_startAnew, Cond.instanceMethod yX1_startAnew, Cond.selects RX1 yX1_startAnew yX1_startAnew, Cond.initialized RX1, Cond.code yX1_startAnew cX1_startAnew 1 none, Cond.fieldLink RX1 18 "LampChoice$Days" "ownLevels" "[I", Cond.fieldLink RX1 21 "LampChoice$Days" "lasted" "[I", Cond.methodLink RX1 36 yJ7_fill_53178, Cond.static yJ7_fill_53178, Cond.initialized RJ7, Cond.code yJ7_fill_53178 cJ7_fill_53178 4 none]
def wsX4_kind : List Cond := .code yX4_kind cX4_kind 6 (some .int) :: ((wsX4_kind_r1 ++ wsX4_kind_r2) ++ wsX40 ++ wsX20 ++ wsX00 ++ wsX30 ++ wsX10 ++ (vx_atS RX4 176 "java/lang/IllegalArgumentException" ["java/lang/RuntimeException", "java/lang/Exception"]).filter goodWord ++ (vx_atS RX4 150 "java/lang/IllegalStateException" ["java/lang/RuntimeException", "java/lang/Exception"]).filter goodWord)
def wsX4_place_r1 : List Cond := [Cond.fieldLink RX4 15 "LampChoice" "room" "LLampChoice$Room;", Cond.fieldLink RX4 61 "LampChoice$Room" "places" "I", Cond.methodLink RX4 41 yX4_checkBounds, Cond.static yX4_checkBounds, Cond.initialized RX4, Cond.code yX4_checkBounds cX4_checkBounds 3 none, Cond.classLink RX4 172 "java/lang/IllegalArgumentException", Cond.initialized "java/lang/IllegalArgumentException", Cond.methodLink RX4 50 yX4_checkCount, Cond.static yX4_checkCount, Cond.code yX4_checkCount cX4_checkCount 2 none, Cond.classLink RX4 146 "java/lang/IllegalStateException", Cond.initialized "java/lang/IllegalStateException", Cond.methodLink RX4 64 yX2_addPlace, Cond.instanceMethod yX2_addPlace, Cond.selects RX2 yX2_addPlace yX2_addPlace, Cond.initialized RX2, Cond.code yX2_addPlace cX2_addPlace 4 (some .int), Cond.fieldLink RX2 49 "LampChoice$Room" "places" "I", Cond.fieldLink RX2 24 "LampChoice$Room" "placeX" "[I", Cond.fieldLink RX2 27 "LampChoice$Room" "placeY" "[I", Cond.methodLink RX4 58 yX4_lampsGo, Cond.instanceMethod yX4_lampsGo, Cond.selects RX4 yX4_lampsGo yX4_lampsGo]
def wsX4_place_r2 : List Cond := [Cond.code yX4_lampsGo cX4_lampsGo 1 none, Cond.fieldLink RX4 21 "LampChoice" "choice" "LLampChoice$Choice;", Cond.fieldLink RX4 179 "LampChoice$Choice" "known" "Z", Cond.fieldLink RX4 30 "LampChoice" "scenes" "LLampChoice$Scenes;", Cond.fieldLink RX4 182 "LampChoice$Scenes" "known" "Z", Cond.fieldLink RX4 37 "LampChoice" "days" "LLampChoice$Days;", Cond.methodLink RX4 183 yX1_startAnew, Cond.instanceMethod yX1_startAnew, Cond.selects RX1 yX1_startAnew yX1_startAnew, Cond.initialized RX1, Cond.code yX1_startAnew cX1_startAnew 1 none, Cond.fieldLink RX1 18 "LampChoice$Days" "ownLevels" "[I", Cond.fieldLink RX1 21 "LampChoice$Days" "lasted" "[I", Cond.methodLink RX1 36 yJ7_fill_53178, Cond.static yJ7_fill_53178, Cond.initialized RJ7, Cond.code yJ7_fill_53178 cJ7_fill_53178 4 none]
def wsX4_place : List Cond := .code yX4_place cX4_place 4 (some .int) :: ((wsX4_place_r1 ++ wsX4_place_r2) ++ wsX40 ++ wsX20 ++ wsX00 ++ wsX30 ++ wsX10 ++ (vx_atS RX4 176 "java/lang/IllegalArgumentException" ["java/lang/RuntimeException", "java/lang/Exception"]).filter goodWord ++ (vx_atS RX4 150 "java/lang/IllegalStateException" ["java/lang/RuntimeException", "java/lang/Exception"]).filter goodWord)
def wsX4_point_r1 : List Cond := [Cond.constant RX4 45 (100000), Cond.fieldLink RX4 15 "LampChoice" "room" "LLampChoice$Room;", Cond.fieldLink RX4 68 "LampChoice$Room" "points" "I", Cond.methodLink RX4 41 yX4_checkBounds, Cond.static yX4_checkBounds, Cond.initialized RX4, Cond.code yX4_checkBounds cX4_checkBounds 3 none, Cond.classLink RX4 172 "java/lang/IllegalArgumentException", Cond.initialized "java/lang/IllegalArgumentException", Cond.methodLink RX4 50 yX4_checkCount, Cond.static yX4_checkCount, Cond.code yX4_checkCount cX4_checkCount 2 none, Cond.classLink RX4 146 "java/lang/IllegalStateException", Cond.initialized "java/lang/IllegalStateException", Cond.methodLink RX4 71 yX2_addPoint, Cond.instanceMethod yX2_addPoint, Cond.selects RX2 yX2_addPoint yX2_addPoint, Cond.initialized RX2, Cond.code yX2_addPoint cX2_addPoint 5 (some .int), Cond.fieldLink RX2 52 "LampChoice$Room" "points" "I", Cond.fieldLink RX2 33 "LampChoice$Room" "pointX" "[I", Cond.fieldLink RX2 36 "LampChoice$Room" "pointY" "[I", Cond.fieldLink RX2 39 "LampChoice$Room" "wanted" "[I", Cond.methodLink RX4 58 yX4_lampsGo]
def wsX4_point_r2 : List Cond := [Cond.instanceMethod yX4_lampsGo, Cond.selects RX4 yX4_lampsGo yX4_lampsGo, Cond.code yX4_lampsGo cX4_lampsGo 1 none, Cond.fieldLink RX4 21 "LampChoice" "choice" "LLampChoice$Choice;", Cond.fieldLink RX4 179 "LampChoice$Choice" "known" "Z", Cond.fieldLink RX4 30 "LampChoice" "scenes" "LLampChoice$Scenes;", Cond.fieldLink RX4 182 "LampChoice$Scenes" "known" "Z", Cond.fieldLink RX4 37 "LampChoice" "days" "LLampChoice$Days;", Cond.methodLink RX4 183 yX1_startAnew, Cond.instanceMethod yX1_startAnew, Cond.selects RX1 yX1_startAnew yX1_startAnew, Cond.initialized RX1, Cond.code yX1_startAnew cX1_startAnew 1 none, Cond.fieldLink RX1 18 "LampChoice$Days" "ownLevels" "[I", Cond.fieldLink RX1 21 "LampChoice$Days" "lasted" "[I", Cond.methodLink RX1 36 yJ7_fill_53178, Cond.static yJ7_fill_53178, Cond.initialized RJ7, Cond.code yJ7_fill_53178 cJ7_fill_53178 4 none]
def wsX4_point : List Cond := .code yX4_point cX4_point 5 (some .int) :: ((wsX4_point_r1 ++ wsX4_point_r2) ++ wsX40 ++ wsX20 ++ wsX00 ++ wsX30 ++ wsX10 ++ (vx_atS RX4 176 "java/lang/IllegalArgumentException" ["java/lang/RuntimeException", "java/lang/Exception"]).filter goodWord ++ (vx_atS RX4 150 "java/lang/IllegalStateException" ["java/lang/RuntimeException", "java/lang/Exception"]).filter goodWord)
def wsX4_height_r1 : List Cond := [Cond.fieldLink RX4 15 "LampChoice" "room" "LLampChoice$Room;", Cond.fieldLink RX4 75 "LampChoice$Room" "height" "I", Cond.methodLink RX4 41 yX4_checkBounds, Cond.static yX4_checkBounds, Cond.initialized RX4, Cond.code yX4_checkBounds cX4_checkBounds 3 none, Cond.classLink RX4 172 "java/lang/IllegalArgumentException", Cond.initialized "java/lang/IllegalArgumentException", Cond.methodLink RX4 58 yX4_lampsGo, Cond.instanceMethod yX4_lampsGo, Cond.selects RX4 yX4_lampsGo yX4_lampsGo, Cond.code yX4_lampsGo cX4_lampsGo 1 none, Cond.fieldLink RX4 21 "LampChoice" "choice" "LLampChoice$Choice;", Cond.fieldLink RX4 179 "LampChoice$Choice" "known" "Z", Cond.fieldLink RX4 30 "LampChoice" "scenes" "LLampChoice$Scenes;", Cond.fieldLink RX4 182 "LampChoice$Scenes" "known" "Z", Cond.fieldLink RX4 37 "LampChoice" "days" "LLampChoice$Days;", Cond.methodLink RX4 183 yX1_startAnew, Cond.instanceMethod yX1_startAnew, Cond.selects RX1 yX1_startAnew yX1_startAnew, Cond.initialized RX1, Cond.code yX1_startAnew cX1_startAnew 1 none, Cond.fieldLink RX1 18 "LampChoice$Days" "ownLevels" "[I", Cond.fieldLink RX1 21 "LampChoice$Days" "lasted" "[I"]
def wsX4_height_r2 : List Cond := [Cond.methodLink RX1 36 yJ7_fill_53178, Cond.static yJ7_fill_53178, Cond.initialized RJ7, Cond.code yJ7_fill_53178 cJ7_fill_53178 4 none]
def wsX4_height : List Cond := .code yX4_height cX4_height 3 (some .int) :: ((wsX4_height_r1 ++ wsX4_height_r2) ++ wsX40 ++ wsX20 ++ wsX00 ++ wsX30 ++ wsX10 ++ (vx_atS RX4 176 "java/lang/IllegalArgumentException" ["java/lang/RuntimeException", "java/lang/Exception"]).filter goodWord)
def wsX4_checkPlace : List Cond := .code yX4_checkPlace cX4_checkPlace 2 none :: ([.fieldLink RX4 15 "LampChoice" "room" "LLampChoice$Room;", .fieldLink RX4 61 "LampChoice$Room" "places" "I", .methodLink RX4 41 yX4_checkBounds, .static yX4_checkBounds, .initialized RX4, .code yX4_checkBounds cX4_checkBounds 3 none, .classLink RX4 172 "java/lang/IllegalArgumentException", .initialized "java/lang/IllegalArgumentException"] ++ wsX40 ++ wsX20 ++ (vx_atS RX4 176 "java/lang/IllegalArgumentException" ["java/lang/RuntimeException", "java/lang/Exception"]).filter goodWord)
def wsX4_hold_r1 : List Cond := [Cond.fieldLink RX4 15 "LampChoice" "room" "LLampChoice$Room;", Cond.fieldLink RX4 46 "LampChoice$Room" "kinds" "I", Cond.fieldLink RX4 82 "LampChoice$Room" "held" "[I", Cond.methodLink RX4 78 yX4_checkPlace, Cond.instanceMethod yX4_checkPlace, Cond.selects RX4 yX4_checkPlace yX4_checkPlace, Cond.initialized RX4, Cond.code yX4_checkPlace cX4_checkPlace 2 none, Cond.fieldLink RX4 61 "LampChoice$Room" "places" "I", Cond.methodLink RX4 41 yX4_checkBounds, Cond.static yX4_checkBounds, Cond.code yX4_checkBounds cX4_checkBounds 3 none, Cond.classLink RX4 172 "java/lang/IllegalArgumentException", Cond.initialized "java/lang/IllegalArgumentException", Cond.methodLink RX4 58 yX4_lampsGo, Cond.instanceMethod yX4_lampsGo, Cond.selects RX4 yX4_lampsGo yX4_lampsGo, Cond.code yX4_lampsGo cX4_lampsGo 1 none, Cond.fieldLink RX4 21 "LampChoice" "choice" "LLampChoice$Choice;", Cond.fieldLink RX4 179 "LampChoice$Choice" "known" "Z", Cond.fieldLink RX4 30 "LampChoice" "scenes" "LLampChoice$Scenes;", Cond.fieldLink RX4 182 "LampChoice$Scenes" "known" "Z", Cond.fieldLink RX4 37 "LampChoice" "days" "LLampChoice$Days;", Cond.methodLink RX4 183 yX1_startAnew]
def wsX4_hold_r2 : List Cond := [Cond.instanceMethod yX1_startAnew, Cond.selects RX1 yX1_startAnew yX1_startAnew, Cond.initialized RX1, Cond.code yX1_startAnew cX1_startAnew 1 none, Cond.fieldLink RX1 18 "LampChoice$Days" "ownLevels" "[I", Cond.fieldLink RX1 21 "LampChoice$Days" "lasted" "[I", Cond.methodLink RX1 36 yJ7_fill_53178, Cond.static yJ7_fill_53178, Cond.initialized RJ7, Cond.code yJ7_fill_53178 cJ7_fill_53178 4 none]
def wsX4_hold : List Cond := .code yX4_hold cX4_hold 3 none :: ((wsX4_hold_r1 ++ wsX4_hold_r2) ++ wsX40 ++ wsX20 ++ wsX00 ++ wsX30 ++ wsX10 ++ (vx_atS RX4 176 "java/lang/IllegalArgumentException" ["java/lang/RuntimeException", "java/lang/Exception"]).filter goodWord)
def wsX4_checkPoint : List Cond := .code yX4_checkPoint cX4_checkPoint 2 none :: ([.fieldLink RX4 15 "LampChoice" "room" "LLampChoice$Room;", .fieldLink RX4 68 "LampChoice$Room" "points" "I", .methodLink RX4 41 yX4_checkBounds, .static yX4_checkBounds, .initialized RX4, .code yX4_checkBounds cX4_checkBounds 3 none, .classLink RX4 172 "java/lang/IllegalArgumentException", .initialized "java/lang/IllegalArgumentException"] ++ wsX40 ++ wsX20 ++ (vx_atS RX4 176 "java/lang/IllegalArgumentException" ["java/lang/RuntimeException", "java/lang/Exception"]).filter goodWord)
def wsX4_light_r1 : List Cond := [Cond.fieldLink RX4 15 "LampChoice" "room" "LLampChoice$Room;", Cond.fieldLink RX4 46 "LampChoice$Room" "kinds" "I", Cond.methodLink RX4 41 yX4_checkBounds, Cond.static yX4_checkBounds, Cond.initialized RX4, Cond.code yX4_checkBounds cX4_checkBounds 3 none, Cond.classLink RX4 172 "java/lang/IllegalArgumentException", Cond.initialized "java/lang/IllegalArgumentException", Cond.methodLink RX4 78 yX4_checkPlace, Cond.instanceMethod yX4_checkPlace, Cond.selects RX4 yX4_checkPlace yX4_checkPlace, Cond.code yX4_checkPlace cX4_checkPlace 2 none, Cond.fieldLink RX4 61 "LampChoice$Room" "places" "I", Cond.methodLink RX4 86 yX4_checkPoint, Cond.instanceMethod yX4_checkPoint, Cond.selects RX4 yX4_checkPoint yX4_checkPoint, Cond.code yX4_checkPoint cX4_checkPoint 2 none, Cond.fieldLink RX4 68 "LampChoice$Room" "points" "I", Cond.methodLink RX4 89 yX2_lightOf, Cond.instanceMethod yX2_lightOf, Cond.selects RX2 yX2_lightOf yX2_lightOf, Cond.initialized RX2, Cond.code yX2_lightOf cX2_lightOf 6 (some .int), Cond.fieldLink RX2 24 "LampChoice$Room" "placeX" "[I"]
def wsX4_light_r2 : List Cond := [Cond.fieldLink RX2 33 "LampChoice$Room" "pointX" "[I", Cond.fieldLink RX2 27 "LampChoice$Room" "placeY" "[I", Cond.fieldLink RX2 36 "LampChoice$Room" "pointY" "[I", Cond.constantLong RX2 55 (1000), Cond.fieldLink RX2 9 "LampChoice$Room" "strengths" "[I", Cond.fieldLink RX2 42 "LampChoice$Room" "height" "I", Cond.static yX4_quotient, Cond.code yX4_quotient cX4_quotient 4 (some .long)]
def wsX4_light : List Cond := .code yX4_light cX4_light 4 (some .int) :: ((wsX4_light_r1 ++ wsX4_light_r2) ++ wsX40 ++ wsX20 ++ (vx_atS RX4 176 "java/lang/IllegalArgumentException" ["java/lang/RuntimeException", "java/lang/Exception"]).filter goodWord)
def wsX4_best_r1 : List Cond := [Cond.fieldLink RX4 21 "LampChoice" "choice" "LLampChoice$Choice;", Cond.fieldLink RX4 95 "LampChoice$Choice" "found" "Z", Cond.fieldLink RX4 99 "LampChoice$Choice" "watts" "I", Cond.methodLink RX4 92 yX0_settle, Cond.instanceMethod yX0_settle, Cond.selects RX0 yX0_settle yX0_settle, Cond.initialized RX0, Cond.code yX0_settle cX0_settle 1 none, Cond.fieldLink RX0 34 "LampChoice$Choice" "known" "Z", Cond.fieldLink RX0 38 "LampChoice$Choice" "found" "Z", Cond.fieldLink RX0 24 "LampChoice$Choice" "lamps" "[I", Cond.methodLink RX0 41 yJ7_fill_53178, Cond.static yJ7_fill_53178, Cond.initialized RJ7, Cond.code yJ7_fill_53178 cJ7_fill_53178 4 none, Cond.methodLink RX0 47 yX0_fillLights, Cond.instanceMethod yX0_fillLights, Cond.selects RX0 yX0_fillLights yX0_fillLights, Cond.code yX0_fillLights cX0_fillLights 5 none, Cond.fieldLink RX0 30 "LampChoice$Choice" "room" "LLampChoice$Room;", Cond.fieldLink RX0 65 "LampChoice$Room" "places" "I", Cond.fieldLink RX0 88 "LampChoice$Room" "kinds" "I", Cond.fieldLink RX0 75 "LampChoice$Room" "points" "I", Cond.fieldLink RX0 9 "LampChoice$Choice" "lights" "[I"]
def wsX4_best_r2 : List Cond := [Cond.methodLink RX0 61 yX0_lightRow, Cond.static yX0_lightRow, Cond.code yX0_lightRow cX0_lightRow 2 (some .int), Cond.methodLink RX0 91 yX2_lightOf, Cond.instanceMethod yX2_lightOf, Cond.selects RX2 yX2_lightOf yX2_lightOf, Cond.initialized RX2, Cond.code yX2_lightOf cX2_lightOf 6 (some .int), Cond.fieldLink RX2 24 "LampChoice$Room" "placeX" "[I", Cond.fieldLink RX2 33 "LampChoice$Room" "pointX" "[I", Cond.fieldLink RX2 27 "LampChoice$Room" "placeY" "[I", Cond.fieldLink RX2 36 "LampChoice$Room" "pointY" "[I", Cond.constantLong RX2 55 (1000), Cond.fieldLink RX2 9 "LampChoice$Room" "strengths" "[I", Cond.fieldLink RX2 42 "LampChoice$Room" "height" "I", Cond.static yX4_quotient, Cond.initialized RX4, Cond.code yX4_quotient cX4_quotient 4 (some .long), Cond.methodLink RX0 50 yX0_fillReach, Cond.instanceMethod yX0_fillReach, Cond.selects RX0 yX0_fillReach yX0_fillReach, Cond.code yX0_fillReach cX0_fillReach 4 none, Cond.fieldLink RX0 15 "LampChoice$Choice" "reach" "[I", Cond.methodLink RX0 95 yX0_mostLight]
def wsX4_best_r3 : List Cond := [Cond.instanceMethod yX0_mostLight, Cond.selects RX0 yX0_mostLight yX0_mostLight, Cond.code yX0_mostLight cX0_mostLight 5 (some .int), Cond.methodLink RX0 102 Lib.Math.max.name, Cond.static Lib.Math.max.name, Cond.initialized "java/lang/Math", Cond.code Lib.Math.max.name Lib.Math.max.code 2 (some .int), Cond.methodLink RX0 98 yX2_mayHave, Cond.instanceMethod yX2_mayHave, Cond.selects RX2 yX2_mayHave yX2_mayHave, Cond.code yX2_mayHave cX2_mayHave 3 (some .boolean), Cond.fieldLink RX2 30 "LampChoice$Room" "held" "[I", Cond.methodLink RX0 53 yX0_canBecomeEnough, Cond.instanceMethod yX0_canBecomeEnough, Cond.selects RX0 yX0_canBecomeEnough yX0_canBecomeEnough, Cond.code yX0_canBecomeEnough cX0_canBecomeEnough 4 (some .boolean), Cond.fieldLink RX0 18 "LampChoice$Choice" "gathered" "[I", Cond.fieldLink RX0 127 "LampChoice$Room" "wanted" "[I", Cond.methodLink RX0 57 yX0_tryFrom, Cond.instanceMethod yX0_tryFrom, Cond.selects RX0 yX0_tryFrom yX0_tryFrom, Cond.code yX0_tryFrom cX0_tryFrom 5 none, Cond.fieldLink RX0 115 "LampChoice$Choice" "watts" "I", Cond.fieldLink RX0 21 "LampChoice$Choice" "tried" "[I"]
def wsX4_best_r4 : List Cond := [Cond.methodLink RX0 107 yX0_weigh, Cond.instanceMethod yX0_weigh, Cond.selects RX0 yX0_weigh yX0_weigh, Cond.code yX0_weigh cX0_weigh 8 none, Cond.methodLink RX0 130 Lib.MathLoose.min_long.x, Cond.static Lib.MathLoose.min_long.x, Cond.code Lib.MathLoose.min_long.x Lib.MathLoose.min_long.code 4 (some .long), Cond.methodLink RX0 133 Lib.MathLoose.max_long.x, Cond.static Lib.MathLoose.max_long.x, Cond.code Lib.MathLoose.max_long.x Lib.MathLoose.max_long.code 4 (some .long), Cond.fieldLink RX0 78 "LampChoice$Choice" "sumOfLevels" "J", Cond.fieldLink RX0 71 "LampChoice$Choice" "leastLevel" "J", Cond.methodLink RX0 121 arraycopyName, Cond.native arraycopyName, Cond.static arraycopyName, Cond.initialized "java/lang/System", Cond.fieldLink RX0 27 "LampChoice$Choice" "levels" "[I", Cond.methodLink RX0 111 yX2_wattsOf, Cond.instanceMethod yX2_wattsOf, Cond.selects RX2 yX2_wattsOf yX2_wattsOf, Cond.code yX2_wattsOf cX2_wattsOf 2 (some .int), Cond.fieldLink RX2 15 "LampChoice$Room" "watts" "[I", Cond.methodLink RX0 118 yX0_gather, Cond.instanceMethod yX0_gather]
def wsX4_best_r5 : List Cond := [Cond.selects RX0 yX0_gather yX0_gather, Cond.code yX0_gather cX0_gather 7 none]
def wsX4_best : List Cond := .code yX4_best cX4_best 1 (some .int) :: ((wsX4_best_r1 ++ (wsX4_best_r2 ++ (wsX4_best_r3 ++ (wsX4_best_r4 ++ wsX4_best_r5)))) ++ wsX40 ++ wsX00 ++ wsX20)
def wsX4_lamp_r1 : List Cond := [Cond.fieldLink RX4 21 "LampChoice" "choice" "LLampChoice$Choice;", Cond.fieldLink RX4 95 "LampChoice$Choice" "found" "Z", Cond.fieldLink RX4 102 "LampChoice$Choice" "lamps" "[I", Cond.methodLink RX4 78 yX4_checkPlace, Cond.instanceMethod yX4_checkPlace, Cond.selects RX4 yX4_checkPlace yX4_checkPlace, Cond.initialized RX4, Cond.code yX4_checkPlace cX4_checkPlace 2 none, Cond.fieldLink RX4 15 "LampChoice" "room" "LLampChoice$Room;", Cond.fieldLink RX4 61 "LampChoice$Room" "places" "I", Cond.methodLink RX4 41 yX4_checkBounds, Cond.static yX4_checkBounds, Cond.code yX4_checkBounds cX4_checkBounds 3 none, Cond.classLink RX4 172 "java/lang/IllegalArgumentException", Cond.initialized "java/lang/IllegalArgumentException", Cond.methodLink RX4 92 yX0_settle, Cond.instanceMethod yX0_settle, Cond.selects RX0 yX0_settle yX0_settle, Cond.initialized RX0, Cond.code yX0_settle cX0_settle 1 none, Cond.fieldLink RX0 34 "LampChoice$Choice" "known" "Z", Cond.fieldLink RX0 38 "LampChoice$Choice" "found" "Z", Cond.fieldLink RX0 24 "LampChoice$Choice" "lamps" "[I", Cond.methodLink RX0 41 yJ7_fill_53178]
def wsX4_lamp_r2 : List Cond := [Cond.static yJ7_fill_53178, Cond.initialized RJ7, Cond.code yJ7_fill_53178 cJ7_fill_53178 4 none, Cond.methodLink RX0 47 yX0_fillLights, Cond.instanceMethod yX0_fillLights, Cond.selects RX0 yX0_fillLights yX0_fillLights, Cond.code yX0_fillLights cX0_fillLights 5 none, Cond.fieldLink RX0 30 "LampChoice$Choice" "room" "LLampChoice$Room;", Cond.fieldLink RX0 65 "LampChoice$Room" "places" "I", Cond.fieldLink RX0 88 "LampChoice$Room" "kinds" "I", Cond.fieldLink RX0 75 "LampChoice$Room" "points" "I", Cond.fieldLink RX0 9 "LampChoice$Choice" "lights" "[I", Cond.methodLink RX0 61 yX0_lightRow, Cond.static yX0_lightRow, Cond.code yX0_lightRow cX0_lightRow 2 (some .int), Cond.methodLink RX0 91 yX2_lightOf, Cond.instanceMethod yX2_lightOf, Cond.selects RX2 yX2_lightOf yX2_lightOf, Cond.initialized RX2, Cond.code yX2_lightOf cX2_lightOf 6 (some .int), Cond.fieldLink RX2 24 "LampChoice$Room" "placeX" "[I", Cond.fieldLink RX2 33 "LampChoice$Room" "pointX" "[I", Cond.fieldLink RX2 27 "LampChoice$Room" "placeY" "[I", Cond.fieldLink RX2 36 "LampChoice$Room" "pointY" "[I"]
def wsX4_lamp_r3 : List Cond := [Cond.constantLong RX2 55 (1000), Cond.fieldLink RX2 9 "LampChoice$Room" "strengths" "[I", Cond.fieldLink RX2 42 "LampChoice$Room" "height" "I", Cond.static yX4_quotient, Cond.code yX4_quotient cX4_quotient 4 (some .long), Cond.methodLink RX0 50 yX0_fillReach, Cond.instanceMethod yX0_fillReach, Cond.selects RX0 yX0_fillReach yX0_fillReach, Cond.code yX0_fillReach cX0_fillReach 4 none, Cond.fieldLink RX0 15 "LampChoice$Choice" "reach" "[I", Cond.methodLink RX0 95 yX0_mostLight, Cond.instanceMethod yX0_mostLight, Cond.selects RX0 yX0_mostLight yX0_mostLight, Cond.code yX0_mostLight cX0_mostLight 5 (some .int), Cond.methodLink RX0 102 Lib.Math.max.name, Cond.static Lib.Math.max.name, Cond.initialized "java/lang/Math", Cond.code Lib.Math.max.name Lib.Math.max.code 2 (some .int), Cond.methodLink RX0 98 yX2_mayHave, Cond.instanceMethod yX2_mayHave, Cond.selects RX2 yX2_mayHave yX2_mayHave, Cond.code yX2_mayHave cX2_mayHave 3 (some .boolean), Cond.fieldLink RX2 30 "LampChoice$Room" "held" "[I", Cond.methodLink RX0 53 yX0_canBecomeEnough]
def wsX4_lamp_r4 : List Cond := [Cond.instanceMethod yX0_canBecomeEnough, Cond.selects RX0 yX0_canBecomeEnough yX0_canBecomeEnough, Cond.code yX0_canBecomeEnough cX0_canBecomeEnough 4 (some .boolean), Cond.fieldLink RX0 18 "LampChoice$Choice" "gathered" "[I", Cond.fieldLink RX0 127 "LampChoice$Room" "wanted" "[I", Cond.methodLink RX0 57 yX0_tryFrom, Cond.instanceMethod yX0_tryFrom, Cond.selects RX0 yX0_tryFrom yX0_tryFrom, Cond.code yX0_tryFrom cX0_tryFrom 5 none, Cond.fieldLink RX0 115 "LampChoice$Choice" "watts" "I", Cond.fieldLink RX0 21 "LampChoice$Choice" "tried" "[I", Cond.methodLink RX0 107 yX0_weigh, Cond.instanceMethod yX0_weigh, Cond.selects RX0 yX0_weigh yX0_weigh, Cond.code yX0_weigh cX0_weigh 8 none, Cond.methodLink RX0 130 Lib.MathLoose.min_long.x, Cond.static Lib.MathLoose.min_long.x, Cond.code Lib.MathLoose.min_long.x Lib.MathLoose.min_long.code 4 (some .long), Cond.methodLink RX0 133 Lib.MathLoose.max_long.x, Cond.static Lib.MathLoose.max_long.x, Cond.code Lib.MathLoose.max_long.x Lib.MathLoose.max_long.code 4 (some .long), Cond.fieldLink RX0 78 "LampChoice$Choice" "sumOfLevels" "J", Cond.fieldLink RX0 71 "LampChoice$Choice" "leastLevel" "J", Cond.methodLink RX0 121 arraycopyName]
def wsX4_lamp_r5 : List Cond := [Cond.native arraycopyName, Cond.static arraycopyName, Cond.initialized "java/lang/System", Cond.fieldLink RX0 27 "LampChoice$Choice" "levels" "[I", Cond.methodLink RX0 111 yX2_wattsOf, Cond.instanceMethod yX2_wattsOf, Cond.selects RX2 yX2_wattsOf yX2_wattsOf, Cond.code yX2_wattsOf cX2_wattsOf 2 (some .int), Cond.fieldLink RX2 15 "LampChoice$Room" "watts" "[I", Cond.methodLink RX0 118 yX0_gather, Cond.instanceMethod yX0_gather, Cond.selects RX0 yX0_gather yX0_gather, Cond.code yX0_gather cX0_gather 7 none]
def wsX4_lamp : List Cond := .code yX4_lamp cX4_lamp 2 (some .int) :: ((wsX4_lamp_r1 ++ (wsX4_lamp_r2 ++ (wsX4_lamp_r3 ++ (wsX4_lamp_r4 ++ wsX4_lamp_r5)))) ++ wsX40 ++ wsX00 ++ wsX20 ++ (vx_atS RX4 176 "java/lang/IllegalArgumentException" ["java/lang/RuntimeException", "java/lang/Exception"]).filter goodWord)
def wsX4_level_r1 : List Cond := [Cond.fieldLink RX4 21 "LampChoice" "choice" "LLampChoice$Choice;", Cond.fieldLink RX4 95 "LampChoice$Choice" "found" "Z", Cond.fieldLink RX4 105 "LampChoice$Choice" "levels" "[I", Cond.methodLink RX4 86 yX4_checkPoint, Cond.instanceMethod yX4_checkPoint, Cond.selects RX4 yX4_checkPoint yX4_checkPoint, Cond.initialized RX4, Cond.code yX4_checkPoint cX4_checkPoint 2 none, Cond.fieldLink RX4 15 "LampChoice" "room" "LLampChoice$Room;", Cond.fieldLink RX4 68 "LampChoice$Room" "points" "I", Cond.methodLink RX4 41 yX4_checkBounds, Cond.static yX4_checkBounds, Cond.code yX4_checkBounds cX4_checkBounds 3 none, Cond.classLink RX4 172 "java/lang/IllegalArgumentException", Cond.initialized "java/lang/IllegalArgumentException", Cond.methodLink RX4 92 yX0_settle, Cond.instanceMethod yX0_settle, Cond.selects RX0 yX0_settle yX0_settle, Cond.initialized RX0, Cond.code yX0_settle cX0_settle 1 none, Cond.fieldLink RX0 34 "LampChoice$Choice" "known" "Z", Cond.fieldLink RX0 38 "LampChoice$Choice" "found" "Z", Cond.fieldLink RX0 24 "LampChoice$Choice" "lamps" "[I", Cond.methodLink RX0 41 yJ7_fill_53178]
def wsX4_level_r2 : List Cond := [Cond.static yJ7_fill_53178, Cond.initialized RJ7, Cond.code yJ7_fill_53178 cJ7_fill_53178 4 none, Cond.methodLink RX0 47 yX0_fillLights, Cond.instanceMethod yX0_fillLights, Cond.selects RX0 yX0_fillLights yX0_fillLights, Cond.code yX0_fillLights cX0_fillLights 5 none, Cond.fieldLink RX0 30 "LampChoice$Choice" "room" "LLampChoice$Room;", Cond.fieldLink RX0 65 "LampChoice$Room" "places" "I", Cond.fieldLink RX0 88 "LampChoice$Room" "kinds" "I", Cond.fieldLink RX0 75 "LampChoice$Room" "points" "I", Cond.fieldLink RX0 9 "LampChoice$Choice" "lights" "[I", Cond.methodLink RX0 61 yX0_lightRow, Cond.static yX0_lightRow, Cond.code yX0_lightRow cX0_lightRow 2 (some .int), Cond.methodLink RX0 91 yX2_lightOf, Cond.instanceMethod yX2_lightOf, Cond.selects RX2 yX2_lightOf yX2_lightOf, Cond.initialized RX2, Cond.code yX2_lightOf cX2_lightOf 6 (some .int), Cond.fieldLink RX2 24 "LampChoice$Room" "placeX" "[I", Cond.fieldLink RX2 33 "LampChoice$Room" "pointX" "[I", Cond.fieldLink RX2 27 "LampChoice$Room" "placeY" "[I", Cond.fieldLink RX2 36 "LampChoice$Room" "pointY" "[I"]
def wsX4_level_r3 : List Cond := [Cond.constantLong RX2 55 (1000), Cond.fieldLink RX2 9 "LampChoice$Room" "strengths" "[I", Cond.fieldLink RX2 42 "LampChoice$Room" "height" "I", Cond.static yX4_quotient, Cond.code yX4_quotient cX4_quotient 4 (some .long), Cond.methodLink RX0 50 yX0_fillReach, Cond.instanceMethod yX0_fillReach, Cond.selects RX0 yX0_fillReach yX0_fillReach, Cond.code yX0_fillReach cX0_fillReach 4 none, Cond.fieldLink RX0 15 "LampChoice$Choice" "reach" "[I", Cond.methodLink RX0 95 yX0_mostLight, Cond.instanceMethod yX0_mostLight, Cond.selects RX0 yX0_mostLight yX0_mostLight, Cond.code yX0_mostLight cX0_mostLight 5 (some .int), Cond.methodLink RX0 102 Lib.Math.max.name, Cond.static Lib.Math.max.name, Cond.initialized "java/lang/Math", Cond.code Lib.Math.max.name Lib.Math.max.code 2 (some .int), Cond.methodLink RX0 98 yX2_mayHave, Cond.instanceMethod yX2_mayHave, Cond.selects RX2 yX2_mayHave yX2_mayHave, Cond.code yX2_mayHave cX2_mayHave 3 (some .boolean), Cond.fieldLink RX2 30 "LampChoice$Room" "held" "[I", Cond.methodLink RX0 53 yX0_canBecomeEnough]
def wsX4_level_r4 : List Cond := [Cond.instanceMethod yX0_canBecomeEnough, Cond.selects RX0 yX0_canBecomeEnough yX0_canBecomeEnough, Cond.code yX0_canBecomeEnough cX0_canBecomeEnough 4 (some .boolean), Cond.fieldLink RX0 18 "LampChoice$Choice" "gathered" "[I", Cond.fieldLink RX0 127 "LampChoice$Room" "wanted" "[I", Cond.methodLink RX0 57 yX0_tryFrom, Cond.instanceMethod yX0_tryFrom, Cond.selects RX0 yX0_tryFrom yX0_tryFrom, Cond.code yX0_tryFrom cX0_tryFrom 5 none, Cond.fieldLink RX0 115 "LampChoice$Choice" "watts" "I", Cond.fieldLink RX0 21 "LampChoice$Choice" "tried" "[I", Cond.methodLink RX0 107 yX0_weigh, Cond.instanceMethod yX0_weigh, Cond.selects RX0 yX0_weigh yX0_weigh, Cond.code yX0_weigh cX0_weigh 8 none, Cond.methodLink RX0 130 Lib.MathLoose.min_long.x, Cond.static Lib.MathLoose.min_long.x, Cond.code Lib.MathLoose.min_long.x Lib.MathLoose.min_long.code 4 (some .long), Cond.methodLink RX0 133 Lib.MathLoose.max_long.x, Cond.static Lib.MathLoose.max_long.x, Cond.code Lib.MathLoose.max_long.x Lib.MathLoose.max_long.code 4 (some .long), Cond.fieldLink RX0 78 "LampChoice$Choice" "sumOfLevels" "J", Cond.fieldLink RX0 71 "LampChoice$Choice" "leastLevel" "J", Cond.methodLink RX0 121 arraycopyName]
def wsX4_level_r5 : List Cond := [Cond.native arraycopyName, Cond.static arraycopyName, Cond.initialized "java/lang/System", Cond.fieldLink RX0 27 "LampChoice$Choice" "levels" "[I", Cond.methodLink RX0 111 yX2_wattsOf, Cond.instanceMethod yX2_wattsOf, Cond.selects RX2 yX2_wattsOf yX2_wattsOf, Cond.code yX2_wattsOf cX2_wattsOf 2 (some .int), Cond.fieldLink RX2 15 "LampChoice$Room" "watts" "[I", Cond.methodLink RX0 118 yX0_gather, Cond.instanceMethod yX0_gather, Cond.selects RX0 yX0_gather yX0_gather, Cond.code yX0_gather cX0_gather 7 none]
def wsX4_level : List Cond := .code yX4_level cX4_level 2 (some .int) :: ((wsX4_level_r1 ++ (wsX4_level_r2 ++ (wsX4_level_r3 ++ (wsX4_level_r4 ++ wsX4_level_r5)))) ++ wsX40 ++ wsX00 ++ wsX20 ++ (vx_atS RX4 176 "java/lang/IllegalArgumentException" ["java/lang/RuntimeException", "java/lang/Exception"]).filter goodWord)
def wsX4_even_r1 : List Cond := [Cond.fieldLink RX4 21 "LampChoice" "choice" "LLampChoice$Choice;", Cond.fieldLink RX4 95 "LampChoice$Choice" "found" "Z", Cond.constantLong RX4 108 (-2), Cond.methodLink RX4 41 yX4_checkBounds, Cond.static yX4_checkBounds, Cond.initialized RX4, Cond.code yX4_checkBounds cX4_checkBounds 3 none, Cond.classLink RX4 172 "java/lang/IllegalArgumentException", Cond.initialized "java/lang/IllegalArgumentException", Cond.methodLink RX4 92 yX0_settle, Cond.instanceMethod yX0_settle, Cond.selects RX0 yX0_settle yX0_settle, Cond.initialized RX0, Cond.code yX0_settle cX0_settle 1 none, Cond.fieldLink RX0 34 "LampChoice$Choice" "known" "Z", Cond.fieldLink RX0 38 "LampChoice$Choice" "found" "Z", Cond.fieldLink RX0 24 "LampChoice$Choice" "lamps" "[I", Cond.methodLink RX0 41 yJ7_fill_53178, Cond.static yJ7_fill_53178, Cond.initialized RJ7, Cond.code yJ7_fill_53178 cJ7_fill_53178 4 none, Cond.methodLink RX0 47 yX0_fillLights, Cond.instanceMethod yX0_fillLights, Cond.selects RX0 yX0_fillLights yX0_fillLights]
def wsX4_even_r2 : List Cond := [Cond.code yX0_fillLights cX0_fillLights 5 none, Cond.fieldLink RX0 30 "LampChoice$Choice" "room" "LLampChoice$Room;", Cond.fieldLink RX0 65 "LampChoice$Room" "places" "I", Cond.fieldLink RX0 88 "LampChoice$Room" "kinds" "I", Cond.fieldLink RX0 75 "LampChoice$Room" "points" "I", Cond.fieldLink RX0 9 "LampChoice$Choice" "lights" "[I", Cond.methodLink RX0 61 yX0_lightRow, Cond.static yX0_lightRow, Cond.code yX0_lightRow cX0_lightRow 2 (some .int), Cond.methodLink RX0 91 yX2_lightOf, Cond.instanceMethod yX2_lightOf, Cond.selects RX2 yX2_lightOf yX2_lightOf, Cond.initialized RX2, Cond.code yX2_lightOf cX2_lightOf 6 (some .int), Cond.fieldLink RX2 24 "LampChoice$Room" "placeX" "[I", Cond.fieldLink RX2 33 "LampChoice$Room" "pointX" "[I", Cond.fieldLink RX2 27 "LampChoice$Room" "placeY" "[I", Cond.fieldLink RX2 36 "LampChoice$Room" "pointY" "[I", Cond.constantLong RX2 55 (1000), Cond.fieldLink RX2 9 "LampChoice$Room" "strengths" "[I", Cond.fieldLink RX2 42 "LampChoice$Room" "height" "I", Cond.static yX4_quotient, Cond.code yX4_quotient cX4_quotient 4 (some .long), Cond.methodLink RX0 50 yX0_fillReach]
def wsX4_even_r3 : List Cond := [Cond.instanceMethod yX0_fillReach, Cond.selects RX0 yX0_fillReach yX0_fillReach, Cond.code yX0_fillReach cX0_fillReach 4 none, Cond.fieldLink RX0 15 "LampChoice$Choice" "reach" "[I", Cond.methodLink RX0 95 yX0_mostLight, Cond.instanceMethod yX0_mostLight, Cond.selects RX0 yX0_mostLight yX0_mostLight, Cond.code yX0_mostLight cX0_mostLight 5 (some .int), Cond.methodLink RX0 102 Lib.Math.max.name, Cond.static Lib.Math.max.name, Cond.initialized "java/lang/Math", Cond.code Lib.Math.max.name Lib.Math.max.code 2 (some .int), Cond.methodLink RX0 98 yX2_mayHave, Cond.instanceMethod yX2_mayHave, Cond.selects RX2 yX2_mayHave yX2_mayHave, Cond.code yX2_mayHave cX2_mayHave 3 (some .boolean), Cond.fieldLink RX2 30 "LampChoice$Room" "held" "[I", Cond.methodLink RX0 53 yX0_canBecomeEnough, Cond.instanceMethod yX0_canBecomeEnough, Cond.selects RX0 yX0_canBecomeEnough yX0_canBecomeEnough, Cond.code yX0_canBecomeEnough cX0_canBecomeEnough 4 (some .boolean), Cond.fieldLink RX0 18 "LampChoice$Choice" "gathered" "[I", Cond.fieldLink RX0 127 "LampChoice$Room" "wanted" "[I", Cond.methodLink RX0 57 yX0_tryFrom]
def wsX4_even_r4 : List Cond := [Cond.instanceMethod yX0_tryFrom, Cond.selects RX0 yX0_tryFrom yX0_tryFrom, Cond.code yX0_tryFrom cX0_tryFrom 5 none, Cond.fieldLink RX0 115 "LampChoice$Choice" "watts" "I", Cond.fieldLink RX0 21 "LampChoice$Choice" "tried" "[I", Cond.methodLink RX0 107 yX0_weigh, Cond.instanceMethod yX0_weigh, Cond.selects RX0 yX0_weigh yX0_weigh, Cond.code yX0_weigh cX0_weigh 8 none, Cond.methodLink RX0 130 Lib.MathLoose.min_long.x, Cond.static Lib.MathLoose.min_long.x, Cond.code Lib.MathLoose.min_long.x Lib.MathLoose.min_long.code 4 (some .long), Cond.methodLink RX0 133 Lib.MathLoose.max_long.x, Cond.static Lib.MathLoose.max_long.x, Cond.code Lib.MathLoose.max_long.x Lib.MathLoose.max_long.code 4 (some .long), Cond.fieldLink RX0 78 "LampChoice$Choice" "sumOfLevels" "J", Cond.fieldLink RX0 71 "LampChoice$Choice" "leastLevel" "J", Cond.methodLink RX0 121 arraycopyName, Cond.native arraycopyName, Cond.static arraycopyName, Cond.initialized "java/lang/System", Cond.fieldLink RX0 27 "LampChoice$Choice" "levels" "[I", Cond.methodLink RX0 111 yX2_wattsOf, Cond.instanceMethod yX2_wattsOf]
def wsX4_even_r5 : List Cond := [Cond.selects RX2 yX2_wattsOf yX2_wattsOf, Cond.code yX2_wattsOf cX2_wattsOf 2 (some .int), Cond.fieldLink RX2 15 "LampChoice$Room" "watts" "[I", Cond.methodLink RX0 118 yX0_gather, Cond.instanceMethod yX0_gather, Cond.selects RX0 yX0_gather yX0_gather, Cond.code yX0_gather cX0_gather 7 none, Cond.methodLink RX4 110 yX0_evennessAbove, Cond.instanceMethod yX0_evennessAbove, Cond.selects RX0 yX0_evennessAbove yX0_evennessAbove, Cond.code yX0_evennessAbove cX0_evennessAbove 3 (some .long), Cond.methodLink RX0 81 yX0_commonDivisor, Cond.static yX0_commonDivisor, Cond.code yX0_commonDivisor cX0_commonDivisor 11 (some .long), Cond.methodLink RX4 114 yX0_evennessBelow, Cond.instanceMethod yX0_evennessBelow, Cond.selects RX0 yX0_evennessBelow yX0_evennessBelow, Cond.code yX0_evennessBelow cX0_evennessBelow 1 (some .long)]
def wsX4_even : List Cond := .code yX4_even cX4_even 2 (some .long) :: ((wsX4_even_r1 ++ (wsX4_even_r2 ++ (wsX4_even_r3 ++ (wsX4_even_r4 ++ wsX4_even_r5)))) ++ wsX40 ++ wsX00 ++ wsX20 ++ (vx_atS RX4 176 "java/lang/IllegalArgumentException" ["java/lang/RuntimeException", "java/lang/Exception"]).filter goodWord)
def wsX4_aim : List Cond := .code yX4_aim cX4_aim 3 (some .int) :: ([.constant RX4 117 (1000000), .fieldLink RX4 30 "LampChoice" "scenes" "LLampChoice$Scenes;", .methodLink RX4 86 yX4_checkPoint, .instanceMethod yX4_checkPoint, .selects RX4 yX4_checkPoint yX4_checkPoint, .initialized RX4, .code yX4_checkPoint cX4_checkPoint 2 none, .fieldLink RX4 15 "LampChoice" "room" "LLampChoice$Room;", .fieldLink RX4 68 "LampChoice$Room" "points" "I", .methodLink RX4 41 yX4_checkBounds, .static yX4_checkBounds, .code yX4_checkBounds cX4_checkBounds 3 none, .classLink RX4 172 "java/lang/IllegalArgumentException", .initialized "java/lang/IllegalArgumentException", .methodLink RX4 118 yX3_changeAim, .instanceMethod yX3_changeAim, .selects RX3 yX3_changeAim yX3_changeAim, .initialized RX3, .code yX3_changeAim cX3_changeAim 4 (some .int), .fieldLink RX3 9 "LampChoice$Scenes" "aims" "[I", .fieldLink RX3 30 "LampChoice$Scenes" "known" "Z"] ++ wsX40 ++ wsX20 ++ wsX30 ++ (vx_atS RX4 176 "java/lang/IllegalArgumentException" ["java/lang/RuntimeException", "java/lang/Exception"]).filter goodWord)
def wsX4_settleScene_r1 : List Cond := [Cond.fieldLink RX4 21 "LampChoice" "choice" "LLampChoice$Choice;", Cond.fieldLink RX4 30 "LampChoice" "scenes" "LLampChoice$Scenes;", Cond.methodLink RX4 92 yX0_settle, Cond.instanceMethod yX0_settle, Cond.selects RX0 yX0_settle yX0_settle, Cond.initialized RX0, Cond.code yX0_settle cX0_settle 1 none, Cond.fieldLink RX0 34 "LampChoice$Choice" "known" "Z", Cond.fieldLink RX0 38 "LampChoice$Choice" "found" "Z", Cond.fieldLink RX0 24 "LampChoice$Choice" "lamps" "[I", Cond.methodLink RX0 41 yJ7_fill_53178, Cond.static yJ7_fill_53178, Cond.initialized RJ7, Cond.code yJ7_fill_53178 cJ7_fill_53178 4 none, Cond.methodLink RX0 47 yX0_fillLights, Cond.instanceMethod yX0_fillLights, Cond.selects RX0 yX0_fillLights yX0_fillLights, Cond.code yX0_fillLights cX0_fillLights 5 none, Cond.fieldLink RX0 30 "LampChoice$Choice" "room" "LLampChoice$Room;", Cond.fieldLink RX0 65 "LampChoice$Room" "places" "I", Cond.fieldLink RX0 88 "LampChoice$Room" "kinds" "I", Cond.fieldLink RX0 75 "LampChoice$Room" "points" "I", Cond.fieldLink RX0 9 "LampChoice$Choice" "lights" "[I", Cond.methodLink RX0 61 yX0_lightRow]
def wsX4_settleScene_r2 : List Cond := [Cond.static yX0_lightRow, Cond.code yX0_lightRow cX0_lightRow 2 (some .int), Cond.methodLink RX0 91 yX2_lightOf, Cond.instanceMethod yX2_lightOf, Cond.selects RX2 yX2_lightOf yX2_lightOf, Cond.initialized RX2, Cond.code yX2_lightOf cX2_lightOf 6 (some .int), Cond.fieldLink RX2 24 "LampChoice$Room" "placeX" "[I", Cond.fieldLink RX2 33 "LampChoice$Room" "pointX" "[I", Cond.fieldLink RX2 27 "LampChoice$Room" "placeY" "[I", Cond.fieldLink RX2 36 "LampChoice$Room" "pointY" "[I", Cond.constantLong RX2 55 (1000), Cond.fieldLink RX2 9 "LampChoice$Room" "strengths" "[I", Cond.fieldLink RX2 42 "LampChoice$Room" "height" "I", Cond.static yX4_quotient, Cond.initialized RX4, Cond.code yX4_quotient cX4_quotient 4 (some .long), Cond.methodLink RX0 50 yX0_fillReach, Cond.instanceMethod yX0_fillReach, Cond.selects RX0 yX0_fillReach yX0_fillReach, Cond.code yX0_fillReach cX0_fillReach 4 none, Cond.fieldLink RX0 15 "LampChoice$Choice" "reach" "[I", Cond.methodLink RX0 95 yX0_mostLight, Cond.instanceMethod yX0_mostLight]
def wsX4_settleScene_r3 : List Cond := [Cond.selects RX0 yX0_mostLight yX0_mostLight, Cond.code yX0_mostLight cX0_mostLight 5 (some .int), Cond.methodLink RX0 102 Lib.Math.max.name, Cond.static Lib.Math.max.name, Cond.initialized "java/lang/Math", Cond.code Lib.Math.max.name Lib.Math.max.code 2 (some .int), Cond.methodLink RX0 98 yX2_mayHave, Cond.instanceMethod yX2_mayHave, Cond.selects RX2 yX2_mayHave yX2_mayHave, Cond.code yX2_mayHave cX2_mayHave 3 (some .boolean), Cond.fieldLink RX2 30 "LampChoice$Room" "held" "[I", Cond.methodLink RX0 53 yX0_canBecomeEnough, Cond.instanceMethod yX0_canBecomeEnough, Cond.selects RX0 yX0_canBecomeEnough yX0_canBecomeEnough, Cond.code yX0_canBecomeEnough cX0_canBecomeEnough 4 (some .boolean), Cond.fieldLink RX0 18 "LampChoice$Choice" "gathered" "[I", Cond.fieldLink RX0 127 "LampChoice$Room" "wanted" "[I", Cond.methodLink RX0 57 yX0_tryFrom, Cond.instanceMethod yX0_tryFrom, Cond.selects RX0 yX0_tryFrom yX0_tryFrom, Cond.code yX0_tryFrom cX0_tryFrom 5 none, Cond.fieldLink RX0 115 "LampChoice$Choice" "watts" "I", Cond.fieldLink RX0 21 "LampChoice$Choice" "tried" "[I", Cond.methodLink RX0 107 yX0_weigh]
def wsX4_settleScene_r4 : List Cond := [Cond.instanceMethod yX0_weigh, Cond.selects RX0 yX0_weigh yX0_weigh, Cond.code yX0_weigh cX0_weigh 8 none, Cond.methodLink RX0 130 Lib.MathLoose.min_long.x, Cond.static Lib.MathLoose.min_long.x, Cond.code Lib.MathLoose.min_long.x Lib.MathLoose.min_long.code 4 (some .long), Cond.methodLink RX0 133 Lib.MathLoose.max_long.x, Cond.static Lib.MathLoose.max_long.x, Cond.code Lib.MathLoose.max_long.x Lib.MathLoose.max_long.code 4 (some .long), Cond.fieldLink RX0 78 "LampChoice$Choice" "sumOfLevels" "J", Cond.fieldLink RX0 71 "LampChoice$Choice" "leastLevel" "J", Cond.methodLink RX0 121 arraycopyName, Cond.native arraycopyName, Cond.static arraycopyName, Cond.initialized "java/lang/System", Cond.fieldLink RX0 27 "LampChoice$Choice" "levels" "[I", Cond.methodLink RX0 111 yX2_wattsOf, Cond.instanceMethod yX2_wattsOf, Cond.selects RX2 yX2_wattsOf yX2_wattsOf, Cond.code yX2_wattsOf cX2_wattsOf 2 (some .int), Cond.fieldLink RX2 15 "LampChoice$Room" "watts" "[I", Cond.methodLink RX0 118 yX0_gather, Cond.instanceMethod yX0_gather, Cond.selects RX0 yX0_gather yX0_gather]
def wsX4_settleScene_r5 : List Cond := [Cond.code yX0_gather cX0_gather 7 none, Cond.methodLink RX4 186 yX3_settle, Cond.instanceMethod yX3_settle, Cond.selects RX3 yX3_settle yX3_settle, Cond.initialized RX3, Cond.code yX3_settle cX3_settle 2 none, Cond.fieldLink RX3 30 "LampChoice$Scenes" "known" "Z", Cond.fieldLink RX3 15 "LampChoice$Scenes" "dims" "[I", Cond.fieldLink RX3 22 "LampChoice$Scenes" "room" "LLampChoice$Room;", Cond.fieldLink RX3 40 "LampChoice$Room" "points" "I", Cond.fieldLink RX3 18 "LampChoice$Scenes" "misses" "[J", Cond.constantLong RX3 46 (100), Cond.fieldLink RX3 9 "LampChoice$Scenes" "aims" "[I", Cond.fieldLink RX3 48 "LampChoice$Scenes" "sweeps" "I", Cond.fieldLink RX3 26 "LampChoice$Scenes" "choice" "LLampChoice$Choice;", Cond.methodLink RX3 34 yJ7_fill_53178, Cond.methodLink RX3 51 yX0_hasLamps, Cond.instanceMethod yX0_hasLamps, Cond.selects RX0 yX0_hasLamps yX0_hasLamps, Cond.code yX0_hasLamps cX0_hasLamps 2 (some .boolean), Cond.methodLink RX3 57 yX3_sweep, Cond.instanceMethod yX3_sweep, Cond.selects RX3 yX3_sweep yX3_sweep, Cond.code yX3_sweep cX3_sweep 4 (some .boolean)]
def wsX4_settleScene_r6 : List Cond := [Cond.fieldLink RX3 60 "LampChoice$Room" "places" "I", Cond.fieldLink RX3 63 "LampChoice$Choice" "lamps" "[I", Cond.methodLink RX3 66 yX3_fittingDim, Cond.instanceMethod yX3_fittingDim, Cond.selects RX3 yX3_fittingDim yX3_fittingDim, Cond.code yX3_fittingDim cX3_fittingDim 9 (some .int), Cond.constantLong RX3 78 (2), Cond.methodLink RX3 84 Lib.MathLoose.min_long.x, Cond.methodLink RX3 74 yX0_lampLight, Cond.instanceMethod yX0_lampLight, Cond.selects RX0 yX0_lampLight yX0_lampLight, Cond.code yX0_lampLight cX0_lampLight 4 (some .int), Cond.methodLink RX3 70 yX3_moveTo, Cond.instanceMethod yX3_moveTo, Cond.selects RX3 yX3_moveTo yX3_moveTo, Cond.code yX3_moveTo cX3_moveTo 6 none]
def wsX4_settleScene : List Cond := .code yX4_settleScene cX4_settleScene 1 none :: ((wsX4_settleScene_r1 ++ (wsX4_settleScene_r2 ++ (wsX4_settleScene_r3 ++ (wsX4_settleScene_r4 ++ (wsX4_settleScene_r5 ++ wsX4_settleScene_r6))))) ++ wsX40 ++ wsX00 ++ wsX20 ++ wsX30)
def wsX4_scene_r1 : List Cond := [Cond.fieldLink RX4 30 "LampChoice" "scenes" "LLampChoice$Scenes;", Cond.fieldLink RX4 124 "LampChoice$Scenes" "sweeps" "I", Cond.methodLink RX4 121 yX4_settleScene, Cond.instanceMethod yX4_settleScene, Cond.selects RX4 yX4_settleScene yX4_settleScene, Cond.initialized RX4, Cond.code yX4_settleScene cX4_settleScene 1 none, Cond.fieldLink RX4 21 "LampChoice" "choice" "LLampChoice$Choice;", Cond.methodLink RX4 92 yX0_settle, Cond.instanceMethod yX0_settle, Cond.selects RX0 yX0_settle yX0_settle, Cond.initialized RX0, Cond.code yX0_settle cX0_settle 1 none, Cond.fieldLink RX0 34 "LampChoice$Choice" "known" "Z", Cond.fieldLink RX0 38 "LampChoice$Choice" "found" "Z", Cond.fieldLink RX0 24 "LampChoice$Choice" "lamps" "[I", Cond.methodLink RX0 41 yJ7_fill_53178, Cond.static yJ7_fill_53178, Cond.initialized RJ7, Cond.code yJ7_fill_53178 cJ7_fill_53178 4 none, Cond.methodLink RX0 47 yX0_fillLights, Cond.instanceMethod yX0_fillLights, Cond.selects RX0 yX0_fillLights yX0_fillLights, Cond.code yX0_fillLights cX0_fillLights 5 none]
def wsX4_scene_r2 : List Cond := [Cond.fieldLink RX0 30 "LampChoice$Choice" "room" "LLampChoice$Room;", Cond.fieldLink RX0 65 "LampChoice$Room" "places" "I", Cond.fieldLink RX0 88 "LampChoice$Room" "kinds" "I", Cond.fieldLink RX0 75 "LampChoice$Room" "points" "I", Cond.fieldLink RX0 9 "LampChoice$Choice" "lights" "[I", Cond.methodLink RX0 61 yX0_lightRow, Cond.static yX0_lightRow, Cond.code yX0_lightRow cX0_lightRow 2 (some .int), Cond.methodLink RX0 91 yX2_lightOf, Cond.instanceMethod yX2_lightOf, Cond.selects RX2 yX2_lightOf yX2_lightOf, Cond.initialized RX2, Cond.code yX2_lightOf cX2_lightOf 6 (some .int), Cond.fieldLink RX2 24 "LampChoice$Room" "placeX" "[I", Cond.fieldLink RX2 33 "LampChoice$Room" "pointX" "[I", Cond.fieldLink RX2 27 "LampChoice$Room" "placeY" "[I", Cond.fieldLink RX2 36 "LampChoice$Room" "pointY" "[I", Cond.constantLong RX2 55 (1000), Cond.fieldLink RX2 9 "LampChoice$Room" "strengths" "[I", Cond.fieldLink RX2 42 "LampChoice$Room" "height" "I", Cond.static yX4_quotient, Cond.code yX4_quotient cX4_quotient 4 (some .long), Cond.methodLink RX0 50 yX0_fillReach, Cond.instanceMethod yX0_fillReach]
def wsX4_scene_r3 : List Cond := [Cond.selects RX0 yX0_fillReach yX0_fillReach, Cond.code yX0_fillReach cX0_fillReach 4 none, Cond.fieldLink RX0 15 "LampChoice$Choice" "reach" "[I", Cond.methodLink RX0 95 yX0_mostLight, Cond.instanceMethod yX0_mostLight, Cond.selects RX0 yX0_mostLight yX0_mostLight, Cond.code yX0_mostLight cX0_mostLight 5 (some .int), Cond.methodLink RX0 102 Lib.Math.max.name, Cond.static Lib.Math.max.name, Cond.initialized "java/lang/Math", Cond.code Lib.Math.max.name Lib.Math.max.code 2 (some .int), Cond.methodLink RX0 98 yX2_mayHave, Cond.instanceMethod yX2_mayHave, Cond.selects RX2 yX2_mayHave yX2_mayHave, Cond.code yX2_mayHave cX2_mayHave 3 (some .boolean), Cond.fieldLink RX2 30 "LampChoice$Room" "held" "[I", Cond.methodLink RX0 53 yX0_canBecomeEnough, Cond.instanceMethod yX0_canBecomeEnough, Cond.selects RX0 yX0_canBecomeEnough yX0_canBecomeEnough, Cond.code yX0_canBecomeEnough cX0_canBecomeEnough 4 (some .boolean), Cond.fieldLink RX0 18 "LampChoice$Choice" "gathered" "[I", Cond.fieldLink RX0 127 "LampChoice$Room" "wanted" "[I", Cond.methodLink RX0 57 yX0_tryFrom, Cond.instanceMethod yX0_tryFrom]
def wsX4_scene_r4 : List Cond := [Cond.selects RX0 yX0_tryFrom yX0_tryFrom, Cond.code yX0_tryFrom cX0_tryFrom 5 none, Cond.fieldLink RX0 115 "LampChoice$Choice" "watts" "I", Cond.fieldLink RX0 21 "LampChoice$Choice" "tried" "[I", Cond.methodLink RX0 107 yX0_weigh, Cond.instanceMethod yX0_weigh, Cond.selects RX0 yX0_weigh yX0_weigh, Cond.code yX0_weigh cX0_weigh 8 none, Cond.methodLink RX0 130 Lib.MathLoose.min_long.x, Cond.static Lib.MathLoose.min_long.x, Cond.code Lib.MathLoose.min_long.x Lib.MathLoose.min_long.code 4 (some .long), Cond.methodLink RX0 133 Lib.MathLoose.max_long.x, Cond.static Lib.MathLoose.max_long.x, Cond.code Lib.MathLoose.max_long.x Lib.MathLoose.max_long.code 4 (some .long), Cond.fieldLink RX0 78 "LampChoice$Choice" "sumOfLevels" "J", Cond.fieldLink RX0 71 "LampChoice$Choice" "leastLevel" "J", Cond.methodLink RX0 121 arraycopyName, Cond.native arraycopyName, Cond.static arraycopyName, Cond.initialized "java/lang/System", Cond.fieldLink RX0 27 "LampChoice$Choice" "levels" "[I", Cond.methodLink RX0 111 yX2_wattsOf, Cond.instanceMethod yX2_wattsOf, Cond.selects RX2 yX2_wattsOf yX2_wattsOf]
def wsX4_scene_r5 : List Cond := [Cond.code yX2_wattsOf cX2_wattsOf 2 (some .int), Cond.fieldLink RX2 15 "LampChoice$Room" "watts" "[I", Cond.methodLink RX0 118 yX0_gather, Cond.instanceMethod yX0_gather, Cond.selects RX0 yX0_gather yX0_gather, Cond.code yX0_gather cX0_gather 7 none, Cond.methodLink RX4 186 yX3_settle, Cond.instanceMethod yX3_settle, Cond.selects RX3 yX3_settle yX3_settle, Cond.initialized RX3, Cond.code yX3_settle cX3_settle 2 none, Cond.fieldLink RX3 30 "LampChoice$Scenes" "known" "Z", Cond.fieldLink RX3 15 "LampChoice$Scenes" "dims" "[I", Cond.fieldLink RX3 22 "LampChoice$Scenes" "room" "LLampChoice$Room;", Cond.fieldLink RX3 40 "LampChoice$Room" "points" "I", Cond.fieldLink RX3 18 "LampChoice$Scenes" "misses" "[J", Cond.constantLong RX3 46 (100), Cond.fieldLink RX3 9 "LampChoice$Scenes" "aims" "[I", Cond.fieldLink RX3 48 "LampChoice$Scenes" "sweeps" "I", Cond.fieldLink RX3 26 "LampChoice$Scenes" "choice" "LLampChoice$Choice;", Cond.methodLink RX3 34 yJ7_fill_53178, Cond.methodLink RX3 51 yX0_hasLamps, Cond.instanceMethod yX0_hasLamps, Cond.selects RX0 yX0_hasLamps yX0_hasLamps]
def wsX4_scene_r6 : List Cond := [Cond.code yX0_hasLamps cX0_hasLamps 2 (some .boolean), Cond.methodLink RX3 57 yX3_sweep, Cond.instanceMethod yX3_sweep, Cond.selects RX3 yX3_sweep yX3_sweep, Cond.code yX3_sweep cX3_sweep 4 (some .boolean), Cond.fieldLink RX3 60 "LampChoice$Room" "places" "I", Cond.fieldLink RX3 63 "LampChoice$Choice" "lamps" "[I", Cond.methodLink RX3 66 yX3_fittingDim, Cond.instanceMethod yX3_fittingDim, Cond.selects RX3 yX3_fittingDim yX3_fittingDim, Cond.code yX3_fittingDim cX3_fittingDim 9 (some .int), Cond.constantLong RX3 78 (2), Cond.methodLink RX3 84 Lib.MathLoose.min_long.x, Cond.methodLink RX3 74 yX0_lampLight, Cond.instanceMethod yX0_lampLight, Cond.selects RX0 yX0_lampLight yX0_lampLight, Cond.code yX0_lampLight cX0_lampLight 4 (some .int), Cond.methodLink RX3 70 yX3_moveTo, Cond.instanceMethod yX3_moveTo, Cond.selects RX3 yX3_moveTo yX3_moveTo, Cond.code yX3_moveTo cX3_moveTo 6 none]
def wsX4_scene : List Cond := .code yX4_scene cX4_scene 1 (some .int) :: ((wsX4_scene_r1 ++ (wsX4_scene_r2 ++ (wsX4_scene_r3 ++ (wsX4_scene_r4 ++ (wsX4_scene_r5 ++ wsX4_scene_r6))))) ++ wsX40 ++ wsX30 ++ wsX00 ++ wsX20)
def wsX4_dim_r1 : List Cond := [Cond.fieldLink RX4 21 "LampChoice" "choice" "LLampChoice$Choice;", Cond.fieldLink RX4 102 "LampChoice$Choice" "lamps" "[I", Cond.fieldLink RX4 30 "LampChoice" "scenes" "LLampChoice$Scenes;", Cond.fieldLink RX4 127 "LampChoice$Scenes" "dims" "[I", Cond.methodLink RX4 78 yX4_checkPlace, Cond.instanceMethod yX4_checkPlace, Cond.selects RX4 yX4_checkPlace yX4_checkPlace, Cond.initialized RX4, Cond.code yX4_checkPlace cX4_checkPlace 2 none, Cond.fieldLink RX4 15 "LampChoice" "room" "LLampChoice$Room;", Cond.fieldLink RX4 61 "LampChoice$Room" "places" "I", Cond.methodLink RX4 41 yX4_checkBounds, Cond.static yX4_checkBounds, Cond.code yX4_checkBounds cX4_checkBounds 3 none, Cond.classLink RX4 172 "java/lang/IllegalArgumentException", Cond.initialized "java/lang/IllegalArgumentException", Cond.methodLink RX4 121 yX4_settleScene, Cond.instanceMethod yX4_settleScene, Cond.selects RX4 yX4_settleScene yX4_settleScene, Cond.code yX4_settleScene cX4_settleScene 1 none, Cond.methodLink RX4 92 yX0_settle, Cond.instanceMethod yX0_settle, Cond.selects RX0 yX0_settle yX0_settle, Cond.initialized RX0]
def wsX4_dim_r2 : List Cond := [Cond.code yX0_settle cX0_settle 1 none, Cond.fieldLink RX0 34 "LampChoice$Choice" "known" "Z", Cond.fieldLink RX0 38 "LampChoice$Choice" "found" "Z", Cond.fieldLink RX0 24 "LampChoice$Choice" "lamps" "[I", Cond.methodLink RX0 41 yJ7_fill_53178, Cond.static yJ7_fill_53178, Cond.initialized RJ7, Cond.code yJ7_fill_53178 cJ7_fill_53178 4 none, Cond.methodLink RX0 47 yX0_fillLights, Cond.instanceMethod yX0_fillLights, Cond.selects RX0 yX0_fillLights yX0_fillLights, Cond.code yX0_fillLights cX0_fillLights 5 none, Cond.fieldLink RX0 30 "LampChoice$Choice" "room" "LLampChoice$Room;", Cond.fieldLink RX0 65 "LampChoice$Room" "places" "I", Cond.fieldLink RX0 88 "LampChoice$Room" "kinds" "I", Cond.fieldLink RX0 75 "LampChoice$Room" "points" "I", Cond.fieldLink RX0 9 "LampChoice$Choice" "lights" "[I", Cond.methodLink RX0 61 yX0_lightRow, Cond.static yX0_lightRow, Cond.code yX0_lightRow cX0_lightRow 2 (some .int), Cond.methodLink RX0 91 yX2_lightOf, Cond.instanceMethod yX2_lightOf, Cond.selects RX2 yX2_lightOf yX2_lightOf, Cond.initialized RX2]
def wsX4_dim_r3 : List Cond := [Cond.code yX2_lightOf cX2_lightOf 6 (some .int), Cond.fieldLink RX2 24 "LampChoice$Room" "placeX" "[I", Cond.fieldLink RX2 33 "LampChoice$Room" "pointX" "[I", Cond.fieldLink RX2 27 "LampChoice$Room" "placeY" "[I", Cond.fieldLink RX2 36 "LampChoice$Room" "pointY" "[I", Cond.constantLong RX2 55 (1000), Cond.fieldLink RX2 9 "LampChoice$Room" "strengths" "[I", Cond.fieldLink RX2 42 "LampChoice$Room" "height" "I", Cond.static yX4_quotient, Cond.code yX4_quotient cX4_quotient 4 (some .long), Cond.methodLink RX0 50 yX0_fillReach, Cond.instanceMethod yX0_fillReach, Cond.selects RX0 yX0_fillReach yX0_fillReach, Cond.code yX0_fillReach cX0_fillReach 4 none, Cond.fieldLink RX0 15 "LampChoice$Choice" "reach" "[I", Cond.methodLink RX0 95 yX0_mostLight, Cond.instanceMethod yX0_mostLight, Cond.selects RX0 yX0_mostLight yX0_mostLight, Cond.code yX0_mostLight cX0_mostLight 5 (some .int), Cond.methodLink RX0 102 Lib.Math.max.name, Cond.static Lib.Math.max.name, Cond.initialized "java/lang/Math", Cond.code Lib.Math.max.name Lib.Math.max.code 2 (some .int), Cond.methodLink RX0 98 yX2_mayHave]
def wsX4_dim_r4 : List Cond := [Cond.instanceMethod yX2_mayHave, Cond.selects RX2 yX2_mayHave yX2_mayHave, Cond.code yX2_mayHave cX2_mayHave 3 (some .boolean), Cond.fieldLink RX2 30 "LampChoice$Room" "held" "[I", Cond.methodLink RX0 53 yX0_canBecomeEnough, Cond.instanceMethod yX0_canBecomeEnough, Cond.selects RX0 yX0_canBecomeEnough yX0_canBecomeEnough, Cond.code yX0_canBecomeEnough cX0_canBecomeEnough 4 (some .boolean), Cond.fieldLink RX0 18 "LampChoice$Choice" "gathered" "[I", Cond.fieldLink RX0 127 "LampChoice$Room" "wanted" "[I", Cond.methodLink RX0 57 yX0_tryFrom, Cond.instanceMethod yX0_tryFrom, Cond.selects RX0 yX0_tryFrom yX0_tryFrom, Cond.code yX0_tryFrom cX0_tryFrom 5 none, Cond.fieldLink RX0 115 "LampChoice$Choice" "watts" "I", Cond.fieldLink RX0 21 "LampChoice$Choice" "tried" "[I", Cond.methodLink RX0 107 yX0_weigh, Cond.instanceMethod yX0_weigh, Cond.selects RX0 yX0_weigh yX0_weigh, Cond.code yX0_weigh cX0_weigh 8 none, Cond.methodLink RX0 130 Lib.MathLoose.min_long.x, Cond.static Lib.MathLoose.min_long.x, Cond.code Lib.MathLoose.min_long.x Lib.MathLoose.min_long.code 4 (some .long), Cond.methodLink RX0 133 Lib.MathLoose.max_long.x]
def wsX4_dim_r5 : List Cond := [Cond.static Lib.MathLoose.max_long.x, Cond.code Lib.MathLoose.max_long.x Lib.MathLoose.max_long.code 4 (some .long), Cond.fieldLink RX0 78 "LampChoice$Choice" "sumOfLevels" "J", Cond.fieldLink RX0 71 "LampChoice$Choice" "leastLevel" "J", Cond.methodLink RX0 121 arraycopyName, Cond.native arraycopyName, Cond.static arraycopyName, Cond.initialized "java/lang/System", Cond.fieldLink RX0 27 "LampChoice$Choice" "levels" "[I", Cond.methodLink RX0 111 yX2_wattsOf, Cond.instanceMethod yX2_wattsOf, Cond.selects RX2 yX2_wattsOf yX2_wattsOf, Cond.code yX2_wattsOf cX2_wattsOf 2 (some .int), Cond.fieldLink RX2 15 "LampChoice$Room" "watts" "[I", Cond.methodLink RX0 118 yX0_gather, Cond.instanceMethod yX0_gather, Cond.selects RX0 yX0_gather yX0_gather, Cond.code yX0_gather cX0_gather 7 none, Cond.methodLink RX4 186 yX3_settle, Cond.instanceMethod yX3_settle, Cond.selects RX3 yX3_settle yX3_settle, Cond.initialized RX3, Cond.code yX3_settle cX3_settle 2 none, Cond.fieldLink RX3 30 "LampChoice$Scenes" "known" "Z"]
def wsX4_dim_r6 : List Cond := [Cond.fieldLink RX3 15 "LampChoice$Scenes" "dims" "[I", Cond.fieldLink RX3 22 "LampChoice$Scenes" "room" "LLampChoice$Room;", Cond.fieldLink RX3 40 "LampChoice$Room" "points" "I", Cond.fieldLink RX3 18 "LampChoice$Scenes" "misses" "[J", Cond.constantLong RX3 46 (100), Cond.fieldLink RX3 9 "LampChoice$Scenes" "aims" "[I", Cond.fieldLink RX3 48 "LampChoice$Scenes" "sweeps" "I", Cond.fieldLink RX3 26 "LampChoice$Scenes" "choice" "LLampChoice$Choice;", Cond.methodLink RX3 34 yJ7_fill_53178, Cond.methodLink RX3 51 yX0_hasLamps, Cond.instanceMethod yX0_hasLamps, Cond.selects RX0 yX0_hasLamps yX0_hasLamps, Cond.code yX0_hasLamps cX0_hasLamps 2 (some .boolean), Cond.methodLink RX3 57 yX3_sweep, Cond.instanceMethod yX3_sweep, Cond.selects RX3 yX3_sweep yX3_sweep, Cond.code yX3_sweep cX3_sweep 4 (some .boolean), Cond.fieldLink RX3 60 "LampChoice$Room" "places" "I", Cond.fieldLink RX3 63 "LampChoice$Choice" "lamps" "[I", Cond.methodLink RX3 66 yX3_fittingDim, Cond.instanceMethod yX3_fittingDim, Cond.selects RX3 yX3_fittingDim yX3_fittingDim, Cond.code yX3_fittingDim cX3_fittingDim 9 (some .int), Cond.constantLong RX3 78 (2)]
def wsX4_dim_r7 : List Cond := [Cond.methodLink RX3 84 Lib.MathLoose.min_long.x, Cond.methodLink RX3 74 yX0_lampLight, Cond.instanceMethod yX0_lampLight, Cond.selects RX0 yX0_lampLight yX0_lampLight, Cond.code yX0_lampLight cX0_lampLight 4 (some .int), Cond.methodLink RX3 70 yX3_moveTo, Cond.instanceMethod yX3_moveTo, Cond.selects RX3 yX3_moveTo yX3_moveTo, Cond.code yX3_moveTo cX3_moveTo 6 none]
def wsX4_dim : List Cond := .code yX4_dim cX4_dim 2 (some .int) :: ((wsX4_dim_r1 ++ (wsX4_dim_r2 ++ (wsX4_dim_r3 ++ (wsX4_dim_r4 ++ (wsX4_dim_r5 ++ (wsX4_dim_r6 ++ wsX4_dim_r7)))))) ++ wsX40 ++ wsX00 ++ wsX30 ++ wsX20 ++ (vx_atS RX4 176 "java/lang/IllegalArgumentException" ["java/lang/RuntimeException", "java/lang/Exception"]).filter goodWord)
def wsX4_miss_r1 : List Cond := [Cond.fieldLink RX4 30 "LampChoice" "scenes" "LLampChoice$Scenes;", Cond.fieldLink RX4 130 "LampChoice$Scenes" "misses" "[J", Cond.methodLink RX4 86 yX4_checkPoint, Cond.instanceMethod yX4_checkPoint, Cond.selects RX4 yX4_checkPoint yX4_checkPoint, Cond.initialized RX4, Cond.code yX4_checkPoint cX4_checkPoint 2 none, Cond.fieldLink RX4 15 "LampChoice" "room" "LLampChoice$Room;", Cond.fieldLink RX4 68 "LampChoice$Room" "points" "I", Cond.methodLink RX4 41 yX4_checkBounds, Cond.static yX4_checkBounds, Cond.code yX4_checkBounds cX4_checkBounds 3 none, Cond.classLink RX4 172 "java/lang/IllegalArgumentException", Cond.initialized "java/lang/IllegalArgumentException", Cond.methodLink RX4 121 yX4_settleScene, Cond.instanceMethod yX4_settleScene, Cond.selects RX4 yX4_settleScene yX4_settleScene, Cond.code yX4_settleScene cX4_settleScene 1 none, Cond.fieldLink RX4 21 "LampChoice" "choice" "LLampChoice$Choice;", Cond.methodLink RX4 92 yX0_settle, Cond.instanceMethod yX0_settle, Cond.selects RX0 yX0_settle yX0_settle, Cond.initialized RX0, Cond.code yX0_settle cX0_settle 1 none]
def wsX4_miss_r2 : List Cond := [Cond.fieldLink RX0 34 "LampChoice$Choice" "known" "Z", Cond.fieldLink RX0 38 "LampChoice$Choice" "found" "Z", Cond.fieldLink RX0 24 "LampChoice$Choice" "lamps" "[I", Cond.methodLink RX0 41 yJ7_fill_53178, Cond.static yJ7_fill_53178, Cond.initialized RJ7, Cond.code yJ7_fill_53178 cJ7_fill_53178 4 none, Cond.methodLink RX0 47 yX0_fillLights, Cond.instanceMethod yX0_fillLights, Cond.selects RX0 yX0_fillLights yX0_fillLights, Cond.code yX0_fillLights cX0_fillLights 5 none, Cond.fieldLink RX0 30 "LampChoice$Choice" "room" "LLampChoice$Room;", Cond.fieldLink RX0 65 "LampChoice$Room" "places" "I", Cond.fieldLink RX0 88 "LampChoice$Room" "kinds" "I", Cond.fieldLink RX0 75 "LampChoice$Room" "points" "I", Cond.fieldLink RX0 9 "LampChoice$Choice" "lights" "[I", Cond.methodLink RX0 61 yX0_lightRow, Cond.static yX0_lightRow, Cond.code yX0_lightRow cX0_lightRow 2 (some .int), Cond.methodLink RX0 91 yX2_lightOf, Cond.instanceMethod yX2_lightOf, Cond.selects RX2 yX2_lightOf yX2_lightOf, Cond.initialized RX2, Cond.code yX2_lightOf cX2_lightOf 6 (some .int)]
def wsX4_miss_r3 : List Cond := [Cond.fieldLink RX2 24 "LampChoice$Room" "placeX" "[I", Cond.fieldLink RX2 33 "LampChoice$Room" "pointX" "[I", Cond.fieldLink RX2 27 "LampChoice$Room" "placeY" "[I", Cond.fieldLink RX2 36 "LampChoice$Room" "pointY" "[I", Cond.constantLong RX2 55 (1000), Cond.fieldLink RX2 9 "LampChoice$Room" "strengths" "[I", Cond.fieldLink RX2 42 "LampChoice$Room" "height" "I", Cond.static yX4_quotient, Cond.code yX4_quotient cX4_quotient 4 (some .long), Cond.methodLink RX0 50 yX0_fillReach, Cond.instanceMethod yX0_fillReach, Cond.selects RX0 yX0_fillReach yX0_fillReach, Cond.code yX0_fillReach cX0_fillReach 4 none, Cond.fieldLink RX0 15 "LampChoice$Choice" "reach" "[I", Cond.methodLink RX0 95 yX0_mostLight, Cond.instanceMethod yX0_mostLight, Cond.selects RX0 yX0_mostLight yX0_mostLight, Cond.code yX0_mostLight cX0_mostLight 5 (some .int), Cond.methodLink RX0 102 Lib.Math.max.name, Cond.static Lib.Math.max.name, Cond.initialized "java/lang/Math", Cond.code Lib.Math.max.name Lib.Math.max.code 2 (some .int), Cond.methodLink RX0 98 yX2_mayHave, Cond.instanceMethod yX2_mayHave]
def wsX4_miss_r4 : List Cond := [Cond.selects RX2 yX2_mayHave yX2_mayHave, Cond.code yX2_mayHave cX2_mayHave 3 (some .boolean), Cond.fieldLink RX2 30 "LampChoice$Room" "held" "[I", Cond.methodLink RX0 53 yX0_canBecomeEnough, Cond.instanceMethod yX0_canBecomeEnough, Cond.selects RX0 yX0_canBecomeEnough yX0_canBecomeEnough, Cond.code yX0_canBecomeEnough cX0_canBecomeEnough 4 (some .boolean), Cond.fieldLink RX0 18 "LampChoice$Choice" "gathered" "[I", Cond.fieldLink RX0 127 "LampChoice$Room" "wanted" "[I", Cond.methodLink RX0 57 yX0_tryFrom, Cond.instanceMethod yX0_tryFrom, Cond.selects RX0 yX0_tryFrom yX0_tryFrom, Cond.code yX0_tryFrom cX0_tryFrom 5 none, Cond.fieldLink RX0 115 "LampChoice$Choice" "watts" "I", Cond.fieldLink RX0 21 "LampChoice$Choice" "tried" "[I", Cond.methodLink RX0 107 yX0_weigh, Cond.instanceMethod yX0_weigh, Cond.selects RX0 yX0_weigh yX0_weigh, Cond.code yX0_weigh cX0_weigh 8 none, Cond.methodLink RX0 130 Lib.MathLoose.min_long.x, Cond.static Lib.MathLoose.min_long.x, Cond.code Lib.MathLoose.min_long.x Lib.MathLoose.min_long.code 4 (some .long), Cond.methodLink RX0 133 Lib.MathLoose.max_long.x, Cond.static Lib.MathLoose.max_long.x]
def wsX4_miss_r5 : List Cond := [Cond.code Lib.MathLoose.max_long.x Lib.MathLoose.max_long.code 4 (some .long), Cond.fieldLink RX0 78 "LampChoice$Choice" "sumOfLevels" "J", Cond.fieldLink RX0 71 "LampChoice$Choice" "leastLevel" "J", Cond.methodLink RX0 121 arraycopyName, Cond.native arraycopyName, Cond.static arraycopyName, Cond.initialized "java/lang/System", Cond.fieldLink RX0 27 "LampChoice$Choice" "levels" "[I", Cond.methodLink RX0 111 yX2_wattsOf, Cond.instanceMethod yX2_wattsOf, Cond.selects RX2 yX2_wattsOf yX2_wattsOf, Cond.code yX2_wattsOf cX2_wattsOf 2 (some .int), Cond.fieldLink RX2 15 "LampChoice$Room" "watts" "[I", Cond.methodLink RX0 118 yX0_gather, Cond.instanceMethod yX0_gather, Cond.selects RX0 yX0_gather yX0_gather, Cond.code yX0_gather cX0_gather 7 none, Cond.methodLink RX4 186 yX3_settle, Cond.instanceMethod yX3_settle, Cond.selects RX3 yX3_settle yX3_settle, Cond.initialized RX3, Cond.code yX3_settle cX3_settle 2 none, Cond.fieldLink RX3 30 "LampChoice$Scenes" "known" "Z", Cond.fieldLink RX3 15 "LampChoice$Scenes" "dims" "[I"]
def wsX4_miss_r6 : List Cond := [Cond.fieldLink RX3 22 "LampChoice$Scenes" "room" "LLampChoice$Room;", Cond.fieldLink RX3 40 "LampChoice$Room" "points" "I", Cond.fieldLink RX3 18 "LampChoice$Scenes" "misses" "[J", Cond.constantLong RX3 46 (100), Cond.fieldLink RX3 9 "LampChoice$Scenes" "aims" "[I", Cond.fieldLink RX3 48 "LampChoice$Scenes" "sweeps" "I", Cond.fieldLink RX3 26 "LampChoice$Scenes" "choice" "LLampChoice$Choice;", Cond.methodLink RX3 34 yJ7_fill_53178, Cond.methodLink RX3 51 yX0_hasLamps, Cond.instanceMethod yX0_hasLamps, Cond.selects RX0 yX0_hasLamps yX0_hasLamps, Cond.code yX0_hasLamps cX0_hasLamps 2 (some .boolean), Cond.methodLink RX3 57 yX3_sweep, Cond.instanceMethod yX3_sweep, Cond.selects RX3 yX3_sweep yX3_sweep, Cond.code yX3_sweep cX3_sweep 4 (some .boolean), Cond.fieldLink RX3 60 "LampChoice$Room" "places" "I", Cond.fieldLink RX3 63 "LampChoice$Choice" "lamps" "[I", Cond.methodLink RX3 66 yX3_fittingDim, Cond.instanceMethod yX3_fittingDim, Cond.selects RX3 yX3_fittingDim yX3_fittingDim, Cond.code yX3_fittingDim cX3_fittingDim 9 (some .int), Cond.constantLong RX3 78 (2), Cond.methodLink RX3 84 Lib.MathLoose.min_long.x]
def wsX4_miss_r7 : List Cond := [Cond.methodLink RX3 74 yX0_lampLight, Cond.instanceMethod yX0_lampLight, Cond.selects RX0 yX0_lampLight yX0_lampLight, Cond.code yX0_lampLight cX0_lampLight 4 (some .int), Cond.methodLink RX3 70 yX3_moveTo, Cond.instanceMethod yX3_moveTo, Cond.selects RX3 yX3_moveTo yX3_moveTo, Cond.code yX3_moveTo cX3_moveTo 6 none]
def wsX4_miss : List Cond := .code yX4_miss cX4_miss 2 (some .long) :: ((wsX4_miss_r1 ++ (wsX4_miss_r2 ++ (wsX4_miss_r3 ++ (wsX4_miss_r4 ++ (wsX4_miss_r5 ++ (wsX4_miss_r6 ++ wsX4_miss_r7)))))) ++ wsX40 ++ wsX30 ++ wsX20 ++ wsX00 ++ (vx_atS RX4 176 "java/lang/IllegalArgumentException" ["java/lang/RuntimeException", "java/lang/Exception"]).filter goodWord)
def wsX4_sensor_r1 : List Cond := [Cond.fieldLink RX4 15 "LampChoice" "room" "LLampChoice$Room;", Cond.fieldLink RX4 68 "LampChoice$Room" "points" "I", Cond.fieldLink RX4 37 "LampChoice" "days" "LLampChoice$Days;", Cond.fieldLink RX4 134 "LampChoice$Days" "sensors" "[I", Cond.methodLink RX4 78 yX4_checkPlace, Cond.instanceMethod yX4_checkPlace, Cond.selects RX4 yX4_checkPlace yX4_checkPlace, Cond.initialized RX4, Cond.code yX4_checkPlace cX4_checkPlace 2 none, Cond.fieldLink RX4 61 "LampChoice$Room" "places" "I", Cond.methodLink RX4 41 yX4_checkBounds, Cond.static yX4_checkBounds, Cond.code yX4_checkBounds cX4_checkBounds 3 none, Cond.classLink RX4 172 "java/lang/IllegalArgumentException", Cond.initialized "java/lang/IllegalArgumentException", Cond.methodLink RX4 58 yX4_lampsGo, Cond.instanceMethod yX4_lampsGo, Cond.selects RX4 yX4_lampsGo yX4_lampsGo, Cond.code yX4_lampsGo cX4_lampsGo 1 none, Cond.fieldLink RX4 21 "LampChoice" "choice" "LLampChoice$Choice;", Cond.fieldLink RX4 179 "LampChoice$Choice" "known" "Z", Cond.fieldLink RX4 30 "LampChoice" "scenes" "LLampChoice$Scenes;", Cond.fieldLink RX4 182 "LampChoice$Scenes" "known" "Z", Cond.methodLink RX4 183 yX1_startAnew]
def wsX4_sensor_r2 : List Cond := [Cond.instanceMethod yX1_startAnew, Cond.selects RX1 yX1_startAnew yX1_startAnew, Cond.initialized RX1, Cond.code yX1_startAnew cX1_startAnew 1 none, Cond.fieldLink RX1 18 "LampChoice$Days" "ownLevels" "[I", Cond.fieldLink RX1 21 "LampChoice$Days" "lasted" "[I", Cond.methodLink RX1 36 yJ7_fill_53178, Cond.static yJ7_fill_53178, Cond.initialized RJ7, Cond.code yJ7_fill_53178 cJ7_fill_53178 4 none]
def wsX4_sensor : List Cond := .code yX4_sensor cX4_sensor 3 none :: ((wsX4_sensor_r1 ++ wsX4_sensor_r2) ++ wsX40 ++ wsX20 ++ wsX10 ++ wsX00 ++ wsX30 ++ (vx_atS RX4 176 "java/lang/IllegalArgumentException" ["java/lang/RuntimeException", "java/lang/Exception"]).filter goodWord)
def wsX4_daylight : List Cond := .code yX4_daylight cX4_daylight 4 (some .int) :: ([.constant RX4 45 (100000), .fieldLink RX4 37 "LampChoice" "days" "LLampChoice$Days;", .fieldLink RX4 137 "LampChoice$Days" "daylights" "[I", .methodLink RX4 86 yX4_checkPoint, .instanceMethod yX4_checkPoint, .selects RX4 yX4_checkPoint yX4_checkPoint, .initialized RX4, .code yX4_checkPoint cX4_checkPoint 2 none, .fieldLink RX4 15 "LampChoice" "room" "LLampChoice$Room;", .fieldLink RX4 68 "LampChoice$Room" "points" "I", .methodLink RX4 41 yX4_checkBounds, .static yX4_checkBounds, .code yX4_checkBounds cX4_checkBounds 3 none, .classLink RX4 172 "java/lang/IllegalArgumentException", .initialized "java/lang/IllegalArgumentException"] ++ wsX40 ++ wsX10 ++ wsX20 ++ (vx_atS RX4 176 "java/lang/IllegalArgumentException" ["java/lang/RuntimeException", "java/lang/Exception"]).filter goodWord)
def wsX4_step : List Cond := .code yX4_step cX4_step 3 (some .int) :: ([.fieldLink RX4 37 "LampChoice" "days" "LLampChoice$Days;", .fieldLink RX4 140 "LampChoice$Days" "farthestStep" "I", .methodLink RX4 41 yX4_checkBounds, .static yX4_checkBounds, .initialized RX4, .code yX4_checkBounds cX4_checkBounds 3 none, .classLink RX4 172 "java/lang/IllegalArgumentException", .initialized "java/lang/IllegalArgumentException"] ++ wsX40 ++ wsX10 ++ (vx_atS RX4 176 "java/lang/IllegalArgumentException" ["java/lang/RuntimeException", "java/lang/Exception"]).filter goodWord)
def wsX4_run_r1 : List Cond := [Cond.classLink RX4 146 "java/lang/IllegalStateException", Cond.initialized "java/lang/IllegalStateException", Cond.fieldLink RX4 37 "LampChoice" "days" "LLampChoice$Days;", Cond.fieldLink RX4 143 "LampChoice$Days" "minutes" "I", Cond.constant RX4 117 (1000000), Cond.fieldLink RX4 21 "LampChoice" "choice" "LLampChoice$Choice;", Cond.methodLink RX4 41 yX4_checkBounds, Cond.static yX4_checkBounds, Cond.initialized RX4, Cond.code yX4_checkBounds cX4_checkBounds 3 none, Cond.classLink RX4 172 "java/lang/IllegalArgumentException", Cond.initialized "java/lang/IllegalArgumentException", Cond.methodLink RX4 92 yX0_settle, Cond.instanceMethod yX0_settle, Cond.selects RX0 yX0_settle yX0_settle, Cond.initialized RX0, Cond.code yX0_settle cX0_settle 1 none, Cond.fieldLink RX0 34 "LampChoice$Choice" "known" "Z", Cond.fieldLink RX0 38 "LampChoice$Choice" "found" "Z", Cond.fieldLink RX0 24 "LampChoice$Choice" "lamps" "[I", Cond.methodLink RX0 41 yJ7_fill_53178, Cond.static yJ7_fill_53178, Cond.initialized RJ7, Cond.code yJ7_fill_53178 cJ7_fill_53178 4 none]
def wsX4_run_r2 : List Cond := [Cond.methodLink RX0 47 yX0_fillLights, Cond.instanceMethod yX0_fillLights, Cond.selects RX0 yX0_fillLights yX0_fillLights, Cond.code yX0_fillLights cX0_fillLights 5 none, Cond.fieldLink RX0 30 "LampChoice$Choice" "room" "LLampChoice$Room;", Cond.fieldLink RX0 65 "LampChoice$Room" "places" "I", Cond.fieldLink RX0 88 "LampChoice$Room" "kinds" "I", Cond.fieldLink RX0 75 "LampChoice$Room" "points" "I", Cond.fieldLink RX0 9 "LampChoice$Choice" "lights" "[I", Cond.methodLink RX0 61 yX0_lightRow, Cond.static yX0_lightRow, Cond.code yX0_lightRow cX0_lightRow 2 (some .int), Cond.methodLink RX0 91 yX2_lightOf, Cond.instanceMethod yX2_lightOf, Cond.selects RX2 yX2_lightOf yX2_lightOf, Cond.initialized RX2, Cond.code yX2_lightOf cX2_lightOf 6 (some .int), Cond.fieldLink RX2 24 "LampChoice$Room" "placeX" "[I", Cond.fieldLink RX2 33 "LampChoice$Room" "pointX" "[I", Cond.fieldLink RX2 27 "LampChoice$Room" "placeY" "[I", Cond.fieldLink RX2 36 "LampChoice$Room" "pointY" "[I", Cond.constantLong RX2 55 (1000), Cond.fieldLink RX2 9 "LampChoice$Room" "strengths" "[I", Cond.fieldLink RX2 42 "LampChoice$Room" "height" "I"]
def wsX4_run_r3 : List Cond := [Cond.static yX4_quotient, Cond.code yX4_quotient cX4_quotient 4 (some .long), Cond.methodLink RX0 50 yX0_fillReach, Cond.instanceMethod yX0_fillReach, Cond.selects RX0 yX0_fillReach yX0_fillReach, Cond.code yX0_fillReach cX0_fillReach 4 none, Cond.fieldLink RX0 15 "LampChoice$Choice" "reach" "[I", Cond.methodLink RX0 95 yX0_mostLight, Cond.instanceMethod yX0_mostLight, Cond.selects RX0 yX0_mostLight yX0_mostLight, Cond.code yX0_mostLight cX0_mostLight 5 (some .int), Cond.methodLink RX0 102 Lib.Math.max.name, Cond.static Lib.Math.max.name, Cond.initialized "java/lang/Math", Cond.code Lib.Math.max.name Lib.Math.max.code 2 (some .int), Cond.methodLink RX0 98 yX2_mayHave, Cond.instanceMethod yX2_mayHave, Cond.selects RX2 yX2_mayHave yX2_mayHave, Cond.code yX2_mayHave cX2_mayHave 3 (some .boolean), Cond.fieldLink RX2 30 "LampChoice$Room" "held" "[I", Cond.methodLink RX0 53 yX0_canBecomeEnough, Cond.instanceMethod yX0_canBecomeEnough, Cond.selects RX0 yX0_canBecomeEnough yX0_canBecomeEnough, Cond.code yX0_canBecomeEnough cX0_canBecomeEnough 4 (some .boolean)]
def wsX4_run_r4 : List Cond := [Cond.fieldLink RX0 18 "LampChoice$Choice" "gathered" "[I", Cond.fieldLink RX0 127 "LampChoice$Room" "wanted" "[I", Cond.methodLink RX0 57 yX0_tryFrom, Cond.instanceMethod yX0_tryFrom, Cond.selects RX0 yX0_tryFrom yX0_tryFrom, Cond.code yX0_tryFrom cX0_tryFrom 5 none, Cond.fieldLink RX0 115 "LampChoice$Choice" "watts" "I", Cond.fieldLink RX0 21 "LampChoice$Choice" "tried" "[I", Cond.methodLink RX0 107 yX0_weigh, Cond.instanceMethod yX0_weigh, Cond.selects RX0 yX0_weigh yX0_weigh, Cond.code yX0_weigh cX0_weigh 8 none, Cond.methodLink RX0 130 Lib.MathLoose.min_long.x, Cond.static Lib.MathLoose.min_long.x, Cond.code Lib.MathLoose.min_long.x Lib.MathLoose.min_long.code 4 (some .long), Cond.methodLink RX0 133 Lib.MathLoose.max_long.x, Cond.static Lib.MathLoose.max_long.x, Cond.code Lib.MathLoose.max_long.x Lib.MathLoose.max_long.code 4 (some .long), Cond.fieldLink RX0 78 "LampChoice$Choice" "sumOfLevels" "J", Cond.fieldLink RX0 71 "LampChoice$Choice" "leastLevel" "J", Cond.methodLink RX0 121 arraycopyName, Cond.native arraycopyName, Cond.static arraycopyName, Cond.initialized "java/lang/System"]
def wsX4_run_r5 : List Cond := [Cond.fieldLink RX0 27 "LampChoice$Choice" "levels" "[I", Cond.methodLink RX0 111 yX2_wattsOf, Cond.instanceMethod yX2_wattsOf, Cond.selects RX2 yX2_wattsOf yX2_wattsOf, Cond.code yX2_wattsOf cX2_wattsOf 2 (some .int), Cond.fieldLink RX2 15 "LampChoice$Room" "watts" "[I", Cond.methodLink RX0 118 yX0_gather, Cond.instanceMethod yX0_gather, Cond.selects RX0 yX0_gather yX0_gather, Cond.code yX0_gather cX0_gather 7 none, Cond.methodLink RX4 153 yX1_pass, Cond.instanceMethod yX1_pass, Cond.selects RX1 yX1_pass yX1_pass, Cond.initialized RX1, Cond.code yX1_pass cX1_pass 3 none, Cond.fieldLink RX1 28 "LampChoice$Days" "room" "LLampChoice$Room;", Cond.fieldLink RX1 42 "LampChoice$Room" "places" "I", Cond.fieldLink RX1 32 "LampChoice$Days" "choice" "LLampChoice$Choice;", Cond.fieldLink RX1 47 "LampChoice$Choice" "lamps" "[I", Cond.fieldLink RX1 56 "LampChoice$Days" "minutes" "I", Cond.methodLink RX1 52 yX1_follow, Cond.instanceMethod yX1_follow, Cond.selects RX1 yX1_follow yX1_follow, Cond.code yX1_follow cX1_follow 5 none]
def wsX4_run_r6 : List Cond := [Cond.fieldLink RX1 18 "LampChoice$Days" "ownLevels" "[I", Cond.methodLink RX1 59 yX1_needOf, Cond.instanceMethod yX1_needOf, Cond.selects RX1 yX1_needOf yX1_needOf, Cond.code yX1_needOf cX1_needOf 6 (some .int), Cond.fieldLink RX1 9 "LampChoice$Days" "sensors" "[I", Cond.fieldLink RX1 78 "LampChoice$Room" "wanted" "[I", Cond.fieldLink RX1 15 "LampChoice$Days" "daylights" "[I", Cond.constantLong RX1 84 (100), Cond.methodLink RX1 90 Lib.MathLoose.min_long.x, Cond.methodLink RX1 81 yX0_lampLight, Cond.instanceMethod yX0_lampLight, Cond.selects RX0 yX0_lampLight yX0_lampLight, Cond.code yX0_lampLight cX0_lampLight 4 (some .int), Cond.methodLink RX1 63 yX1_stepTowards, Cond.instanceMethod yX1_stepTowards, Cond.selects RX1 yX1_stepTowards yX1_stepTowards, Cond.code yX1_stepTowards cX1_stepTowards 3 (some .int), Cond.fieldLink RX1 24 "LampChoice$Days" "farthestStep" "I", Cond.methodLink RX1 70 Lib.Math.min.name, Cond.static Lib.Math.min.name, Cond.code Lib.Math.min.name Lib.Math.min.code 2 (some .int), Cond.methodLink RX1 75 Lib.Math.max.name, Cond.methodLink RX1 67 yX1_shine]
def wsX4_run_r7 : List Cond := [Cond.instanceMethod yX1_shine, Cond.selects RX1 yX1_shine yX1_shine, Cond.code yX1_shine cX1_shine 7 none, Cond.fieldLink RX1 92 "LampChoice$Days" "wattMinutes" "J", Cond.fieldLink RX1 96 "LampChoice$Room" "watts" "[I", Cond.fieldLink RX1 99 "LampChoice$Room" "lives" "[I", Cond.fieldLink RX1 21 "LampChoice$Days" "lasted" "[I", Cond.fieldLink RX1 102 "LampChoice$Days" "renewed" "J", Cond.fieldLink RX1 105 "LampChoice$Days" "paid" "J", Cond.fieldLink RX1 108 "LampChoice$Room" "cents" "[I"]
def wsX4_run : List Cond := .code yX4_run cX4_run 2 (some .int) :: ((wsX4_run_r1 ++ (wsX4_run_r2 ++ (wsX4_run_r3 ++ (wsX4_run_r4 ++ (wsX4_run_r5 ++ (wsX4_run_r6 ++ wsX4_run_r7)))))) ++ wsX40 ++ wsX10 ++ wsX00 ++ wsX20 ++ (vx_atS RX4 150 "java/lang/IllegalStateException" ["java/lang/RuntimeException", "java/lang/Exception"]).filter goodWord ++ (vx_atS RX4 176 "java/lang/IllegalArgumentException" ["java/lang/RuntimeException", "java/lang/Exception"]).filter goodWord)
def wsX4_own_r1 : List Cond := [Cond.fieldLink RX4 21 "LampChoice" "choice" "LLampChoice$Choice;", Cond.fieldLink RX4 102 "LampChoice$Choice" "lamps" "[I", Cond.fieldLink RX4 37 "LampChoice" "days" "LLampChoice$Days;", Cond.fieldLink RX4 156 "LampChoice$Days" "ownLevels" "[I", Cond.fieldLink RX4 159 "LampChoice$Days" "lasted" "[I", Cond.methodLink RX4 78 yX4_checkPlace, Cond.instanceMethod yX4_checkPlace, Cond.selects RX4 yX4_checkPlace yX4_checkPlace, Cond.initialized RX4, Cond.code yX4_checkPlace cX4_checkPlace 2 none, Cond.fieldLink RX4 15 "LampChoice" "room" "LLampChoice$Room;", Cond.fieldLink RX4 61 "LampChoice$Room" "places" "I", Cond.methodLink RX4 41 yX4_checkBounds, Cond.static yX4_checkBounds, Cond.code yX4_checkBounds cX4_checkBounds 3 none, Cond.classLink RX4 172 "java/lang/IllegalArgumentException", Cond.initialized "java/lang/IllegalArgumentException", Cond.methodLink RX4 92 yX0_settle, Cond.instanceMethod yX0_settle, Cond.selects RX0 yX0_settle yX0_settle, Cond.initialized RX0, Cond.code yX0_settle cX0_settle 1 none, Cond.fieldLink RX0 34 "LampChoice$Choice" "known" "Z", Cond.fieldLink RX0 38 "LampChoice$Choice" "found" "Z"]
def wsX4_own_r2 : List Cond := [Cond.fieldLink RX0 24 "LampChoice$Choice" "lamps" "[I", Cond.methodLink RX0 41 yJ7_fill_53178, Cond.static yJ7_fill_53178, Cond.initialized RJ7, Cond.code yJ7_fill_53178 cJ7_fill_53178 4 none, Cond.methodLink RX0 47 yX0_fillLights, Cond.instanceMethod yX0_fillLights, Cond.selects RX0 yX0_fillLights yX0_fillLights, Cond.code yX0_fillLights cX0_fillLights 5 none, Cond.fieldLink RX0 30 "LampChoice$Choice" "room" "LLampChoice$Room;", Cond.fieldLink RX0 65 "LampChoice$Room" "places" "I", Cond.fieldLink RX0 88 "LampChoice$Room" "kinds" "I", Cond.fieldLink RX0 75 "LampChoice$Room" "points" "I", Cond.fieldLink RX0 9 "LampChoice$Choice" "lights" "[I", Cond.methodLink RX0 61 yX0_lightRow, Cond.static yX0_lightRow, Cond.code yX0_lightRow cX0_lightRow 2 (some .int), Cond.methodLink RX0 91 yX2_lightOf, Cond.instanceMethod yX2_lightOf, Cond.selects RX2 yX2_lightOf yX2_lightOf, Cond.initialized RX2, Cond.code yX2_lightOf cX2_lightOf 6 (some .int), Cond.fieldLink RX2 24 "LampChoice$Room" "placeX" "[I", Cond.fieldLink RX2 33 "LampChoice$Room" "pointX" "[I"]
def wsX4_own_r3 : List Cond := [Cond.fieldLink RX2 27 "LampChoice$Room" "placeY" "[I", Cond.fieldLink RX2 36 "LampChoice$Room" "pointY" "[I", Cond.constantLong RX2 55 (1000), Cond.fieldLink RX2 9 "LampChoice$Room" "strengths" "[I", Cond.fieldLink RX2 42 "LampChoice$Room" "height" "I", Cond.static yX4_quotient, Cond.code yX4_quotient cX4_quotient 4 (some .long), Cond.methodLink RX0 50 yX0_fillReach, Cond.instanceMethod yX0_fillReach, Cond.selects RX0 yX0_fillReach yX0_fillReach, Cond.code yX0_fillReach cX0_fillReach 4 none, Cond.fieldLink RX0 15 "LampChoice$Choice" "reach" "[I", Cond.methodLink RX0 95 yX0_mostLight, Cond.instanceMethod yX0_mostLight, Cond.selects RX0 yX0_mostLight yX0_mostLight, Cond.code yX0_mostLight cX0_mostLight 5 (some .int), Cond.methodLink RX0 102 Lib.Math.max.name, Cond.static Lib.Math.max.name, Cond.initialized "java/lang/Math", Cond.code Lib.Math.max.name Lib.Math.max.code 2 (some .int), Cond.methodLink RX0 98 yX2_mayHave, Cond.instanceMethod yX2_mayHave, Cond.selects RX2 yX2_mayHave yX2_mayHave, Cond.code yX2_mayHave cX2_mayHave 3 (some .boolean)]
def wsX4_own_r4 : List Cond := [Cond.fieldLink RX2 30 "LampChoice$Room" "held" "[I", Cond.methodLink RX0 53 yX0_canBecomeEnough, Cond.instanceMethod yX0_canBecomeEnough, Cond.selects RX0 yX0_canBecomeEnough yX0_canBecomeEnough, Cond.code yX0_canBecomeEnough cX0_canBecomeEnough 4 (some .boolean), Cond.fieldLink RX0 18 "LampChoice$Choice" "gathered" "[I", Cond.fieldLink RX0 127 "LampChoice$Room" "wanted" "[I", Cond.methodLink RX0 57 yX0_tryFrom, Cond.instanceMethod yX0_tryFrom, Cond.selects RX0 yX0_tryFrom yX0_tryFrom, Cond.code yX0_tryFrom cX0_tryFrom 5 none, Cond.fieldLink RX0 115 "LampChoice$Choice" "watts" "I", Cond.fieldLink RX0 21 "LampChoice$Choice" "tried" "[I", Cond.methodLink RX0 107 yX0_weigh, Cond.instanceMethod yX0_weigh, Cond.selects RX0 yX0_weigh yX0_weigh, Cond.code yX0_weigh cX0_weigh 8 none, Cond.methodLink RX0 130 Lib.MathLoose.min_long.x, Cond.static Lib.MathLoose.min_long.x, Cond.code Lib.MathLoose.min_long.x Lib.MathLoose.min_long.code 4 (some .long), Cond.methodLink RX0 133 Lib.MathLoose.max_long.x, Cond.static Lib.MathLoose.max_long.x, Cond.code Lib.MathLoose.max_long.x Lib.MathLoose.max_long.code 4 (some .long), Cond.fieldLink RX0 78 "LampChoice$Choice" "sumOfLevels" "J"]
def wsX4_own_r5 : List Cond := [Cond.fieldLink RX0 71 "LampChoice$Choice" "leastLevel" "J", Cond.methodLink RX0 121 arraycopyName, Cond.native arraycopyName, Cond.static arraycopyName, Cond.initialized "java/lang/System", Cond.fieldLink RX0 27 "LampChoice$Choice" "levels" "[I", Cond.methodLink RX0 111 yX2_wattsOf, Cond.instanceMethod yX2_wattsOf, Cond.selects RX2 yX2_wattsOf yX2_wattsOf, Cond.code yX2_wattsOf cX2_wattsOf 2 (some .int), Cond.fieldLink RX2 15 "LampChoice$Room" "watts" "[I", Cond.methodLink RX0 118 yX0_gather, Cond.instanceMethod yX0_gather, Cond.selects RX0 yX0_gather yX0_gather, Cond.code yX0_gather cX0_gather 7 none]
def wsX4_own : List Cond := .code yX4_own cX4_own 3 (some .int) :: ((wsX4_own_r1 ++ (wsX4_own_r2 ++ (wsX4_own_r3 ++ (wsX4_own_r4 ++ wsX4_own_r5)))) ++ wsX40 ++ wsX00 ++ wsX10 ++ wsX20 ++ (vx_atS RX4 176 "java/lang/IllegalArgumentException" ["java/lang/RuntimeException", "java/lang/Exception"]).filter goodWord)
def wsX4_used : List Cond := .code yX4_used cX4_used 2 (some .long) :: ([.fieldLink RX4 37 "LampChoice" "days" "LLampChoice$Days;", .fieldLink RX4 162 "LampChoice$Days" "wattMinutes" "J", .fieldLink RX4 166 "LampChoice$Days" "paid" "J", .fieldLink RX4 169 "LampChoice$Days" "renewed" "J", .methodLink RX4 41 yX4_checkBounds, .static yX4_checkBounds, .initialized RX4, .code yX4_checkBounds cX4_checkBounds 3 none, .classLink RX4 172 "java/lang/IllegalArgumentException", .initialized "java/lang/IllegalArgumentException"] ++ wsX40 ++ wsX10 ++ (vx_atS RX4 176 "java/lang/IllegalArgumentException" ["java/lang/RuntimeException", "java/lang/Exception"]).filter goodWord)
def wsX5_init_r1 : List Cond := [Cond.methodLink RX5 1 objectInit, Cond.instanceMethod objectInit, Cond.code objectInit ⟨#[0xb1]⟩ 1 none, Cond.arrayClass .int, Cond.fieldLink RX5 7 "LampChoiceModel" "strengths" "[I", Cond.fieldLink RX5 13 "LampChoiceModel" "watts" "[I", Cond.fieldLink RX5 16 "LampChoiceModel" "lives" "[I", Cond.fieldLink RX5 19 "LampChoiceModel" "cents" "[I", Cond.fieldLink RX5 22 "LampChoiceModel" "xs" "[I", Cond.fieldLink RX5 25 "LampChoiceModel" "ys" "[I", Cond.fieldLink RX5 28 "LampChoiceModel" "held" "[I", Cond.fieldLink RX5 31 "LampChoiceModel" "sensors" "[I", Cond.fieldLink RX5 34 "LampChoiceModel" "pointXs" "[I", Cond.fieldLink RX5 37 "LampChoiceModel" "pointYs" "[I", Cond.fieldLink RX5 40 "LampChoiceModel" "wanted" "[I", Cond.fieldLink RX5 43 "LampChoiceModel" "aims" "[I", Cond.fieldLink RX5 46 "LampChoiceModel" "daylights" "[I", Cond.fieldLink RX5 49 "LampChoiceModel" "height" "I", Cond.fieldLink RX5 53 "LampChoiceModel" "most" "I", Cond.fieldLink RX5 56 "LampChoiceModel" "best" "[I", Cond.fieldLink RX5 59 "LampChoiceModel" "choice" "[I", Cond.fieldLink RX5 62 "LampChoiceModel" "sums" "[I", Cond.fieldLink RX5 65 "LampChoiceModel" "wattsBefore" "[I", Cond.fieldLink RX5 68 "LampChoiceModel" "lights" "[I"]
def wsX5_init_r2 : List Cond := [Cond.fieldLink RX5 71 "LampChoiceModel" "dims" "[I", Cond.fieldLink RX5 74 "LampChoiceModel" "levels" "[I", Cond.fieldLink RX5 77 "LampChoiceModel" "lasted" "[I"]
def wsX5_init : List Cond := .code yX5_init cX5_init 1 none :: ((wsX5_init_r1 ++ wsX5_init_r2) ++ wsX50)
def wsX5_thrown : List Cond := .code yX5_thrown cX5_thrown 1 (some .int) :: ([.fieldLink RX5 80 "LampChoiceModel" "code" "I"] ++ wsX50)
def wsX5_isIn : List Cond := .code yX5_isIn cX5_isIn 3 (some .boolean) :: ([])
def wsX5_isKind : List Cond := .code yX5_isKind cX5_isKind 2 (some .boolean) :: ([.fieldLink RX5 83 "LampChoiceModel" "kinds" "I", .methodLink RX5 86 yX5_isIn, .static yX5_isIn, .initialized RX5, .code yX5_isIn cX5_isIn 3 (some .boolean)] ++ wsX50)
def wsX5_isPlace : List Cond := .code yX5_isPlace cX5_isPlace 2 (some .boolean) :: ([.fieldLink RX5 90 "LampChoiceModel" "places" "I", .methodLink RX5 86 yX5_isIn, .static yX5_isIn, .initialized RX5, .code yX5_isIn cX5_isIn 3 (some .boolean)] ++ wsX50)
def wsX5_isPoint : List Cond := .code yX5_isPoint cX5_isPoint 2 (some .boolean) :: ([.fieldLink RX5 93 "LampChoiceModel" "points" "I", .methodLink RX5 86 yX5_isIn, .static yX5_isIn, .initialized RX5, .code yX5_isIn cX5_isIn 3 (some .boolean)] ++ wsX50)
def wsX5_renew : List Cond := .code yX5_renew cX5_renew 2 none :: ([.fieldLink RX5 96 "LampChoiceModel" "isKnown" "Z", .fieldLink RX5 74 "LampChoiceModel" "levels" "[I", .fieldLink RX5 77 "LampChoiceModel" "lasted" "[I"] ++ wsX50)
def wsX5_kind : List Cond := .code yX5_kind cX5_kind 6 (some .int) :: ([.constant RX5 100 (100000), .fieldLink RX5 83 "LampChoiceModel" "kinds" "I", .fieldLink RX5 80 "LampChoiceModel" "code" "I", .fieldLink RX5 7 "LampChoiceModel" "strengths" "[I", .fieldLink RX5 13 "LampChoiceModel" "watts" "[I", .fieldLink RX5 16 "LampChoiceModel" "lives" "[I", .fieldLink RX5 19 "LampChoiceModel" "cents" "[I", .methodLink RX5 86 yX5_isIn, .static yX5_isIn, .initialized RX5, .code yX5_isIn cX5_isIn 3 (some .boolean), .methodLink RX5 101 yX5_renew, .instanceMethod yX5_renew, .selects RX5 yX5_renew yX5_renew, .code yX5_renew cX5_renew 2 none, .fieldLink RX5 96 "LampChoiceModel" "isKnown" "Z", .fieldLink RX5 74 "LampChoiceModel" "levels" "[I", .fieldLink RX5 77 "LampChoiceModel" "lasted" "[I"] ++ wsX50)
def wsX5_place : List Cond := .code yX5_place cX5_place 3 (some .int) :: ([.fieldLink RX5 90 "LampChoiceModel" "places" "I", .fieldLink RX5 80 "LampChoiceModel" "code" "I", .fieldLink RX5 22 "LampChoiceModel" "xs" "[I", .fieldLink RX5 25 "LampChoiceModel" "ys" "[I", .fieldLink RX5 28 "LampChoiceModel" "held" "[I", .fieldLink RX5 31 "LampChoiceModel" "sensors" "[I", .methodLink RX5 86 yX5_isIn, .static yX5_isIn, .initialized RX5, .code yX5_isIn cX5_isIn 3 (some .boolean), .methodLink RX5 101 yX5_renew, .instanceMethod yX5_renew, .selects RX5 yX5_renew yX5_renew, .code yX5_renew cX5_renew 2 none, .fieldLink RX5 96 "LampChoiceModel" "isKnown" "Z", .fieldLink RX5 74 "LampChoiceModel" "levels" "[I", .fieldLink RX5 77 "LampChoiceModel" "lasted" "[I"] ++ wsX50)
def wsX5_point : List Cond := .code yX5_point cX5_point 4 (some .int) :: ([.constant RX5 100 (100000), .fieldLink RX5 93 "LampChoiceModel" "points" "I", .fieldLink RX5 80 "LampChoiceModel" "code" "I", .fieldLink RX5 34 "LampChoiceModel" "pointXs" "[I", .fieldLink RX5 37 "LampChoiceModel" "pointYs" "[I", .fieldLink RX5 40 "LampChoiceModel" "wanted" "[I", .methodLink RX5 86 yX5_isIn, .static yX5_isIn, .initialized RX5, .code yX5_isIn cX5_isIn 3 (some .boolean), .methodLink RX5 101 yX5_renew, .instanceMethod yX5_renew, .selects RX5 yX5_renew yX5_renew, .code yX5_renew cX5_renew 2 none, .fieldLink RX5 96 "LampChoiceModel" "isKnown" "Z", .fieldLink RX5 74 "LampChoiceModel" "levels" "[I", .fieldLink RX5 77 "LampChoiceModel" "lasted" "[I"] ++ wsX50)
def wsX5_height : List Cond := .code yX5_height cX5_height 3 (some .int) :: ([.fieldLink RX5 80 "LampChoiceModel" "code" "I", .fieldLink RX5 49 "LampChoiceModel" "height" "I", .methodLink RX5 86 yX5_isIn, .static yX5_isIn, .initialized RX5, .code yX5_isIn cX5_isIn 3 (some .boolean), .methodLink RX5 101 yX5_renew, .instanceMethod yX5_renew, .selects RX5 yX5_renew yX5_renew, .code yX5_renew cX5_renew 2 none, .fieldLink RX5 96 "LampChoiceModel" "isKnown" "Z", .fieldLink RX5 74 "LampChoiceModel" "levels" "[I", .fieldLink RX5 77 "LampChoiceModel" "lasted" "[I"] ++ wsX50)
def wsX5_hold : List Cond := .code yX5_hold cX5_hold 3 none :: ([.fieldLink RX5 80 "LampChoiceModel" "code" "I", .fieldLink RX5 28 "LampChoiceModel" "held" "[I", .methodLink RX5 104 yX5_isPlace, .instanceMethod yX5_isPlace, .selects RX5 yX5_isPlace yX5_isPlace, .initialized RX5, .code yX5_isPlace cX5_isPlace 2 (some .boolean), .fieldLink RX5 90 "LampChoiceModel" "places" "I", .methodLink RX5 86 yX5_isIn, .static yX5_isIn, .code yX5_isIn cX5_isIn 3 (some .boolean), .methodLink RX5 108 yX5_isKind, .instanceMethod yX5_isKind, .selects RX5 yX5_isKind yX5_isKind, .code yX5_isKind cX5_isKind 2 (some .boolean), .fieldLink RX5 83 "LampChoiceModel" "kinds" "I", .methodLink RX5 101 yX5_renew, .instanceMethod yX5_renew, .selects RX5 yX5_renew yX5_renew, .code yX5_renew cX5_renew 2 none, .fieldLink RX5 96 "LampChoiceModel" "isKnown" "Z", .fieldLink RX5 74 "LampChoiceModel" "levels" "[I", .fieldLink RX5 77 "LampChoiceModel" "lasted" "[I"] ++ wsX50)
def wsX5_lightOf : List Cond := .code yX5_lightOf cX5_lightOf 6 (some .int) :: ([.fieldLink RX5 22 "LampChoiceModel" "xs" "[I", .fieldLink RX5 34 "LampChoiceModel" "pointXs" "[I", .fieldLink RX5 25 "LampChoiceModel" "ys" "[I", .fieldLink RX5 37 "LampChoiceModel" "pointYs" "[I", .fieldLink RX5 7 "LampChoiceModel" "strengths" "[I", .fieldLink RX5 49 "LampChoiceModel" "height" "I"] ++ wsX50)
def wsX5_light_r1 : List Cond := [Cond.fieldLink RX5 80 "LampChoiceModel" "code" "I", Cond.methodLink RX5 108 yX5_isKind, Cond.instanceMethod yX5_isKind, Cond.selects RX5 yX5_isKind yX5_isKind, Cond.initialized RX5, Cond.code yX5_isKind cX5_isKind 2 (some .boolean), Cond.fieldLink RX5 83 "LampChoiceModel" "kinds" "I", Cond.methodLink RX5 86 yX5_isIn, Cond.static yX5_isIn, Cond.code yX5_isIn cX5_isIn 3 (some .boolean), Cond.methodLink RX5 104 yX5_isPlace, Cond.instanceMethod yX5_isPlace, Cond.selects RX5 yX5_isPlace yX5_isPlace, Cond.code yX5_isPlace cX5_isPlace 2 (some .boolean), Cond.fieldLink RX5 90 "LampChoiceModel" "places" "I", Cond.methodLink RX5 111 yX5_isPoint, Cond.instanceMethod yX5_isPoint, Cond.selects RX5 yX5_isPoint yX5_isPoint, Cond.code yX5_isPoint cX5_isPoint 2 (some .boolean), Cond.fieldLink RX5 93 "LampChoiceModel" "points" "I", Cond.methodLink RX5 114 yX5_lightOf, Cond.instanceMethod yX5_lightOf, Cond.selects RX5 yX5_lightOf yX5_lightOf, Cond.code yX5_lightOf cX5_lightOf 6 (some .int)]
def wsX5_light_r2 : List Cond := [Cond.fieldLink RX5 22 "LampChoiceModel" "xs" "[I", Cond.fieldLink RX5 34 "LampChoiceModel" "pointXs" "[I", Cond.fieldLink RX5 25 "LampChoiceModel" "ys" "[I", Cond.fieldLink RX5 37 "LampChoiceModel" "pointYs" "[I", Cond.fieldLink RX5 7 "LampChoiceModel" "strengths" "[I", Cond.fieldLink RX5 49 "LampChoiceModel" "height" "I"]
def wsX5_light : List Cond := .code yX5_light cX5_light 4 (some .int) :: ((wsX5_light_r1 ++ wsX5_light_r2) ++ wsX50)
def wsX5_firstOf : List Cond := .code yX5_firstOf cX5_firstOf 2 (some .int) :: ([.fieldLink RX5 28 "LampChoiceModel" "held" "[I"] ++ wsX50)
def wsX5_addUp : List Cond := .code yX5_addUp cX5_addUp 5 none :: ([.fieldLink RX5 90 "LampChoiceModel" "places" "I", .fieldLink RX5 59 "LampChoiceModel" "choice" "[I", .fieldLink RX5 65 "LampChoiceModel" "wattsBefore" "[I", .fieldLink RX5 13 "LampChoiceModel" "watts" "[I", .fieldLink RX5 93 "LampChoiceModel" "points" "I", .fieldLink RX5 62 "LampChoiceModel" "sums" "[I", .fieldLink RX5 68 "LampChoiceModel" "lights" "[I"] ++ wsX50)
def wsX5_nextChoice : List Cond := .code yX5_nextChoice cX5_nextChoice 2 (some .int) :: ([.fieldLink RX5 90 "LampChoiceModel" "places" "I", .fieldLink RX5 28 "LampChoiceModel" "held" "[I", .fieldLink RX5 59 "LampChoiceModel" "choice" "[I", .fieldLink RX5 83 "LampChoiceModel" "kinds" "I", .methodLink RX5 118 yX5_firstOf, .instanceMethod yX5_firstOf, .selects RX5 yX5_firstOf yX5_firstOf, .initialized RX5, .code yX5_firstOf cX5_firstOf 2 (some .int)] ++ wsX50)
def wsX5_look : List Cond := .code yX5_look cX5_look 8 none :: ([.fieldLink RX5 65 "LampChoiceModel" "wattsBefore" "[I", .fieldLink RX5 90 "LampChoiceModel" "places" "I", .fieldLink RX5 122 "LampChoiceModel" "found" "Z", .fieldLink RX5 125 "LampChoiceModel" "bestWatts" "I", .fieldLink RX5 93 "LampChoiceModel" "points" "I", .fieldLink RX5 62 "LampChoiceModel" "sums" "[I", .fieldLink RX5 40 "LampChoiceModel" "wanted" "[I", .fieldLink RX5 128 "LampChoiceModel" "bestSum" "J", .fieldLink RX5 132 "LampChoiceModel" "bestLeast" "J", .fieldLink RX5 56 "LampChoiceModel" "best" "[I", .fieldLink RX5 59 "LampChoiceModel" "choice" "[I"] ++ wsX50)
def wsX5_findBest_r1 : List Cond := [Cond.fieldLink RX5 96 "LampChoiceModel" "isKnown" "Z", Cond.fieldLink RX5 122 "LampChoiceModel" "found" "Z", Cond.fieldLink RX5 83 "LampChoiceModel" "kinds" "I", Cond.fieldLink RX5 90 "LampChoiceModel" "places" "I", Cond.fieldLink RX5 93 "LampChoiceModel" "points" "I", Cond.fieldLink RX5 68 "LampChoiceModel" "lights" "[I", Cond.fieldLink RX5 62 "LampChoiceModel" "sums" "[I", Cond.fieldLink RX5 59 "LampChoiceModel" "choice" "[I", Cond.methodLink RX5 114 yX5_lightOf, Cond.instanceMethod yX5_lightOf, Cond.selects RX5 yX5_lightOf yX5_lightOf, Cond.initialized RX5, Cond.code yX5_lightOf cX5_lightOf 6 (some .int), Cond.fieldLink RX5 22 "LampChoiceModel" "xs" "[I", Cond.fieldLink RX5 34 "LampChoiceModel" "pointXs" "[I", Cond.fieldLink RX5 25 "LampChoiceModel" "ys" "[I", Cond.fieldLink RX5 37 "LampChoiceModel" "pointYs" "[I", Cond.fieldLink RX5 7 "LampChoiceModel" "strengths" "[I", Cond.fieldLink RX5 49 "LampChoiceModel" "height" "I", Cond.methodLink RX5 118 yX5_firstOf, Cond.instanceMethod yX5_firstOf, Cond.selects RX5 yX5_firstOf yX5_firstOf, Cond.code yX5_firstOf cX5_firstOf 2 (some .int), Cond.fieldLink RX5 28 "LampChoiceModel" "held" "[I"]
def wsX5_findBest_r2 : List Cond := [Cond.methodLink RX5 135 yX5_addUp, Cond.instanceMethod yX5_addUp, Cond.selects RX5 yX5_addUp yX5_addUp, Cond.code yX5_addUp cX5_addUp 5 none, Cond.fieldLink RX5 65 "LampChoiceModel" "wattsBefore" "[I", Cond.fieldLink RX5 13 "LampChoiceModel" "watts" "[I", Cond.methodLink RX5 139 yX5_look, Cond.instanceMethod yX5_look, Cond.selects RX5 yX5_look yX5_look, Cond.code yX5_look cX5_look 8 none, Cond.fieldLink RX5 125 "LampChoiceModel" "bestWatts" "I", Cond.fieldLink RX5 40 "LampChoiceModel" "wanted" "[I", Cond.fieldLink RX5 128 "LampChoiceModel" "bestSum" "J", Cond.fieldLink RX5 132 "LampChoiceModel" "bestLeast" "J", Cond.fieldLink RX5 56 "LampChoiceModel" "best" "[I", Cond.methodLink RX5 142 yX5_nextChoice, Cond.instanceMethod yX5_nextChoice, Cond.selects RX5 yX5_nextChoice yX5_nextChoice, Cond.code yX5_nextChoice cX5_nextChoice 2 (some .int)]
def wsX5_findBest : List Cond := .code yX5_findBest cX5_findBest 4 none :: ((wsX5_findBest_r1 ++ wsX5_findBest_r2) ++ wsX50)
def wsX5_best_r1 : List Cond := [Cond.fieldLink RX5 80 "LampChoiceModel" "code" "I", Cond.fieldLink RX5 122 "LampChoiceModel" "found" "Z", Cond.fieldLink RX5 125 "LampChoiceModel" "bestWatts" "I", Cond.methodLink RX5 146 yX5_findBest, Cond.instanceMethod yX5_findBest, Cond.selects RX5 yX5_findBest yX5_findBest, Cond.initialized RX5, Cond.code yX5_findBest cX5_findBest 4 none, Cond.fieldLink RX5 96 "LampChoiceModel" "isKnown" "Z", Cond.fieldLink RX5 83 "LampChoiceModel" "kinds" "I", Cond.fieldLink RX5 90 "LampChoiceModel" "places" "I", Cond.fieldLink RX5 93 "LampChoiceModel" "points" "I", Cond.fieldLink RX5 68 "LampChoiceModel" "lights" "[I", Cond.fieldLink RX5 62 "LampChoiceModel" "sums" "[I", Cond.fieldLink RX5 59 "LampChoiceModel" "choice" "[I", Cond.methodLink RX5 114 yX5_lightOf, Cond.instanceMethod yX5_lightOf, Cond.selects RX5 yX5_lightOf yX5_lightOf, Cond.code yX5_lightOf cX5_lightOf 6 (some .int), Cond.fieldLink RX5 22 "LampChoiceModel" "xs" "[I", Cond.fieldLink RX5 34 "LampChoiceModel" "pointXs" "[I", Cond.fieldLink RX5 25 "LampChoiceModel" "ys" "[I", Cond.fieldLink RX5 37 "LampChoiceModel" "pointYs" "[I", Cond.fieldLink RX5 7 "LampChoiceModel" "strengths" "[I"]
def wsX5_best_r2 : List Cond := [Cond.fieldLink RX5 49 "LampChoiceModel" "height" "I", Cond.methodLink RX5 118 yX5_firstOf, Cond.instanceMethod yX5_firstOf, Cond.selects RX5 yX5_firstOf yX5_firstOf, Cond.code yX5_firstOf cX5_firstOf 2 (some .int), Cond.fieldLink RX5 28 "LampChoiceModel" "held" "[I", Cond.methodLink RX5 135 yX5_addUp, Cond.instanceMethod yX5_addUp, Cond.selects RX5 yX5_addUp yX5_addUp, Cond.code yX5_addUp cX5_addUp 5 none, Cond.fieldLink RX5 65 "LampChoiceModel" "wattsBefore" "[I", Cond.fieldLink RX5 13 "LampChoiceModel" "watts" "[I", Cond.methodLink RX5 139 yX5_look, Cond.instanceMethod yX5_look, Cond.selects RX5 yX5_look yX5_look, Cond.code yX5_look cX5_look 8 none, Cond.fieldLink RX5 40 "LampChoiceModel" "wanted" "[I", Cond.fieldLink RX5 128 "LampChoiceModel" "bestSum" "J", Cond.fieldLink RX5 132 "LampChoiceModel" "bestLeast" "J", Cond.fieldLink RX5 56 "LampChoiceModel" "best" "[I", Cond.methodLink RX5 142 yX5_nextChoice, Cond.instanceMethod yX5_nextChoice, Cond.selects RX5 yX5_nextChoice yX5_nextChoice, Cond.code yX5_nextChoice cX5_nextChoice 2 (some .int)]
def wsX5_best : List Cond := .code yX5_best cX5_best 1 (some .int) :: ((wsX5_best_r1 ++ wsX5_best_r2) ++ wsX50)
def wsX5_lamp_r1 : List Cond := [Cond.fieldLink RX5 80 "LampChoiceModel" "code" "I", Cond.fieldLink RX5 122 "LampChoiceModel" "found" "Z", Cond.fieldLink RX5 56 "LampChoiceModel" "best" "[I", Cond.methodLink RX5 104 yX5_isPlace, Cond.instanceMethod yX5_isPlace, Cond.selects RX5 yX5_isPlace yX5_isPlace, Cond.initialized RX5, Cond.code yX5_isPlace cX5_isPlace 2 (some .boolean), Cond.fieldLink RX5 90 "LampChoiceModel" "places" "I", Cond.methodLink RX5 86 yX5_isIn, Cond.static yX5_isIn, Cond.code yX5_isIn cX5_isIn 3 (some .boolean), Cond.methodLink RX5 146 yX5_findBest, Cond.instanceMethod yX5_findBest, Cond.selects RX5 yX5_findBest yX5_findBest, Cond.code yX5_findBest cX5_findBest 4 none, Cond.fieldLink RX5 96 "LampChoiceModel" "isKnown" "Z", Cond.fieldLink RX5 83 "LampChoiceModel" "kinds" "I", Cond.fieldLink RX5 93 "LampChoiceModel" "points" "I", Cond.fieldLink RX5 68 "LampChoiceModel" "lights" "[I", Cond.fieldLink RX5 62 "LampChoiceModel" "sums" "[I", Cond.fieldLink RX5 59 "LampChoiceModel" "choice" "[I", Cond.methodLink RX5 114 yX5_lightOf, Cond.instanceMethod yX5_lightOf]
def wsX5_lamp_r2 : List Cond := [Cond.selects RX5 yX5_lightOf yX5_lightOf, Cond.code yX5_lightOf cX5_lightOf 6 (some .int), Cond.fieldLink RX5 22 "LampChoiceModel" "xs" "[I", Cond.fieldLink RX5 34 "LampChoiceModel" "pointXs" "[I", Cond.fieldLink RX5 25 "LampChoiceModel" "ys" "[I", Cond.fieldLink RX5 37 "LampChoiceModel" "pointYs" "[I", Cond.fieldLink RX5 7 "LampChoiceModel" "strengths" "[I", Cond.fieldLink RX5 49 "LampChoiceModel" "height" "I", Cond.methodLink RX5 118 yX5_firstOf, Cond.instanceMethod yX5_firstOf, Cond.selects RX5 yX5_firstOf yX5_firstOf, Cond.code yX5_firstOf cX5_firstOf 2 (some .int), Cond.fieldLink RX5 28 "LampChoiceModel" "held" "[I", Cond.methodLink RX5 135 yX5_addUp, Cond.instanceMethod yX5_addUp, Cond.selects RX5 yX5_addUp yX5_addUp, Cond.code yX5_addUp cX5_addUp 5 none, Cond.fieldLink RX5 65 "LampChoiceModel" "wattsBefore" "[I", Cond.fieldLink RX5 13 "LampChoiceModel" "watts" "[I", Cond.methodLink RX5 139 yX5_look, Cond.instanceMethod yX5_look, Cond.selects RX5 yX5_look yX5_look, Cond.code yX5_look cX5_look 8 none, Cond.fieldLink RX5 125 "LampChoiceModel" "bestWatts" "I"]
def wsX5_lamp_r3 : List Cond := [Cond.fieldLink RX5 40 "LampChoiceModel" "wanted" "[I", Cond.fieldLink RX5 128 "LampChoiceModel" "bestSum" "J", Cond.fieldLink RX5 132 "LampChoiceModel" "bestLeast" "J", Cond.methodLink RX5 142 yX5_nextChoice, Cond.instanceMethod yX5_nextChoice, Cond.selects RX5 yX5_nextChoice yX5_nextChoice, Cond.code yX5_nextChoice cX5_nextChoice 2 (some .int)]
def wsX5_lamp : List Cond := .code yX5_lamp cX5_lamp 2 (some .int) :: ((wsX5_lamp_r1 ++ (wsX5_lamp_r2 ++ wsX5_lamp_r3)) ++ wsX50)
def wsX5_level_r1 : List Cond := [Cond.fieldLink RX5 80 "LampChoiceModel" "code" "I", Cond.fieldLink RX5 122 "LampChoiceModel" "found" "Z", Cond.fieldLink RX5 90 "LampChoiceModel" "places" "I", Cond.fieldLink RX5 56 "LampChoiceModel" "best" "[I", Cond.methodLink RX5 111 yX5_isPoint, Cond.instanceMethod yX5_isPoint, Cond.selects RX5 yX5_isPoint yX5_isPoint, Cond.initialized RX5, Cond.code yX5_isPoint cX5_isPoint 2 (some .boolean), Cond.fieldLink RX5 93 "LampChoiceModel" "points" "I", Cond.methodLink RX5 86 yX5_isIn, Cond.static yX5_isIn, Cond.code yX5_isIn cX5_isIn 3 (some .boolean), Cond.methodLink RX5 146 yX5_findBest, Cond.instanceMethod yX5_findBest, Cond.selects RX5 yX5_findBest yX5_findBest, Cond.code yX5_findBest cX5_findBest 4 none, Cond.fieldLink RX5 96 "LampChoiceModel" "isKnown" "Z", Cond.fieldLink RX5 83 "LampChoiceModel" "kinds" "I", Cond.fieldLink RX5 68 "LampChoiceModel" "lights" "[I", Cond.fieldLink RX5 62 "LampChoiceModel" "sums" "[I", Cond.fieldLink RX5 59 "LampChoiceModel" "choice" "[I", Cond.methodLink RX5 114 yX5_lightOf, Cond.instanceMethod yX5_lightOf]
def wsX5_level_r2 : List Cond := [Cond.selects RX5 yX5_lightOf yX5_lightOf, Cond.code yX5_lightOf cX5_lightOf 6 (some .int), Cond.fieldLink RX5 22 "LampChoiceModel" "xs" "[I", Cond.fieldLink RX5 34 "LampChoiceModel" "pointXs" "[I", Cond.fieldLink RX5 25 "LampChoiceModel" "ys" "[I", Cond.fieldLink RX5 37 "LampChoiceModel" "pointYs" "[I", Cond.fieldLink RX5 7 "LampChoiceModel" "strengths" "[I", Cond.fieldLink RX5 49 "LampChoiceModel" "height" "I", Cond.methodLink RX5 118 yX5_firstOf, Cond.instanceMethod yX5_firstOf, Cond.selects RX5 yX5_firstOf yX5_firstOf, Cond.code yX5_firstOf cX5_firstOf 2 (some .int), Cond.fieldLink RX5 28 "LampChoiceModel" "held" "[I", Cond.methodLink RX5 135 yX5_addUp, Cond.instanceMethod yX5_addUp, Cond.selects RX5 yX5_addUp yX5_addUp, Cond.code yX5_addUp cX5_addUp 5 none, Cond.fieldLink RX5 65 "LampChoiceModel" "wattsBefore" "[I", Cond.fieldLink RX5 13 "LampChoiceModel" "watts" "[I", Cond.methodLink RX5 139 yX5_look, Cond.instanceMethod yX5_look, Cond.selects RX5 yX5_look yX5_look, Cond.code yX5_look cX5_look 8 none, Cond.fieldLink RX5 125 "LampChoiceModel" "bestWatts" "I"]
def wsX5_level_r3 : List Cond := [Cond.fieldLink RX5 40 "LampChoiceModel" "wanted" "[I", Cond.fieldLink RX5 128 "LampChoiceModel" "bestSum" "J", Cond.fieldLink RX5 132 "LampChoiceModel" "bestLeast" "J", Cond.methodLink RX5 142 yX5_nextChoice, Cond.instanceMethod yX5_nextChoice, Cond.selects RX5 yX5_nextChoice yX5_nextChoice, Cond.code yX5_nextChoice cX5_nextChoice 2 (some .int)]
def wsX5_level : List Cond := .code yX5_level cX5_level 4 (some .int) :: ((wsX5_level_r1 ++ (wsX5_level_r2 ++ wsX5_level_r3)) ++ wsX50)
def wsX5_common : List Cond := .code yX5_common cX5_common 10 (some .long) :: ([])
def wsX5_even_r1 : List Cond := [Cond.fieldLink RX5 80 "LampChoiceModel" "code" "I", Cond.fieldLink RX5 122 "LampChoiceModel" "found" "Z", Cond.constantLong RX5 149 (-2), Cond.fieldLink RX5 132 "LampChoiceModel" "bestLeast" "J", Cond.fieldLink RX5 128 "LampChoiceModel" "bestSum" "J", Cond.methodLink RX5 86 yX5_isIn, Cond.static yX5_isIn, Cond.initialized RX5, Cond.code yX5_isIn cX5_isIn 3 (some .boolean), Cond.methodLink RX5 146 yX5_findBest, Cond.instanceMethod yX5_findBest, Cond.selects RX5 yX5_findBest yX5_findBest, Cond.code yX5_findBest cX5_findBest 4 none, Cond.fieldLink RX5 96 "LampChoiceModel" "isKnown" "Z", Cond.fieldLink RX5 83 "LampChoiceModel" "kinds" "I", Cond.fieldLink RX5 90 "LampChoiceModel" "places" "I", Cond.fieldLink RX5 93 "LampChoiceModel" "points" "I", Cond.fieldLink RX5 68 "LampChoiceModel" "lights" "[I", Cond.fieldLink RX5 62 "LampChoiceModel" "sums" "[I", Cond.fieldLink RX5 59 "LampChoiceModel" "choice" "[I", Cond.methodLink RX5 114 yX5_lightOf, Cond.instanceMethod yX5_lightOf, Cond.selects RX5 yX5_lightOf yX5_lightOf, Cond.code yX5_lightOf cX5_lightOf 6 (some .int)]
def wsX5_even_r2 : List Cond := [Cond.fieldLink RX5 22 "LampChoiceModel" "xs" "[I", Cond.fieldLink RX5 34 "LampChoiceModel" "pointXs" "[I", Cond.fieldLink RX5 25 "LampChoiceModel" "ys" "[I", Cond.fieldLink RX5 37 "LampChoiceModel" "pointYs" "[I", Cond.fieldLink RX5 7 "LampChoiceModel" "strengths" "[I", Cond.fieldLink RX5 49 "LampChoiceModel" "height" "I", Cond.methodLink RX5 118 yX5_firstOf, Cond.instanceMethod yX5_firstOf, Cond.selects RX5 yX5_firstOf yX5_firstOf, Cond.code yX5_firstOf cX5_firstOf 2 (some .int), Cond.fieldLink RX5 28 "LampChoiceModel" "held" "[I", Cond.methodLink RX5 135 yX5_addUp, Cond.instanceMethod yX5_addUp, Cond.selects RX5 yX5_addUp yX5_addUp, Cond.code yX5_addUp cX5_addUp 5 none, Cond.fieldLink RX5 65 "LampChoiceModel" "wattsBefore" "[I", Cond.fieldLink RX5 13 "LampChoiceModel" "watts" "[I", Cond.methodLink RX5 139 yX5_look, Cond.instanceMethod yX5_look, Cond.selects RX5 yX5_look yX5_look, Cond.code yX5_look cX5_look 8 none, Cond.fieldLink RX5 125 "LampChoiceModel" "bestWatts" "I", Cond.fieldLink RX5 40 "LampChoiceModel" "wanted" "[I", Cond.fieldLink RX5 56 "LampChoiceModel" "best" "[I"]
def wsX5_even_r3 : List Cond := [Cond.methodLink RX5 142 yX5_nextChoice, Cond.instanceMethod yX5_nextChoice, Cond.selects RX5 yX5_nextChoice yX5_nextChoice, Cond.code yX5_nextChoice cX5_nextChoice 2 (some .int), Cond.methodLink RX5 151 yX5_common, Cond.static yX5_common, Cond.code yX5_common cX5_common 10 (some .long)]
def wsX5_even : List Cond := .code yX5_even cX5_even 4 (some .long) :: ((wsX5_even_r1 ++ (wsX5_even_r2 ++ wsX5_even_r3)) ++ wsX50)
def wsX5_aim : List Cond := .code yX5_aim cX5_aim 4 (some .int) :: ([.constant RX5 155 (1000000), .fieldLink RX5 80 "LampChoiceModel" "code" "I", .fieldLink RX5 43 "LampChoiceModel" "aims" "[I", .methodLink RX5 111 yX5_isPoint, .instanceMethod yX5_isPoint, .selects RX5 yX5_isPoint yX5_isPoint, .initialized RX5, .code yX5_isPoint cX5_isPoint 2 (some .boolean), .fieldLink RX5 93 "LampChoiceModel" "points" "I", .methodLink RX5 86 yX5_isIn, .static yX5_isIn, .code yX5_isIn cX5_isIn 3 (some .boolean)] ++ wsX50)
def wsX5_hasLamp : List Cond := .code yX5_hasLamp cX5_hasLamp 2 (some .boolean) :: ([.fieldLink RX5 122 "LampChoiceModel" "found" "Z", .fieldLink RX5 56 "LampChoiceModel" "best" "[I"] ++ wsX50)
def wsX5_missOf : List Cond := .code yX5_missOf cX5_missOf 5 (some .long) :: ([.constantLong RX5 156 (100), .fieldLink RX5 43 "LampChoiceModel" "aims" "[I", .fieldLink RX5 90 "LampChoiceModel" "places" "I", .fieldLink RX5 56 "LampChoiceModel" "best" "[I", .fieldLink RX5 71 "LampChoiceModel" "dims" "[I", .methodLink RX5 158 yX5_hasLamp, .instanceMethod yX5_hasLamp, .selects RX5 yX5_hasLamp yX5_hasLamp, .initialized RX5, .code yX5_hasLamp cX5_hasLamp 2 (some .boolean), .fieldLink RX5 122 "LampChoiceModel" "found" "Z", .methodLink RX5 114 yX5_lightOf, .instanceMethod yX5_lightOf, .selects RX5 yX5_lightOf yX5_lightOf, .code yX5_lightOf cX5_lightOf 6 (some .int), .fieldLink RX5 22 "LampChoiceModel" "xs" "[I", .fieldLink RX5 34 "LampChoiceModel" "pointXs" "[I", .fieldLink RX5 25 "LampChoiceModel" "ys" "[I", .fieldLink RX5 37 "LampChoiceModel" "pointYs" "[I", .fieldLink RX5 7 "LampChoiceModel" "strengths" "[I", .fieldLink RX5 49 "LampChoiceModel" "height" "I"] ++ wsX50)
def wsX5_dimOf_r1 : List Cond := [Cond.fieldLink RX5 71 "LampChoiceModel" "dims" "[I", Cond.fieldLink RX5 93 "LampChoiceModel" "points" "I", Cond.fieldLink RX5 56 "LampChoiceModel" "best" "[I", Cond.constantLong RX5 165 (2), Cond.methodLink RX5 114 yX5_lightOf, Cond.instanceMethod yX5_lightOf, Cond.selects RX5 yX5_lightOf yX5_lightOf, Cond.initialized RX5, Cond.code yX5_lightOf cX5_lightOf 6 (some .int), Cond.fieldLink RX5 22 "LampChoiceModel" "xs" "[I", Cond.fieldLink RX5 34 "LampChoiceModel" "pointXs" "[I", Cond.fieldLink RX5 25 "LampChoiceModel" "ys" "[I", Cond.fieldLink RX5 37 "LampChoiceModel" "pointYs" "[I", Cond.fieldLink RX5 7 "LampChoiceModel" "strengths" "[I", Cond.fieldLink RX5 49 "LampChoiceModel" "height" "I", Cond.methodLink RX5 161 yX5_missOf, Cond.instanceMethod yX5_missOf, Cond.selects RX5 yX5_missOf yX5_missOf, Cond.code yX5_missOf cX5_missOf 5 (some .long), Cond.constantLong RX5 156 (100), Cond.fieldLink RX5 43 "LampChoiceModel" "aims" "[I", Cond.fieldLink RX5 90 "LampChoiceModel" "places" "I", Cond.methodLink RX5 158 yX5_hasLamp, Cond.instanceMethod yX5_hasLamp]
def wsX5_dimOf_r2 : List Cond := [Cond.selects RX5 yX5_hasLamp yX5_hasLamp, Cond.code yX5_hasLamp cX5_hasLamp 2 (some .boolean), Cond.fieldLink RX5 122 "LampChoiceModel" "found" "Z"]
def wsX5_dimOf : List Cond := .code yX5_dimOf cX5_dimOf 9 (some .int) :: ((wsX5_dimOf_r1 ++ wsX5_dimOf_r2) ++ wsX50)
def wsX5_sweep_r1 : List Cond := [Cond.fieldLink RX5 71 "LampChoiceModel" "dims" "[I", Cond.fieldLink RX5 90 "LampChoiceModel" "places" "I", Cond.methodLink RX5 146 yX5_findBest, Cond.instanceMethod yX5_findBest, Cond.selects RX5 yX5_findBest yX5_findBest, Cond.initialized RX5, Cond.code yX5_findBest cX5_findBest 4 none, Cond.fieldLink RX5 96 "LampChoiceModel" "isKnown" "Z", Cond.fieldLink RX5 122 "LampChoiceModel" "found" "Z", Cond.fieldLink RX5 83 "LampChoiceModel" "kinds" "I", Cond.fieldLink RX5 93 "LampChoiceModel" "points" "I", Cond.fieldLink RX5 68 "LampChoiceModel" "lights" "[I", Cond.fieldLink RX5 62 "LampChoiceModel" "sums" "[I", Cond.fieldLink RX5 59 "LampChoiceModel" "choice" "[I", Cond.methodLink RX5 114 yX5_lightOf, Cond.instanceMethod yX5_lightOf, Cond.selects RX5 yX5_lightOf yX5_lightOf, Cond.code yX5_lightOf cX5_lightOf 6 (some .int), Cond.fieldLink RX5 22 "LampChoiceModel" "xs" "[I", Cond.fieldLink RX5 34 "LampChoiceModel" "pointXs" "[I", Cond.fieldLink RX5 25 "LampChoiceModel" "ys" "[I", Cond.fieldLink RX5 37 "LampChoiceModel" "pointYs" "[I", Cond.fieldLink RX5 7 "LampChoiceModel" "strengths" "[I", Cond.fieldLink RX5 49 "LampChoiceModel" "height" "I"]
def wsX5_sweep_r2 : List Cond := [Cond.methodLink RX5 118 yX5_firstOf, Cond.instanceMethod yX5_firstOf, Cond.selects RX5 yX5_firstOf yX5_firstOf, Cond.code yX5_firstOf cX5_firstOf 2 (some .int), Cond.fieldLink RX5 28 "LampChoiceModel" "held" "[I", Cond.methodLink RX5 135 yX5_addUp, Cond.instanceMethod yX5_addUp, Cond.selects RX5 yX5_addUp yX5_addUp, Cond.code yX5_addUp cX5_addUp 5 none, Cond.fieldLink RX5 65 "LampChoiceModel" "wattsBefore" "[I", Cond.fieldLink RX5 13 "LampChoiceModel" "watts" "[I", Cond.methodLink RX5 139 yX5_look, Cond.instanceMethod yX5_look, Cond.selects RX5 yX5_look yX5_look, Cond.code yX5_look cX5_look 8 none, Cond.fieldLink RX5 125 "LampChoiceModel" "bestWatts" "I", Cond.fieldLink RX5 40 "LampChoiceModel" "wanted" "[I", Cond.fieldLink RX5 128 "LampChoiceModel" "bestSum" "J", Cond.fieldLink RX5 132 "LampChoiceModel" "bestLeast" "J", Cond.fieldLink RX5 56 "LampChoiceModel" "best" "[I", Cond.methodLink RX5 142 yX5_nextChoice, Cond.instanceMethod yX5_nextChoice, Cond.selects RX5 yX5_nextChoice yX5_nextChoice, Cond.code yX5_nextChoice cX5_nextChoice 2 (some .int)]
def wsX5_sweep_r3 : List Cond := [Cond.methodLink RX5 158 yX5_hasLamp, Cond.instanceMethod yX5_hasLamp, Cond.selects RX5 yX5_hasLamp yX5_hasLamp, Cond.code yX5_hasLamp cX5_hasLamp 2 (some .boolean), Cond.methodLink RX5 167 yX5_dimOf, Cond.instanceMethod yX5_dimOf, Cond.selects RX5 yX5_dimOf yX5_dimOf, Cond.code yX5_dimOf cX5_dimOf 9 (some .int), Cond.constantLong RX5 165 (2), Cond.methodLink RX5 161 yX5_missOf, Cond.instanceMethod yX5_missOf, Cond.selects RX5 yX5_missOf yX5_missOf, Cond.code yX5_missOf cX5_missOf 5 (some .long), Cond.constantLong RX5 156 (100), Cond.fieldLink RX5 43 "LampChoiceModel" "aims" "[I"]
def wsX5_sweep : List Cond := .code yX5_sweep cX5_sweep 6 (some .int) :: ((wsX5_sweep_r1 ++ (wsX5_sweep_r2 ++ wsX5_sweep_r3)) ++ wsX50)
def wsX5_scene_r1 : List Cond := [Cond.fieldLink RX5 80 "LampChoiceModel" "code" "I", Cond.methodLink RX5 170 yX5_sweep, Cond.instanceMethod yX5_sweep, Cond.selects RX5 yX5_sweep yX5_sweep, Cond.initialized RX5, Cond.code yX5_sweep cX5_sweep 6 (some .int), Cond.fieldLink RX5 71 "LampChoiceModel" "dims" "[I", Cond.fieldLink RX5 90 "LampChoiceModel" "places" "I", Cond.methodLink RX5 146 yX5_findBest, Cond.instanceMethod yX5_findBest, Cond.selects RX5 yX5_findBest yX5_findBest, Cond.code yX5_findBest cX5_findBest 4 none, Cond.fieldLink RX5 96 "LampChoiceModel" "isKnown" "Z", Cond.fieldLink RX5 122 "LampChoiceModel" "found" "Z", Cond.fieldLink RX5 83 "LampChoiceModel" "kinds" "I", Cond.fieldLink RX5 93 "LampChoiceModel" "points" "I", Cond.fieldLink RX5 68 "LampChoiceModel" "lights" "[I", Cond.fieldLink RX5 62 "LampChoiceModel" "sums" "[I", Cond.fieldLink RX5 59 "LampChoiceModel" "choice" "[I", Cond.methodLink RX5 114 yX5_lightOf, Cond.instanceMethod yX5_lightOf, Cond.selects RX5 yX5_lightOf yX5_lightOf, Cond.code yX5_lightOf cX5_lightOf 6 (some .int), Cond.fieldLink RX5 22 "LampChoiceModel" "xs" "[I"]
def wsX5_scene_r2 : List Cond := [Cond.fieldLink RX5 34 "LampChoiceModel" "pointXs" "[I", Cond.fieldLink RX5 25 "LampChoiceModel" "ys" "[I", Cond.fieldLink RX5 37 "LampChoiceModel" "pointYs" "[I", Cond.fieldLink RX5 7 "LampChoiceModel" "strengths" "[I", Cond.fieldLink RX5 49 "LampChoiceModel" "height" "I", Cond.methodLink RX5 118 yX5_firstOf, Cond.instanceMethod yX5_firstOf, Cond.selects RX5 yX5_firstOf yX5_firstOf, Cond.code yX5_firstOf cX5_firstOf 2 (some .int), Cond.fieldLink RX5 28 "LampChoiceModel" "held" "[I", Cond.methodLink RX5 135 yX5_addUp, Cond.instanceMethod yX5_addUp, Cond.selects RX5 yX5_addUp yX5_addUp, Cond.code yX5_addUp cX5_addUp 5 none, Cond.fieldLink RX5 65 "LampChoiceModel" "wattsBefore" "[I", Cond.fieldLink RX5 13 "LampChoiceModel" "watts" "[I", Cond.methodLink RX5 139 yX5_look, Cond.instanceMethod yX5_look, Cond.selects RX5 yX5_look yX5_look, Cond.code yX5_look cX5_look 8 none, Cond.fieldLink RX5 125 "LampChoiceModel" "bestWatts" "I", Cond.fieldLink RX5 40 "LampChoiceModel" "wanted" "[I", Cond.fieldLink RX5 128 "LampChoiceModel" "bestSum" "J", Cond.fieldLink RX5 132 "LampChoiceModel" "bestLeast" "J"]
def wsX5_scene_r3 : List Cond := [Cond.fieldLink RX5 56 "LampChoiceModel" "best" "[I", Cond.methodLink RX5 142 yX5_nextChoice, Cond.instanceMethod yX5_nextChoice, Cond.selects RX5 yX5_nextChoice yX5_nextChoice, Cond.code yX5_nextChoice cX5_nextChoice 2 (some .int), Cond.methodLink RX5 158 yX5_hasLamp, Cond.instanceMethod yX5_hasLamp, Cond.selects RX5 yX5_hasLamp yX5_hasLamp, Cond.code yX5_hasLamp cX5_hasLamp 2 (some .boolean), Cond.methodLink RX5 167 yX5_dimOf, Cond.instanceMethod yX5_dimOf, Cond.selects RX5 yX5_dimOf yX5_dimOf, Cond.code yX5_dimOf cX5_dimOf 9 (some .int), Cond.constantLong RX5 165 (2), Cond.methodLink RX5 161 yX5_missOf, Cond.instanceMethod yX5_missOf, Cond.selects RX5 yX5_missOf yX5_missOf, Cond.code yX5_missOf cX5_missOf 5 (some .long), Cond.constantLong RX5 156 (100), Cond.fieldLink RX5 43 "LampChoiceModel" "aims" "[I"]
def wsX5_scene : List Cond := .code yX5_scene cX5_scene 1 (some .int) :: ((wsX5_scene_r1 ++ (wsX5_scene_r2 ++ wsX5_scene_r3)) ++ wsX50)
def wsX5_dim_r1 : List Cond := [Cond.fieldLink RX5 80 "LampChoiceModel" "code" "I", Cond.fieldLink RX5 71 "LampChoiceModel" "dims" "[I", Cond.methodLink RX5 104 yX5_isPlace, Cond.instanceMethod yX5_isPlace, Cond.selects RX5 yX5_isPlace yX5_isPlace, Cond.initialized RX5, Cond.code yX5_isPlace cX5_isPlace 2 (some .boolean), Cond.fieldLink RX5 90 "LampChoiceModel" "places" "I", Cond.methodLink RX5 86 yX5_isIn, Cond.static yX5_isIn, Cond.code yX5_isIn cX5_isIn 3 (some .boolean), Cond.methodLink RX5 170 yX5_sweep, Cond.instanceMethod yX5_sweep, Cond.selects RX5 yX5_sweep yX5_sweep, Cond.code yX5_sweep cX5_sweep 6 (some .int), Cond.methodLink RX5 146 yX5_findBest, Cond.instanceMethod yX5_findBest, Cond.selects RX5 yX5_findBest yX5_findBest, Cond.code yX5_findBest cX5_findBest 4 none, Cond.fieldLink RX5 96 "LampChoiceModel" "isKnown" "Z", Cond.fieldLink RX5 122 "LampChoiceModel" "found" "Z", Cond.fieldLink RX5 83 "LampChoiceModel" "kinds" "I", Cond.fieldLink RX5 93 "LampChoiceModel" "points" "I", Cond.fieldLink RX5 68 "LampChoiceModel" "lights" "[I"]
def wsX5_dim_r2 : List Cond := [Cond.fieldLink RX5 62 "LampChoiceModel" "sums" "[I", Cond.fieldLink RX5 59 "LampChoiceModel" "choice" "[I", Cond.methodLink RX5 114 yX5_lightOf, Cond.instanceMethod yX5_lightOf, Cond.selects RX5 yX5_lightOf yX5_lightOf, Cond.code yX5_lightOf cX5_lightOf 6 (some .int), Cond.fieldLink RX5 22 "LampChoiceModel" "xs" "[I", Cond.fieldLink RX5 34 "LampChoiceModel" "pointXs" "[I", Cond.fieldLink RX5 25 "LampChoiceModel" "ys" "[I", Cond.fieldLink RX5 37 "LampChoiceModel" "pointYs" "[I", Cond.fieldLink RX5 7 "LampChoiceModel" "strengths" "[I", Cond.fieldLink RX5 49 "LampChoiceModel" "height" "I", Cond.methodLink RX5 118 yX5_firstOf, Cond.instanceMethod yX5_firstOf, Cond.selects RX5 yX5_firstOf yX5_firstOf, Cond.code yX5_firstOf cX5_firstOf 2 (some .int), Cond.fieldLink RX5 28 "LampChoiceModel" "held" "[I", Cond.methodLink RX5 135 yX5_addUp, Cond.instanceMethod yX5_addUp, Cond.selects RX5 yX5_addUp yX5_addUp, Cond.code yX5_addUp cX5_addUp 5 none, Cond.fieldLink RX5 65 "LampChoiceModel" "wattsBefore" "[I", Cond.fieldLink RX5 13 "LampChoiceModel" "watts" "[I", Cond.methodLink RX5 139 yX5_look]
def wsX5_dim_r3 : List Cond := [Cond.instanceMethod yX5_look, Cond.selects RX5 yX5_look yX5_look, Cond.code yX5_look cX5_look 8 none, Cond.fieldLink RX5 125 "LampChoiceModel" "bestWatts" "I", Cond.fieldLink RX5 40 "LampChoiceModel" "wanted" "[I", Cond.fieldLink RX5 128 "LampChoiceModel" "bestSum" "J", Cond.fieldLink RX5 132 "LampChoiceModel" "bestLeast" "J", Cond.fieldLink RX5 56 "LampChoiceModel" "best" "[I", Cond.methodLink RX5 142 yX5_nextChoice, Cond.instanceMethod yX5_nextChoice, Cond.selects RX5 yX5_nextChoice yX5_nextChoice, Cond.code yX5_nextChoice cX5_nextChoice 2 (some .int), Cond.methodLink RX5 158 yX5_hasLamp, Cond.instanceMethod yX5_hasLamp, Cond.selects RX5 yX5_hasLamp yX5_hasLamp, Cond.code yX5_hasLamp cX5_hasLamp 2 (some .boolean), Cond.methodLink RX5 167 yX5_dimOf, Cond.instanceMethod yX5_dimOf, Cond.selects RX5 yX5_dimOf yX5_dimOf, Cond.code yX5_dimOf cX5_dimOf 9 (some .int), Cond.constantLong RX5 165 (2), Cond.methodLink RX5 161 yX5_missOf, Cond.instanceMethod yX5_missOf, Cond.selects RX5 yX5_missOf yX5_missOf]
def wsX5_dim_r4 : List Cond := [Cond.code yX5_missOf cX5_missOf 5 (some .long), Cond.constantLong RX5 156 (100), Cond.fieldLink RX5 43 "LampChoiceModel" "aims" "[I"]
def wsX5_dim : List Cond := .code yX5_dim cX5_dim 2 (some .int) :: ((wsX5_dim_r1 ++ (wsX5_dim_r2 ++ (wsX5_dim_r3 ++ wsX5_dim_r4))) ++ wsX50)
def wsX5_miss_r1 : List Cond := [Cond.fieldLink RX5 80 "LampChoiceModel" "code" "I", Cond.methodLink RX5 111 yX5_isPoint, Cond.instanceMethod yX5_isPoint, Cond.selects RX5 yX5_isPoint yX5_isPoint, Cond.initialized RX5, Cond.code yX5_isPoint cX5_isPoint 2 (some .boolean), Cond.fieldLink RX5 93 "LampChoiceModel" "points" "I", Cond.methodLink RX5 86 yX5_isIn, Cond.static yX5_isIn, Cond.code yX5_isIn cX5_isIn 3 (some .boolean), Cond.methodLink RX5 170 yX5_sweep, Cond.instanceMethod yX5_sweep, Cond.selects RX5 yX5_sweep yX5_sweep, Cond.code yX5_sweep cX5_sweep 6 (some .int), Cond.fieldLink RX5 71 "LampChoiceModel" "dims" "[I", Cond.fieldLink RX5 90 "LampChoiceModel" "places" "I", Cond.methodLink RX5 146 yX5_findBest, Cond.instanceMethod yX5_findBest, Cond.selects RX5 yX5_findBest yX5_findBest, Cond.code yX5_findBest cX5_findBest 4 none, Cond.fieldLink RX5 96 "LampChoiceModel" "isKnown" "Z", Cond.fieldLink RX5 122 "LampChoiceModel" "found" "Z", Cond.fieldLink RX5 83 "LampChoiceModel" "kinds" "I", Cond.fieldLink RX5 68 "LampChoiceModel" "lights" "[I"]
def wsX5_miss_r2 : List Cond := [Cond.fieldLink RX5 62 "LampChoiceModel" "sums" "[I", Cond.fieldLink RX5 59 "LampChoiceModel" "choice" "[I", Cond.methodLink RX5 114 yX5_lightOf, Cond.instanceMethod yX5_lightOf, Cond.selects RX5 yX5_lightOf yX5_lightOf, Cond.code yX5_lightOf cX5_lightOf 6 (some .int), Cond.fieldLink RX5 22 "LampChoiceModel" "xs" "[I", Cond.fieldLink RX5 34 "LampChoiceModel" "pointXs" "[I", Cond.fieldLink RX5 25 "LampChoiceModel" "ys" "[I", Cond.fieldLink RX5 37 "LampChoiceModel" "pointYs" "[I", Cond.fieldLink RX5 7 "LampChoiceModel" "strengths" "[I", Cond.fieldLink RX5 49 "LampChoiceModel" "height" "I", Cond.methodLink RX5 118 yX5_firstOf, Cond.instanceMethod yX5_firstOf, Cond.selects RX5 yX5_firstOf yX5_firstOf, Cond.code yX5_firstOf cX5_firstOf 2 (some .int), Cond.fieldLink RX5 28 "LampChoiceModel" "held" "[I", Cond.methodLink RX5 135 yX5_addUp, Cond.instanceMethod yX5_addUp, Cond.selects RX5 yX5_addUp yX5_addUp, Cond.code yX5_addUp cX5_addUp 5 none, Cond.fieldLink RX5 65 "LampChoiceModel" "wattsBefore" "[I", Cond.fieldLink RX5 13 "LampChoiceModel" "watts" "[I", Cond.methodLink RX5 139 yX5_look]
def wsX5_miss_r3 : List Cond := [Cond.instanceMethod yX5_look, Cond.selects RX5 yX5_look yX5_look, Cond.code yX5_look cX5_look 8 none, Cond.fieldLink RX5 125 "LampChoiceModel" "bestWatts" "I", Cond.fieldLink RX5 40 "LampChoiceModel" "wanted" "[I", Cond.fieldLink RX5 128 "LampChoiceModel" "bestSum" "J", Cond.fieldLink RX5 132 "LampChoiceModel" "bestLeast" "J", Cond.fieldLink RX5 56 "LampChoiceModel" "best" "[I", Cond.methodLink RX5 142 yX5_nextChoice, Cond.instanceMethod yX5_nextChoice, Cond.selects RX5 yX5_nextChoice yX5_nextChoice, Cond.code yX5_nextChoice cX5_nextChoice 2 (some .int), Cond.methodLink RX5 158 yX5_hasLamp, Cond.instanceMethod yX5_hasLamp, Cond.selects RX5 yX5_hasLamp yX5_hasLamp, Cond.code yX5_hasLamp cX5_hasLamp 2 (some .boolean), Cond.methodLink RX5 167 yX5_dimOf, Cond.instanceMethod yX5_dimOf, Cond.selects RX5 yX5_dimOf yX5_dimOf, Cond.code yX5_dimOf cX5_dimOf 9 (some .int), Cond.constantLong RX5 165 (2), Cond.methodLink RX5 161 yX5_missOf, Cond.instanceMethod yX5_missOf, Cond.selects RX5 yX5_missOf yX5_missOf]
def wsX5_miss_r4 : List Cond := [Cond.code yX5_missOf cX5_missOf 5 (some .long), Cond.constantLong RX5 156 (100), Cond.fieldLink RX5 43 "LampChoiceModel" "aims" "[I"]
def wsX5_miss : List Cond := .code yX5_miss cX5_miss 2 (some .long) :: ((wsX5_miss_r1 ++ (wsX5_miss_r2 ++ (wsX5_miss_r3 ++ wsX5_miss_r4))) ++ wsX50)
def wsX5_sensor : List Cond := .code yX5_sensor cX5_sensor 3 none :: ([.fieldLink RX5 80 "LampChoiceModel" "code" "I", .fieldLink RX5 31 "LampChoiceModel" "sensors" "[I", .methodLink RX5 104 yX5_isPlace, .instanceMethod yX5_isPlace, .selects RX5 yX5_isPlace yX5_isPlace, .initialized RX5, .code yX5_isPlace cX5_isPlace 2 (some .boolean), .fieldLink RX5 90 "LampChoiceModel" "places" "I", .methodLink RX5 86 yX5_isIn, .static yX5_isIn, .code yX5_isIn cX5_isIn 3 (some .boolean), .methodLink RX5 111 yX5_isPoint, .instanceMethod yX5_isPoint, .selects RX5 yX5_isPoint yX5_isPoint, .code yX5_isPoint cX5_isPoint 2 (some .boolean), .fieldLink RX5 93 "LampChoiceModel" "points" "I", .methodLink RX5 101 yX5_renew, .instanceMethod yX5_renew, .selects RX5 yX5_renew yX5_renew, .code yX5_renew cX5_renew 2 none, .fieldLink RX5 96 "LampChoiceModel" "isKnown" "Z", .fieldLink RX5 74 "LampChoiceModel" "levels" "[I", .fieldLink RX5 77 "LampChoiceModel" "lasted" "[I"] ++ wsX50)
def wsX5_daylight : List Cond := .code yX5_daylight cX5_daylight 4 (some .int) :: ([.constant RX5 100 (100000), .fieldLink RX5 80 "LampChoiceModel" "code" "I", .fieldLink RX5 46 "LampChoiceModel" "daylights" "[I", .methodLink RX5 111 yX5_isPoint, .instanceMethod yX5_isPoint, .selects RX5 yX5_isPoint yX5_isPoint, .initialized RX5, .code yX5_isPoint cX5_isPoint 2 (some .boolean), .fieldLink RX5 93 "LampChoiceModel" "points" "I", .methodLink RX5 86 yX5_isIn, .static yX5_isIn, .code yX5_isIn cX5_isIn 3 (some .boolean)] ++ wsX50)
def wsX5_step : List Cond := .code yX5_step cX5_step 3 (some .int) :: ([.fieldLink RX5 80 "LampChoiceModel" "code" "I", .fieldLink RX5 53 "LampChoiceModel" "most" "I", .methodLink RX5 86 yX5_isIn, .static yX5_isIn, .initialized RX5, .code yX5_isIn cX5_isIn 3 (some .boolean)] ++ wsX50)
def wsX5_needOf : List Cond := .code yX5_needOf cX5_needOf 6 (some .int) :: ([.fieldLink RX5 31 "LampChoiceModel" "sensors" "[I", .fieldLink RX5 56 "LampChoiceModel" "best" "[I", .fieldLink RX5 46 "LampChoiceModel" "daylights" "[I", .constantLong RX5 156 (100), .fieldLink RX5 40 "LampChoiceModel" "wanted" "[I", .methodLink RX5 114 yX5_lightOf, .instanceMethod yX5_lightOf, .selects RX5 yX5_lightOf yX5_lightOf, .initialized RX5, .code yX5_lightOf cX5_lightOf 6 (some .int), .fieldLink RX5 22 "LampChoiceModel" "xs" "[I", .fieldLink RX5 34 "LampChoiceModel" "pointXs" "[I", .fieldLink RX5 25 "LampChoiceModel" "ys" "[I", .fieldLink RX5 37 "LampChoiceModel" "pointYs" "[I", .fieldLink RX5 7 "LampChoiceModel" "strengths" "[I", .fieldLink RX5 49 "LampChoiceModel" "height" "I"] ++ wsX50)
def wsX5_minute : List Cond := .code yX5_minute cX5_minute 5 none :: ([.fieldLink RX5 56 "LampChoiceModel" "best" "[I", .fieldLink RX5 74 "LampChoiceModel" "levels" "[I", .fieldLink RX5 53 "LampChoiceModel" "most" "I", .fieldLink RX5 77 "LampChoiceModel" "lasted" "[I", .fieldLink RX5 16 "LampChoiceModel" "lives" "[I", .fieldLink RX5 173 "LampChoiceModel" "paid" "J", .fieldLink RX5 19 "LampChoiceModel" "cents" "[I", .fieldLink RX5 176 "LampChoiceModel" "renewed" "J", .fieldLink RX5 179 "LampChoiceModel" "energy" "J", .fieldLink RX5 13 "LampChoiceModel" "watts" "[I"] ++ wsX50)
def wsX5_run_r1 : List Cond := [Cond.fieldLink RX5 182 "LampChoiceModel" "minutes" "I", Cond.constant RX5 155 (1000000), Cond.fieldLink RX5 80 "LampChoiceModel" "code" "I", Cond.fieldLink RX5 90 "LampChoiceModel" "places" "I", Cond.methodLink RX5 86 yX5_isIn, Cond.static yX5_isIn, Cond.initialized RX5, Cond.code yX5_isIn cX5_isIn 3 (some .boolean), Cond.methodLink RX5 146 yX5_findBest, Cond.instanceMethod yX5_findBest, Cond.selects RX5 yX5_findBest yX5_findBest, Cond.code yX5_findBest cX5_findBest 4 none, Cond.fieldLink RX5 96 "LampChoiceModel" "isKnown" "Z", Cond.fieldLink RX5 122 "LampChoiceModel" "found" "Z", Cond.fieldLink RX5 83 "LampChoiceModel" "kinds" "I", Cond.fieldLink RX5 93 "LampChoiceModel" "points" "I", Cond.fieldLink RX5 68 "LampChoiceModel" "lights" "[I", Cond.fieldLink RX5 62 "LampChoiceModel" "sums" "[I", Cond.fieldLink RX5 59 "LampChoiceModel" "choice" "[I", Cond.methodLink RX5 114 yX5_lightOf, Cond.instanceMethod yX5_lightOf, Cond.selects RX5 yX5_lightOf yX5_lightOf, Cond.code yX5_lightOf cX5_lightOf 6 (some .int), Cond.fieldLink RX5 22 "LampChoiceModel" "xs" "[I"]
def wsX5_run_r2 : List Cond := [Cond.fieldLink RX5 34 "LampChoiceModel" "pointXs" "[I", Cond.fieldLink RX5 25 "LampChoiceModel" "ys" "[I", Cond.fieldLink RX5 37 "LampChoiceModel" "pointYs" "[I", Cond.fieldLink RX5 7 "LampChoiceModel" "strengths" "[I", Cond.fieldLink RX5 49 "LampChoiceModel" "height" "I", Cond.methodLink RX5 118 yX5_firstOf, Cond.instanceMethod yX5_firstOf, Cond.selects RX5 yX5_firstOf yX5_firstOf, Cond.code yX5_firstOf cX5_firstOf 2 (some .int), Cond.fieldLink RX5 28 "LampChoiceModel" "held" "[I", Cond.methodLink RX5 135 yX5_addUp, Cond.instanceMethod yX5_addUp, Cond.selects RX5 yX5_addUp yX5_addUp, Cond.code yX5_addUp cX5_addUp 5 none, Cond.fieldLink RX5 65 "LampChoiceModel" "wattsBefore" "[I", Cond.fieldLink RX5 13 "LampChoiceModel" "watts" "[I", Cond.methodLink RX5 139 yX5_look, Cond.instanceMethod yX5_look, Cond.selects RX5 yX5_look yX5_look, Cond.code yX5_look cX5_look 8 none, Cond.fieldLink RX5 125 "LampChoiceModel" "bestWatts" "I", Cond.fieldLink RX5 40 "LampChoiceModel" "wanted" "[I", Cond.fieldLink RX5 128 "LampChoiceModel" "bestSum" "J", Cond.fieldLink RX5 132 "LampChoiceModel" "bestLeast" "J"]
def wsX5_run_r3 : List Cond := [Cond.fieldLink RX5 56 "LampChoiceModel" "best" "[I", Cond.methodLink RX5 142 yX5_nextChoice, Cond.instanceMethod yX5_nextChoice, Cond.selects RX5 yX5_nextChoice yX5_nextChoice, Cond.code yX5_nextChoice cX5_nextChoice 2 (some .int), Cond.methodLink RX5 158 yX5_hasLamp, Cond.instanceMethod yX5_hasLamp, Cond.selects RX5 yX5_hasLamp yX5_hasLamp, Cond.code yX5_hasLamp cX5_hasLamp 2 (some .boolean), Cond.methodLink RX5 185 yX5_needOf, Cond.instanceMethod yX5_needOf, Cond.selects RX5 yX5_needOf yX5_needOf, Cond.code yX5_needOf cX5_needOf 6 (some .int), Cond.fieldLink RX5 31 "LampChoiceModel" "sensors" "[I", Cond.fieldLink RX5 46 "LampChoiceModel" "daylights" "[I", Cond.constantLong RX5 156 (100), Cond.methodLink RX5 188 yX5_minute, Cond.instanceMethod yX5_minute, Cond.selects RX5 yX5_minute yX5_minute, Cond.code yX5_minute cX5_minute 5 none, Cond.fieldLink RX5 74 "LampChoiceModel" "levels" "[I", Cond.fieldLink RX5 53 "LampChoiceModel" "most" "I", Cond.fieldLink RX5 77 "LampChoiceModel" "lasted" "[I", Cond.fieldLink RX5 16 "LampChoiceModel" "lives" "[I"]
def wsX5_run_r4 : List Cond := [Cond.fieldLink RX5 173 "LampChoiceModel" "paid" "J", Cond.fieldLink RX5 19 "LampChoiceModel" "cents" "[I", Cond.fieldLink RX5 176 "LampChoiceModel" "renewed" "J", Cond.fieldLink RX5 179 "LampChoiceModel" "energy" "J"]
def wsX5_run : List Cond := .code yX5_run cX5_run 5 (some .int) :: ((wsX5_run_r1 ++ (wsX5_run_r2 ++ (wsX5_run_r3 ++ wsX5_run_r4))) ++ wsX50)
def wsX5_own_r1 : List Cond := [Cond.fieldLink RX5 80 "LampChoiceModel" "code" "I", Cond.fieldLink RX5 74 "LampChoiceModel" "levels" "[I", Cond.fieldLink RX5 77 "LampChoiceModel" "lasted" "[I", Cond.methodLink RX5 104 yX5_isPlace, Cond.instanceMethod yX5_isPlace, Cond.selects RX5 yX5_isPlace yX5_isPlace, Cond.initialized RX5, Cond.code yX5_isPlace cX5_isPlace 2 (some .boolean), Cond.fieldLink RX5 90 "LampChoiceModel" "places" "I", Cond.methodLink RX5 86 yX5_isIn, Cond.static yX5_isIn, Cond.code yX5_isIn cX5_isIn 3 (some .boolean), Cond.methodLink RX5 146 yX5_findBest, Cond.instanceMethod yX5_findBest, Cond.selects RX5 yX5_findBest yX5_findBest, Cond.code yX5_findBest cX5_findBest 4 none, Cond.fieldLink RX5 96 "LampChoiceModel" "isKnown" "Z", Cond.fieldLink RX5 122 "LampChoiceModel" "found" "Z", Cond.fieldLink RX5 83 "LampChoiceModel" "kinds" "I", Cond.fieldLink RX5 93 "LampChoiceModel" "points" "I", Cond.fieldLink RX5 68 "LampChoiceModel" "lights" "[I", Cond.fieldLink RX5 62 "LampChoiceModel" "sums" "[I", Cond.fieldLink RX5 59 "LampChoiceModel" "choice" "[I", Cond.methodLink RX5 114 yX5_lightOf]
def wsX5_own_r2 : List Cond := [Cond.instanceMethod yX5_lightOf, Cond.selects RX5 yX5_lightOf yX5_lightOf, Cond.code yX5_lightOf cX5_lightOf 6 (some .int), Cond.fieldLink RX5 22 "LampChoiceModel" "xs" "[I", Cond.fieldLink RX5 34 "LampChoiceModel" "pointXs" "[I", Cond.fieldLink RX5 25 "LampChoiceModel" "ys" "[I", Cond.fieldLink RX5 37 "LampChoiceModel" "pointYs" "[I", Cond.fieldLink RX5 7 "LampChoiceModel" "strengths" "[I", Cond.fieldLink RX5 49 "LampChoiceModel" "height" "I", Cond.methodLink RX5 118 yX5_firstOf, Cond.instanceMethod yX5_firstOf, Cond.selects RX5 yX5_firstOf yX5_firstOf, Cond.code yX5_firstOf cX5_firstOf 2 (some .int), Cond.fieldLink RX5 28 "LampChoiceModel" "held" "[I", Cond.methodLink RX5 135 yX5_addUp, Cond.instanceMethod yX5_addUp, Cond.selects RX5 yX5_addUp yX5_addUp, Cond.code yX5_addUp cX5_addUp 5 none, Cond.fieldLink RX5 65 "LampChoiceModel" "wattsBefore" "[I", Cond.fieldLink RX5 13 "LampChoiceModel" "watts" "[I", Cond.methodLink RX5 139 yX5_look, Cond.instanceMethod yX5_look, Cond.selects RX5 yX5_look yX5_look, Cond.code yX5_look cX5_look 8 none]
def wsX5_own_r3 : List Cond := [Cond.fieldLink RX5 125 "LampChoiceModel" "bestWatts" "I", Cond.fieldLink RX5 40 "LampChoiceModel" "wanted" "[I", Cond.fieldLink RX5 128 "LampChoiceModel" "bestSum" "J", Cond.fieldLink RX5 132 "LampChoiceModel" "bestLeast" "J", Cond.fieldLink RX5 56 "LampChoiceModel" "best" "[I", Cond.methodLink RX5 142 yX5_nextChoice, Cond.instanceMethod yX5_nextChoice, Cond.selects RX5 yX5_nextChoice yX5_nextChoice, Cond.code yX5_nextChoice cX5_nextChoice 2 (some .int), Cond.methodLink RX5 158 yX5_hasLamp, Cond.instanceMethod yX5_hasLamp, Cond.selects RX5 yX5_hasLamp yX5_hasLamp, Cond.code yX5_hasLamp cX5_hasLamp 2 (some .boolean)]
def wsX5_own : List Cond := .code yX5_own cX5_own 3 (some .int) :: ((wsX5_own_r1 ++ (wsX5_own_r2 ++ wsX5_own_r3)) ++ wsX50)
def wsX5_used : List Cond := .code yX5_used cX5_used 2 (some .long) :: ([.fieldLink RX5 80 "LampChoiceModel" "code" "I", .fieldLink RX5 179 "LampChoiceModel" "energy" "J", .fieldLink RX5 173 "LampChoiceModel" "paid" "J", .fieldLink RX5 176 "LampChoiceModel" "renewed" "J", .methodLink RX5 86 yX5_isIn, .static yX5_isIn, .initialized RX5, .code yX5_isIn cX5_isIn 3 (some .boolean)] ++ wsX50)
def wsJ9_max_7cf53 : List Cond := .code yJ9_max_7cf53 cJ9_max_7cf53 2 (some .int) :: ([])
def wsJ9_max_f86c9 : List Cond := .code yJ9_max_f86c9 cJ9_max_f86c9 4 (some .long) :: ([])
def wsJ9_min_7cf53 : List Cond := .code yJ9_min_7cf53 cJ9_min_7cf53 2 (some .int) :: ([])
def wsJ9_min_f86c9 : List Cond := .code yJ9_min_f86c9 cJ9_min_f86c9 4 (some .long) :: ([])
def wsL_kind_r1 : List Cond := [Cond.classLink RL 13 "java/lang/IllegalArgumentException", Cond.classLink RL 15 "java/lang/IllegalStateException", Cond.methodLink RL 7 yX4_kind, Cond.instanceMethod yX4_kind, Cond.selects RX4 yX4_kind yX4_kind, Cond.initialized RX4, Cond.code yX4_kind cX4_kind 6 (some .int), Cond.constant RX4 45 (100000), Cond.fieldLink RX4 15 "LampChoice" "room" "LLampChoice$Room;", Cond.fieldLink RX4 46 "LampChoice$Room" "kinds" "I", Cond.methodLink RX4 41 yX4_checkBounds, Cond.static yX4_checkBounds, Cond.code yX4_checkBounds cX4_checkBounds 3 none, Cond.classLink RX4 172 "java/lang/IllegalArgumentException", Cond.initialized "java/lang/IllegalArgumentException", Cond.methodLink RX4 50 yX4_checkCount, Cond.static yX4_checkCount, Cond.code yX4_checkCount cX4_checkCount 2 none, Cond.classLink RX4 146 "java/lang/IllegalStateException", Cond.initialized "java/lang/IllegalStateException", Cond.methodLink RX4 54 yX2_addKind, Cond.instanceMethod yX2_addKind, Cond.selects RX2 yX2_addKind yX2_addKind, Cond.initialized RX2]
def wsL_kind_r2 : List Cond := [Cond.code yX2_addKind cX2_addKind 6 (some .int), Cond.fieldLink RX2 46 "LampChoice$Room" "kinds" "I", Cond.fieldLink RX2 9 "LampChoice$Room" "strengths" "[I", Cond.fieldLink RX2 15 "LampChoice$Room" "watts" "[I", Cond.fieldLink RX2 18 "LampChoice$Room" "lives" "[I", Cond.fieldLink RX2 21 "LampChoice$Room" "cents" "[I", Cond.methodLink RX4 58 yX4_lampsGo, Cond.instanceMethod yX4_lampsGo, Cond.selects RX4 yX4_lampsGo yX4_lampsGo, Cond.code yX4_lampsGo cX4_lampsGo 1 none, Cond.fieldLink RX4 21 "LampChoice" "choice" "LLampChoice$Choice;", Cond.fieldLink RX4 179 "LampChoice$Choice" "known" "Z", Cond.fieldLink RX4 30 "LampChoice" "scenes" "LLampChoice$Scenes;", Cond.fieldLink RX4 182 "LampChoice$Scenes" "known" "Z", Cond.fieldLink RX4 37 "LampChoice" "days" "LLampChoice$Days;", Cond.methodLink RX4 183 yX1_startAnew, Cond.instanceMethod yX1_startAnew, Cond.selects RX1 yX1_startAnew yX1_startAnew, Cond.initialized RX1, Cond.code yX1_startAnew cX1_startAnew 1 none, Cond.fieldLink RX1 18 "LampChoice$Days" "ownLevels" "[I", Cond.fieldLink RX1 21 "LampChoice$Days" "lasted" "[I", Cond.methodLink RX1 36 yJ7_fill_53178, Cond.static yJ7_fill_53178]
def wsL_kind_r3 : List Cond := [Cond.initialized RJ7, Cond.code yJ7_fill_53178 cJ7_fill_53178 4 none]
def wsL_kind : List Cond := .codeWith yL_kind cL_kind 7 (some .int) [(0, 14, 17, 13), (0, 14, 21, 15)] :: ((wsL_kind_r1 ++ (wsL_kind_r2 ++ wsL_kind_r3)) ++ wsX40 ++ wsX20 ++ wsX00 ++ wsX30 ++ wsX10 ++ (vx_atS RX4 176 "java/lang/IllegalArgumentException" ["java/lang/RuntimeException", "java/lang/Exception"]).filter goodWord ++ (vx_atS RX4 150 "java/lang/IllegalStateException" ["java/lang/RuntimeException", "java/lang/Exception"]).filter goodWord)
def wsL_place_r1 : List Cond := [Cond.classLink RL 13 "java/lang/IllegalArgumentException", Cond.classLink RL 15 "java/lang/IllegalStateException", Cond.methodLink RL 17 yX4_place, Cond.instanceMethod yX4_place, Cond.selects RX4 yX4_place yX4_place, Cond.initialized RX4, Cond.code yX4_place cX4_place 4 (some .int), Cond.fieldLink RX4 15 "LampChoice" "room" "LLampChoice$Room;", Cond.fieldLink RX4 61 "LampChoice$Room" "places" "I", Cond.methodLink RX4 41 yX4_checkBounds, Cond.static yX4_checkBounds, Cond.code yX4_checkBounds cX4_checkBounds 3 none, Cond.classLink RX4 172 "java/lang/IllegalArgumentException", Cond.initialized "java/lang/IllegalArgumentException", Cond.methodLink RX4 50 yX4_checkCount, Cond.static yX4_checkCount, Cond.code yX4_checkCount cX4_checkCount 2 none, Cond.classLink RX4 146 "java/lang/IllegalStateException", Cond.initialized "java/lang/IllegalStateException", Cond.methodLink RX4 64 yX2_addPlace, Cond.instanceMethod yX2_addPlace, Cond.selects RX2 yX2_addPlace yX2_addPlace, Cond.initialized RX2, Cond.code yX2_addPlace cX2_addPlace 4 (some .int)]
def wsL_place_r2 : List Cond := [Cond.fieldLink RX2 49 "LampChoice$Room" "places" "I", Cond.fieldLink RX2 24 "LampChoice$Room" "placeX" "[I", Cond.fieldLink RX2 27 "LampChoice$Room" "placeY" "[I", Cond.methodLink RX4 58 yX4_lampsGo, Cond.instanceMethod yX4_lampsGo, Cond.selects RX4 yX4_lampsGo yX4_lampsGo, Cond.code yX4_lampsGo cX4_lampsGo 1 none, Cond.fieldLink RX4 21 "LampChoice" "choice" "LLampChoice$Choice;", Cond.fieldLink RX4 179 "LampChoice$Choice" "known" "Z", Cond.fieldLink RX4 30 "LampChoice" "scenes" "LLampChoice$Scenes;", Cond.fieldLink RX4 182 "LampChoice$Scenes" "known" "Z", Cond.fieldLink RX4 37 "LampChoice" "days" "LLampChoice$Days;", Cond.methodLink RX4 183 yX1_startAnew, Cond.instanceMethod yX1_startAnew, Cond.selects RX1 yX1_startAnew yX1_startAnew, Cond.initialized RX1, Cond.code yX1_startAnew cX1_startAnew 1 none, Cond.fieldLink RX1 18 "LampChoice$Days" "ownLevels" "[I", Cond.fieldLink RX1 21 "LampChoice$Days" "lasted" "[I", Cond.methodLink RX1 36 yJ7_fill_53178, Cond.static yJ7_fill_53178, Cond.initialized RJ7, Cond.code yJ7_fill_53178 cJ7_fill_53178 4 none]
def wsL_place : List Cond := .codeWith yL_place cL_place 5 (some .int) [(0, 10, 13, 13), (0, 10, 17, 15)] :: ((wsL_place_r1 ++ wsL_place_r2) ++ wsX40 ++ wsX20 ++ wsX00 ++ wsX30 ++ wsX10 ++ (vx_atS RX4 176 "java/lang/IllegalArgumentException" ["java/lang/RuntimeException", "java/lang/Exception"]).filter goodWord ++ (vx_atS RX4 150 "java/lang/IllegalStateException" ["java/lang/RuntimeException", "java/lang/Exception"]).filter goodWord)
def wsL_point_r1 : List Cond := [Cond.classLink RL 13 "java/lang/IllegalArgumentException", Cond.classLink RL 15 "java/lang/IllegalStateException", Cond.methodLink RL 21 yX4_point, Cond.instanceMethod yX4_point, Cond.selects RX4 yX4_point yX4_point, Cond.initialized RX4, Cond.code yX4_point cX4_point 5 (some .int), Cond.constant RX4 45 (100000), Cond.fieldLink RX4 15 "LampChoice" "room" "LLampChoice$Room;", Cond.fieldLink RX4 68 "LampChoice$Room" "points" "I", Cond.methodLink RX4 41 yX4_checkBounds, Cond.static yX4_checkBounds, Cond.code yX4_checkBounds cX4_checkBounds 3 none, Cond.classLink RX4 172 "java/lang/IllegalArgumentException", Cond.initialized "java/lang/IllegalArgumentException", Cond.methodLink RX4 50 yX4_checkCount, Cond.static yX4_checkCount, Cond.code yX4_checkCount cX4_checkCount 2 none, Cond.classLink RX4 146 "java/lang/IllegalStateException", Cond.initialized "java/lang/IllegalStateException", Cond.methodLink RX4 71 yX2_addPoint, Cond.instanceMethod yX2_addPoint, Cond.selects RX2 yX2_addPoint yX2_addPoint, Cond.initialized RX2]
def wsL_point_r2 : List Cond := [Cond.code yX2_addPoint cX2_addPoint 5 (some .int), Cond.fieldLink RX2 52 "LampChoice$Room" "points" "I", Cond.fieldLink RX2 33 "LampChoice$Room" "pointX" "[I", Cond.fieldLink RX2 36 "LampChoice$Room" "pointY" "[I", Cond.fieldLink RX2 39 "LampChoice$Room" "wanted" "[I", Cond.methodLink RX4 58 yX4_lampsGo, Cond.instanceMethod yX4_lampsGo, Cond.selects RX4 yX4_lampsGo yX4_lampsGo, Cond.code yX4_lampsGo cX4_lampsGo 1 none, Cond.fieldLink RX4 21 "LampChoice" "choice" "LLampChoice$Choice;", Cond.fieldLink RX4 179 "LampChoice$Choice" "known" "Z", Cond.fieldLink RX4 30 "LampChoice" "scenes" "LLampChoice$Scenes;", Cond.fieldLink RX4 182 "LampChoice$Scenes" "known" "Z", Cond.fieldLink RX4 37 "LampChoice" "days" "LLampChoice$Days;", Cond.methodLink RX4 183 yX1_startAnew, Cond.instanceMethod yX1_startAnew, Cond.selects RX1 yX1_startAnew yX1_startAnew, Cond.initialized RX1, Cond.code yX1_startAnew cX1_startAnew 1 none, Cond.fieldLink RX1 18 "LampChoice$Days" "ownLevels" "[I", Cond.fieldLink RX1 21 "LampChoice$Days" "lasted" "[I", Cond.methodLink RX1 36 yJ7_fill_53178, Cond.static yJ7_fill_53178, Cond.initialized RJ7]
def wsL_point_r3 : List Cond := [Cond.code yJ7_fill_53178 cJ7_fill_53178 4 none]
def wsL_point : List Cond := .codeWith yL_point cL_point 6 (some .int) [(0, 12, 15, 13), (0, 12, 19, 15)] :: ((wsL_point_r1 ++ (wsL_point_r2 ++ wsL_point_r3)) ++ wsX40 ++ wsX20 ++ wsX00 ++ wsX30 ++ wsX10 ++ (vx_atS RX4 176 "java/lang/IllegalArgumentException" ["java/lang/RuntimeException", "java/lang/Exception"]).filter goodWord ++ (vx_atS RX4 150 "java/lang/IllegalStateException" ["java/lang/RuntimeException", "java/lang/Exception"]).filter goodWord)
def wsL_height_r1 : List Cond := [Cond.classLink RL 13 "java/lang/IllegalArgumentException", Cond.methodLink RL 25 yX4_height, Cond.instanceMethod yX4_height, Cond.selects RX4 yX4_height yX4_height, Cond.initialized RX4, Cond.code yX4_height cX4_height 3 (some .int), Cond.fieldLink RX4 15 "LampChoice" "room" "LLampChoice$Room;", Cond.fieldLink RX4 75 "LampChoice$Room" "height" "I", Cond.methodLink RX4 41 yX4_checkBounds, Cond.static yX4_checkBounds, Cond.code yX4_checkBounds cX4_checkBounds 3 none, Cond.classLink RX4 172 "java/lang/IllegalArgumentException", Cond.initialized "java/lang/IllegalArgumentException", Cond.methodLink RX4 58 yX4_lampsGo, Cond.instanceMethod yX4_lampsGo, Cond.selects RX4 yX4_lampsGo yX4_lampsGo, Cond.code yX4_lampsGo cX4_lampsGo 1 none, Cond.fieldLink RX4 21 "LampChoice" "choice" "LLampChoice$Choice;", Cond.fieldLink RX4 179 "LampChoice$Choice" "known" "Z", Cond.fieldLink RX4 30 "LampChoice" "scenes" "LLampChoice$Scenes;", Cond.fieldLink RX4 182 "LampChoice$Scenes" "known" "Z", Cond.fieldLink RX4 37 "LampChoice" "days" "LLampChoice$Days;", Cond.methodLink RX4 183 yX1_startAnew, Cond.instanceMethod yX1_startAnew]
def wsL_height_r2 : List Cond := [Cond.selects RX1 yX1_startAnew yX1_startAnew, Cond.initialized RX1, Cond.code yX1_startAnew cX1_startAnew 1 none, Cond.fieldLink RX1 18 "LampChoice$Days" "ownLevels" "[I", Cond.fieldLink RX1 21 "LampChoice$Days" "lasted" "[I", Cond.methodLink RX1 36 yJ7_fill_53178, Cond.static yJ7_fill_53178, Cond.initialized RJ7, Cond.code yJ7_fill_53178 cJ7_fill_53178 4 none]
def wsL_height : List Cond := .codeWith yL_height cL_height 4 (some .int) [(0, 9, 12, 13)] :: ((wsL_height_r1 ++ wsL_height_r2) ++ wsX40 ++ wsX20 ++ wsX00 ++ wsX30 ++ wsX10 ++ (vx_atS RX4 176 "java/lang/IllegalArgumentException" ["java/lang/RuntimeException", "java/lang/Exception"]).filter goodWord)
def wsL_hold_r1 : List Cond := [Cond.classLink RL 13 "java/lang/IllegalArgumentException", Cond.methodLink RL 29 yX4_hold, Cond.instanceMethod yX4_hold, Cond.selects RX4 yX4_hold yX4_hold, Cond.initialized RX4, Cond.code yX4_hold cX4_hold 3 none, Cond.fieldLink RX4 15 "LampChoice" "room" "LLampChoice$Room;", Cond.fieldLink RX4 46 "LampChoice$Room" "kinds" "I", Cond.fieldLink RX4 82 "LampChoice$Room" "held" "[I", Cond.methodLink RX4 78 yX4_checkPlace, Cond.instanceMethod yX4_checkPlace, Cond.selects RX4 yX4_checkPlace yX4_checkPlace, Cond.code yX4_checkPlace cX4_checkPlace 2 none, Cond.fieldLink RX4 61 "LampChoice$Room" "places" "I", Cond.methodLink RX4 41 yX4_checkBounds, Cond.static yX4_checkBounds, Cond.code yX4_checkBounds cX4_checkBounds 3 none, Cond.classLink RX4 172 "java/lang/IllegalArgumentException", Cond.initialized "java/lang/IllegalArgumentException", Cond.methodLink RX4 58 yX4_lampsGo, Cond.instanceMethod yX4_lampsGo, Cond.selects RX4 yX4_lampsGo yX4_lampsGo, Cond.code yX4_lampsGo cX4_lampsGo 1 none, Cond.fieldLink RX4 21 "LampChoice" "choice" "LLampChoice$Choice;"]
def wsL_hold_r2 : List Cond := [Cond.fieldLink RX4 179 "LampChoice$Choice" "known" "Z", Cond.fieldLink RX4 30 "LampChoice" "scenes" "LLampChoice$Scenes;", Cond.fieldLink RX4 182 "LampChoice$Scenes" "known" "Z", Cond.fieldLink RX4 37 "LampChoice" "days" "LLampChoice$Days;", Cond.methodLink RX4 183 yX1_startAnew, Cond.instanceMethod yX1_startAnew, Cond.selects RX1 yX1_startAnew yX1_startAnew, Cond.initialized RX1, Cond.code yX1_startAnew cX1_startAnew 1 none, Cond.fieldLink RX1 18 "LampChoice$Days" "ownLevels" "[I", Cond.fieldLink RX1 21 "LampChoice$Days" "lasted" "[I", Cond.methodLink RX1 36 yJ7_fill_53178, Cond.static yJ7_fill_53178, Cond.initialized RJ7, Cond.code yJ7_fill_53178 cJ7_fill_53178 4 none]
def wsL_hold : List Cond := .codeWith yL_hold cL_hold 4 (some .int) [(0, 6, 9, 13)] :: ((wsL_hold_r1 ++ wsL_hold_r2) ++ wsX40 ++ wsX20 ++ wsX00 ++ wsX30 ++ wsX10 ++ (vx_atS RX4 176 "java/lang/IllegalArgumentException" ["java/lang/RuntimeException", "java/lang/Exception"]).filter goodWord)
def wsL_light_r1 : List Cond := [Cond.classLink RL 13 "java/lang/IllegalArgumentException", Cond.methodLink RL 33 yX4_light, Cond.instanceMethod yX4_light, Cond.selects RX4 yX4_light yX4_light, Cond.initialized RX4, Cond.code yX4_light cX4_light 4 (some .int), Cond.fieldLink RX4 15 "LampChoice" "room" "LLampChoice$Room;", Cond.fieldLink RX4 46 "LampChoice$Room" "kinds" "I", Cond.methodLink RX4 41 yX4_checkBounds, Cond.static yX4_checkBounds, Cond.code yX4_checkBounds cX4_checkBounds 3 none, Cond.classLink RX4 172 "java/lang/IllegalArgumentException", Cond.initialized "java/lang/IllegalArgumentException", Cond.methodLink RX4 78 yX4_checkPlace, Cond.instanceMethod yX4_checkPlace, Cond.selects RX4 yX4_checkPlace yX4_checkPlace, Cond.code yX4_checkPlace cX4_checkPlace 2 none, Cond.fieldLink RX4 61 "LampChoice$Room" "places" "I", Cond.methodLink RX4 86 yX4_checkPoint, Cond.instanceMethod yX4_checkPoint, Cond.selects RX4 yX4_checkPoint yX4_checkPoint, Cond.code yX4_checkPoint cX4_checkPoint 2 none, Cond.fieldLink RX4 68 "LampChoice$Room" "points" "I", Cond.methodLink RX4 89 yX2_lightOf]
def wsL_light_r2 : List Cond := [Cond.instanceMethod yX2_lightOf, Cond.selects RX2 yX2_lightOf yX2_lightOf, Cond.initialized RX2, Cond.code yX2_lightOf cX2_lightOf 6 (some .int), Cond.fieldLink RX2 24 "LampChoice$Room" "placeX" "[I", Cond.fieldLink RX2 33 "LampChoice$Room" "pointX" "[I", Cond.fieldLink RX2 27 "LampChoice$Room" "placeY" "[I", Cond.fieldLink RX2 36 "LampChoice$Room" "pointY" "[I", Cond.constantLong RX2 55 (1000), Cond.fieldLink RX2 9 "LampChoice$Room" "strengths" "[I", Cond.fieldLink RX2 42 "LampChoice$Room" "height" "I", Cond.static yX4_quotient, Cond.code yX4_quotient cX4_quotient 4 (some .long)]
def wsL_light : List Cond := .codeWith yL_light cL_light 6 (some .int) [(0, 12, 15, 13)] :: ((wsL_light_r1 ++ wsL_light_r2) ++ wsX40 ++ wsX20 ++ (vx_atS RX4 176 "java/lang/IllegalArgumentException" ["java/lang/RuntimeException", "java/lang/Exception"]).filter goodWord)
def wsL_lamp_r1 : List Cond := [Cond.classLink RL 13 "java/lang/IllegalArgumentException", Cond.methodLink RL 36 yX4_lamp, Cond.instanceMethod yX4_lamp, Cond.selects RX4 yX4_lamp yX4_lamp, Cond.initialized RX4, Cond.code yX4_lamp cX4_lamp 2 (some .int), Cond.fieldLink RX4 21 "LampChoice" "choice" "LLampChoice$Choice;", Cond.fieldLink RX4 95 "LampChoice$Choice" "found" "Z", Cond.fieldLink RX4 102 "LampChoice$Choice" "lamps" "[I", Cond.methodLink RX4 78 yX4_checkPlace, Cond.instanceMethod yX4_checkPlace, Cond.selects RX4 yX4_checkPlace yX4_checkPlace, Cond.code yX4_checkPlace cX4_checkPlace 2 none, Cond.fieldLink RX4 15 "LampChoice" "room" "LLampChoice$Room;", Cond.fieldLink RX4 61 "LampChoice$Room" "places" "I", Cond.methodLink RX4 41 yX4_checkBounds, Cond.static yX4_checkBounds, Cond.code yX4_checkBounds cX4_checkBounds 3 none, Cond.classLink RX4 172 "java/lang/IllegalArgumentException", Cond.initialized "java/lang/IllegalArgumentException", Cond.methodLink RX4 92 yX0_settle, Cond.instanceMethod yX0_settle, Cond.selects RX0 yX0_settle yX0_settle, Cond.initialized RX0]
def wsL_lamp_r2 : List Cond := [Cond.code yX0_settle cX0_settle 1 none, Cond.fieldLink RX0 34 "LampChoice$Choice" "known" "Z", Cond.fieldLink RX0 38 "LampChoice$Choice" "found" "Z", Cond.fieldLink RX0 24 "LampChoice$Choice" "lamps" "[I", Cond.methodLink RX0 41 yJ7_fill_53178, Cond.static yJ7_fill_53178, Cond.initialized RJ7, Cond.code yJ7_fill_53178 cJ7_fill_53178 4 none, Cond.methodLink RX0 47 yX0_fillLights, Cond.instanceMethod yX0_fillLights, Cond.selects RX0 yX0_fillLights yX0_fillLights, Cond.code yX0_fillLights cX0_fillLights 5 none, Cond.fieldLink RX0 30 "LampChoice$Choice" "room" "LLampChoice$Room;", Cond.fieldLink RX0 65 "LampChoice$Room" "places" "I", Cond.fieldLink RX0 88 "LampChoice$Room" "kinds" "I", Cond.fieldLink RX0 75 "LampChoice$Room" "points" "I", Cond.fieldLink RX0 9 "LampChoice$Choice" "lights" "[I", Cond.methodLink RX0 61 yX0_lightRow, Cond.static yX0_lightRow, Cond.code yX0_lightRow cX0_lightRow 2 (some .int), Cond.methodLink RX0 91 yX2_lightOf, Cond.instanceMethod yX2_lightOf, Cond.selects RX2 yX2_lightOf yX2_lightOf, Cond.initialized RX2]
def wsL_lamp_r3 : List Cond := [Cond.code yX2_lightOf cX2_lightOf 6 (some .int), Cond.fieldLink RX2 24 "LampChoice$Room" "placeX" "[I", Cond.fieldLink RX2 33 "LampChoice$Room" "pointX" "[I", Cond.fieldLink RX2 27 "LampChoice$Room" "placeY" "[I", Cond.fieldLink RX2 36 "LampChoice$Room" "pointY" "[I", Cond.constantLong RX2 55 (1000), Cond.fieldLink RX2 9 "LampChoice$Room" "strengths" "[I", Cond.fieldLink RX2 42 "LampChoice$Room" "height" "I", Cond.static yX4_quotient, Cond.code yX4_quotient cX4_quotient 4 (some .long), Cond.methodLink RX0 50 yX0_fillReach, Cond.instanceMethod yX0_fillReach, Cond.selects RX0 yX0_fillReach yX0_fillReach, Cond.code yX0_fillReach cX0_fillReach 4 none, Cond.fieldLink RX0 15 "LampChoice$Choice" "reach" "[I", Cond.methodLink RX0 95 yX0_mostLight, Cond.instanceMethod yX0_mostLight, Cond.selects RX0 yX0_mostLight yX0_mostLight, Cond.code yX0_mostLight cX0_mostLight 5 (some .int), Cond.methodLink RX0 102 Lib.Math.max.name, Cond.static Lib.Math.max.name, Cond.initialized "java/lang/Math", Cond.code Lib.Math.max.name Lib.Math.max.code 2 (some .int), Cond.methodLink RX0 98 yX2_mayHave]
def wsL_lamp_r4 : List Cond := [Cond.instanceMethod yX2_mayHave, Cond.selects RX2 yX2_mayHave yX2_mayHave, Cond.code yX2_mayHave cX2_mayHave 3 (some .boolean), Cond.fieldLink RX2 30 "LampChoice$Room" "held" "[I", Cond.methodLink RX0 53 yX0_canBecomeEnough, Cond.instanceMethod yX0_canBecomeEnough, Cond.selects RX0 yX0_canBecomeEnough yX0_canBecomeEnough, Cond.code yX0_canBecomeEnough cX0_canBecomeEnough 4 (some .boolean), Cond.fieldLink RX0 18 "LampChoice$Choice" "gathered" "[I", Cond.fieldLink RX0 127 "LampChoice$Room" "wanted" "[I", Cond.methodLink RX0 57 yX0_tryFrom, Cond.instanceMethod yX0_tryFrom, Cond.selects RX0 yX0_tryFrom yX0_tryFrom, Cond.code yX0_tryFrom cX0_tryFrom 5 none, Cond.fieldLink RX0 115 "LampChoice$Choice" "watts" "I", Cond.fieldLink RX0 21 "LampChoice$Choice" "tried" "[I", Cond.methodLink RX0 107 yX0_weigh, Cond.instanceMethod yX0_weigh, Cond.selects RX0 yX0_weigh yX0_weigh, Cond.code yX0_weigh cX0_weigh 8 none, Cond.methodLink RX0 130 Lib.MathLoose.min_long.x, Cond.static Lib.MathLoose.min_long.x, Cond.code Lib.MathLoose.min_long.x Lib.MathLoose.min_long.code 4 (some .long), Cond.methodLink RX0 133 Lib.MathLoose.max_long.x]
def wsL_lamp_r5 : List Cond := [Cond.static Lib.MathLoose.max_long.x, Cond.code Lib.MathLoose.max_long.x Lib.MathLoose.max_long.code 4 (some .long), Cond.fieldLink RX0 78 "LampChoice$Choice" "sumOfLevels" "J", Cond.fieldLink RX0 71 "LampChoice$Choice" "leastLevel" "J", Cond.methodLink RX0 121 arraycopyName, Cond.native arraycopyName, Cond.static arraycopyName, Cond.initialized "java/lang/System", Cond.fieldLink RX0 27 "LampChoice$Choice" "levels" "[I", Cond.methodLink RX0 111 yX2_wattsOf, Cond.instanceMethod yX2_wattsOf, Cond.selects RX2 yX2_wattsOf yX2_wattsOf, Cond.code yX2_wattsOf cX2_wattsOf 2 (some .int), Cond.fieldLink RX2 15 "LampChoice$Room" "watts" "[I", Cond.methodLink RX0 118 yX0_gather, Cond.instanceMethod yX0_gather, Cond.selects RX0 yX0_gather yX0_gather, Cond.code yX0_gather cX0_gather 7 none]
def wsL_lamp : List Cond := .codeWith yL_lamp cL_lamp 4 (some .int) [(0, 9, 12, 13)] :: ((wsL_lamp_r1 ++ (wsL_lamp_r2 ++ (wsL_lamp_r3 ++ (wsL_lamp_r4 ++ wsL_lamp_r5)))) ++ wsX40 ++ wsX00 ++ wsX20 ++ (vx_atS RX4 176 "java/lang/IllegalArgumentException" ["java/lang/RuntimeException", "java/lang/Exception"]).filter goodWord)
def wsL_level_r1 : List Cond := [Cond.classLink RL 13 "java/lang/IllegalArgumentException", Cond.methodLink RL 39 yX4_level, Cond.instanceMethod yX4_level, Cond.selects RX4 yX4_level yX4_level, Cond.initialized RX4, Cond.code yX4_level cX4_level 2 (some .int), Cond.fieldLink RX4 21 "LampChoice" "choice" "LLampChoice$Choice;", Cond.fieldLink RX4 95 "LampChoice$Choice" "found" "Z", Cond.fieldLink RX4 105 "LampChoice$Choice" "levels" "[I", Cond.methodLink RX4 86 yX4_checkPoint, Cond.instanceMethod yX4_checkPoint, Cond.selects RX4 yX4_checkPoint yX4_checkPoint, Cond.code yX4_checkPoint cX4_checkPoint 2 none, Cond.fieldLink RX4 15 "LampChoice" "room" "LLampChoice$Room;", Cond.fieldLink RX4 68 "LampChoice$Room" "points" "I", Cond.methodLink RX4 41 yX4_checkBounds, Cond.static yX4_checkBounds, Cond.code yX4_checkBounds cX4_checkBounds 3 none, Cond.classLink RX4 172 "java/lang/IllegalArgumentException", Cond.initialized "java/lang/IllegalArgumentException", Cond.methodLink RX4 92 yX0_settle, Cond.instanceMethod yX0_settle, Cond.selects RX0 yX0_settle yX0_settle, Cond.initialized RX0]
def wsL_level_r2 : List Cond := [Cond.code yX0_settle cX0_settle 1 none, Cond.fieldLink RX0 34 "LampChoice$Choice" "known" "Z", Cond.fieldLink RX0 38 "LampChoice$Choice" "found" "Z", Cond.fieldLink RX0 24 "LampChoice$Choice" "lamps" "[I", Cond.methodLink RX0 41 yJ7_fill_53178, Cond.static yJ7_fill_53178, Cond.initialized RJ7, Cond.code yJ7_fill_53178 cJ7_fill_53178 4 none, Cond.methodLink RX0 47 yX0_fillLights, Cond.instanceMethod yX0_fillLights, Cond.selects RX0 yX0_fillLights yX0_fillLights, Cond.code yX0_fillLights cX0_fillLights 5 none, Cond.fieldLink RX0 30 "LampChoice$Choice" "room" "LLampChoice$Room;", Cond.fieldLink RX0 65 "LampChoice$Room" "places" "I", Cond.fieldLink RX0 88 "LampChoice$Room" "kinds" "I", Cond.fieldLink RX0 75 "LampChoice$Room" "points" "I", Cond.fieldLink RX0 9 "LampChoice$Choice" "lights" "[I", Cond.methodLink RX0 61 yX0_lightRow, Cond.static yX0_lightRow, Cond.code yX0_lightRow cX0_lightRow 2 (some .int), Cond.methodLink RX0 91 yX2_lightOf, Cond.instanceMethod yX2_lightOf, Cond.selects RX2 yX2_lightOf yX2_lightOf, Cond.initialized RX2]
def wsL_level_r3 : List Cond := [Cond.code yX2_lightOf cX2_lightOf 6 (some .int), Cond.fieldLink RX2 24 "LampChoice$Room" "placeX" "[I", Cond.fieldLink RX2 33 "LampChoice$Room" "pointX" "[I", Cond.fieldLink RX2 27 "LampChoice$Room" "placeY" "[I", Cond.fieldLink RX2 36 "LampChoice$Room" "pointY" "[I", Cond.constantLong RX2 55 (1000), Cond.fieldLink RX2 9 "LampChoice$Room" "strengths" "[I", Cond.fieldLink RX2 42 "LampChoice$Room" "height" "I", Cond.static yX4_quotient, Cond.code yX4_quotient cX4_quotient 4 (some .long), Cond.methodLink RX0 50 yX0_fillReach, Cond.instanceMethod yX0_fillReach, Cond.selects RX0 yX0_fillReach yX0_fillReach, Cond.code yX0_fillReach cX0_fillReach 4 none, Cond.fieldLink RX0 15 "LampChoice$Choice" "reach" "[I", Cond.methodLink RX0 95 yX0_mostLight, Cond.instanceMethod yX0_mostLight, Cond.selects RX0 yX0_mostLight yX0_mostLight, Cond.code yX0_mostLight cX0_mostLight 5 (some .int), Cond.methodLink RX0 102 Lib.Math.max.name, Cond.static Lib.Math.max.name, Cond.initialized "java/lang/Math", Cond.code Lib.Math.max.name Lib.Math.max.code 2 (some .int), Cond.methodLink RX0 98 yX2_mayHave]
def wsL_level_r4 : List Cond := [Cond.instanceMethod yX2_mayHave, Cond.selects RX2 yX2_mayHave yX2_mayHave, Cond.code yX2_mayHave cX2_mayHave 3 (some .boolean), Cond.fieldLink RX2 30 "LampChoice$Room" "held" "[I", Cond.methodLink RX0 53 yX0_canBecomeEnough, Cond.instanceMethod yX0_canBecomeEnough, Cond.selects RX0 yX0_canBecomeEnough yX0_canBecomeEnough, Cond.code yX0_canBecomeEnough cX0_canBecomeEnough 4 (some .boolean), Cond.fieldLink RX0 18 "LampChoice$Choice" "gathered" "[I", Cond.fieldLink RX0 127 "LampChoice$Room" "wanted" "[I", Cond.methodLink RX0 57 yX0_tryFrom, Cond.instanceMethod yX0_tryFrom, Cond.selects RX0 yX0_tryFrom yX0_tryFrom, Cond.code yX0_tryFrom cX0_tryFrom 5 none, Cond.fieldLink RX0 115 "LampChoice$Choice" "watts" "I", Cond.fieldLink RX0 21 "LampChoice$Choice" "tried" "[I", Cond.methodLink RX0 107 yX0_weigh, Cond.instanceMethod yX0_weigh, Cond.selects RX0 yX0_weigh yX0_weigh, Cond.code yX0_weigh cX0_weigh 8 none, Cond.methodLink RX0 130 Lib.MathLoose.min_long.x, Cond.static Lib.MathLoose.min_long.x, Cond.code Lib.MathLoose.min_long.x Lib.MathLoose.min_long.code 4 (some .long), Cond.methodLink RX0 133 Lib.MathLoose.max_long.x]
def wsL_level_r5 : List Cond := [Cond.static Lib.MathLoose.max_long.x, Cond.code Lib.MathLoose.max_long.x Lib.MathLoose.max_long.code 4 (some .long), Cond.fieldLink RX0 78 "LampChoice$Choice" "sumOfLevels" "J", Cond.fieldLink RX0 71 "LampChoice$Choice" "leastLevel" "J", Cond.methodLink RX0 121 arraycopyName, Cond.native arraycopyName, Cond.static arraycopyName, Cond.initialized "java/lang/System", Cond.fieldLink RX0 27 "LampChoice$Choice" "levels" "[I", Cond.methodLink RX0 111 yX2_wattsOf, Cond.instanceMethod yX2_wattsOf, Cond.selects RX2 yX2_wattsOf yX2_wattsOf, Cond.code yX2_wattsOf cX2_wattsOf 2 (some .int), Cond.fieldLink RX2 15 "LampChoice$Room" "watts" "[I", Cond.methodLink RX0 118 yX0_gather, Cond.instanceMethod yX0_gather, Cond.selects RX0 yX0_gather yX0_gather, Cond.code yX0_gather cX0_gather 7 none]
def wsL_level : List Cond := .codeWith yL_level cL_level 4 (some .int) [(0, 9, 12, 13)] :: ((wsL_level_r1 ++ (wsL_level_r2 ++ (wsL_level_r3 ++ (wsL_level_r4 ++ wsL_level_r5)))) ++ wsX40 ++ wsX00 ++ wsX20 ++ (vx_atS RX4 176 "java/lang/IllegalArgumentException" ["java/lang/RuntimeException", "java/lang/Exception"]).filter goodWord)
def wsL_even_r1 : List Cond := [Cond.classLink RL 13 "java/lang/IllegalArgumentException", Cond.methodLink RL 42 yX4_even, Cond.instanceMethod yX4_even, Cond.selects RX4 yX4_even yX4_even, Cond.initialized RX4, Cond.code yX4_even cX4_even 2 (some .long), Cond.fieldLink RX4 21 "LampChoice" "choice" "LLampChoice$Choice;", Cond.fieldLink RX4 95 "LampChoice$Choice" "found" "Z", Cond.constantLong RX4 108 (-2), Cond.methodLink RX4 41 yX4_checkBounds, Cond.static yX4_checkBounds, Cond.code yX4_checkBounds cX4_checkBounds 3 none, Cond.classLink RX4 172 "java/lang/IllegalArgumentException", Cond.initialized "java/lang/IllegalArgumentException", Cond.methodLink RX4 92 yX0_settle, Cond.instanceMethod yX0_settle, Cond.selects RX0 yX0_settle yX0_settle, Cond.initialized RX0, Cond.code yX0_settle cX0_settle 1 none, Cond.fieldLink RX0 34 "LampChoice$Choice" "known" "Z", Cond.fieldLink RX0 38 "LampChoice$Choice" "found" "Z", Cond.fieldLink RX0 24 "LampChoice$Choice" "lamps" "[I", Cond.methodLink RX0 41 yJ7_fill_53178, Cond.static yJ7_fill_53178]
def wsL_even_r2 : List Cond := [Cond.initialized RJ7, Cond.code yJ7_fill_53178 cJ7_fill_53178 4 none, Cond.methodLink RX0 47 yX0_fillLights, Cond.instanceMethod yX0_fillLights, Cond.selects RX0 yX0_fillLights yX0_fillLights, Cond.code yX0_fillLights cX0_fillLights 5 none, Cond.fieldLink RX0 30 "LampChoice$Choice" "room" "LLampChoice$Room;", Cond.fieldLink RX0 65 "LampChoice$Room" "places" "I", Cond.fieldLink RX0 88 "LampChoice$Room" "kinds" "I", Cond.fieldLink RX0 75 "LampChoice$Room" "points" "I", Cond.fieldLink RX0 9 "LampChoice$Choice" "lights" "[I", Cond.methodLink RX0 61 yX0_lightRow, Cond.static yX0_lightRow, Cond.code yX0_lightRow cX0_lightRow 2 (some .int), Cond.methodLink RX0 91 yX2_lightOf, Cond.instanceMethod yX2_lightOf, Cond.selects RX2 yX2_lightOf yX2_lightOf, Cond.initialized RX2, Cond.code yX2_lightOf cX2_lightOf 6 (some .int), Cond.fieldLink RX2 24 "LampChoice$Room" "placeX" "[I", Cond.fieldLink RX2 33 "LampChoice$Room" "pointX" "[I", Cond.fieldLink RX2 27 "LampChoice$Room" "placeY" "[I", Cond.fieldLink RX2 36 "LampChoice$Room" "pointY" "[I", Cond.constantLong RX2 55 (1000)]
def wsL_even_r3 : List Cond := [Cond.fieldLink RX2 9 "LampChoice$Room" "strengths" "[I", Cond.fieldLink RX2 42 "LampChoice$Room" "height" "I", Cond.static yX4_quotient, Cond.code yX4_quotient cX4_quotient 4 (some .long), Cond.methodLink RX0 50 yX0_fillReach, Cond.instanceMethod yX0_fillReach, Cond.selects RX0 yX0_fillReach yX0_fillReach, Cond.code yX0_fillReach cX0_fillReach 4 none, Cond.fieldLink RX0 15 "LampChoice$Choice" "reach" "[I", Cond.methodLink RX0 95 yX0_mostLight, Cond.instanceMethod yX0_mostLight, Cond.selects RX0 yX0_mostLight yX0_mostLight, Cond.code yX0_mostLight cX0_mostLight 5 (some .int), Cond.methodLink RX0 102 Lib.Math.max.name, Cond.static Lib.Math.max.name, Cond.initialized "java/lang/Math", Cond.code Lib.Math.max.name Lib.Math.max.code 2 (some .int), Cond.methodLink RX0 98 yX2_mayHave, Cond.instanceMethod yX2_mayHave, Cond.selects RX2 yX2_mayHave yX2_mayHave, Cond.code yX2_mayHave cX2_mayHave 3 (some .boolean), Cond.fieldLink RX2 30 "LampChoice$Room" "held" "[I", Cond.methodLink RX0 53 yX0_canBecomeEnough, Cond.instanceMethod yX0_canBecomeEnough]
def wsL_even_r4 : List Cond := [Cond.selects RX0 yX0_canBecomeEnough yX0_canBecomeEnough, Cond.code yX0_canBecomeEnough cX0_canBecomeEnough 4 (some .boolean), Cond.fieldLink RX0 18 "LampChoice$Choice" "gathered" "[I", Cond.fieldLink RX0 127 "LampChoice$Room" "wanted" "[I", Cond.methodLink RX0 57 yX0_tryFrom, Cond.instanceMethod yX0_tryFrom, Cond.selects RX0 yX0_tryFrom yX0_tryFrom, Cond.code yX0_tryFrom cX0_tryFrom 5 none, Cond.fieldLink RX0 115 "LampChoice$Choice" "watts" "I", Cond.fieldLink RX0 21 "LampChoice$Choice" "tried" "[I", Cond.methodLink RX0 107 yX0_weigh, Cond.instanceMethod yX0_weigh, Cond.selects RX0 yX0_weigh yX0_weigh, Cond.code yX0_weigh cX0_weigh 8 none, Cond.methodLink RX0 130 Lib.MathLoose.min_long.x, Cond.static Lib.MathLoose.min_long.x, Cond.code Lib.MathLoose.min_long.x Lib.MathLoose.min_long.code 4 (some .long), Cond.methodLink RX0 133 Lib.MathLoose.max_long.x, Cond.static Lib.MathLoose.max_long.x, Cond.code Lib.MathLoose.max_long.x Lib.MathLoose.max_long.code 4 (some .long), Cond.fieldLink RX0 78 "LampChoice$Choice" "sumOfLevels" "J", Cond.fieldLink RX0 71 "LampChoice$Choice" "leastLevel" "J", Cond.methodLink RX0 121 arraycopyName, Cond.native arraycopyName]
def wsL_even_r5 : List Cond := [Cond.static arraycopyName, Cond.initialized "java/lang/System", Cond.fieldLink RX0 27 "LampChoice$Choice" "levels" "[I", Cond.methodLink RX0 111 yX2_wattsOf, Cond.instanceMethod yX2_wattsOf, Cond.selects RX2 yX2_wattsOf yX2_wattsOf, Cond.code yX2_wattsOf cX2_wattsOf 2 (some .int), Cond.fieldLink RX2 15 "LampChoice$Room" "watts" "[I", Cond.methodLink RX0 118 yX0_gather, Cond.instanceMethod yX0_gather, Cond.selects RX0 yX0_gather yX0_gather, Cond.code yX0_gather cX0_gather 7 none, Cond.methodLink RX4 110 yX0_evennessAbove, Cond.instanceMethod yX0_evennessAbove, Cond.selects RX0 yX0_evennessAbove yX0_evennessAbove, Cond.code yX0_evennessAbove cX0_evennessAbove 3 (some .long), Cond.methodLink RX0 81 yX0_commonDivisor, Cond.static yX0_commonDivisor, Cond.code yX0_commonDivisor cX0_commonDivisor 11 (some .long), Cond.methodLink RX4 114 yX0_evennessBelow, Cond.instanceMethod yX0_evennessBelow, Cond.selects RX0 yX0_evennessBelow yX0_evennessBelow, Cond.code yX0_evennessBelow cX0_evennessBelow 1 (some .long)]
def wsL_even : List Cond := .codeWith yL_even cL_even 4 (some .int) [(0, 8, 11, 13)] :: ((wsL_even_r1 ++ (wsL_even_r2 ++ (wsL_even_r3 ++ (wsL_even_r4 ++ wsL_even_r5)))) ++ wsX40 ++ wsX00 ++ wsX20 ++ (vx_atS RX4 176 "java/lang/IllegalArgumentException" ["java/lang/RuntimeException", "java/lang/Exception"]).filter goodWord)
def wsL_aim_r1 : List Cond := [Cond.classLink RL 13 "java/lang/IllegalArgumentException", Cond.methodLink RL 46 yX4_aim, Cond.instanceMethod yX4_aim, Cond.selects RX4 yX4_aim yX4_aim, Cond.initialized RX4, Cond.code yX4_aim cX4_aim 3 (some .int), Cond.constant RX4 117 (1000000), Cond.fieldLink RX4 30 "LampChoice" "scenes" "LLampChoice$Scenes;", Cond.methodLink RX4 86 yX4_checkPoint, Cond.instanceMethod yX4_checkPoint, Cond.selects RX4 yX4_checkPoint yX4_checkPoint, Cond.code yX4_checkPoint cX4_checkPoint 2 none, Cond.fieldLink RX4 15 "LampChoice" "room" "LLampChoice$Room;", Cond.fieldLink RX4 68 "LampChoice$Room" "points" "I", Cond.methodLink RX4 41 yX4_checkBounds, Cond.static yX4_checkBounds, Cond.code yX4_checkBounds cX4_checkBounds 3 none, Cond.classLink RX4 172 "java/lang/IllegalArgumentException", Cond.initialized "java/lang/IllegalArgumentException", Cond.methodLink RX4 118 yX3_changeAim, Cond.instanceMethod yX3_changeAim, Cond.selects RX3 yX3_changeAim yX3_changeAim, Cond.initialized RX3, Cond.code yX3_changeAim cX3_changeAim 4 (some .int)]
def wsL_aim_r2 : List Cond := [Cond.fieldLink RX3 9 "LampChoice$Scenes" "aims" "[I", Cond.fieldLink RX3 30 "LampChoice$Scenes" "known" "Z"]
def wsL_aim : List Cond := .codeWith yL_aim cL_aim 5 (some .int) [(0, 10, 13, 13)] :: ((wsL_aim_r1 ++ wsL_aim_r2) ++ wsX40 ++ wsX20 ++ wsX30 ++ (vx_atS RX4 176 "java/lang/IllegalArgumentException" ["java/lang/RuntimeException", "java/lang/Exception"]).filter goodWord)
def wsL_dim_r1 : List Cond := [Cond.classLink RL 13 "java/lang/IllegalArgumentException", Cond.methodLink RL 49 yX4_dim, Cond.instanceMethod yX4_dim, Cond.selects RX4 yX4_dim yX4_dim, Cond.initialized RX4, Cond.code yX4_dim cX4_dim 2 (some .int), Cond.fieldLink RX4 21 "LampChoice" "choice" "LLampChoice$Choice;", Cond.fieldLink RX4 102 "LampChoice$Choice" "lamps" "[I", Cond.fieldLink RX4 30 "LampChoice" "scenes" "LLampChoice$Scenes;", Cond.fieldLink RX4 127 "LampChoice$Scenes" "dims" "[I", Cond.methodLink RX4 78 yX4_checkPlace, Cond.instanceMethod yX4_checkPlace, Cond.selects RX4 yX4_checkPlace yX4_checkPlace, Cond.code yX4_checkPlace cX4_checkPlace 2 none, Cond.fieldLink RX4 15 "LampChoice" "room" "LLampChoice$Room;", Cond.fieldLink RX4 61 "LampChoice$Room" "places" "I", Cond.methodLink RX4 41 yX4_checkBounds, Cond.static yX4_checkBounds, Cond.code yX4_checkBounds cX4_checkBounds 3 none, Cond.classLink RX4 172 "java/lang/IllegalArgumentException", Cond.initialized "java/lang/IllegalArgumentException", Cond.methodLink RX4 121 yX4_settleScene, Cond.instanceMethod yX4_settleScene, Cond.selects RX4 yX4_settleScene yX4_settleScene]
def wsL_dim_r2 : List Cond := [Cond.code yX4_settleScene cX4_settleScene 1 none, Cond.methodLink RX4 92 yX0_settle, Cond.instanceMethod yX0_settle, Cond.selects RX0 yX0_settle yX0_settle, Cond.initialized RX0, Cond.code yX0_settle cX0_settle 1 none, Cond.fieldLink RX0 34 "LampChoice$Choice" "known" "Z", Cond.fieldLink RX0 38 "LampChoice$Choice" "found" "Z", Cond.fieldLink RX0 24 "LampChoice$Choice" "lamps" "[I", Cond.methodLink RX0 41 yJ7_fill_53178, Cond.static yJ7_fill_53178, Cond.initialized RJ7, Cond.code yJ7_fill_53178 cJ7_fill_53178 4 none, Cond.methodLink RX0 47 yX0_fillLights, Cond.instanceMethod yX0_fillLights, Cond.selects RX0 yX0_fillLights yX0_fillLights, Cond.code yX0_fillLights cX0_fillLights 5 none, Cond.fieldLink RX0 30 "LampChoice$Choice" "room" "LLampChoice$Room;", Cond.fieldLink RX0 65 "LampChoice$Room" "places" "I", Cond.fieldLink RX0 88 "LampChoice$Room" "kinds" "I", Cond.fieldLink RX0 75 "LampChoice$Room" "points" "I", Cond.fieldLink RX0 9 "LampChoice$Choice" "lights" "[I", Cond.methodLink RX0 61 yX0_lightRow, Cond.static yX0_lightRow]
def wsL_dim_r3 : List Cond := [Cond.code yX0_lightRow cX0_lightRow 2 (some .int), Cond.methodLink RX0 91 yX2_lightOf, Cond.instanceMethod yX2_lightOf, Cond.selects RX2 yX2_lightOf yX2_lightOf, Cond.initialized RX2, Cond.code yX2_lightOf cX2_lightOf 6 (some .int), Cond.fieldLink RX2 24 "LampChoice$Room" "placeX" "[I", Cond.fieldLink RX2 33 "LampChoice$Room" "pointX" "[I", Cond.fieldLink RX2 27 "LampChoice$Room" "placeY" "[I", Cond.fieldLink RX2 36 "LampChoice$Room" "pointY" "[I", Cond.constantLong RX2 55 (1000), Cond.fieldLink RX2 9 "LampChoice$Room" "strengths" "[I", Cond.fieldLink RX2 42 "LampChoice$Room" "height" "I", Cond.static yX4_quotient, Cond.code yX4_quotient cX4_quotient 4 (some .long), Cond.methodLink RX0 50 yX0_fillReach, Cond.instanceMethod yX0_fillReach, Cond.selects RX0 yX0_fillReach yX0_fillReach, Cond.code yX0_fillReach cX0_fillReach 4 none, Cond.fieldLink RX0 15 "LampChoice$Choice" "reach" "[I", Cond.methodLink RX0 95 yX0_mostLight, Cond.instanceMethod yX0_mostLight, Cond.selects RX0 yX0_mostLight yX0_mostLight, Cond.code yX0_mostLight cX0_mostLight 5 (some .int)]
def wsL_dim_r4 : List Cond := [Cond.methodLink RX0 102 Lib.Math.max.name, Cond.static Lib.Math.max.name, Cond.initialized "java/lang/Math", Cond.code Lib.Math.max.name Lib.Math.max.code 2 (some .int), Cond.methodLink RX0 98 yX2_mayHave, Cond.instanceMethod yX2_mayHave, Cond.selects RX2 yX2_mayHave yX2_mayHave, Cond.code yX2_mayHave cX2_mayHave 3 (some .boolean), Cond.fieldLink RX2 30 "LampChoice$Room" "held" "[I", Cond.methodLink RX0 53 yX0_canBecomeEnough, Cond.instanceMethod yX0_canBecomeEnough, Cond.selects RX0 yX0_canBecomeEnough yX0_canBecomeEnough, Cond.code yX0_canBecomeEnough cX0_canBecomeEnough 4 (some .boolean), Cond.fieldLink RX0 18 "LampChoice$Choice" "gathered" "[I", Cond.fieldLink RX0 127 "LampChoice$Room" "wanted" "[I", Cond.methodLink RX0 57 yX0_tryFrom, Cond.instanceMethod yX0_tryFrom, Cond.selects RX0 yX0_tryFrom yX0_tryFrom, Cond.code yX0_tryFrom cX0_tryFrom 5 none, Cond.fieldLink RX0 115 "LampChoice$Choice" "watts" "I", Cond.fieldLink RX0 21 "LampChoice$Choice" "tried" "[I", Cond.methodLink RX0 107 yX0_weigh, Cond.instanceMethod yX0_weigh, Cond.selects RX0 yX0_weigh yX0_weigh]
def wsL_dim_r5 : List Cond := [Cond.code yX0_weigh cX0_weigh 8 none, Cond.methodLink RX0 130 Lib.MathLoose.min_long.x, Cond.static Lib.MathLoose.min_long.x, Cond.code Lib.MathLoose.min_long.x Lib.MathLoose.min_long.code 4 (some .long), Cond.methodLink RX0 133 Lib.MathLoose.max_long.x, Cond.static Lib.MathLoose.max_long.x, Cond.code Lib.MathLoose.max_long.x Lib.MathLoose.max_long.code 4 (some .long), Cond.fieldLink RX0 78 "LampChoice$Choice" "sumOfLevels" "J", Cond.fieldLink RX0 71 "LampChoice$Choice" "leastLevel" "J", Cond.methodLink RX0 121 arraycopyName, Cond.native arraycopyName, Cond.static arraycopyName, Cond.initialized "java/lang/System", Cond.fieldLink RX0 27 "LampChoice$Choice" "levels" "[I", Cond.methodLink RX0 111 yX2_wattsOf, Cond.instanceMethod yX2_wattsOf, Cond.selects RX2 yX2_wattsOf yX2_wattsOf, Cond.code yX2_wattsOf cX2_wattsOf 2 (some .int), Cond.fieldLink RX2 15 "LampChoice$Room" "watts" "[I", Cond.methodLink RX0 118 yX0_gather, Cond.instanceMethod yX0_gather, Cond.selects RX0 yX0_gather yX0_gather, Cond.code yX0_gather cX0_gather 7 none, Cond.methodLink RX4 186 yX3_settle]
def wsL_dim_r6 : List Cond := [Cond.instanceMethod yX3_settle, Cond.selects RX3 yX3_settle yX3_settle, Cond.initialized RX3, Cond.code yX3_settle cX3_settle 2 none, Cond.fieldLink RX3 30 "LampChoice$Scenes" "known" "Z", Cond.fieldLink RX3 15 "LampChoice$Scenes" "dims" "[I", Cond.fieldLink RX3 22 "LampChoice$Scenes" "room" "LLampChoice$Room;", Cond.fieldLink RX3 40 "LampChoice$Room" "points" "I", Cond.fieldLink RX3 18 "LampChoice$Scenes" "misses" "[J", Cond.constantLong RX3 46 (100), Cond.fieldLink RX3 9 "LampChoice$Scenes" "aims" "[I", Cond.fieldLink RX3 48 "LampChoice$Scenes" "sweeps" "I", Cond.fieldLink RX3 26 "LampChoice$Scenes" "choice" "LLampChoice$Choice;", Cond.methodLink RX3 34 yJ7_fill_53178, Cond.methodLink RX3 51 yX0_hasLamps, Cond.instanceMethod yX0_hasLamps, Cond.selects RX0 yX0_hasLamps yX0_hasLamps, Cond.code yX0_hasLamps cX0_hasLamps 2 (some .boolean), Cond.methodLink RX3 57 yX3_sweep, Cond.instanceMethod yX3_sweep, Cond.selects RX3 yX3_sweep yX3_sweep, Cond.code yX3_sweep cX3_sweep 4 (some .boolean), Cond.fieldLink RX3 60 "LampChoice$Room" "places" "I", Cond.fieldLink RX3 63 "LampChoice$Choice" "lamps" "[I"]
def wsL_dim_r7 : List Cond := [Cond.methodLink RX3 66 yX3_fittingDim, Cond.instanceMethod yX3_fittingDim, Cond.selects RX3 yX3_fittingDim yX3_fittingDim, Cond.code yX3_fittingDim cX3_fittingDim 9 (some .int), Cond.constantLong RX3 78 (2), Cond.methodLink RX3 84 Lib.MathLoose.min_long.x, Cond.methodLink RX3 74 yX0_lampLight, Cond.instanceMethod yX0_lampLight, Cond.selects RX0 yX0_lampLight yX0_lampLight, Cond.code yX0_lampLight cX0_lampLight 4 (some .int), Cond.methodLink RX3 70 yX3_moveTo, Cond.instanceMethod yX3_moveTo, Cond.selects RX3 yX3_moveTo yX3_moveTo, Cond.code yX3_moveTo cX3_moveTo 6 none]
def wsL_dim : List Cond := .codeWith yL_dim cL_dim 4 (some .int) [(0, 9, 12, 13)] :: ((wsL_dim_r1 ++ (wsL_dim_r2 ++ (wsL_dim_r3 ++ (wsL_dim_r4 ++ (wsL_dim_r5 ++ (wsL_dim_r6 ++ wsL_dim_r7)))))) ++ wsX40 ++ wsX00 ++ wsX30 ++ wsX20 ++ (vx_atS RX4 176 "java/lang/IllegalArgumentException" ["java/lang/RuntimeException", "java/lang/Exception"]).filter goodWord)
def wsL_miss_r1 : List Cond := [Cond.classLink RL 13 "java/lang/IllegalArgumentException", Cond.methodLink RL 52 yX4_miss, Cond.instanceMethod yX4_miss, Cond.selects RX4 yX4_miss yX4_miss, Cond.initialized RX4, Cond.code yX4_miss cX4_miss 2 (some .long), Cond.fieldLink RX4 30 "LampChoice" "scenes" "LLampChoice$Scenes;", Cond.fieldLink RX4 130 "LampChoice$Scenes" "misses" "[J", Cond.methodLink RX4 86 yX4_checkPoint, Cond.instanceMethod yX4_checkPoint, Cond.selects RX4 yX4_checkPoint yX4_checkPoint, Cond.code yX4_checkPoint cX4_checkPoint 2 none, Cond.fieldLink RX4 15 "LampChoice" "room" "LLampChoice$Room;", Cond.fieldLink RX4 68 "LampChoice$Room" "points" "I", Cond.methodLink RX4 41 yX4_checkBounds, Cond.static yX4_checkBounds, Cond.code yX4_checkBounds cX4_checkBounds 3 none, Cond.classLink RX4 172 "java/lang/IllegalArgumentException", Cond.initialized "java/lang/IllegalArgumentException", Cond.methodLink RX4 121 yX4_settleScene, Cond.instanceMethod yX4_settleScene, Cond.selects RX4 yX4_settleScene yX4_settleScene, Cond.code yX4_settleScene cX4_settleScene 1 none, Cond.fieldLink RX4 21 "LampChoice" "choice" "LLampChoice$Choice;"]
def wsL_miss_r2 : List Cond := [Cond.methodLink RX4 92 yX0_settle, Cond.instanceMethod yX0_settle, Cond.selects RX0 yX0_settle yX0_settle, Cond.initialized RX0, Cond.code yX0_settle cX0_settle 1 none, Cond.fieldLink RX0 34 "LampChoice$Choice" "known" "Z", Cond.fieldLink RX0 38 "LampChoice$Choice" "found" "Z", Cond.fieldLink RX0 24 "LampChoice$Choice" "lamps" "[I", Cond.methodLink RX0 41 yJ7_fill_53178, Cond.static yJ7_fill_53178, Cond.initialized RJ7, Cond.code yJ7_fill_53178 cJ7_fill_53178 4 none, Cond.methodLink RX0 47 yX0_fillLights, Cond.instanceMethod yX0_fillLights, Cond.selects RX0 yX0_fillLights yX0_fillLights, Cond.code yX0_fillLights cX0_fillLights 5 none, Cond.fieldLink RX0 30 "LampChoice$Choice" "room" "LLampChoice$Room;", Cond.fieldLink RX0 65 "LampChoice$Room" "places" "I", Cond.fieldLink RX0 88 "LampChoice$Room" "kinds" "I", Cond.fieldLink RX0 75 "LampChoice$Room" "points" "I", Cond.fieldLink RX0 9 "LampChoice$Choice" "lights" "[I", Cond.methodLink RX0 61 yX0_lightRow, Cond.static yX0_lightRow, Cond.code yX0_lightRow cX0_lightRow 2 (some .int)]
def wsL_miss_r3 : List Cond := [Cond.methodLink RX0 91 yX2_lightOf, Cond.instanceMethod yX2_lightOf, Cond.selects RX2 yX2_lightOf yX2_lightOf, Cond.initialized RX2, Cond.code yX2_lightOf cX2_lightOf 6 (some .int), Cond.fieldLink RX2 24 "LampChoice$Room" "placeX" "[I", Cond.fieldLink RX2 33 "LampChoice$Room" "pointX" "[I", Cond.fieldLink RX2 27 "LampChoice$Room" "placeY" "[I", Cond.fieldLink RX2 36 "LampChoice$Room" "pointY" "[I", Cond.constantLong RX2 55 (1000), Cond.fieldLink RX2 9 "LampChoice$Room" "strengths" "[I", Cond.fieldLink RX2 42 "LampChoice$Room" "height" "I", Cond.static yX4_quotient, Cond.code yX4_quotient cX4_quotient 4 (some .long), Cond.methodLink RX0 50 yX0_fillReach, Cond.instanceMethod yX0_fillReach, Cond.selects RX0 yX0_fillReach yX0_fillReach, Cond.code yX0_fillReach cX0_fillReach 4 none, Cond.fieldLink RX0 15 "LampChoice$Choice" "reach" "[I", Cond.methodLink RX0 95 yX0_mostLight, Cond.instanceMethod yX0_mostLight, Cond.selects RX0 yX0_mostLight yX0_mostLight, Cond.code yX0_mostLight cX0_mostLight 5 (some .int), Cond.methodLink RX0 102 Lib.Math.max.name]
def wsL_miss_r4 : List Cond := [Cond.static Lib.Math.max.name, Cond.initialized "java/lang/Math", Cond.code Lib.Math.max.name Lib.Math.max.code 2 (some .int), Cond.methodLink RX0 98 yX2_mayHave, Cond.instanceMethod yX2_mayHave, Cond.selects RX2 yX2_mayHave yX2_mayHave, Cond.code yX2_mayHave cX2_mayHave 3 (some .boolean), Cond.fieldLink RX2 30 "LampChoice$Room" "held" "[I", Cond.methodLink RX0 53 yX0_canBecomeEnough, Cond.instanceMethod yX0_canBecomeEnough, Cond.selects RX0 yX0_canBecomeEnough yX0_canBecomeEnough, Cond.code yX0_canBecomeEnough cX0_canBecomeEnough 4 (some .boolean), Cond.fieldLink RX0 18 "LampChoice$Choice" "gathered" "[I", Cond.fieldLink RX0 127 "LampChoice$Room" "wanted" "[I", Cond.methodLink RX0 57 yX0_tryFrom, Cond.instanceMethod yX0_tryFrom, Cond.selects RX0 yX0_tryFrom yX0_tryFrom, Cond.code yX0_tryFrom cX0_tryFrom 5 none, Cond.fieldLink RX0 115 "LampChoice$Choice" "watts" "I", Cond.fieldLink RX0 21 "LampChoice$Choice" "tried" "[I", Cond.methodLink RX0 107 yX0_weigh, Cond.instanceMethod yX0_weigh, Cond.selects RX0 yX0_weigh yX0_weigh, Cond.code yX0_weigh cX0_weigh 8 none]
def wsL_miss_r5 : List Cond := [Cond.methodLink RX0 130 Lib.MathLoose.min_long.x, Cond.static Lib.MathLoose.min_long.x, Cond.code Lib.MathLoose.min_long.x Lib.MathLoose.min_long.code 4 (some .long), Cond.methodLink RX0 133 Lib.MathLoose.max_long.x, Cond.static Lib.MathLoose.max_long.x, Cond.code Lib.MathLoose.max_long.x Lib.MathLoose.max_long.code 4 (some .long), Cond.fieldLink RX0 78 "LampChoice$Choice" "sumOfLevels" "J", Cond.fieldLink RX0 71 "LampChoice$Choice" "leastLevel" "J", Cond.methodLink RX0 121 arraycopyName, Cond.native arraycopyName, Cond.static arraycopyName, Cond.initialized "java/lang/System", Cond.fieldLink RX0 27 "LampChoice$Choice" "levels" "[I", Cond.methodLink RX0 111 yX2_wattsOf, Cond.instanceMethod yX2_wattsOf, Cond.selects RX2 yX2_wattsOf yX2_wattsOf, Cond.code yX2_wattsOf cX2_wattsOf 2 (some .int), Cond.fieldLink RX2 15 "LampChoice$Room" "watts" "[I", Cond.methodLink RX0 118 yX0_gather, Cond.instanceMethod yX0_gather, Cond.selects RX0 yX0_gather yX0_gather, Cond.code yX0_gather cX0_gather 7 none, Cond.methodLink RX4 186 yX3_settle, Cond.instanceMethod yX3_settle]
def wsL_miss_r6 : List Cond := [Cond.selects RX3 yX3_settle yX3_settle, Cond.initialized RX3, Cond.code yX3_settle cX3_settle 2 none, Cond.fieldLink RX3 30 "LampChoice$Scenes" "known" "Z", Cond.fieldLink RX3 15 "LampChoice$Scenes" "dims" "[I", Cond.fieldLink RX3 22 "LampChoice$Scenes" "room" "LLampChoice$Room;", Cond.fieldLink RX3 40 "LampChoice$Room" "points" "I", Cond.fieldLink RX3 18 "LampChoice$Scenes" "misses" "[J", Cond.constantLong RX3 46 (100), Cond.fieldLink RX3 9 "LampChoice$Scenes" "aims" "[I", Cond.fieldLink RX3 48 "LampChoice$Scenes" "sweeps" "I", Cond.fieldLink RX3 26 "LampChoice$Scenes" "choice" "LLampChoice$Choice;", Cond.methodLink RX3 34 yJ7_fill_53178, Cond.methodLink RX3 51 yX0_hasLamps, Cond.instanceMethod yX0_hasLamps, Cond.selects RX0 yX0_hasLamps yX0_hasLamps, Cond.code yX0_hasLamps cX0_hasLamps 2 (some .boolean), Cond.methodLink RX3 57 yX3_sweep, Cond.instanceMethod yX3_sweep, Cond.selects RX3 yX3_sweep yX3_sweep, Cond.code yX3_sweep cX3_sweep 4 (some .boolean), Cond.fieldLink RX3 60 "LampChoice$Room" "places" "I", Cond.fieldLink RX3 63 "LampChoice$Choice" "lamps" "[I", Cond.methodLink RX3 66 yX3_fittingDim]
def wsL_miss_r7 : List Cond := [Cond.instanceMethod yX3_fittingDim, Cond.selects RX3 yX3_fittingDim yX3_fittingDim, Cond.code yX3_fittingDim cX3_fittingDim 9 (some .int), Cond.constantLong RX3 78 (2), Cond.methodLink RX3 84 Lib.MathLoose.min_long.x, Cond.methodLink RX3 74 yX0_lampLight, Cond.instanceMethod yX0_lampLight, Cond.selects RX0 yX0_lampLight yX0_lampLight, Cond.code yX0_lampLight cX0_lampLight 4 (some .int), Cond.methodLink RX3 70 yX3_moveTo, Cond.instanceMethod yX3_moveTo, Cond.selects RX3 yX3_moveTo yX3_moveTo, Cond.code yX3_moveTo cX3_moveTo 6 none]
def wsL_miss : List Cond := .codeWith yL_miss cL_miss 4 (some .int) [(0, 8, 11, 13)] :: ((wsL_miss_r1 ++ (wsL_miss_r2 ++ (wsL_miss_r3 ++ (wsL_miss_r4 ++ (wsL_miss_r5 ++ (wsL_miss_r6 ++ wsL_miss_r7)))))) ++ wsX40 ++ wsX30 ++ wsX20 ++ wsX00 ++ (vx_atS RX4 176 "java/lang/IllegalArgumentException" ["java/lang/RuntimeException", "java/lang/Exception"]).filter goodWord)
def wsL_sensor_r1 : List Cond := [Cond.classLink RL 13 "java/lang/IllegalArgumentException", Cond.methodLink RL 55 yX4_sensor, Cond.instanceMethod yX4_sensor, Cond.selects RX4 yX4_sensor yX4_sensor, Cond.initialized RX4, Cond.code yX4_sensor cX4_sensor 3 none, Cond.fieldLink RX4 15 "LampChoice" "room" "LLampChoice$Room;", Cond.fieldLink RX4 68 "LampChoice$Room" "points" "I", Cond.fieldLink RX4 37 "LampChoice" "days" "LLampChoice$Days;", Cond.fieldLink RX4 134 "LampChoice$Days" "sensors" "[I", Cond.methodLink RX4 78 yX4_checkPlace, Cond.instanceMethod yX4_checkPlace, Cond.selects RX4 yX4_checkPlace yX4_checkPlace, Cond.code yX4_checkPlace cX4_checkPlace 2 none, Cond.fieldLink RX4 61 "LampChoice$Room" "places" "I", Cond.methodLink RX4 41 yX4_checkBounds, Cond.static yX4_checkBounds, Cond.code yX4_checkBounds cX4_checkBounds 3 none, Cond.classLink RX4 172 "java/lang/IllegalArgumentException", Cond.initialized "java/lang/IllegalArgumentException", Cond.methodLink RX4 58 yX4_lampsGo, Cond.instanceMethod yX4_lampsGo, Cond.selects RX4 yX4_lampsGo yX4_lampsGo, Cond.code yX4_lampsGo cX4_lampsGo 1 none]
def wsL_sensor_r2 : List Cond := [Cond.fieldLink RX4 21 "LampChoice" "choice" "LLampChoice$Choice;", Cond.fieldLink RX4 179 "LampChoice$Choice" "known" "Z", Cond.fieldLink RX4 30 "LampChoice" "scenes" "LLampChoice$Scenes;", Cond.fieldLink RX4 182 "LampChoice$Scenes" "known" "Z", Cond.methodLink RX4 183 yX1_startAnew, Cond.instanceMethod yX1_startAnew, Cond.selects RX1 yX1_startAnew yX1_startAnew, Cond.initialized RX1, Cond.code yX1_startAnew cX1_startAnew 1 none, Cond.fieldLink RX1 18 "LampChoice$Days" "ownLevels" "[I", Cond.fieldLink RX1 21 "LampChoice$Days" "lasted" "[I", Cond.methodLink RX1 36 yJ7_fill_53178, Cond.static yJ7_fill_53178, Cond.initialized RJ7, Cond.code yJ7_fill_53178 cJ7_fill_53178 4 none]
def wsL_sensor : List Cond := .codeWith yL_sensor cL_sensor 4 (some .int) [(0, 6, 9, 13)] :: ((wsL_sensor_r1 ++ wsL_sensor_r2) ++ wsX40 ++ wsX20 ++ wsX10 ++ wsX00 ++ wsX30 ++ (vx_atS RX4 176 "java/lang/IllegalArgumentException" ["java/lang/RuntimeException", "java/lang/Exception"]).filter goodWord)
def wsL_daylight : List Cond := .codeWith yL_daylight cL_daylight 5 (some .int) [(0, 10, 13, 13)] :: ([.classLink RL 13 "java/lang/IllegalArgumentException", .methodLink RL 58 yX4_daylight, .instanceMethod yX4_daylight, .selects RX4 yX4_daylight yX4_daylight, .initialized RX4, .code yX4_daylight cX4_daylight 4 (some .int), .constant RX4 45 (100000), .fieldLink RX4 37 "LampChoice" "days" "LLampChoice$Days;", .fieldLink RX4 137 "LampChoice$Days" "daylights" "[I", .methodLink RX4 86 yX4_checkPoint, .instanceMethod yX4_checkPoint, .selects RX4 yX4_checkPoint yX4_checkPoint, .code yX4_checkPoint cX4_checkPoint 2 none, .fieldLink RX4 15 "LampChoice" "room" "LLampChoice$Room;", .fieldLink RX4 68 "LampChoice$Room" "points" "I", .methodLink RX4 41 yX4_checkBounds, .static yX4_checkBounds, .code yX4_checkBounds cX4_checkBounds 3 none, .classLink RX4 172 "java/lang/IllegalArgumentException", .initialized "java/lang/IllegalArgumentException"] ++ wsX40 ++ wsX10 ++ wsX20 ++ (vx_atS RX4 176 "java/lang/IllegalArgumentException" ["java/lang/RuntimeException", "java/lang/Exception"]).filter goodWord)
def wsL_step : List Cond := .codeWith yL_step cL_step 4 (some .int) [(0, 9, 12, 13)] :: ([.classLink RL 13 "java/lang/IllegalArgumentException", .methodLink RL 61 yX4_step, .instanceMethod yX4_step, .selects RX4 yX4_step yX4_step, .initialized RX4, .code yX4_step cX4_step 3 (some .int), .fieldLink RX4 37 "LampChoice" "days" "LLampChoice$Days;", .fieldLink RX4 140 "LampChoice$Days" "farthestStep" "I", .methodLink RX4 41 yX4_checkBounds, .static yX4_checkBounds, .code yX4_checkBounds cX4_checkBounds 3 none, .classLink RX4 172 "java/lang/IllegalArgumentException", .initialized "java/lang/IllegalArgumentException"] ++ wsX40 ++ wsX10 ++ (vx_atS RX4 176 "java/lang/IllegalArgumentException" ["java/lang/RuntimeException", "java/lang/Exception"]).filter goodWord)
def wsL_run_r1 : List Cond := [Cond.classLink RL 13 "java/lang/IllegalArgumentException", Cond.classLink RL 15 "java/lang/IllegalStateException", Cond.methodLink RL 64 yX4_run, Cond.instanceMethod yX4_run, Cond.selects RX4 yX4_run yX4_run, Cond.initialized RX4, Cond.code yX4_run cX4_run 2 (some .int), Cond.classLink RX4 146 "java/lang/IllegalStateException", Cond.initialized "java/lang/IllegalStateException", Cond.fieldLink RX4 37 "LampChoice" "days" "LLampChoice$Days;", Cond.fieldLink RX4 143 "LampChoice$Days" "minutes" "I", Cond.constant RX4 117 (1000000), Cond.fieldLink RX4 21 "LampChoice" "choice" "LLampChoice$Choice;", Cond.methodLink RX4 41 yX4_checkBounds, Cond.static yX4_checkBounds, Cond.code yX4_checkBounds cX4_checkBounds 3 none, Cond.classLink RX4 172 "java/lang/IllegalArgumentException", Cond.initialized "java/lang/IllegalArgumentException", Cond.methodLink RX4 92 yX0_settle, Cond.instanceMethod yX0_settle, Cond.selects RX0 yX0_settle yX0_settle, Cond.initialized RX0, Cond.code yX0_settle cX0_settle 1 none, Cond.fieldLink RX0 34 "LampChoice$Choice" "known" "Z"]
def wsL_run_r2 : List Cond := [Cond.fieldLink RX0 38 "LampChoice$Choice" "found" "Z", Cond.fieldLink RX0 24 "LampChoice$Choice" "lamps" "[I", Cond.methodLink RX0 41 yJ7_fill_53178, Cond.static yJ7_fill_53178, Cond.initialized RJ7, Cond.code yJ7_fill_53178 cJ7_fill_53178 4 none, Cond.methodLink RX0 47 yX0_fillLights, Cond.instanceMethod yX0_fillLights, Cond.selects RX0 yX0_fillLights yX0_fillLights, Cond.code yX0_fillLights cX0_fillLights 5 none, Cond.fieldLink RX0 30 "LampChoice$Choice" "room" "LLampChoice$Room;", Cond.fieldLink RX0 65 "LampChoice$Room" "places" "I", Cond.fieldLink RX0 88 "LampChoice$Room" "kinds" "I", Cond.fieldLink RX0 75 "LampChoice$Room" "points" "I", Cond.fieldLink RX0 9 "LampChoice$Choice" "lights" "[I", Cond.methodLink RX0 61 yX0_lightRow, Cond.static yX0_lightRow, Cond.code yX0_lightRow cX0_lightRow 2 (some .int), Cond.methodLink RX0 91 yX2_lightOf, Cond.instanceMethod yX2_lightOf, Cond.selects RX2 yX2_lightOf yX2_lightOf, Cond.initialized RX2, Cond.code yX2_lightOf cX2_lightOf 6 (some .int), Cond.fieldLink RX2 24 "LampChoice$Room" "placeX" "[I"]
def wsL_run_r3 : List Cond := [Cond.fieldLink RX2 33 "LampChoice$Room" "pointX" "[I", Cond.fieldLink RX2 27 "LampChoice$Room" "placeY" "[I", Cond.fieldLink RX2 36 "LampChoice$Room" "pointY" "[I", Cond.constantLong RX2 55 (1000), Cond.fieldLink RX2 9 "LampChoice$Room" "strengths" "[I", Cond.fieldLink RX2 42 "LampChoice$Room" "height" "I", Cond.static yX4_quotient, Cond.code yX4_quotient cX4_quotient 4 (some .long), Cond.methodLink RX0 50 yX0_fillReach, Cond.instanceMethod yX0_fillReach, Cond.selects RX0 yX0_fillReach yX0_fillReach, Cond.code yX0_fillReach cX0_fillReach 4 none, Cond.fieldLink RX0 15 "LampChoice$Choice" "reach" "[I", Cond.methodLink RX0 95 yX0_mostLight, Cond.instanceMethod yX0_mostLight, Cond.selects RX0 yX0_mostLight yX0_mostLight, Cond.code yX0_mostLight cX0_mostLight 5 (some .int), Cond.methodLink RX0 102 Lib.Math.max.name, Cond.static Lib.Math.max.name, Cond.initialized "java/lang/Math", Cond.code Lib.Math.max.name Lib.Math.max.code 2 (some .int), Cond.methodLink RX0 98 yX2_mayHave, Cond.instanceMethod yX2_mayHave, Cond.selects RX2 yX2_mayHave yX2_mayHave]
def wsL_run_r4 : List Cond := [Cond.code yX2_mayHave cX2_mayHave 3 (some .boolean), Cond.fieldLink RX2 30 "LampChoice$Room" "held" "[I", Cond.methodLink RX0 53 yX0_canBecomeEnough, Cond.instanceMethod yX0_canBecomeEnough, Cond.selects RX0 yX0_canBecomeEnough yX0_canBecomeEnough, Cond.code yX0_canBecomeEnough cX0_canBecomeEnough 4 (some .boolean), Cond.fieldLink RX0 18 "LampChoice$Choice" "gathered" "[I", Cond.fieldLink RX0 127 "LampChoice$Room" "wanted" "[I", Cond.methodLink RX0 57 yX0_tryFrom, Cond.instanceMethod yX0_tryFrom, Cond.selects RX0 yX0_tryFrom yX0_tryFrom, Cond.code yX0_tryFrom cX0_tryFrom 5 none, Cond.fieldLink RX0 115 "LampChoice$Choice" "watts" "I", Cond.fieldLink RX0 21 "LampChoice$Choice" "tried" "[I", Cond.methodLink RX0 107 yX0_weigh, Cond.instanceMethod yX0_weigh, Cond.selects RX0 yX0_weigh yX0_weigh, Cond.code yX0_weigh cX0_weigh 8 none, Cond.methodLink RX0 130 Lib.MathLoose.min_long.x, Cond.static Lib.MathLoose.min_long.x, Cond.code Lib.MathLoose.min_long.x Lib.MathLoose.min_long.code 4 (some .long), Cond.methodLink RX0 133 Lib.MathLoose.max_long.x, Cond.static Lib.MathLoose.max_long.x, Cond.code Lib.MathLoose.max_long.x Lib.MathLoose.max_long.code 4 (some .long)]
def wsL_run_r5 : List Cond := [Cond.fieldLink RX0 78 "LampChoice$Choice" "sumOfLevels" "J", Cond.fieldLink RX0 71 "LampChoice$Choice" "leastLevel" "J", Cond.methodLink RX0 121 arraycopyName, Cond.native arraycopyName, Cond.static arraycopyName, Cond.initialized "java/lang/System", Cond.fieldLink RX0 27 "LampChoice$Choice" "levels" "[I", Cond.methodLink RX0 111 yX2_wattsOf, Cond.instanceMethod yX2_wattsOf, Cond.selects RX2 yX2_wattsOf yX2_wattsOf, Cond.code yX2_wattsOf cX2_wattsOf 2 (some .int), Cond.fieldLink RX2 15 "LampChoice$Room" "watts" "[I", Cond.methodLink RX0 118 yX0_gather, Cond.instanceMethod yX0_gather, Cond.selects RX0 yX0_gather yX0_gather, Cond.code yX0_gather cX0_gather 7 none, Cond.methodLink RX4 153 yX1_pass, Cond.instanceMethod yX1_pass, Cond.selects RX1 yX1_pass yX1_pass, Cond.initialized RX1, Cond.code yX1_pass cX1_pass 3 none, Cond.fieldLink RX1 28 "LampChoice$Days" "room" "LLampChoice$Room;", Cond.fieldLink RX1 42 "LampChoice$Room" "places" "I", Cond.fieldLink RX1 32 "LampChoice$Days" "choice" "LLampChoice$Choice;"]
def wsL_run_r6 : List Cond := [Cond.fieldLink RX1 47 "LampChoice$Choice" "lamps" "[I", Cond.fieldLink RX1 56 "LampChoice$Days" "minutes" "I", Cond.methodLink RX1 52 yX1_follow, Cond.instanceMethod yX1_follow, Cond.selects RX1 yX1_follow yX1_follow, Cond.code yX1_follow cX1_follow 5 none, Cond.fieldLink RX1 18 "LampChoice$Days" "ownLevels" "[I", Cond.methodLink RX1 59 yX1_needOf, Cond.instanceMethod yX1_needOf, Cond.selects RX1 yX1_needOf yX1_needOf, Cond.code yX1_needOf cX1_needOf 6 (some .int), Cond.fieldLink RX1 9 "LampChoice$Days" "sensors" "[I", Cond.fieldLink RX1 78 "LampChoice$Room" "wanted" "[I", Cond.fieldLink RX1 15 "LampChoice$Days" "daylights" "[I", Cond.constantLong RX1 84 (100), Cond.methodLink RX1 90 Lib.MathLoose.min_long.x, Cond.methodLink RX1 81 yX0_lampLight, Cond.instanceMethod yX0_lampLight, Cond.selects RX0 yX0_lampLight yX0_lampLight, Cond.code yX0_lampLight cX0_lampLight 4 (some .int), Cond.methodLink RX1 63 yX1_stepTowards, Cond.instanceMethod yX1_stepTowards, Cond.selects RX1 yX1_stepTowards yX1_stepTowards, Cond.code yX1_stepTowards cX1_stepTowards 3 (some .int)]
def wsL_run_r7 : List Cond := [Cond.fieldLink RX1 24 "LampChoice$Days" "farthestStep" "I", Cond.methodLink RX1 70 Lib.Math.min.name, Cond.static Lib.Math.min.name, Cond.code Lib.Math.min.name Lib.Math.min.code 2 (some .int), Cond.methodLink RX1 75 Lib.Math.max.name, Cond.methodLink RX1 67 yX1_shine, Cond.instanceMethod yX1_shine, Cond.selects RX1 yX1_shine yX1_shine, Cond.code yX1_shine cX1_shine 7 none, Cond.fieldLink RX1 92 "LampChoice$Days" "wattMinutes" "J", Cond.fieldLink RX1 96 "LampChoice$Room" "watts" "[I", Cond.fieldLink RX1 99 "LampChoice$Room" "lives" "[I", Cond.fieldLink RX1 21 "LampChoice$Days" "lasted" "[I", Cond.fieldLink RX1 102 "LampChoice$Days" "renewed" "J", Cond.fieldLink RX1 105 "LampChoice$Days" "paid" "J", Cond.fieldLink RX1 108 "LampChoice$Room" "cents" "[I"]
def wsL_run : List Cond := .codeWith yL_run cL_run 4 (some .int) [(0, 9, 12, 13), (0, 9, 15, 15)] :: ((wsL_run_r1 ++ (wsL_run_r2 ++ (wsL_run_r3 ++ (wsL_run_r4 ++ (wsL_run_r5 ++ (wsL_run_r6 ++ wsL_run_r7)))))) ++ wsX40 ++ wsX10 ++ wsX00 ++ wsX20 ++ (vx_atS RX4 150 "java/lang/IllegalStateException" ["java/lang/RuntimeException", "java/lang/Exception"]).filter goodWord ++ (vx_atS RX4 176 "java/lang/IllegalArgumentException" ["java/lang/RuntimeException", "java/lang/Exception"]).filter goodWord)
def wsL_own_r1 : List Cond := [Cond.classLink RL 13 "java/lang/IllegalArgumentException", Cond.methodLink RL 67 yX4_own, Cond.instanceMethod yX4_own, Cond.selects RX4 yX4_own yX4_own, Cond.initialized RX4, Cond.code yX4_own cX4_own 3 (some .int), Cond.fieldLink RX4 21 "LampChoice" "choice" "LLampChoice$Choice;", Cond.fieldLink RX4 102 "LampChoice$Choice" "lamps" "[I", Cond.fieldLink RX4 37 "LampChoice" "days" "LLampChoice$Days;", Cond.fieldLink RX4 156 "LampChoice$Days" "ownLevels" "[I", Cond.fieldLink RX4 159 "LampChoice$Days" "lasted" "[I", Cond.methodLink RX4 78 yX4_checkPlace, Cond.instanceMethod yX4_checkPlace, Cond.selects RX4 yX4_checkPlace yX4_checkPlace, Cond.code yX4_checkPlace cX4_checkPlace 2 none, Cond.fieldLink RX4 15 "LampChoice" "room" "LLampChoice$Room;", Cond.fieldLink RX4 61 "LampChoice$Room" "places" "I", Cond.methodLink RX4 41 yX4_checkBounds, Cond.static yX4_checkBounds, Cond.code yX4_checkBounds cX4_checkBounds 3 none, Cond.classLink RX4 172 "java/lang/IllegalArgumentException", Cond.initialized "java/lang/IllegalArgumentException", Cond.methodLink RX4 92 yX0_settle, Cond.instanceMethod yX0_settle]
def wsL_own_r2 : List Cond := [Cond.selects RX0 yX0_settle yX0_settle, Cond.initialized RX0, Cond.code yX0_settle cX0_settle 1 none, Cond.fieldLink RX0 34 "LampChoice$Choice" "known" "Z", Cond.fieldLink RX0 38 "LampChoice$Choice" "found" "Z", Cond.fieldLink RX0 24 "LampChoice$Choice" "lamps" "[I", Cond.methodLink RX0 41 yJ7_fill_53178, Cond.static yJ7_fill_53178, Cond.initialized RJ7, Cond.code yJ7_fill_53178 cJ7_fill_53178 4 none, Cond.methodLink RX0 47 yX0_fillLights, Cond.instanceMethod yX0_fillLights, Cond.selects RX0 yX0_fillLights yX0_fillLights, Cond.code yX0_fillLights cX0_fillLights 5 none, Cond.fieldLink RX0 30 "LampChoice$Choice" "room" "LLampChoice$Room;", Cond.fieldLink RX0 65 "LampChoice$Room" "places" "I", Cond.fieldLink RX0 88 "LampChoice$Room" "kinds" "I", Cond.fieldLink RX0 75 "LampChoice$Room" "points" "I", Cond.fieldLink RX0 9 "LampChoice$Choice" "lights" "[I", Cond.methodLink RX0 61 yX0_lightRow, Cond.static yX0_lightRow, Cond.code yX0_lightRow cX0_lightRow 2 (some .int), Cond.methodLink RX0 91 yX2_lightOf, Cond.instanceMethod yX2_lightOf]
def wsL_own_r3 : List Cond := [Cond.selects RX2 yX2_lightOf yX2_lightOf, Cond.initialized RX2, Cond.code yX2_lightOf cX2_lightOf 6 (some .int), Cond.fieldLink RX2 24 "LampChoice$Room" "placeX" "[I", Cond.fieldLink RX2 33 "LampChoice$Room" "pointX" "[I", Cond.fieldLink RX2 27 "LampChoice$Room" "placeY" "[I", Cond.fieldLink RX2 36 "LampChoice$Room" "pointY" "[I", Cond.constantLong RX2 55 (1000), Cond.fieldLink RX2 9 "LampChoice$Room" "strengths" "[I", Cond.fieldLink RX2 42 "LampChoice$Room" "height" "I", Cond.static yX4_quotient, Cond.code yX4_quotient cX4_quotient 4 (some .long), Cond.methodLink RX0 50 yX0_fillReach, Cond.instanceMethod yX0_fillReach, Cond.selects RX0 yX0_fillReach yX0_fillReach, Cond.code yX0_fillReach cX0_fillReach 4 none, Cond.fieldLink RX0 15 "LampChoice$Choice" "reach" "[I", Cond.methodLink RX0 95 yX0_mostLight, Cond.instanceMethod yX0_mostLight, Cond.selects RX0 yX0_mostLight yX0_mostLight, Cond.code yX0_mostLight cX0_mostLight 5 (some .int), Cond.methodLink RX0 102 Lib.Math.max.name, Cond.static Lib.Math.max.name, Cond.initialized "java/lang/Math"]
def wsL_own_r4 : List Cond := [Cond.code Lib.Math.max.name Lib.Math.max.code 2 (some .int), Cond.methodLink RX0 98 yX2_mayHave, Cond.instanceMethod yX2_mayHave, Cond.selects RX2 yX2_mayHave yX2_mayHave, Cond.code yX2_mayHave cX2_mayHave 3 (some .boolean), Cond.fieldLink RX2 30 "LampChoice$Room" "held" "[I", Cond.methodLink RX0 53 yX0_canBecomeEnough, Cond.instanceMethod yX0_canBecomeEnough, Cond.selects RX0 yX0_canBecomeEnough yX0_canBecomeEnough, Cond.code yX0_canBecomeEnough cX0_canBecomeEnough 4 (some .boolean), Cond.fieldLink RX0 18 "LampChoice$Choice" "gathered" "[I", Cond.fieldLink RX0 127 "LampChoice$Room" "wanted" "[I", Cond.methodLink RX0 57 yX0_tryFrom, Cond.instanceMethod yX0_tryFrom, Cond.selects RX0 yX0_tryFrom yX0_tryFrom, Cond.code yX0_tryFrom cX0_tryFrom 5 none, Cond.fieldLink RX0 115 "LampChoice$Choice" "watts" "I", Cond.fieldLink RX0 21 "LampChoice$Choice" "tried" "[I", Cond.methodLink RX0 107 yX0_weigh, Cond.instanceMethod yX0_weigh, Cond.selects RX0 yX0_weigh yX0_weigh, Cond.code yX0_weigh cX0_weigh 8 none, Cond.methodLink RX0 130 Lib.MathLoose.min_long.x, Cond.static Lib.MathLoose.min_long.x]
def wsL_own_r5 : List Cond := [Cond.code Lib.MathLoose.min_long.x Lib.MathLoose.min_long.code 4 (some .long), Cond.methodLink RX0 133 Lib.MathLoose.max_long.x, Cond.static Lib.MathLoose.max_long.x, Cond.code Lib.MathLoose.max_long.x Lib.MathLoose.max_long.code 4 (some .long), Cond.fieldLink RX0 78 "LampChoice$Choice" "sumOfLevels" "J", Cond.fieldLink RX0 71 "LampChoice$Choice" "leastLevel" "J", Cond.methodLink RX0 121 arraycopyName, Cond.native arraycopyName, Cond.static arraycopyName, Cond.initialized "java/lang/System", Cond.fieldLink RX0 27 "LampChoice$Choice" "levels" "[I", Cond.methodLink RX0 111 yX2_wattsOf, Cond.instanceMethod yX2_wattsOf, Cond.selects RX2 yX2_wattsOf yX2_wattsOf, Cond.code yX2_wattsOf cX2_wattsOf 2 (some .int), Cond.fieldLink RX2 15 "LampChoice$Room" "watts" "[I", Cond.methodLink RX0 118 yX0_gather, Cond.instanceMethod yX0_gather, Cond.selects RX0 yX0_gather yX0_gather, Cond.code yX0_gather cX0_gather 7 none]
def wsL_own : List Cond := .codeWith yL_own cL_own 5 (some .int) [(0, 10, 13, 13)] :: ((wsL_own_r1 ++ (wsL_own_r2 ++ (wsL_own_r3 ++ (wsL_own_r4 ++ wsL_own_r5)))) ++ wsX40 ++ wsX00 ++ wsX10 ++ wsX20 ++ (vx_atS RX4 176 "java/lang/IllegalArgumentException" ["java/lang/RuntimeException", "java/lang/Exception"]).filter goodWord)
def wsL_used : List Cond := .codeWith yL_used cL_used 4 (some .int) [(0, 8, 11, 13)] :: ([.classLink RL 13 "java/lang/IllegalArgumentException", .methodLink RL 70 yX4_used, .instanceMethod yX4_used, .selects RX4 yX4_used yX4_used, .initialized RX4, .code yX4_used cX4_used 2 (some .long), .fieldLink RX4 37 "LampChoice" "days" "LLampChoice$Days;", .fieldLink RX4 162 "LampChoice$Days" "wattMinutes" "J", .fieldLink RX4 166 "LampChoice$Days" "paid" "J", .fieldLink RX4 169 "LampChoice$Days" "renewed" "J", .methodLink RX4 41 yX4_checkBounds, .static yX4_checkBounds, .code yX4_checkBounds cX4_checkBounds 3 none, .classLink RX4 172 "java/lang/IllegalArgumentException", .initialized "java/lang/IllegalArgumentException"] ++ wsX40 ++ wsX10 ++ (vx_atS RX4 176 "java/lang/IllegalArgumentException" ["java/lang/RuntimeException", "java/lang/Exception"]).filter goodWord)
def wsL_law0_r1 : List Cond := [Cond.classLink RL 8 RX4, Cond.instantiable RX4 4, Cond.initialized RX4, Cond.classLink RL 74 RX5, Cond.instantiable RX5 36, Cond.initialized RX5, Cond.arrayClass .long, Cond.methodLink RL 73 yX4_init, Cond.instanceMethod yX4_init, Cond.code yX4_init cX4_init 3 none, Cond.methodLink RX4 1 objectInit, Cond.instanceMethod objectInit, Cond.code objectInit ⟨#[0xb1]⟩ 1 none, Cond.classLink RX4 7 RX2, Cond.instantiable RX2 14, Cond.initialized RX2, Cond.classLink RX4 10 RX0, Cond.instantiable RX0 12, Cond.initialized RX0, Cond.fieldLink RX4 15 "LampChoice" "room" "LLampChoice$Room;", Cond.fieldLink RX4 21 "LampChoice" "choice" "LLampChoice$Choice;", Cond.classLink RX4 25 RX3, Cond.instantiable RX3 7, Cond.initialized RX3]
def wsL_law0_r2 : List Cond := [Cond.fieldLink RX4 30 "LampChoice" "scenes" "LLampChoice$Scenes;", Cond.classLink RX4 34 RX1, Cond.instantiable RX1 11, Cond.initialized RX1, Cond.fieldLink RX4 37 "LampChoice" "days" "LLampChoice$Days;", Cond.methodLink RX4 9 yX2_init, Cond.instanceMethod yX2_init, Cond.code yX2_init cX2_init 2 none, Cond.methodLink RX2 3 objectInit, Cond.arrayClass .int, Cond.fieldLink RX2 9 "LampChoice$Room" "strengths" "[I", Cond.fieldLink RX2 15 "LampChoice$Room" "watts" "[I", Cond.fieldLink RX2 18 "LampChoice$Room" "lives" "[I", Cond.fieldLink RX2 21 "LampChoice$Room" "cents" "[I", Cond.fieldLink RX2 24 "LampChoice$Room" "placeX" "[I", Cond.fieldLink RX2 27 "LampChoice$Room" "placeY" "[I", Cond.fieldLink RX2 30 "LampChoice$Room" "held" "[I", Cond.fieldLink RX2 33 "LampChoice$Room" "pointX" "[I", Cond.fieldLink RX2 36 "LampChoice$Room" "pointY" "[I", Cond.fieldLink RX2 39 "LampChoice$Room" "wanted" "[I", Cond.fieldLink RX2 42 "LampChoice$Room" "height" "I", Cond.methodLink RX4 12 yX0_init, Cond.instanceMethod yX0_init, Cond.code yX0_init cX0_init 2 none]
def wsL_law0_r3 : List Cond := [Cond.methodLink RX0 3 objectInit, Cond.fieldLink RX0 9 "LampChoice$Choice" "lights" "[I", Cond.fieldLink RX0 15 "LampChoice$Choice" "reach" "[I", Cond.fieldLink RX0 18 "LampChoice$Choice" "gathered" "[I", Cond.fieldLink RX0 21 "LampChoice$Choice" "tried" "[I", Cond.fieldLink RX0 24 "LampChoice$Choice" "lamps" "[I", Cond.fieldLink RX0 27 "LampChoice$Choice" "levels" "[I", Cond.fieldLink RX0 30 "LampChoice$Choice" "room" "LLampChoice$Room;", Cond.methodLink RX4 27 yX3_init, Cond.instanceMethod yX3_init, Cond.code yX3_init cX3_init 3 none, Cond.methodLink RX3 3 objectInit, Cond.fieldLink RX3 9 "LampChoice$Scenes" "aims" "[I", Cond.fieldLink RX3 15 "LampChoice$Scenes" "dims" "[I", Cond.fieldLink RX3 18 "LampChoice$Scenes" "misses" "[J", Cond.fieldLink RX3 22 "LampChoice$Scenes" "room" "LLampChoice$Room;", Cond.fieldLink RX3 26 "LampChoice$Scenes" "choice" "LLampChoice$Choice;", Cond.methodLink RX4 36 yX1_init, Cond.instanceMethod yX1_init, Cond.code yX1_init cX1_init 4 none, Cond.methodLink RX1 3 objectInit, Cond.fieldLink RX1 9 "LampChoice$Days" "sensors" "[I", Cond.fieldLink RX1 15 "LampChoice$Days" "daylights" "[I", Cond.fieldLink RX1 18 "LampChoice$Days" "ownLevels" "[I"]
def wsL_law0_r4 : List Cond := [Cond.fieldLink RX1 21 "LampChoice$Days" "lasted" "[I", Cond.fieldLink RX1 24 "LampChoice$Days" "farthestStep" "I", Cond.fieldLink RX1 28 "LampChoice$Days" "room" "LLampChoice$Room;", Cond.fieldLink RX1 32 "LampChoice$Days" "choice" "LLampChoice$Choice;", Cond.methodLink RL 76 yX5_init, Cond.instanceMethod yX5_init, Cond.code yX5_init cX5_init 1 none, Cond.methodLink RX5 1 objectInit, Cond.fieldLink RX5 7 "LampChoiceModel" "strengths" "[I", Cond.fieldLink RX5 13 "LampChoiceModel" "watts" "[I", Cond.fieldLink RX5 16 "LampChoiceModel" "lives" "[I", Cond.fieldLink RX5 19 "LampChoiceModel" "cents" "[I", Cond.fieldLink RX5 22 "LampChoiceModel" "xs" "[I", Cond.fieldLink RX5 25 "LampChoiceModel" "ys" "[I", Cond.fieldLink RX5 28 "LampChoiceModel" "held" "[I", Cond.fieldLink RX5 31 "LampChoiceModel" "sensors" "[I", Cond.fieldLink RX5 34 "LampChoiceModel" "pointXs" "[I", Cond.fieldLink RX5 37 "LampChoiceModel" "pointYs" "[I", Cond.fieldLink RX5 40 "LampChoiceModel" "wanted" "[I", Cond.fieldLink RX5 43 "LampChoiceModel" "aims" "[I", Cond.fieldLink RX5 46 "LampChoiceModel" "daylights" "[I", Cond.fieldLink RX5 49 "LampChoiceModel" "height" "I", Cond.fieldLink RX5 53 "LampChoiceModel" "most" "I", Cond.fieldLink RX5 56 "LampChoiceModel" "best" "[I"]
def wsL_law0_r5 : List Cond := [Cond.fieldLink RX5 59 "LampChoiceModel" "choice" "[I", Cond.fieldLink RX5 62 "LampChoiceModel" "sums" "[I", Cond.fieldLink RX5 65 "LampChoiceModel" "wattsBefore" "[I", Cond.fieldLink RX5 68 "LampChoiceModel" "lights" "[I", Cond.fieldLink RX5 71 "LampChoiceModel" "dims" "[I", Cond.fieldLink RX5 74 "LampChoiceModel" "levels" "[I", Cond.fieldLink RX5 77 "LampChoiceModel" "lasted" "[I", Cond.methodLink RL 77 yL_kind, Cond.static yL_kind, Cond.initialized RL, Cond.codeWith yL_kind cL_kind 7 (some .int) [(0, 14, 17, 13), (0, 14, 21, 15)], Cond.classLink RL 13 "java/lang/IllegalArgumentException", Cond.classLink RL 15 "java/lang/IllegalStateException", Cond.methodLink RL 7 yX4_kind, Cond.instanceMethod yX4_kind, Cond.selects RX4 yX4_kind yX4_kind, Cond.code yX4_kind cX4_kind 6 (some .int), Cond.constant RX4 45 (100000), Cond.fieldLink RX4 46 "LampChoice$Room" "kinds" "I", Cond.methodLink RX4 41 yX4_checkBounds, Cond.static yX4_checkBounds, Cond.code yX4_checkBounds cX4_checkBounds 3 none, Cond.classLink RX4 172 "java/lang/IllegalArgumentException", Cond.initialized "java/lang/IllegalArgumentException"]
def wsL_law0_r6 : List Cond := [Cond.methodLink RX4 50 yX4_checkCount, Cond.static yX4_checkCount, Cond.code yX4_checkCount cX4_checkCount 2 none, Cond.classLink RX4 146 "java/lang/IllegalStateException", Cond.initialized "java/lang/IllegalStateException", Cond.methodLink RX4 54 yX2_addKind, Cond.instanceMethod yX2_addKind, Cond.selects RX2 yX2_addKind yX2_addKind, Cond.code yX2_addKind cX2_addKind 6 (some .int), Cond.fieldLink RX2 46 "LampChoice$Room" "kinds" "I", Cond.methodLink RX4 58 yX4_lampsGo, Cond.instanceMethod yX4_lampsGo, Cond.selects RX4 yX4_lampsGo yX4_lampsGo, Cond.code yX4_lampsGo cX4_lampsGo 1 none, Cond.fieldLink RX4 179 "LampChoice$Choice" "known" "Z", Cond.fieldLink RX4 182 "LampChoice$Scenes" "known" "Z", Cond.methodLink RX4 183 yX1_startAnew, Cond.instanceMethod yX1_startAnew, Cond.selects RX1 yX1_startAnew yX1_startAnew, Cond.code yX1_startAnew cX1_startAnew 1 none, Cond.methodLink RX1 36 yJ7_fill_53178, Cond.static yJ7_fill_53178, Cond.initialized RJ7, Cond.code yJ7_fill_53178 cJ7_fill_53178 4 none]
def wsL_law0_r7 : List Cond := [Cond.methodLink RL 82 yX5_kind, Cond.instanceMethod yX5_kind, Cond.selects RX5 yX5_kind yX5_kind, Cond.code yX5_kind cX5_kind 6 (some .int), Cond.constant RX5 100 (100000), Cond.fieldLink RX5 83 "LampChoiceModel" "kinds" "I", Cond.fieldLink RX5 80 "LampChoiceModel" "code" "I", Cond.methodLink RX5 86 yX5_isIn, Cond.static yX5_isIn, Cond.code yX5_isIn cX5_isIn 3 (some .boolean), Cond.methodLink RX5 101 yX5_renew, Cond.instanceMethod yX5_renew, Cond.selects RX5 yX5_renew yX5_renew, Cond.code yX5_renew cX5_renew 2 none, Cond.fieldLink RX5 96 "LampChoiceModel" "isKnown" "Z", Cond.methodLink RL 83 yX5_thrown, Cond.instanceMethod yX5_thrown, Cond.selects RX5 yX5_thrown yX5_thrown, Cond.code yX5_thrown cX5_thrown 1 (some .int), Cond.methodLink RL 87 yL_place, Cond.static yL_place, Cond.codeWith yL_place cL_place 5 (some .int) [(0, 10, 13, 13), (0, 10, 17, 15)], Cond.methodLink RL 17 yX4_place, Cond.instanceMethod yX4_place]
def wsL_law0_r8 : List Cond := [Cond.selects RX4 yX4_place yX4_place, Cond.code yX4_place cX4_place 4 (some .int), Cond.fieldLink RX4 61 "LampChoice$Room" "places" "I", Cond.methodLink RX4 64 yX2_addPlace, Cond.instanceMethod yX2_addPlace, Cond.selects RX2 yX2_addPlace yX2_addPlace, Cond.code yX2_addPlace cX2_addPlace 4 (some .int), Cond.fieldLink RX2 49 "LampChoice$Room" "places" "I", Cond.methodLink RL 90 yX5_place, Cond.instanceMethod yX5_place, Cond.selects RX5 yX5_place yX5_place, Cond.code yX5_place cX5_place 3 (some .int), Cond.fieldLink RX5 90 "LampChoiceModel" "places" "I", Cond.methodLink RL 91 yL_point, Cond.static yL_point, Cond.codeWith yL_point cL_point 6 (some .int) [(0, 12, 15, 13), (0, 12, 19, 15)], Cond.methodLink RL 21 yX4_point, Cond.instanceMethod yX4_point, Cond.selects RX4 yX4_point yX4_point, Cond.code yX4_point cX4_point 5 (some .int), Cond.fieldLink RX4 68 "LampChoice$Room" "points" "I", Cond.methodLink RX4 71 yX2_addPoint, Cond.instanceMethod yX2_addPoint, Cond.selects RX2 yX2_addPoint yX2_addPoint]
def wsL_law0_r9 : List Cond := [Cond.code yX2_addPoint cX2_addPoint 5 (some .int), Cond.fieldLink RX2 52 "LampChoice$Room" "points" "I", Cond.methodLink RL 94 yX5_point, Cond.instanceMethod yX5_point, Cond.selects RX5 yX5_point yX5_point, Cond.code yX5_point cX5_point 4 (some .int), Cond.fieldLink RX5 93 "LampChoiceModel" "points" "I", Cond.methodLink RL 95 yL_height, Cond.static yL_height, Cond.codeWith yL_height cL_height 4 (some .int) [(0, 9, 12, 13)], Cond.methodLink RL 25 yX4_height, Cond.instanceMethod yX4_height, Cond.selects RX4 yX4_height yX4_height, Cond.code yX4_height cX4_height 3 (some .int), Cond.fieldLink RX4 75 "LampChoice$Room" "height" "I", Cond.methodLink RL 98 yX5_height, Cond.instanceMethod yX5_height, Cond.selects RX5 yX5_height yX5_height, Cond.code yX5_height cX5_height 3 (some .int), Cond.methodLink RL 99 yL_hold, Cond.static yL_hold, Cond.codeWith yL_hold cL_hold 4 (some .int) [(0, 6, 9, 13)], Cond.methodLink RL 29 yX4_hold, Cond.instanceMethod yX4_hold]
def wsL_law0_r10 : List Cond := [Cond.selects RX4 yX4_hold yX4_hold, Cond.code yX4_hold cX4_hold 3 none, Cond.fieldLink RX4 82 "LampChoice$Room" "held" "[I", Cond.methodLink RX4 78 yX4_checkPlace, Cond.instanceMethod yX4_checkPlace, Cond.selects RX4 yX4_checkPlace yX4_checkPlace, Cond.code yX4_checkPlace cX4_checkPlace 2 none, Cond.methodLink RL 102 yX5_hold, Cond.instanceMethod yX5_hold, Cond.selects RX5 yX5_hold yX5_hold, Cond.code yX5_hold cX5_hold 3 none, Cond.methodLink RX5 104 yX5_isPlace, Cond.instanceMethod yX5_isPlace, Cond.selects RX5 yX5_isPlace yX5_isPlace, Cond.code yX5_isPlace cX5_isPlace 2 (some .boolean), Cond.methodLink RX5 108 yX5_isKind, Cond.instanceMethod yX5_isKind, Cond.selects RX5 yX5_isKind yX5_isKind, Cond.code yX5_isKind cX5_isKind 2 (some .boolean), Cond.methodLink RL 103 yL_light, Cond.static yL_light, Cond.codeWith yL_light cL_light 6 (some .int) [(0, 12, 15, 13)], Cond.methodLink RL 33 yX4_light, Cond.instanceMethod yX4_light]
def wsL_law0_r11 : List Cond := [Cond.selects RX4 yX4_light yX4_light, Cond.code yX4_light cX4_light 4 (some .int), Cond.methodLink RX4 86 yX4_checkPoint, Cond.instanceMethod yX4_checkPoint, Cond.selects RX4 yX4_checkPoint yX4_checkPoint, Cond.code yX4_checkPoint cX4_checkPoint 2 none, Cond.methodLink RX4 89 yX2_lightOf, Cond.instanceMethod yX2_lightOf, Cond.selects RX2 yX2_lightOf yX2_lightOf, Cond.code yX2_lightOf cX2_lightOf 6 (some .int), Cond.constantLong RX2 55 (1000), Cond.static yX4_quotient, Cond.code yX4_quotient cX4_quotient 4 (some .long), Cond.methodLink RL 105 yX5_light, Cond.instanceMethod yX5_light, Cond.selects RX5 yX5_light yX5_light, Cond.code yX5_light cX5_light 4 (some .int), Cond.methodLink RX5 111 yX5_isPoint, Cond.instanceMethod yX5_isPoint, Cond.selects RX5 yX5_isPoint yX5_isPoint, Cond.code yX5_isPoint cX5_isPoint 2 (some .boolean), Cond.methodLink RX5 114 yX5_lightOf, Cond.instanceMethod yX5_lightOf, Cond.selects RX5 yX5_lightOf yX5_lightOf]
def wsL_law0_r12 : List Cond := [Cond.code yX5_lightOf cX5_lightOf 6 (some .int), Cond.methodLink RL 106 yX4_best, Cond.instanceMethod yX4_best, Cond.selects RX4 yX4_best yX4_best, Cond.code yX4_best cX4_best 1 (some .int), Cond.fieldLink RX4 95 "LampChoice$Choice" "found" "Z", Cond.fieldLink RX4 99 "LampChoice$Choice" "watts" "I", Cond.methodLink RX4 92 yX0_settle, Cond.instanceMethod yX0_settle, Cond.selects RX0 yX0_settle yX0_settle, Cond.code yX0_settle cX0_settle 1 none, Cond.fieldLink RX0 34 "LampChoice$Choice" "known" "Z", Cond.fieldLink RX0 38 "LampChoice$Choice" "found" "Z", Cond.methodLink RX0 41 yJ7_fill_53178, Cond.methodLink RX0 47 yX0_fillLights, Cond.instanceMethod yX0_fillLights, Cond.selects RX0 yX0_fillLights yX0_fillLights, Cond.code yX0_fillLights cX0_fillLights 5 none, Cond.fieldLink RX0 65 "LampChoice$Room" "places" "I", Cond.fieldLink RX0 88 "LampChoice$Room" "kinds" "I", Cond.fieldLink RX0 75 "LampChoice$Room" "points" "I", Cond.methodLink RX0 61 yX0_lightRow, Cond.static yX0_lightRow, Cond.code yX0_lightRow cX0_lightRow 2 (some .int)]
def wsL_law0_r13 : List Cond := [Cond.methodLink RX0 91 yX2_lightOf, Cond.methodLink RX0 50 yX0_fillReach, Cond.instanceMethod yX0_fillReach, Cond.selects RX0 yX0_fillReach yX0_fillReach, Cond.code yX0_fillReach cX0_fillReach 4 none, Cond.methodLink RX0 95 yX0_mostLight, Cond.instanceMethod yX0_mostLight, Cond.selects RX0 yX0_mostLight yX0_mostLight, Cond.code yX0_mostLight cX0_mostLight 5 (some .int), Cond.methodLink RX0 102 Lib.Math.max.name, Cond.static Lib.Math.max.name, Cond.initialized "java/lang/Math", Cond.code Lib.Math.max.name Lib.Math.max.code 2 (some .int), Cond.methodLink RX0 98 yX2_mayHave, Cond.instanceMethod yX2_mayHave, Cond.selects RX2 yX2_mayHave yX2_mayHave, Cond.code yX2_mayHave cX2_mayHave 3 (some .boolean), Cond.methodLink RX0 53 yX0_canBecomeEnough, Cond.instanceMethod yX0_canBecomeEnough, Cond.selects RX0 yX0_canBecomeEnough yX0_canBecomeEnough, Cond.code yX0_canBecomeEnough cX0_canBecomeEnough 4 (some .boolean), Cond.fieldLink RX0 127 "LampChoice$Room" "wanted" "[I", Cond.methodLink RX0 57 yX0_tryFrom, Cond.instanceMethod yX0_tryFrom]
def wsL_law0_r14 : List Cond := [Cond.selects RX0 yX0_tryFrom yX0_tryFrom, Cond.code yX0_tryFrom cX0_tryFrom 5 none, Cond.fieldLink RX0 115 "LampChoice$Choice" "watts" "I", Cond.methodLink RX0 107 yX0_weigh, Cond.instanceMethod yX0_weigh, Cond.selects RX0 yX0_weigh yX0_weigh, Cond.code yX0_weigh cX0_weigh 8 none, Cond.methodLink RX0 130 Lib.MathLoose.min_long.x, Cond.static Lib.MathLoose.min_long.x, Cond.code Lib.MathLoose.min_long.x Lib.MathLoose.min_long.code 4 (some .long), Cond.methodLink RX0 133 Lib.MathLoose.max_long.x, Cond.static Lib.MathLoose.max_long.x, Cond.code Lib.MathLoose.max_long.x Lib.MathLoose.max_long.code 4 (some .long), Cond.fieldLink RX0 78 "LampChoice$Choice" "sumOfLevels" "J", Cond.fieldLink RX0 71 "LampChoice$Choice" "leastLevel" "J", Cond.methodLink RX0 121 arraycopyName, Cond.native arraycopyName, Cond.static arraycopyName, Cond.initialized "java/lang/System", Cond.methodLink RX0 111 yX2_wattsOf, Cond.instanceMethod yX2_wattsOf, Cond.selects RX2 yX2_wattsOf yX2_wattsOf, Cond.code yX2_wattsOf cX2_wattsOf 2 (some .int), Cond.methodLink RX0 118 yX0_gather]
def wsL_law0_r15 : List Cond := [Cond.instanceMethod yX0_gather, Cond.selects RX0 yX0_gather yX0_gather, Cond.code yX0_gather cX0_gather 7 none, Cond.methodLink RL 109 yX5_best, Cond.instanceMethod yX5_best, Cond.selects RX5 yX5_best yX5_best, Cond.code yX5_best cX5_best 1 (some .int), Cond.fieldLink RX5 122 "LampChoiceModel" "found" "Z", Cond.fieldLink RX5 125 "LampChoiceModel" "bestWatts" "I", Cond.methodLink RX5 146 yX5_findBest, Cond.instanceMethod yX5_findBest, Cond.selects RX5 yX5_findBest yX5_findBest, Cond.code yX5_findBest cX5_findBest 4 none, Cond.methodLink RX5 118 yX5_firstOf, Cond.instanceMethod yX5_firstOf, Cond.selects RX5 yX5_firstOf yX5_firstOf, Cond.code yX5_firstOf cX5_firstOf 2 (some .int), Cond.methodLink RX5 135 yX5_addUp, Cond.instanceMethod yX5_addUp, Cond.selects RX5 yX5_addUp yX5_addUp, Cond.code yX5_addUp cX5_addUp 5 none, Cond.methodLink RX5 139 yX5_look, Cond.instanceMethod yX5_look, Cond.selects RX5 yX5_look yX5_look]
def wsL_law0_r16 : List Cond := [Cond.code yX5_look cX5_look 8 none, Cond.fieldLink RX5 128 "LampChoiceModel" "bestSum" "J", Cond.fieldLink RX5 132 "LampChoiceModel" "bestLeast" "J", Cond.methodLink RX5 142 yX5_nextChoice, Cond.instanceMethod yX5_nextChoice, Cond.selects RX5 yX5_nextChoice yX5_nextChoice, Cond.code yX5_nextChoice cX5_nextChoice 2 (some .int), Cond.methodLink RL 110 yL_lamp, Cond.static yL_lamp, Cond.codeWith yL_lamp cL_lamp 4 (some .int) [(0, 9, 12, 13)], Cond.methodLink RL 36 yX4_lamp, Cond.instanceMethod yX4_lamp, Cond.selects RX4 yX4_lamp yX4_lamp, Cond.code yX4_lamp cX4_lamp 2 (some .int), Cond.fieldLink RX4 102 "LampChoice$Choice" "lamps" "[I", Cond.methodLink RL 112 yX5_lamp, Cond.instanceMethod yX5_lamp, Cond.selects RX5 yX5_lamp yX5_lamp, Cond.code yX5_lamp cX5_lamp 2 (some .int), Cond.methodLink RL 113 yL_level, Cond.static yL_level, Cond.codeWith yL_level cL_level 4 (some .int) [(0, 9, 12, 13)], Cond.methodLink RL 39 yX4_level, Cond.instanceMethod yX4_level]
def wsL_law0_r17 : List Cond := [Cond.selects RX4 yX4_level yX4_level, Cond.code yX4_level cX4_level 2 (some .int), Cond.fieldLink RX4 105 "LampChoice$Choice" "levels" "[I", Cond.methodLink RL 115 yX5_level, Cond.instanceMethod yX5_level, Cond.selects RX5 yX5_level yX5_level, Cond.code yX5_level cX5_level 4 (some .int), Cond.methodLink RL 116 yL_even, Cond.static yL_even, Cond.codeWith yL_even cL_even 4 (some .int) [(0, 8, 11, 13)], Cond.methodLink RL 42 yX4_even, Cond.instanceMethod yX4_even, Cond.selects RX4 yX4_even yX4_even, Cond.code yX4_even cX4_even 2 (some .long), Cond.constantLong RX4 108 (-2), Cond.methodLink RX4 110 yX0_evennessAbove, Cond.instanceMethod yX0_evennessAbove, Cond.selects RX0 yX0_evennessAbove yX0_evennessAbove, Cond.code yX0_evennessAbove cX0_evennessAbove 3 (some .long), Cond.methodLink RX0 81 yX0_commonDivisor, Cond.static yX0_commonDivisor, Cond.code yX0_commonDivisor cX0_commonDivisor 11 (some .long), Cond.methodLink RX4 114 yX0_evennessBelow, Cond.instanceMethod yX0_evennessBelow]
def wsL_law0_r18 : List Cond := [Cond.selects RX0 yX0_evennessBelow yX0_evennessBelow, Cond.code yX0_evennessBelow cX0_evennessBelow 1 (some .long), Cond.methodLink RL 118 yX5_even, Cond.instanceMethod yX5_even, Cond.selects RX5 yX5_even yX5_even, Cond.code yX5_even cX5_even 4 (some .long), Cond.constantLong RX5 149 (-2), Cond.methodLink RX5 151 yX5_common, Cond.static yX5_common, Cond.code yX5_common cX5_common 10 (some .long), Cond.methodLink RL 119 yL_aim, Cond.static yL_aim, Cond.codeWith yL_aim cL_aim 5 (some .int) [(0, 10, 13, 13)], Cond.methodLink RL 46 yX4_aim, Cond.instanceMethod yX4_aim, Cond.selects RX4 yX4_aim yX4_aim, Cond.code yX4_aim cX4_aim 3 (some .int), Cond.constant RX4 117 (1000000), Cond.methodLink RX4 118 yX3_changeAim, Cond.instanceMethod yX3_changeAim, Cond.selects RX3 yX3_changeAim yX3_changeAim, Cond.code yX3_changeAim cX3_changeAim 4 (some .int), Cond.fieldLink RX3 30 "LampChoice$Scenes" "known" "Z", Cond.methodLink RL 121 yX5_aim]
def wsL_law0_r19 : List Cond := [Cond.instanceMethod yX5_aim, Cond.selects RX5 yX5_aim yX5_aim, Cond.code yX5_aim cX5_aim 4 (some .int), Cond.constant RX5 155 (1000000), Cond.methodLink RL 122 yX4_scene, Cond.instanceMethod yX4_scene, Cond.selects RX4 yX4_scene yX4_scene, Cond.code yX4_scene cX4_scene 1 (some .int), Cond.fieldLink RX4 124 "LampChoice$Scenes" "sweeps" "I", Cond.methodLink RX4 121 yX4_settleScene, Cond.instanceMethod yX4_settleScene, Cond.selects RX4 yX4_settleScene yX4_settleScene, Cond.code yX4_settleScene cX4_settleScene 1 none, Cond.methodLink RX4 186 yX3_settle, Cond.instanceMethod yX3_settle, Cond.selects RX3 yX3_settle yX3_settle, Cond.code yX3_settle cX3_settle 2 none, Cond.fieldLink RX3 40 "LampChoice$Room" "points" "I", Cond.constantLong RX3 46 (100), Cond.fieldLink RX3 48 "LampChoice$Scenes" "sweeps" "I", Cond.methodLink RX3 34 yJ7_fill_53178, Cond.methodLink RX3 51 yX0_hasLamps, Cond.instanceMethod yX0_hasLamps, Cond.selects RX0 yX0_hasLamps yX0_hasLamps]
def wsL_law0_r20 : List Cond := [Cond.code yX0_hasLamps cX0_hasLamps 2 (some .boolean), Cond.methodLink RX3 57 yX3_sweep, Cond.instanceMethod yX3_sweep, Cond.selects RX3 yX3_sweep yX3_sweep, Cond.code yX3_sweep cX3_sweep 4 (some .boolean), Cond.fieldLink RX3 60 "LampChoice$Room" "places" "I", Cond.fieldLink RX3 63 "LampChoice$Choice" "lamps" "[I", Cond.methodLink RX3 66 yX3_fittingDim, Cond.instanceMethod yX3_fittingDim, Cond.selects RX3 yX3_fittingDim yX3_fittingDim, Cond.code yX3_fittingDim cX3_fittingDim 9 (some .int), Cond.constantLong RX3 78 (2), Cond.methodLink RX3 84 Lib.MathLoose.min_long.x, Cond.methodLink RX3 74 yX0_lampLight, Cond.instanceMethod yX0_lampLight, Cond.selects RX0 yX0_lampLight yX0_lampLight, Cond.code yX0_lampLight cX0_lampLight 4 (some .int), Cond.methodLink RX3 70 yX3_moveTo, Cond.instanceMethod yX3_moveTo, Cond.selects RX3 yX3_moveTo yX3_moveTo, Cond.code yX3_moveTo cX3_moveTo 6 none, Cond.methodLink RL 125 yX5_scene, Cond.instanceMethod yX5_scene, Cond.selects RX5 yX5_scene yX5_scene]
def wsL_law0_r21 : List Cond := [Cond.code yX5_scene cX5_scene 1 (some .int), Cond.methodLink RX5 170 yX5_sweep, Cond.instanceMethod yX5_sweep, Cond.selects RX5 yX5_sweep yX5_sweep, Cond.code yX5_sweep cX5_sweep 6 (some .int), Cond.methodLink RX5 158 yX5_hasLamp, Cond.instanceMethod yX5_hasLamp, Cond.selects RX5 yX5_hasLamp yX5_hasLamp, Cond.code yX5_hasLamp cX5_hasLamp 2 (some .boolean), Cond.methodLink RX5 167 yX5_dimOf, Cond.instanceMethod yX5_dimOf, Cond.selects RX5 yX5_dimOf yX5_dimOf, Cond.code yX5_dimOf cX5_dimOf 9 (some .int), Cond.constantLong RX5 165 (2), Cond.methodLink RX5 161 yX5_missOf, Cond.instanceMethod yX5_missOf, Cond.selects RX5 yX5_missOf yX5_missOf, Cond.code yX5_missOf cX5_missOf 5 (some .long), Cond.constantLong RX5 156 (100), Cond.methodLink RL 126 yL_dim, Cond.static yL_dim, Cond.codeWith yL_dim cL_dim 4 (some .int) [(0, 9, 12, 13)], Cond.methodLink RL 49 yX4_dim, Cond.instanceMethod yX4_dim]
def wsL_law0_r22 : List Cond := [Cond.selects RX4 yX4_dim yX4_dim, Cond.code yX4_dim cX4_dim 2 (some .int), Cond.fieldLink RX4 127 "LampChoice$Scenes" "dims" "[I", Cond.methodLink RL 128 yX5_dim, Cond.instanceMethod yX5_dim, Cond.selects RX5 yX5_dim yX5_dim, Cond.code yX5_dim cX5_dim 2 (some .int), Cond.methodLink RL 129 yL_miss, Cond.static yL_miss, Cond.codeWith yL_miss cL_miss 4 (some .int) [(0, 8, 11, 13)], Cond.methodLink RL 52 yX4_miss, Cond.instanceMethod yX4_miss, Cond.selects RX4 yX4_miss yX4_miss, Cond.code yX4_miss cX4_miss 2 (some .long), Cond.fieldLink RX4 130 "LampChoice$Scenes" "misses" "[J", Cond.methodLink RL 131 yX5_miss, Cond.instanceMethod yX5_miss, Cond.selects RX5 yX5_miss yX5_miss, Cond.code yX5_miss cX5_miss 2 (some .long), Cond.methodLink RL 132 yL_sensor, Cond.static yL_sensor, Cond.codeWith yL_sensor cL_sensor 4 (some .int) [(0, 6, 9, 13)], Cond.methodLink RL 55 yX4_sensor, Cond.instanceMethod yX4_sensor]
def wsL_law0_r23 : List Cond := [Cond.selects RX4 yX4_sensor yX4_sensor, Cond.code yX4_sensor cX4_sensor 3 none, Cond.fieldLink RX4 134 "LampChoice$Days" "sensors" "[I", Cond.methodLink RL 134 yX5_sensor, Cond.instanceMethod yX5_sensor, Cond.selects RX5 yX5_sensor yX5_sensor, Cond.code yX5_sensor cX5_sensor 3 none, Cond.methodLink RL 135 yL_daylight, Cond.static yL_daylight, Cond.codeWith yL_daylight cL_daylight 5 (some .int) [(0, 10, 13, 13)], Cond.methodLink RL 58 yX4_daylight, Cond.instanceMethod yX4_daylight, Cond.selects RX4 yX4_daylight yX4_daylight, Cond.code yX4_daylight cX4_daylight 4 (some .int), Cond.fieldLink RX4 137 "LampChoice$Days" "daylights" "[I", Cond.methodLink RL 137 yX5_daylight, Cond.instanceMethod yX5_daylight, Cond.selects RX5 yX5_daylight yX5_daylight, Cond.code yX5_daylight cX5_daylight 4 (some .int), Cond.methodLink RL 138 yL_step, Cond.static yL_step, Cond.codeWith yL_step cL_step 4 (some .int) [(0, 9, 12, 13)], Cond.methodLink RL 61 yX4_step, Cond.instanceMethod yX4_step]
def wsL_law0_r24 : List Cond := [Cond.selects RX4 yX4_step yX4_step, Cond.code yX4_step cX4_step 3 (some .int), Cond.fieldLink RX4 140 "LampChoice$Days" "farthestStep" "I", Cond.methodLink RL 140 yX5_step, Cond.instanceMethod yX5_step, Cond.selects RX5 yX5_step yX5_step, Cond.code yX5_step cX5_step 3 (some .int), Cond.methodLink RL 141 yL_run, Cond.static yL_run, Cond.codeWith yL_run cL_run 4 (some .int) [(0, 9, 12, 13), (0, 9, 15, 15)], Cond.methodLink RL 64 yX4_run, Cond.instanceMethod yX4_run, Cond.selects RX4 yX4_run yX4_run, Cond.code yX4_run cX4_run 2 (some .int), Cond.fieldLink RX4 143 "LampChoice$Days" "minutes" "I", Cond.methodLink RX4 153 yX1_pass, Cond.instanceMethod yX1_pass, Cond.selects RX1 yX1_pass yX1_pass, Cond.code yX1_pass cX1_pass 3 none, Cond.fieldLink RX1 42 "LampChoice$Room" "places" "I", Cond.fieldLink RX1 47 "LampChoice$Choice" "lamps" "[I", Cond.fieldLink RX1 56 "LampChoice$Days" "minutes" "I", Cond.methodLink RX1 52 yX1_follow, Cond.instanceMethod yX1_follow]
def wsL_law0_r25 : List Cond := [Cond.selects RX1 yX1_follow yX1_follow, Cond.code yX1_follow cX1_follow 5 none, Cond.methodLink RX1 59 yX1_needOf, Cond.instanceMethod yX1_needOf, Cond.selects RX1 yX1_needOf yX1_needOf, Cond.code yX1_needOf cX1_needOf 6 (some .int), Cond.fieldLink RX1 78 "LampChoice$Room" "wanted" "[I", Cond.constantLong RX1 84 (100), Cond.methodLink RX1 90 Lib.MathLoose.min_long.x, Cond.methodLink RX1 81 yX0_lampLight, Cond.methodLink RX1 63 yX1_stepTowards, Cond.instanceMethod yX1_stepTowards, Cond.selects RX1 yX1_stepTowards yX1_stepTowards, Cond.code yX1_stepTowards cX1_stepTowards 3 (some .int), Cond.methodLink RX1 70 Lib.Math.min.name, Cond.static Lib.Math.min.name, Cond.code Lib.Math.min.name Lib.Math.min.code 2 (some .int), Cond.methodLink RX1 75 Lib.Math.max.name, Cond.methodLink RX1 67 yX1_shine, Cond.instanceMethod yX1_shine, Cond.selects RX1 yX1_shine yX1_shine, Cond.code yX1_shine cX1_shine 7 none, Cond.fieldLink RX1 92 "LampChoice$Days" "wattMinutes" "J", Cond.fieldLink RX1 96 "LampChoice$Room" "watts" "[I"]
def wsL_law0_r26 : List Cond := [Cond.fieldLink RX1 99 "LampChoice$Room" "lives" "[I", Cond.fieldLink RX1 102 "LampChoice$Days" "renewed" "J", Cond.fieldLink RX1 105 "LampChoice$Days" "paid" "J", Cond.fieldLink RX1 108 "LampChoice$Room" "cents" "[I", Cond.methodLink RL 143 yX5_run, Cond.instanceMethod yX5_run, Cond.selects RX5 yX5_run yX5_run, Cond.code yX5_run cX5_run 5 (some .int), Cond.fieldLink RX5 182 "LampChoiceModel" "minutes" "I", Cond.methodLink RX5 185 yX5_needOf, Cond.instanceMethod yX5_needOf, Cond.selects RX5 yX5_needOf yX5_needOf, Cond.code yX5_needOf cX5_needOf 6 (some .int), Cond.methodLink RX5 188 yX5_minute, Cond.instanceMethod yX5_minute, Cond.selects RX5 yX5_minute yX5_minute, Cond.code yX5_minute cX5_minute 5 none, Cond.fieldLink RX5 173 "LampChoiceModel" "paid" "J", Cond.fieldLink RX5 176 "LampChoiceModel" "renewed" "J", Cond.fieldLink RX5 179 "LampChoiceModel" "energy" "J", Cond.methodLink RL 144 yL_own, Cond.static yL_own, Cond.codeWith yL_own cL_own 5 (some .int) [(0, 10, 13, 13)], Cond.methodLink RL 67 yX4_own]
def wsL_law0_r27 : List Cond := [Cond.instanceMethod yX4_own, Cond.selects RX4 yX4_own yX4_own, Cond.code yX4_own cX4_own 3 (some .int), Cond.fieldLink RX4 156 "LampChoice$Days" "ownLevels" "[I", Cond.fieldLink RX4 159 "LampChoice$Days" "lasted" "[I", Cond.methodLink RL 146 yX5_own, Cond.instanceMethod yX5_own, Cond.selects RX5 yX5_own yX5_own, Cond.code yX5_own cX5_own 3 (some .int), Cond.methodLink RL 147 yL_used, Cond.static yL_used, Cond.codeWith yL_used cL_used 4 (some .int) [(0, 8, 11, 13)], Cond.methodLink RL 70 yX4_used, Cond.instanceMethod yX4_used, Cond.selects RX4 yX4_used yX4_used, Cond.code yX4_used cX4_used 2 (some .long), Cond.fieldLink RX4 162 "LampChoice$Days" "wattMinutes" "J", Cond.fieldLink RX4 166 "LampChoice$Days" "paid" "J", Cond.fieldLink RX4 169 "LampChoice$Days" "renewed" "J", Cond.methodLink RL 149 yX5_used, Cond.instanceMethod yX5_used, Cond.selects RX5 yX5_used yX5_used, Cond.code yX5_used cX5_used 2 (some .long)]
def wsL_law0 : List Cond := (wsL_law0_r1 ++ (wsL_law0_r2 ++ (wsL_law0_r3 ++ (wsL_law0_r4 ++ (wsL_law0_r5 ++ (wsL_law0_r6 ++ (wsL_law0_r7 ++ (wsL_law0_r8 ++ (wsL_law0_r9 ++ (wsL_law0_r10 ++ (wsL_law0_r11 ++ (wsL_law0_r12 ++ (wsL_law0_r13 ++ (wsL_law0_r14 ++ (wsL_law0_r15 ++ (wsL_law0_r16 ++ (wsL_law0_r17 ++ (wsL_law0_r18 ++ (wsL_law0_r19 ++ (wsL_law0_r20 ++ (wsL_law0_r21 ++ (wsL_law0_r22 ++ (wsL_law0_r23 ++ (wsL_law0_r24 ++ (wsL_law0_r25 ++ (wsL_law0_r26 ++ wsL_law0_r27)))))))))))))))))))))))))) ++ wsX40 ++ wsX50 ++ wsX20 ++ wsX00 ++ wsX30 ++ wsX10 ++ ([] : List Cond)
def wsL_law : List Cond := wsL_law0 ++ (vx_atS RX4 176 "java/lang/IllegalArgumentException" ["java/lang/RuntimeException", "java/lang/Exception"]).filter goodWord ++ (vx_atS RX4 150 "java/lang/IllegalStateException" ["java/lang/RuntimeException", "java/lang/Exception"]).filter goodWord
end
section
theorem dX0_init_0 : decode cX0_init 0 = .ok (.aload_n 0, 1) := by decide +kernel
theorem dX0_init_1 : decode cX0_init 1 = .ok (.invokespecial 3, 3) := by decide +kernel
theorem dX0_init_4 : decode cX0_init 4 = .ok (.aload_n 0, 1) := by decide +kernel
theorem dX0_init_5 : decode cX0_init 5 = .ok (.sipush 336, 3) := by decide +kernel
theorem dX0_init_8 : decode cX0_init 8 = .ok (.newarray .int, 2) := by decide +kernel
theorem dX0_init_10 : decode cX0_init 10 = .ok (.putfield 9, 3) := by decide +kernel
theorem dX0_init_13 : decode cX0_init 13 = .ok (.aload_n 0, 1) := by decide +kernel
theorem dX0_init_14 : decode cX0_init 14 = .ok (.sipush 128, 3) := by decide +kernel
theorem dX0_init_17 : decode cX0_init 17 = .ok (.newarray .int, 2) := by decide +kernel
theorem dX0_init_19 : decode cX0_init 19 = .ok (.putfield 15, 3) := by decide +kernel
theorem dX0_init_22 : decode cX0_init 22 = .ok (.aload_n 0, 1) := by decide +kernel
theorem dX0_init_23 : decode cX0_init 23 = .ok (.sipush 128, 3) := by decide +kernel
theorem dX0_init_26 : decode cX0_init 26 = .ok (.newarray .int, 2) := by decide +kernel
theorem dX0_init_28 : decode cX0_init 28 = .ok (.putfield 18, 3) := by decide +kernel
theorem dX0_init_31 : decode cX0_init 31 = .ok (.aload_n 0, 1) := by decide +kernel
theorem dX0_init_32 : decode cX0_init 32 = .ok (.bipush 7, 2) := by decide +kernel
theorem dX0_init_34 : decode cX0_init 34 = .ok (.newarray .int, 2) := by decide +kernel
theorem dX0_init_36 : decode cX0_init 36 = .ok (.putfield 21, 3) := by decide +kernel
theorem dX0_init_39 : decode cX0_init 39 = .ok (.aload_n 0, 1) := by decide +kernel
theorem dX0_init_40 : decode cX0_init 40 = .ok (.bipush 7, 2) := by decide +kernel
theorem dX0_init_42 : decode cX0_init 42 = .ok (.newarray .int, 2) := by decide +kernel
theorem dX0_init_44 : decode cX0_init 44 = .ok (.putfield 24, 3) := by decide +kernel
theorem dX0_init_47 : decode cX0_init 47 = .ok (.aload_n 0, 1) := by decide +kernel
theorem dX0_init_48 : decode cX0_init 48 = .ok (.bipush 16, 2) := by decide +kernel
theorem dX0_init_50 : decode cX0_init 50 = .ok (.newarray .int, 2) := by decide +kernel
theorem dX0_init_52 : decode cX0_init 52 = .ok (.putfield 27, 3) := by decide +kernel
theorem dX0_init_55 : decode cX0_init 55 = .ok (.aload_n 0, 1) := by decide +kernel
theorem dX0_init_56 : decode cX0_init 56 = .ok (.aload_n 1, 1) := by decide +kernel
theorem dX0_init_57 : decode cX0_init 57 = .ok (.putfield 30, 3) := by decide +kernel
theorem dX0_init_60 : decode cX0_init 60 = .ok (.return_, 1) := by decide +kernel
set_option maxRecDepth 20000 in
theorem ggX0_settle_J7_fill_53178 : GoodIn wsX0_settle wsJ7_fill_53178 := goodIn_r _ [7] (by decide +kernel) (by decide +kernel)
set_option maxRecDepth 20000 in
theorem gX0_settle_J7_fill_53178 : GoodIn wsX0_settle (va_wsS RX0 41 yJ7_fill_53178 wsJ7_fill_53178) := goodIn_app (goodIn_of _ (by decide +kernel)) ggX0_settle_J7_fill_53178
set_option maxRecDepth 20000 in
theorem ggX0_settle_X0_fillLights : GoodIn wsX0_settle wsX0_fillLights := goodIn_r _ [12, 13, 14, 15, 16, 17, 18, 19, 11, 20, 21, 22, 23, 24, 25, 26, 27, 28, 29, 30, 31, 32, 33, 34, 35, 92, 93, 94, 95, 96, 97, 98, 99, 100, 101, 102, 103, 104, 105, 106, 107, 108, 109, 110, 111, 112, 113, 114, 115, 116, 117] (by decide +kernel) (by decide +kernel)
set_option maxRecDepth 20000 in
theorem gX0_settle_X0_fillLights : GoodIn wsX0_settle (wsV RX0 47 RX0 yX0_fillLights wsX0_fillLights) := goodIn_app (goodIn_of _ (by decide +kernel)) ggX0_settle_X0_fillLights
set_option maxRecDepth 20000 in
theorem ggX0_settle_X0_fillReach : GoodIn wsX0_settle wsX0_fillReach := goodIn_r _ [39, 13, 14, 16, 40, 41, 42, 43, 11, 44, 15, 17, 45, 46, 47, 48, 49, 50, 51, 24, 52, 53, 18, 19, 20, 92, 93, 94, 95, 96, 97, 98, 99, 100, 101, 102, 103, 104, 105, 106, 107, 108, 109, 110, 111, 112, 113, 114, 115, 116, 117] (by decide +kernel) (by decide +kernel)
set_option maxRecDepth 20000 in
theorem gX0_settle_X0_fillReach : GoodIn wsX0_settle (wsV RX0 50 RX0 yX0_fillReach wsX0_fillReach) := goodIn_app (goodIn_of _ (by decide +kernel)) ggX0_settle_X0_fillReach
set_option maxRecDepth 20000 in
theorem ggX0_settle_X0_canBecomeEnough : GoodIn wsX0_settle wsX0_canBecomeEnough := goodIn_r _ [57, 13, 16, 58, 40, 59, 92, 93, 94, 95, 96, 97, 98, 99, 100, 101, 102, 103, 104, 105, 106, 107, 108, 109, 110, 111, 112, 113, 114, 115, 116, 117] (by decide +kernel) (by decide +kernel)
set_option maxRecDepth 20000 in
theorem gX0_settle_X0_canBecomeEnough : GoodIn wsX0_settle (wsV RX0 53 RX0 yX0_canBecomeEnough wsX0_canBecomeEnough) := goodIn_app (goodIn_of _ (by decide +kernel)) ggX0_settle_X0_canBecomeEnough
set_option maxRecDepth 20000 in
theorem ggX0_settle_X0_tryFrom : GoodIn wsX0_settle wsX0_tryFrom := goodIn_r _ [63, 13, 14, 15, 2, 64, 65, 66, 67, 68, 11, 69, 16, 58, 70, 71, 47, 72, 73, 74, 75, 76, 77, 3, 78, 79, 80, 81, 82, 83, 84, 85, 24, 86, 87, 49, 50, 51, 52, 53, 88, 89, 90, 91, 17, 18, 19, 20, 54, 55, 56, 57, 40, 59, 60, 61, 62, 92, 93, 94, 95, 96, 97, 98, 99, 100, 101, 102, 103, 104, 105, 106, 107, 108, 109, 110, 111, 112, 113, 114, 115, 116, 117] (by decide +kernel) (by decide +kernel)
set_option maxRecDepth 20000 in
theorem gX0_settle_X0_tryFrom : GoodIn wsX0_settle (wsV RX0 57 RX0 yX0_tryFrom wsX0_tryFrom) := goodIn_app (goodIn_of _ (by decide +kernel)) ggX0_settle_X0_tryFrom
theorem dX0_settle_0 : decode cX0_settle 0 = .ok (.aload_n 0, 1) := by decide +kernel
theorem dX0_settle_1 : decode cX0_settle 1 = .ok (.getfield 34, 3) := by decide +kernel
theorem dX0_settle_4 : decode cX0_settle 4 = .ok (.ifCond .eq 4, 3) := by decide +kernel
theorem dX0_settle_7 : decode cX0_settle 7 = .ok (.return_, 1) := by decide +kernel
theorem dX0_settle_8 : decode cX0_settle 8 = .ok (.aload_n 0, 1) := by decide +kernel
theorem dX0_settle_9 : decode cX0_settle 9 = .ok (.iconst 1, 1) := by decide +kernel
theorem dX0_settle_10 : decode cX0_settle 10 = .ok (.putfield 34, 3) := by decide +kernel
theorem dX0_settle_13 : decode cX0_settle 13 = .ok (.aload_n 0, 1) := by decide +kernel
theorem dX0_settle_14 : decode cX0_settle 14 = .ok (.iconst 0, 1) := by decide +kernel
theorem dX0_settle_15 : decode cX0_settle 15 = .ok (.putfield 38, 3) := by decide +kernel
theorem dX0_settle_18 : decode cX0_settle 18 = .ok (.aload_n 0, 1) := by decide +kernel
theorem dX0_settle_19 : decode cX0_settle 19 = .ok (.getfield 24, 3) := by decide +kernel
theorem dX0_settle_22 : decode cX0_settle 22 = .ok (.iconst (-1), 1) := by decide +kernel
theorem dX0_settle_23 : decode cX0_settle 23 = .ok (.invokestatic 41, 3) := by decide +kernel
theorem dX0_settle_26 : decode cX0_settle 26 = .ok (.aload_n 0, 1) := by decide +kernel
theorem dX0_settle_27 : decode cX0_settle 27 = .ok (.invokevirtual 47, 3) := by decide +kernel
theorem dX0_settle_30 : decode cX0_settle 30 = .ok (.aload_n 0, 1) := by decide +kernel
theorem dX0_settle_31 : decode cX0_settle 31 = .ok (.invokevirtual 50, 3) := by decide +kernel
theorem dX0_settle_34 : decode cX0_settle 34 = .ok (.aload_n 0, 1) := by decide +kernel
theorem dX0_settle_35 : decode cX0_settle 35 = .ok (.iconst 0, 1) := by decide +kernel
theorem dX0_settle_36 : decode cX0_settle 36 = .ok (.invokevirtual 53, 3) := by decide +kernel
theorem dX0_settle_39 : decode cX0_settle 39 = .ok (.ifCond .eq 9, 3) := by decide +kernel
theorem dX0_settle_42 : decode cX0_settle 42 = .ok (.aload_n 0, 1) := by decide +kernel
theorem dX0_settle_43 : decode cX0_settle 43 = .ok (.iconst 0, 1) := by decide +kernel
theorem dX0_settle_44 : decode cX0_settle 44 = .ok (.iconst 0, 1) := by decide +kernel
theorem dX0_settle_45 : decode cX0_settle 45 = .ok (.invokevirtual 57, 3) := by decide +kernel
theorem dX0_settle_48 : decode cX0_settle 48 = .ok (.return_, 1) := by decide +kernel
set_option maxRecDepth 20000 in
theorem ggX0_lampLight_X0_lightRow : GoodIn wsX0_lampLight wsX0_lightRow := goodIn_r _ [6] (by decide +kernel) (by decide +kernel)
set_option maxRecDepth 20000 in
theorem gX0_lampLight_X0_lightRow : GoodIn wsX0_lampLight (va_wsS RX0 61 yX0_lightRow wsX0_lightRow) := goodIn_app (goodIn_of _ (by decide +kernel)) ggX0_lampLight_X0_lightRow
theorem dX0_lampLight_0 : decode cX0_lampLight 0 = .ok (.aload_n 0, 1) := by decide +kernel
theorem dX0_lampLight_1 : decode cX0_lampLight 1 = .ok (.getfield 24, 3) := by decide +kernel
theorem dX0_lampLight_4 : decode cX0_lampLight 4 = .ok (.iload_n 1, 1) := by decide +kernel
theorem dX0_lampLight_5 : decode cX0_lampLight 5 = .ok (.iaload, 1) := by decide +kernel
theorem dX0_lampLight_6 : decode cX0_lampLight 6 = .ok (.istore_n 3, 1) := by decide +kernel
theorem dX0_lampLight_7 : decode cX0_lampLight 7 = .ok (.iload_n 3, 1) := by decide +kernel
theorem dX0_lampLight_8 : decode cX0_lampLight 8 = .ok (.ifCond .lt 18, 3) := by decide +kernel
theorem dX0_lampLight_11 : decode cX0_lampLight 11 = .ok (.aload_n 0, 1) := by decide +kernel
theorem dX0_lampLight_12 : decode cX0_lampLight 12 = .ok (.getfield 9, 3) := by decide +kernel
theorem dX0_lampLight_15 : decode cX0_lampLight 15 = .ok (.iload_n 1, 1) := by decide +kernel
theorem dX0_lampLight_16 : decode cX0_lampLight 16 = .ok (.iload_n 3, 1) := by decide +kernel
theorem dX0_lampLight_17 : decode cX0_lampLight 17 = .ok (.invokestatic 61, 3) := by decide +kernel
theorem dX0_lampLight_20 : decode cX0_lampLight 20 = .ok (.iload_n 2, 1) := by decide +kernel
theorem dX0_lampLight_21 : decode cX0_lampLight 21 = .ok (.iadd, 1) := by decide +kernel
theorem dX0_lampLight_22 : decode cX0_lampLight 22 = .ok (.iaload, 1) := by decide +kernel
theorem dX0_lampLight_23 : decode cX0_lampLight 23 = .ok (.goto 4, 3) := by decide +kernel
theorem dX0_lampLight_26 : decode cX0_lampLight 26 = .ok (.iconst 0, 1) := by decide +kernel
theorem dX0_lampLight_27 : decode cX0_lampLight 27 = .ok (.ireturn, 1) := by decide +kernel
theorem dX0_hasLamps_0 : decode cX0_hasLamps 0 = .ok (.iconst 0, 1) := by decide +kernel
theorem dX0_hasLamps_1 : decode cX0_hasLamps 1 = .ok (.istore_n 1, 1) := by decide +kernel
theorem dX0_hasLamps_2 : decode cX0_hasLamps 2 = .ok (.iload_n 1, 1) := by decide +kernel
theorem dX0_hasLamps_3 : decode cX0_hasLamps 3 = .ok (.aload_n 0, 1) := by decide +kernel
theorem dX0_hasLamps_4 : decode cX0_hasLamps 4 = .ok (.getfield 30, 3) := by decide +kernel
theorem dX0_hasLamps_7 : decode cX0_hasLamps 7 = .ok (.getfield 65, 3) := by decide +kernel
theorem dX0_hasLamps_10 : decode cX0_hasLamps 10 = .ok (.if_icmp .ge 21, 3) := by decide +kernel
theorem dX0_hasLamps_13 : decode cX0_hasLamps 13 = .ok (.aload_n 0, 1) := by decide +kernel
theorem dX0_hasLamps_14 : decode cX0_hasLamps 14 = .ok (.getfield 24, 3) := by decide +kernel
theorem dX0_hasLamps_17 : decode cX0_hasLamps 17 = .ok (.iload_n 1, 1) := by decide +kernel
theorem dX0_hasLamps_18 : decode cX0_hasLamps 18 = .ok (.iaload, 1) := by decide +kernel
theorem dX0_hasLamps_19 : decode cX0_hasLamps 19 = .ok (.iconst (-1), 1) := by decide +kernel
theorem dX0_hasLamps_20 : decode cX0_hasLamps 20 = .ok (.if_icmp .eq 5, 3) := by decide +kernel
theorem dX0_hasLamps_23 : decode cX0_hasLamps 23 = .ok (.iconst 1, 1) := by decide +kernel
theorem dX0_hasLamps_24 : decode cX0_hasLamps 24 = .ok (.ireturn, 1) := by decide +kernel
theorem dX0_hasLamps_25 : decode cX0_hasLamps 25 = .ok (.iinc 1 1, 3) := by decide +kernel
theorem dX0_hasLamps_28 : decode cX0_hasLamps 28 = .ok (.goto (-26), 3) := by decide +kernel
theorem dX0_hasLamps_31 : decode cX0_hasLamps 31 = .ok (.iconst 0, 1) := by decide +kernel
theorem dX0_hasLamps_32 : decode cX0_hasLamps 32 = .ok (.ireturn, 1) := by decide +kernel
set_option maxRecDepth 20000 in
theorem ggX0_evennessAbove_X0_commonDivisor : GoodIn wsX0_evennessAbove wsX0_commonDivisor := goodIn_r _ [8] (by decide +kernel) (by decide +kernel)
set_option maxRecDepth 20000 in
theorem gX0_evennessAbove_X0_commonDivisor : GoodIn wsX0_evennessAbove (va_wsS RX0 81 yX0_commonDivisor wsX0_commonDivisor) := goodIn_app (goodIn_of _ (by decide +kernel)) ggX0_evennessAbove_X0_commonDivisor
set_option maxRecDepth 20000 in
theorem ggX0_evennessAbove_X4_quotient : GoodIn wsX0_evennessAbove wsX4_quotient := goodIn_r _ [11] (by decide +kernel) (by decide +kernel)
set_option maxRecDepth 20000 in
theorem gX0_evennessAbove_X4_quotient_n85 : GoodIn wsX0_evennessAbove (wsX4_quotient) := ggX0_evennessAbove_X4_quotient
theorem dX0_evennessAbove_0 : decode cX0_evennessAbove 0 = .ok (.aload_n 0, 1) := by decide +kernel
theorem dX0_evennessAbove_1 : decode cX0_evennessAbove 1 = .ok (.getfield 71, 3) := by decide +kernel
theorem dX0_evennessAbove_4 : decode cX0_evennessAbove 4 = .ok (.aload_n 0, 1) := by decide +kernel
theorem dX0_evennessAbove_5 : decode cX0_evennessAbove 5 = .ok (.getfield 30, 3) := by decide +kernel
theorem dX0_evennessAbove_8 : decode cX0_evennessAbove 8 = .ok (.getfield 75, 3) := by decide +kernel
theorem dX0_evennessAbove_11 : decode cX0_evennessAbove 11 = .ok (.i2l, 1) := by decide +kernel
theorem dX0_evennessAbove_12 : decode cX0_evennessAbove 12 = .ok (.lmul, 1) := by decide +kernel
theorem dX0_evennessAbove_13 : decode cX0_evennessAbove 13 = .ok (.lstore_n 1, 1) := by decide +kernel
theorem dX0_evennessAbove_14 : decode cX0_evennessAbove 14 = .ok (.lload_n 1, 1) := by decide +kernel
theorem dX0_evennessAbove_15 : decode cX0_evennessAbove 15 = .ok (.lload_n 1, 1) := by decide +kernel
theorem dX0_evennessAbove_16 : decode cX0_evennessAbove 16 = .ok (.aload_n 0, 1) := by decide +kernel
theorem dX0_evennessAbove_17 : decode cX0_evennessAbove 17 = .ok (.getfield 78, 3) := by decide +kernel
theorem dX0_evennessAbove_20 : decode cX0_evennessAbove 20 = .ok (.invokestatic 81, 3) := by decide +kernel
theorem dX0_evennessAbove_23 : decode cX0_evennessAbove 23 = .ok (.invokestatic 85, 3) := by decide +kernel
theorem dX0_evennessAbove_26 : decode cX0_evennessAbove 26 = .ok (.lreturn, 1) := by decide +kernel
set_option maxRecDepth 20000 in
theorem ggX0_evennessBelow_X0_commonDivisor : GoodIn wsX0_evennessBelow wsX0_commonDivisor := goodIn_r _ [8] (by decide +kernel) (by decide +kernel)
set_option maxRecDepth 20000 in
theorem gX0_evennessBelow_X0_commonDivisor : GoodIn wsX0_evennessBelow (va_wsS RX0 81 yX0_commonDivisor wsX0_commonDivisor) := goodIn_app (goodIn_of _ (by decide +kernel)) ggX0_evennessBelow_X0_commonDivisor
set_option maxRecDepth 20000 in
theorem ggX0_evennessBelow_X4_quotient : GoodIn wsX0_evennessBelow wsX4_quotient := goodIn_r _ [11] (by decide +kernel) (by decide +kernel)
set_option maxRecDepth 20000 in
theorem gX0_evennessBelow_X4_quotient_n85 : GoodIn wsX0_evennessBelow (wsX4_quotient) := ggX0_evennessBelow_X4_quotient
theorem dX0_evennessBelow_0 : decode cX0_evennessBelow 0 = .ok (.aload_n 0, 1) := by decide +kernel
theorem dX0_evennessBelow_1 : decode cX0_evennessBelow 1 = .ok (.getfield 78, 3) := by decide +kernel
theorem dX0_evennessBelow_4 : decode cX0_evennessBelow 4 = .ok (.aload_n 0, 1) := by decide +kernel
theorem dX0_evennessBelow_5 : decode cX0_evennessBelow 5 = .ok (.getfield 71, 3) := by decide +kernel
theorem dX0_evennessBelow_8 : decode cX0_evennessBelow 8 = .ok (.aload_n 0, 1) := by decide +kernel
theorem dX0_evennessBelow_9 : decode cX0_evennessBelow 9 = .ok (.getfield 30, 3) := by decide +kernel
theorem dX0_evennessBelow_12 : decode cX0_evennessBelow 12 = .ok (.getfield 75, 3) := by decide +kernel
theorem dX0_evennessBelow_15 : decode cX0_evennessBelow 15 = .ok (.i2l, 1) := by decide +kernel
theorem dX0_evennessBelow_16 : decode cX0_evennessBelow 16 = .ok (.lmul, 1) := by decide +kernel
theorem dX0_evennessBelow_17 : decode cX0_evennessBelow 17 = .ok (.aload_n 0, 1) := by decide +kernel
theorem dX0_evennessBelow_18 : decode cX0_evennessBelow 18 = .ok (.getfield 78, 3) := by decide +kernel
theorem dX0_evennessBelow_21 : decode cX0_evennessBelow 21 = .ok (.invokestatic 81, 3) := by decide +kernel
theorem dX0_evennessBelow_24 : decode cX0_evennessBelow 24 = .ok (.invokestatic 85, 3) := by decide +kernel
theorem dX0_evennessBelow_27 : decode cX0_evennessBelow 27 = .ok (.lreturn, 1) := by decide +kernel
theorem dX0_commonDivisor_0 : decode cX0_commonDivisor 0 = .ok (.lload_n 0, 1) := by decide +kernel
theorem dX0_commonDivisor_1 : decode cX0_commonDivisor 1 = .ok (.lstore 4, 2) := by decide +kernel
theorem dX0_commonDivisor_3 : decode cX0_commonDivisor 3 = .ok (.lload_n 2, 1) := by decide +kernel
theorem dX0_commonDivisor_4 : decode cX0_commonDivisor 4 = .ok (.lstore 6, 2) := by decide +kernel
theorem dX0_commonDivisor_6 : decode cX0_commonDivisor 6 = .ok (.iconst 0, 1) := by decide +kernel
theorem dX0_commonDivisor_7 : decode cX0_commonDivisor 7 = .ok (.istore 8, 2) := by decide +kernel
theorem dX0_commonDivisor_9 : decode cX0_commonDivisor 9 = .ok (.iload 8, 2) := by decide +kernel
theorem dX0_commonDivisor_11 : decode cX0_commonDivisor 11 = .ok (.bipush 100, 2) := by decide +kernel
theorem dX0_commonDivisor_13 : decode cX0_commonDivisor 13 = .ok (.if_icmp .ge 31, 3) := by decide +kernel
theorem dX0_commonDivisor_16 : decode cX0_commonDivisor 16 = .ok (.lload 6, 2) := by decide +kernel
theorem dX0_commonDivisor_18 : decode cX0_commonDivisor 18 = .ok (.lconst 0, 1) := by decide +kernel
theorem dX0_commonDivisor_19 : decode cX0_commonDivisor 19 = .ok (.lcmp, 1) := by decide +kernel
theorem dX0_commonDivisor_20 : decode cX0_commonDivisor 20 = .ok (.ifCond .le 24, 3) := by decide +kernel
theorem dX0_commonDivisor_23 : decode cX0_commonDivisor 23 = .ok (.lload 4, 2) := by decide +kernel
theorem dX0_commonDivisor_25 : decode cX0_commonDivisor 25 = .ok (.lload 6, 2) := by decide +kernel
theorem dX0_commonDivisor_27 : decode cX0_commonDivisor 27 = .ok (.lrem, 1) := by decide +kernel
theorem dX0_commonDivisor_28 : decode cX0_commonDivisor 28 = .ok (.lstore 9, 2) := by decide +kernel
theorem dX0_commonDivisor_30 : decode cX0_commonDivisor 30 = .ok (.lload 6, 2) := by decide +kernel
theorem dX0_commonDivisor_32 : decode cX0_commonDivisor 32 = .ok (.lstore 4, 2) := by decide +kernel
theorem dX0_commonDivisor_34 : decode cX0_commonDivisor 34 = .ok (.lload 9, 2) := by decide +kernel
theorem dX0_commonDivisor_36 : decode cX0_commonDivisor 36 = .ok (.lstore 6, 2) := by decide +kernel
theorem dX0_commonDivisor_38 : decode cX0_commonDivisor 38 = .ok (.iinc 8 1, 3) := by decide +kernel
theorem dX0_commonDivisor_41 : decode cX0_commonDivisor 41 = .ok (.goto (-32), 3) := by decide +kernel
theorem dX0_commonDivisor_44 : decode cX0_commonDivisor 44 = .ok (.lload 4, 2) := by decide +kernel
theorem dX0_commonDivisor_46 : decode cX0_commonDivisor 46 = .ok (.lreturn, 1) := by decide +kernel
theorem dX0_lightRow_0 : decode cX0_lightRow 0 = .ok (.iload_n 0, 1) := by decide +kernel
theorem dX0_lightRow_1 : decode cX0_lightRow 1 = .ok (.iconst 3, 1) := by decide +kernel
theorem dX0_lightRow_2 : decode cX0_lightRow 2 = .ok (.imul, 1) := by decide +kernel
theorem dX0_lightRow_3 : decode cX0_lightRow 3 = .ok (.iload_n 1, 1) := by decide +kernel
theorem dX0_lightRow_4 : decode cX0_lightRow 4 = .ok (.iadd, 1) := by decide +kernel
theorem dX0_lightRow_5 : decode cX0_lightRow 5 = .ok (.bipush 16, 2) := by decide +kernel
theorem dX0_lightRow_7 : decode cX0_lightRow 7 = .ok (.imul, 1) := by decide +kernel
theorem dX0_lightRow_8 : decode cX0_lightRow 8 = .ok (.ireturn, 1) := by decide +kernel
set_option maxRecDepth 20000 in
theorem ggX0_fillLights_X0_lightRow : GoodIn wsX0_fillLights wsX0_lightRow := goodIn_r _ [9] (by decide +kernel) (by decide +kernel)
set_option maxRecDepth 20000 in
theorem gX0_fillLights_X0_lightRow : GoodIn wsX0_fillLights (va_wsS RX0 61 yX0_lightRow wsX0_lightRow) := goodIn_app (goodIn_of _ (by decide +kernel)) ggX0_fillLights_X0_lightRow
set_option maxRecDepth 20000 in
theorem ggX0_fillLights_X2_lightOf : GoodIn wsX0_fillLights wsX2_lightOf := goodIn_r _ [14, 15, 16, 17, 18, 19, 20, 21, 22, 23, 24, 37, 38, 39, 40, 41, 42, 43, 44, 45, 46, 47, 48, 49, 50] (by decide +kernel) (by decide +kernel)
set_option maxRecDepth 20000 in
theorem gX0_fillLights_X2_lightOf : GoodIn wsX0_fillLights (wsV RX0 91 RX2 yX2_lightOf wsX2_lightOf) := goodIn_app (goodIn_of _ (by decide +kernel)) ggX0_fillLights_X2_lightOf
theorem dX0_fillLights_0 : decode cX0_fillLights 0 = .ok (.iconst 0, 1) := by decide +kernel
theorem dX0_fillLights_1 : decode cX0_fillLights 1 = .ok (.istore_n 1, 1) := by decide +kernel
theorem dX0_fillLights_2 : decode cX0_fillLights 2 = .ok (.iload_n 1, 1) := by decide +kernel
theorem dX0_fillLights_3 : decode cX0_fillLights 3 = .ok (.aload_n 0, 1) := by decide +kernel
theorem dX0_fillLights_4 : decode cX0_fillLights 4 = .ok (.getfield 30, 3) := by decide +kernel
theorem dX0_fillLights_7 : decode cX0_fillLights 7 = .ok (.getfield 65, 3) := by decide +kernel
theorem dX0_fillLights_10 : decode cX0_fillLights 10 = .ok (.if_icmp .ge 75, 3) := by decide +kernel
theorem dX0_fillLights_13 : decode cX0_fillLights 13 = .ok (.iconst 0, 1) := by decide +kernel
theorem dX0_fillLights_14 : decode cX0_fillLights 14 = .ok (.istore_n 2, 1) := by decide +kernel
theorem dX0_fillLights_15 : decode cX0_fillLights 15 = .ok (.iload_n 2, 1) := by decide +kernel
theorem dX0_fillLights_16 : decode cX0_fillLights 16 = .ok (.aload_n 0, 1) := by decide +kernel
theorem dX0_fillLights_17 : decode cX0_fillLights 17 = .ok (.getfield 30, 3) := by decide +kernel
theorem dX0_fillLights_20 : decode cX0_fillLights 20 = .ok (.getfield 88, 3) := by decide +kernel
theorem dX0_fillLights_23 : decode cX0_fillLights 23 = .ok (.if_icmp .ge 56, 3) := by decide +kernel
theorem dX0_fillLights_26 : decode cX0_fillLights 26 = .ok (.iload_n 1, 1) := by decide +kernel
theorem dX0_fillLights_27 : decode cX0_fillLights 27 = .ok (.iload_n 2, 1) := by decide +kernel
theorem dX0_fillLights_28 : decode cX0_fillLights 28 = .ok (.invokestatic 61, 3) := by decide +kernel
theorem dX0_fillLights_31 : decode cX0_fillLights 31 = .ok (.istore_n 3, 1) := by decide +kernel
theorem dX0_fillLights_32 : decode cX0_fillLights 32 = .ok (.iconst 0, 1) := by decide +kernel
theorem dX0_fillLights_33 : decode cX0_fillLights 33 = .ok (.istore 4, 2) := by decide +kernel
theorem dX0_fillLights_35 : decode cX0_fillLights 35 = .ok (.iload 4, 2) := by decide +kernel
theorem dX0_fillLights_37 : decode cX0_fillLights 37 = .ok (.aload_n 0, 1) := by decide +kernel
theorem dX0_fillLights_38 : decode cX0_fillLights 38 = .ok (.getfield 30, 3) := by decide +kernel
theorem dX0_fillLights_41 : decode cX0_fillLights 41 = .ok (.getfield 75, 3) := by decide +kernel
theorem dX0_fillLights_44 : decode cX0_fillLights 44 = .ok (.if_icmp .ge 29, 3) := by decide +kernel
theorem dX0_fillLights_47 : decode cX0_fillLights 47 = .ok (.aload_n 0, 1) := by decide +kernel
theorem dX0_fillLights_48 : decode cX0_fillLights 48 = .ok (.getfield 9, 3) := by decide +kernel
theorem dX0_fillLights_51 : decode cX0_fillLights 51 = .ok (.iload_n 3, 1) := by decide +kernel
theorem dX0_fillLights_52 : decode cX0_fillLights 52 = .ok (.iload 4, 2) := by decide +kernel
theorem dX0_fillLights_54 : decode cX0_fillLights 54 = .ok (.iadd, 1) := by decide +kernel
theorem dX0_fillLights_55 : decode cX0_fillLights 55 = .ok (.aload_n 0, 1) := by decide +kernel
theorem dX0_fillLights_56 : decode cX0_fillLights 56 = .ok (.getfield 30, 3) := by decide +kernel
theorem dX0_fillLights_59 : decode cX0_fillLights 59 = .ok (.iload_n 2, 1) := by decide +kernel
theorem dX0_fillLights_60 : decode cX0_fillLights 60 = .ok (.iload_n 1, 1) := by decide +kernel
theorem dX0_fillLights_61 : decode cX0_fillLights 61 = .ok (.iload 4, 2) := by decide +kernel
theorem dX0_fillLights_63 : decode cX0_fillLights 63 = .ok (.invokevirtual 91, 3) := by decide +kernel
theorem dX0_fillLights_66 : decode cX0_fillLights 66 = .ok (.iastore, 1) := by decide +kernel
theorem dX0_fillLights_67 : decode cX0_fillLights 67 = .ok (.iinc 4 1, 3) := by decide +kernel
theorem dX0_fillLights_70 : decode cX0_fillLights 70 = .ok (.goto (-35), 3) := by decide +kernel
theorem dX0_fillLights_73 : decode cX0_fillLights 73 = .ok (.iinc 2 1, 3) := by decide +kernel
theorem dX0_fillLights_76 : decode cX0_fillLights 76 = .ok (.goto (-61), 3) := by decide +kernel
theorem dX0_fillLights_79 : decode cX0_fillLights 79 = .ok (.iinc 1 1, 3) := by decide +kernel
theorem dX0_fillLights_82 : decode cX0_fillLights 82 = .ok (.goto (-80), 3) := by decide +kernel
theorem dX0_fillLights_85 : decode cX0_fillLights 85 = .ok (.return_, 1) := by decide +kernel
set_option maxRecDepth 20000 in
theorem ggX0_fillReach_X0_mostLight : GoodIn wsX0_fillReach wsX0_mostLight := goodIn_r _ [9, 1, 10, 11, 12, 13, 14, 15, 16, 17, 18, 19, 20, 21, 22, 23, 8, 24, 25, 26, 27, 28, 29, 30, 31, 32, 33, 34, 35, 36, 37, 38, 39, 40, 41, 42, 43, 44, 45, 46, 47, 48, 49, 50] (by decide +kernel) (by decide +kernel)
set_option maxRecDepth 20000 in
theorem gX0_fillReach_X0_mostLight : GoodIn wsX0_fillReach (wsV RX0 95 RX0 yX0_mostLight wsX0_mostLight) := goodIn_app (goodIn_of _ (by decide +kernel)) ggX0_fillReach_X0_mostLight
theorem dX0_fillReach_0 : decode cX0_fillReach 0 = .ok (.aload_n 0, 1) := by decide +kernel
theorem dX0_fillReach_1 : decode cX0_fillReach 1 = .ok (.getfield 30, 3) := by decide +kernel
theorem dX0_fillReach_4 : decode cX0_fillReach 4 = .ok (.getfield 65, 3) := by decide +kernel
theorem dX0_fillReach_7 : decode cX0_fillReach 7 = .ok (.iconst 1, 1) := by decide +kernel
theorem dX0_fillReach_8 : decode cX0_fillReach 8 = .ok (.isub, 1) := by decide +kernel
theorem dX0_fillReach_9 : decode cX0_fillReach 9 = .ok (.istore_n 1, 1) := by decide +kernel
theorem dX0_fillReach_10 : decode cX0_fillReach 10 = .ok (.iload_n 1, 1) := by decide +kernel
theorem dX0_fillReach_11 : decode cX0_fillReach 11 = .ok (.ifCond .lt 57, 3) := by decide +kernel
theorem dX0_fillReach_14 : decode cX0_fillReach 14 = .ok (.iconst 0, 1) := by decide +kernel
theorem dX0_fillReach_15 : decode cX0_fillReach 15 = .ok (.istore_n 2, 1) := by decide +kernel
theorem dX0_fillReach_16 : decode cX0_fillReach 16 = .ok (.iload_n 2, 1) := by decide +kernel
theorem dX0_fillReach_17 : decode cX0_fillReach 17 = .ok (.aload_n 0, 1) := by decide +kernel
theorem dX0_fillReach_18 : decode cX0_fillReach 18 = .ok (.getfield 30, 3) := by decide +kernel
theorem dX0_fillReach_21 : decode cX0_fillReach 21 = .ok (.getfield 75, 3) := by decide +kernel
theorem dX0_fillReach_24 : decode cX0_fillReach 24 = .ok (.if_icmp .ge 38, 3) := by decide +kernel
theorem dX0_fillReach_27 : decode cX0_fillReach 27 = .ok (.iload_n 1, 1) := by decide +kernel
theorem dX0_fillReach_28 : decode cX0_fillReach 28 = .ok (.bipush 16, 2) := by decide +kernel
theorem dX0_fillReach_30 : decode cX0_fillReach 30 = .ok (.imul, 1) := by decide +kernel
theorem dX0_fillReach_31 : decode cX0_fillReach 31 = .ok (.iload_n 2, 1) := by decide +kernel
theorem dX0_fillReach_32 : decode cX0_fillReach 32 = .ok (.iadd, 1) := by decide +kernel
theorem dX0_fillReach_33 : decode cX0_fillReach 33 = .ok (.istore_n 3, 1) := by decide +kernel
theorem dX0_fillReach_34 : decode cX0_fillReach 34 = .ok (.aload_n 0, 1) := by decide +kernel
theorem dX0_fillReach_35 : decode cX0_fillReach 35 = .ok (.getfield 15, 3) := by decide +kernel
theorem dX0_fillReach_38 : decode cX0_fillReach 38 = .ok (.iload_n 3, 1) := by decide +kernel
theorem dX0_fillReach_39 : decode cX0_fillReach 39 = .ok (.aload_n 0, 1) := by decide +kernel
theorem dX0_fillReach_40 : decode cX0_fillReach 40 = .ok (.getfield 15, 3) := by decide +kernel
theorem dX0_fillReach_43 : decode cX0_fillReach 43 = .ok (.iload_n 3, 1) := by decide +kernel
theorem dX0_fillReach_44 : decode cX0_fillReach 44 = .ok (.bipush 16, 2) := by decide +kernel
theorem dX0_fillReach_46 : decode cX0_fillReach 46 = .ok (.iadd, 1) := by decide +kernel
theorem dX0_fillReach_47 : decode cX0_fillReach 47 = .ok (.iaload, 1) := by decide +kernel
theorem dX0_fillReach_48 : decode cX0_fillReach 48 = .ok (.aload_n 0, 1) := by decide +kernel
theorem dX0_fillReach_49 : decode cX0_fillReach 49 = .ok (.iload_n 1, 1) := by decide +kernel
theorem dX0_fillReach_50 : decode cX0_fillReach 50 = .ok (.iload_n 2, 1) := by decide +kernel
theorem dX0_fillReach_51 : decode cX0_fillReach 51 = .ok (.invokevirtual 95, 3) := by decide +kernel
theorem dX0_fillReach_54 : decode cX0_fillReach 54 = .ok (.iadd, 1) := by decide +kernel
theorem dX0_fillReach_55 : decode cX0_fillReach 55 = .ok (.iastore, 1) := by decide +kernel
theorem dX0_fillReach_56 : decode cX0_fillReach 56 = .ok (.iinc 2 1, 3) := by decide +kernel
theorem dX0_fillReach_59 : decode cX0_fillReach 59 = .ok (.goto (-43), 3) := by decide +kernel
theorem dX0_fillReach_62 : decode cX0_fillReach 62 = .ok (.iinc 1 (-1), 3) := by decide +kernel
theorem dX0_fillReach_65 : decode cX0_fillReach 65 = .ok (.goto (-55), 3) := by decide +kernel
theorem dX0_fillReach_68 : decode cX0_fillReach 68 = .ok (.return_, 1) := by decide +kernel
set_option maxRecDepth 20000 in
theorem ggX0_mostLight_X2_mayHave : GoodIn wsX0_mostLight wsX2_mayHave := goodIn_r _ [12, 13, 30, 31, 32, 33, 34, 35, 36, 37, 38, 39, 40, 41, 42, 43] (by decide +kernel) (by decide +kernel)
set_option maxRecDepth 20000 in
theorem gX0_mostLight_X2_mayHave : GoodIn wsX0_mostLight (wsV RX0 98 RX2 yX2_mayHave wsX2_mayHave) := goodIn_app (goodIn_of _ (by decide +kernel)) ggX0_mostLight_X2_mayHave
set_option maxRecDepth 20000 in
theorem ggX0_mostLight_X0_lightRow : GoodIn wsX0_mostLight wsX0_lightRow := goodIn_r _ [17] (by decide +kernel) (by decide +kernel)
set_option maxRecDepth 20000 in
theorem gX0_mostLight_X0_lightRow : GoodIn wsX0_mostLight (va_wsS RX0 61 yX0_lightRow wsX0_lightRow) := goodIn_app (goodIn_of _ (by decide +kernel)) ggX0_mostLight_X0_lightRow
theorem dX0_mostLight_0 : decode cX0_mostLight 0 = .ok (.iconst 0, 1) := by decide +kernel
theorem dX0_mostLight_1 : decode cX0_mostLight 1 = .ok (.istore_n 3, 1) := by decide +kernel
theorem dX0_mostLight_2 : decode cX0_mostLight 2 = .ok (.iconst 0, 1) := by decide +kernel
theorem dX0_mostLight_3 : decode cX0_mostLight 3 = .ok (.istore 4, 2) := by decide +kernel
theorem dX0_mostLight_5 : decode cX0_mostLight 5 = .ok (.iload 4, 2) := by decide +kernel
theorem dX0_mostLight_7 : decode cX0_mostLight 7 = .ok (.aload_n 0, 1) := by decide +kernel
theorem dX0_mostLight_8 : decode cX0_mostLight 8 = .ok (.getfield 30, 3) := by decide +kernel
theorem dX0_mostLight_11 : decode cX0_mostLight 11 = .ok (.getfield 88, 3) := by decide +kernel
theorem dX0_mostLight_14 : decode cX0_mostLight 14 = .ok (.if_icmp .ge 40, 3) := by decide +kernel
theorem dX0_mostLight_17 : decode cX0_mostLight 17 = .ok (.aload_n 0, 1) := by decide +kernel
theorem dX0_mostLight_18 : decode cX0_mostLight 18 = .ok (.getfield 30, 3) := by decide +kernel
theorem dX0_mostLight_21 : decode cX0_mostLight 21 = .ok (.iload_n 1, 1) := by decide +kernel
theorem dX0_mostLight_22 : decode cX0_mostLight 22 = .ok (.iload 4, 2) := by decide +kernel
theorem dX0_mostLight_24 : decode cX0_mostLight 24 = .ok (.invokevirtual 98, 3) := by decide +kernel
theorem dX0_mostLight_27 : decode cX0_mostLight 27 = .ok (.ifCond .eq 21, 3) := by decide +kernel
theorem dX0_mostLight_30 : decode cX0_mostLight 30 = .ok (.iload_n 3, 1) := by decide +kernel
theorem dX0_mostLight_31 : decode cX0_mostLight 31 = .ok (.aload_n 0, 1) := by decide +kernel
theorem dX0_mostLight_32 : decode cX0_mostLight 32 = .ok (.getfield 9, 3) := by decide +kernel
theorem dX0_mostLight_35 : decode cX0_mostLight 35 = .ok (.iload_n 1, 1) := by decide +kernel
theorem dX0_mostLight_36 : decode cX0_mostLight 36 = .ok (.iload 4, 2) := by decide +kernel
theorem dX0_mostLight_38 : decode cX0_mostLight 38 = .ok (.invokestatic 61, 3) := by decide +kernel
theorem dX0_mostLight_41 : decode cX0_mostLight 41 = .ok (.iload_n 2, 1) := by decide +kernel
theorem dX0_mostLight_42 : decode cX0_mostLight 42 = .ok (.iadd, 1) := by decide +kernel
theorem dX0_mostLight_43 : decode cX0_mostLight 43 = .ok (.iaload, 1) := by decide +kernel
theorem dX0_mostLight_44 : decode cX0_mostLight 44 = .ok (.invokestatic 102, 3) := by decide +kernel
theorem dX0_mostLight_47 : decode cX0_mostLight 47 = .ok (.istore_n 3, 1) := by decide +kernel
theorem dX0_mostLight_48 : decode cX0_mostLight 48 = .ok (.iinc 4 1, 3) := by decide +kernel
theorem dX0_mostLight_51 : decode cX0_mostLight 51 = .ok (.goto (-46), 3) := by decide +kernel
theorem dX0_mostLight_54 : decode cX0_mostLight 54 = .ok (.iload_n 3, 1) := by decide +kernel
theorem dX0_mostLight_55 : decode cX0_mostLight 55 = .ok (.ireturn, 1) := by decide +kernel
set_option maxRecDepth 20000 in
theorem ggX0_tryFrom_X0_weigh : GoodIn wsX0_tryFrom wsX0_weigh := goodIn_r _ [11, 1, 2, 12, 13, 14, 15, 16, 17, 18, 19, 20, 4, 5, 21, 22, 6, 23, 24, 25, 26, 27, 28, 57, 58, 59, 60, 61, 62, 63, 64, 65, 66, 67, 68, 69, 70, 71, 72, 73, 74, 75, 76, 77, 78, 79, 80, 81, 82] (by decide +kernel) (by decide +kernel)
set_option maxRecDepth 20000 in
theorem gX0_tryFrom_X0_weigh : GoodIn wsX0_tryFrom (wsV RX0 107 RX0 yX0_weigh wsX0_weigh) := goodIn_app (goodIn_of _ (by decide +kernel)) ggX0_tryFrom_X0_weigh
set_option maxRecDepth 20000 in
theorem ggX0_tryFrom_X2_wattsOf : GoodIn wsX0_tryFrom wsX2_wattsOf := goodIn_r _ [33, 34, 69, 70, 71, 72, 73, 74, 75, 76, 77, 78, 79, 80, 81, 82] (by decide +kernel) (by decide +kernel)
set_option maxRecDepth 20000 in
theorem gX0_tryFrom_X2_wattsOf : GoodIn wsX0_tryFrom (wsV RX0 111 RX2 yX2_wattsOf wsX2_wattsOf) := goodIn_app (goodIn_of _ (by decide +kernel)) ggX0_tryFrom_X2_wattsOf
set_option maxRecDepth 20000 in
theorem ggX0_tryFrom_X2_mayHave : GoodIn wsX0_tryFrom wsX2_mayHave := goodIn_r _ [38, 39, 69, 70, 71, 72, 73, 74, 75, 76, 77, 78, 79, 80, 81, 82] (by decide +kernel) (by decide +kernel)
set_option maxRecDepth 20000 in
theorem gX0_tryFrom_X2_mayHave : GoodIn wsX0_tryFrom (wsV RX0 98 RX2 yX2_mayHave wsX2_mayHave) := goodIn_app (goodIn_of _ (by decide +kernel)) ggX0_tryFrom_X2_mayHave
set_option maxRecDepth 20000 in
theorem ggX0_tryFrom_X0_gather : GoodIn wsX0_tryFrom wsX0_gather := goodIn_r _ [43, 13, 1, 12, 24, 25, 26, 27, 44, 45, 46, 10, 47, 57, 58, 59, 60, 61, 62, 63, 64, 65, 66, 67, 68, 69, 70, 71, 72, 73, 74, 75, 76, 77, 78, 79, 80, 81, 82] (by decide +kernel) (by decide +kernel)
set_option maxRecDepth 20000 in
theorem gX0_tryFrom_X0_gather : GoodIn wsX0_tryFrom (wsV RX0 118 RX0 yX0_gather wsX0_gather) := goodIn_app (goodIn_of _ (by decide +kernel)) ggX0_tryFrom_X0_gather
set_option maxRecDepth 20000 in
theorem ggX0_tryFrom_X0_canBecomeEnough : GoodIn wsX0_tryFrom wsX0_canBecomeEnough := goodIn_r _ [51, 1, 12, 13, 52, 53, 57, 58, 59, 60, 61, 62, 63, 64, 65, 66, 67, 68, 69, 70, 71, 72, 73, 74, 75, 76, 77, 78, 79, 80, 81, 82] (by decide +kernel) (by decide +kernel)
set_option maxRecDepth 20000 in
theorem gX0_tryFrom_X0_canBecomeEnough : GoodIn wsX0_tryFrom (wsV RX0 53 RX0 yX0_canBecomeEnough wsX0_canBecomeEnough) := goodIn_app (goodIn_of _ (by decide +kernel)) ggX0_tryFrom_X0_canBecomeEnough
set_option maxRecDepth 20000 in
theorem ggX0_tryFrom_X0_tryFrom : GoodIn wsX0_tryFrom wsX0_tryFrom := goodIn_r _ [0, 1, 2, 3, 4, 5, 6, 7, 8, 9, 10, 11, 12, 13, 14, 15, 16, 17, 18, 19, 20, 21, 22, 23, 24, 25, 26, 27, 28, 29, 30, 31, 32, 33, 34, 35, 36, 37, 38, 39, 40, 41, 42, 43, 44, 45, 46, 47, 48, 49, 50, 51, 52, 53, 54, 55, 56, 57, 58, 59, 60, 61, 62, 63, 64, 65, 66, 67, 68, 69, 70, 71, 72, 73, 74, 75, 76, 77, 78, 79, 80, 81, 82] (by decide +kernel) (by decide +kernel)
set_option maxRecDepth 20000 in
theorem gX0_tryFrom_X0_tryFrom : GoodIn wsX0_tryFrom (wsV RX0 57 RX0 yX0_tryFrom wsX0_tryFrom) := goodIn_app (goodIn_of _ (by decide +kernel)) ggX0_tryFrom_X0_tryFrom
theorem dX0_tryFrom_0 : decode cX0_tryFrom 0 = .ok (.iload_n 1, 1) := by decide +kernel
theorem dX0_tryFrom_1 : decode cX0_tryFrom 1 = .ok (.aload_n 0, 1) := by decide +kernel
theorem dX0_tryFrom_2 : decode cX0_tryFrom 2 = .ok (.getfield 30, 3) := by decide +kernel
theorem dX0_tryFrom_5 : decode cX0_tryFrom 5 = .ok (.getfield 65, 3) := by decide +kernel
theorem dX0_tryFrom_8 : decode cX0_tryFrom 8 = .ok (.if_icmp .lt 9, 3) := by decide +kernel
theorem dX0_tryFrom_11 : decode cX0_tryFrom 11 = .ok (.aload_n 0, 1) := by decide +kernel
theorem dX0_tryFrom_12 : decode cX0_tryFrom 12 = .ok (.iload_n 2, 1) := by decide +kernel
theorem dX0_tryFrom_13 : decode cX0_tryFrom 13 = .ok (.invokevirtual 107, 3) := by decide +kernel
theorem dX0_tryFrom_16 : decode cX0_tryFrom 16 = .ok (.return_, 1) := by decide +kernel
theorem dX0_tryFrom_17 : decode cX0_tryFrom 17 = .ok (.iconst (-1), 1) := by decide +kernel
theorem dX0_tryFrom_18 : decode cX0_tryFrom 18 = .ok (.istore_n 3, 1) := by decide +kernel
theorem dX0_tryFrom_19 : decode cX0_tryFrom 19 = .ok (.iload_n 3, 1) := by decide +kernel
theorem dX0_tryFrom_20 : decode cX0_tryFrom 20 = .ok (.aload_n 0, 1) := by decide +kernel
theorem dX0_tryFrom_21 : decode cX0_tryFrom 21 = .ok (.getfield 30, 3) := by decide +kernel
theorem dX0_tryFrom_24 : decode cX0_tryFrom 24 = .ok (.getfield 88, 3) := by decide +kernel
theorem dX0_tryFrom_27 : decode cX0_tryFrom 27 = .ok (.if_icmp .ge 81, 3) := by decide +kernel
theorem dX0_tryFrom_30 : decode cX0_tryFrom 30 = .ok (.iload_n 2, 1) := by decide +kernel
theorem dX0_tryFrom_31 : decode cX0_tryFrom 31 = .ok (.aload_n 0, 1) := by decide +kernel
theorem dX0_tryFrom_32 : decode cX0_tryFrom 32 = .ok (.getfield 30, 3) := by decide +kernel
theorem dX0_tryFrom_35 : decode cX0_tryFrom 35 = .ok (.iload_n 3, 1) := by decide +kernel
theorem dX0_tryFrom_36 : decode cX0_tryFrom 36 = .ok (.invokevirtual 111, 3) := by decide +kernel
theorem dX0_tryFrom_39 : decode cX0_tryFrom 39 = .ok (.iadd, 1) := by decide +kernel
theorem dX0_tryFrom_40 : decode cX0_tryFrom 40 = .ok (.istore 4, 2) := by decide +kernel
theorem dX0_tryFrom_42 : decode cX0_tryFrom 42 = .ok (.aload_n 0, 1) := by decide +kernel
theorem dX0_tryFrom_43 : decode cX0_tryFrom 43 = .ok (.getfield 30, 3) := by decide +kernel
theorem dX0_tryFrom_46 : decode cX0_tryFrom 46 = .ok (.iload_n 1, 1) := by decide +kernel
theorem dX0_tryFrom_47 : decode cX0_tryFrom 47 = .ok (.iload_n 3, 1) := by decide +kernel
theorem dX0_tryFrom_48 : decode cX0_tryFrom 48 = .ok (.invokevirtual 98, 3) := by decide +kernel
theorem dX0_tryFrom_51 : decode cX0_tryFrom 51 = .ok (.ifCond .eq 51, 3) := by decide +kernel
theorem dX0_tryFrom_54 : decode cX0_tryFrom 54 = .ok (.aload_n 0, 1) := by decide +kernel
theorem dX0_tryFrom_55 : decode cX0_tryFrom 55 = .ok (.getfield 38, 3) := by decide +kernel
theorem dX0_tryFrom_58 : decode cX0_tryFrom 58 = .ok (.ifCond .eq 12, 3) := by decide +kernel
theorem dX0_tryFrom_61 : decode cX0_tryFrom 61 = .ok (.iload 4, 2) := by decide +kernel
theorem dX0_tryFrom_63 : decode cX0_tryFrom 63 = .ok (.aload_n 0, 1) := by decide +kernel
theorem dX0_tryFrom_64 : decode cX0_tryFrom 64 = .ok (.getfield 115, 3) := by decide +kernel
theorem dX0_tryFrom_67 : decode cX0_tryFrom 67 = .ok (.if_icmp .gt 35, 3) := by decide +kernel
theorem dX0_tryFrom_70 : decode cX0_tryFrom 70 = .ok (.aload_n 0, 1) := by decide +kernel
theorem dX0_tryFrom_71 : decode cX0_tryFrom 71 = .ok (.getfield 21, 3) := by decide +kernel
theorem dX0_tryFrom_74 : decode cX0_tryFrom 74 = .ok (.iload_n 1, 1) := by decide +kernel
theorem dX0_tryFrom_75 : decode cX0_tryFrom 75 = .ok (.iload_n 3, 1) := by decide +kernel
theorem dX0_tryFrom_76 : decode cX0_tryFrom 76 = .ok (.iastore, 1) := by decide +kernel
theorem dX0_tryFrom_77 : decode cX0_tryFrom 77 = .ok (.aload_n 0, 1) := by decide +kernel
theorem dX0_tryFrom_78 : decode cX0_tryFrom 78 = .ok (.iload_n 1, 1) := by decide +kernel
theorem dX0_tryFrom_79 : decode cX0_tryFrom 79 = .ok (.iload_n 3, 1) := by decide +kernel
theorem dX0_tryFrom_80 : decode cX0_tryFrom 80 = .ok (.invokevirtual 118, 3) := by decide +kernel
theorem dX0_tryFrom_83 : decode cX0_tryFrom 83 = .ok (.aload_n 0, 1) := by decide +kernel
theorem dX0_tryFrom_84 : decode cX0_tryFrom 84 = .ok (.iload_n 1, 1) := by decide +kernel
theorem dX0_tryFrom_85 : decode cX0_tryFrom 85 = .ok (.iconst 1, 1) := by decide +kernel
theorem dX0_tryFrom_86 : decode cX0_tryFrom 86 = .ok (.iadd, 1) := by decide +kernel
theorem dX0_tryFrom_87 : decode cX0_tryFrom 87 = .ok (.invokevirtual 53, 3) := by decide +kernel
theorem dX0_tryFrom_90 : decode cX0_tryFrom 90 = .ok (.ifCond .eq 12, 3) := by decide +kernel
theorem dX0_tryFrom_93 : decode cX0_tryFrom 93 = .ok (.aload_n 0, 1) := by decide +kernel
theorem dX0_tryFrom_94 : decode cX0_tryFrom 94 = .ok (.iload_n 1, 1) := by decide +kernel
theorem dX0_tryFrom_95 : decode cX0_tryFrom 95 = .ok (.iconst 1, 1) := by decide +kernel
theorem dX0_tryFrom_96 : decode cX0_tryFrom 96 = .ok (.iadd, 1) := by decide +kernel
theorem dX0_tryFrom_97 : decode cX0_tryFrom 97 = .ok (.iload 4, 2) := by decide +kernel
theorem dX0_tryFrom_99 : decode cX0_tryFrom 99 = .ok (.invokevirtual 57, 3) := by decide +kernel
theorem dX0_tryFrom_102 : decode cX0_tryFrom 102 = .ok (.iinc 3 1, 3) := by decide +kernel
theorem dX0_tryFrom_105 : decode cX0_tryFrom 105 = .ok (.goto (-86), 3) := by decide +kernel
theorem dX0_tryFrom_108 : decode cX0_tryFrom 108 = .ok (.return_, 1) := by decide +kernel
set_option maxRecDepth 20000 in
theorem ggX0_gather_X0_lightRow : GoodIn wsX0_gather wsX0_lightRow := goodIn_r _ [12] (by decide +kernel) (by decide +kernel)
set_option maxRecDepth 20000 in
theorem gX0_gather_X0_lightRow : GoodIn wsX0_gather (va_wsS RX0 61 yX0_lightRow wsX0_lightRow) := goodIn_app (goodIn_of _ (by decide +kernel)) ggX0_gather_X0_lightRow
theorem dX0_gather_0 : decode cX0_gather 0 = .ok (.iload_n 1, 1) := by decide +kernel
theorem dX0_gather_1 : decode cX0_gather 1 = .ok (.bipush 16, 2) := by decide +kernel
theorem dX0_gather_3 : decode cX0_gather 3 = .ok (.imul, 1) := by decide +kernel
theorem dX0_gather_4 : decode cX0_gather 4 = .ok (.istore_n 3, 1) := by decide +kernel
theorem dX0_gather_5 : decode cX0_gather 5 = .ok (.iload_n 3, 1) := by decide +kernel
theorem dX0_gather_6 : decode cX0_gather 6 = .ok (.bipush 16, 2) := by decide +kernel
theorem dX0_gather_8 : decode cX0_gather 8 = .ok (.iadd, 1) := by decide +kernel
theorem dX0_gather_9 : decode cX0_gather 9 = .ok (.istore 4, 2) := by decide +kernel
theorem dX0_gather_11 : decode cX0_gather 11 = .ok (.iload_n 2, 1) := by decide +kernel
theorem dX0_gather_12 : decode cX0_gather 12 = .ok (.ifCond .ge 25, 3) := by decide +kernel
theorem dX0_gather_15 : decode cX0_gather 15 = .ok (.aload_n 0, 1) := by decide +kernel
theorem dX0_gather_16 : decode cX0_gather 16 = .ok (.getfield 18, 3) := by decide +kernel
theorem dX0_gather_19 : decode cX0_gather 19 = .ok (.iload_n 3, 1) := by decide +kernel
theorem dX0_gather_20 : decode cX0_gather 20 = .ok (.aload_n 0, 1) := by decide +kernel
theorem dX0_gather_21 : decode cX0_gather 21 = .ok (.getfield 18, 3) := by decide +kernel
theorem dX0_gather_24 : decode cX0_gather 24 = .ok (.iload 4, 2) := by decide +kernel
theorem dX0_gather_26 : decode cX0_gather 26 = .ok (.aload_n 0, 1) := by decide +kernel
theorem dX0_gather_27 : decode cX0_gather 27 = .ok (.getfield 30, 3) := by decide +kernel
theorem dX0_gather_30 : decode cX0_gather 30 = .ok (.getfield 75, 3) := by decide +kernel
theorem dX0_gather_33 : decode cX0_gather 33 = .ok (.invokestatic 121, 3) := by decide +kernel
theorem dX0_gather_36 : decode cX0_gather 36 = .ok (.return_, 1) := by decide +kernel
theorem dX0_gather_37 : decode cX0_gather 37 = .ok (.iload_n 1, 1) := by decide +kernel
theorem dX0_gather_38 : decode cX0_gather 38 = .ok (.iload_n 2, 1) := by decide +kernel
theorem dX0_gather_39 : decode cX0_gather 39 = .ok (.invokestatic 61, 3) := by decide +kernel
theorem dX0_gather_42 : decode cX0_gather 42 = .ok (.istore 5, 2) := by decide +kernel
theorem dX0_gather_44 : decode cX0_gather 44 = .ok (.iconst 0, 1) := by decide +kernel
theorem dX0_gather_45 : decode cX0_gather 45 = .ok (.istore 6, 2) := by decide +kernel
theorem dX0_gather_47 : decode cX0_gather 47 = .ok (.iload 6, 2) := by decide +kernel
theorem dX0_gather_49 : decode cX0_gather 49 = .ok (.aload_n 0, 1) := by decide +kernel
theorem dX0_gather_50 : decode cX0_gather 50 = .ok (.getfield 30, 3) := by decide +kernel
theorem dX0_gather_53 : decode cX0_gather 53 = .ok (.getfield 75, 3) := by decide +kernel
theorem dX0_gather_56 : decode cX0_gather 56 = .ok (.if_icmp .ge 39, 3) := by decide +kernel
theorem dX0_gather_59 : decode cX0_gather 59 = .ok (.aload_n 0, 1) := by decide +kernel
theorem dX0_gather_60 : decode cX0_gather 60 = .ok (.getfield 18, 3) := by decide +kernel
theorem dX0_gather_63 : decode cX0_gather 63 = .ok (.iload 4, 2) := by decide +kernel
theorem dX0_gather_65 : decode cX0_gather 65 = .ok (.iload 6, 2) := by decide +kernel
theorem dX0_gather_67 : decode cX0_gather 67 = .ok (.iadd, 1) := by decide +kernel
theorem dX0_gather_68 : decode cX0_gather 68 = .ok (.aload_n 0, 1) := by decide +kernel
theorem dX0_gather_69 : decode cX0_gather 69 = .ok (.getfield 18, 3) := by decide +kernel
theorem dX0_gather_72 : decode cX0_gather 72 = .ok (.iload_n 3, 1) := by decide +kernel
theorem dX0_gather_73 : decode cX0_gather 73 = .ok (.iload 6, 2) := by decide +kernel
theorem dX0_gather_75 : decode cX0_gather 75 = .ok (.iadd, 1) := by decide +kernel
theorem dX0_gather_76 : decode cX0_gather 76 = .ok (.iaload, 1) := by decide +kernel
theorem dX0_gather_77 : decode cX0_gather 77 = .ok (.aload_n 0, 1) := by decide +kernel
theorem dX0_gather_78 : decode cX0_gather 78 = .ok (.getfield 9, 3) := by decide +kernel
theorem dX0_gather_81 : decode cX0_gather 81 = .ok (.iload 5, 2) := by decide +kernel
theorem dX0_gather_83 : decode cX0_gather 83 = .ok (.iload 6, 2) := by decide +kernel
theorem dX0_gather_85 : decode cX0_gather 85 = .ok (.iadd, 1) := by decide +kernel
theorem dX0_gather_86 : decode cX0_gather 86 = .ok (.iaload, 1) := by decide +kernel
theorem dX0_gather_87 : decode cX0_gather 87 = .ok (.iadd, 1) := by decide +kernel
theorem dX0_gather_88 : decode cX0_gather 88 = .ok (.iastore, 1) := by decide +kernel
theorem dX0_gather_89 : decode cX0_gather 89 = .ok (.iinc 6 1, 3) := by decide +kernel
theorem dX0_gather_92 : decode cX0_gather 92 = .ok (.goto (-45), 3) := by decide +kernel
theorem dX0_gather_95 : decode cX0_gather 95 = .ok (.return_, 1) := by decide +kernel
theorem dX0_canBecomeEnough_0 : decode cX0_canBecomeEnough 0 = .ok (.iload_n 1, 1) := by decide +kernel
theorem dX0_canBecomeEnough_1 : decode cX0_canBecomeEnough 1 = .ok (.bipush 16, 2) := by decide +kernel
theorem dX0_canBecomeEnough_3 : decode cX0_canBecomeEnough 3 = .ok (.imul, 1) := by decide +kernel
theorem dX0_canBecomeEnough_4 : decode cX0_canBecomeEnough 4 = .ok (.istore_n 2, 1) := by decide +kernel
theorem dX0_canBecomeEnough_5 : decode cX0_canBecomeEnough 5 = .ok (.iconst 0, 1) := by decide +kernel
theorem dX0_canBecomeEnough_6 : decode cX0_canBecomeEnough 6 = .ok (.istore_n 3, 1) := by decide +kernel
theorem dX0_canBecomeEnough_7 : decode cX0_canBecomeEnough 7 = .ok (.iload_n 3, 1) := by decide +kernel
theorem dX0_canBecomeEnough_8 : decode cX0_canBecomeEnough 8 = .ok (.aload_n 0, 1) := by decide +kernel
theorem dX0_canBecomeEnough_9 : decode cX0_canBecomeEnough 9 = .ok (.getfield 30, 3) := by decide +kernel
theorem dX0_canBecomeEnough_12 : decode cX0_canBecomeEnough 12 = .ok (.getfield 75, 3) := by decide +kernel
theorem dX0_canBecomeEnough_15 : decode cX0_canBecomeEnough 15 = .ok (.if_icmp .ge 40, 3) := by decide +kernel
theorem dX0_canBecomeEnough_18 : decode cX0_canBecomeEnough 18 = .ok (.aload_n 0, 1) := by decide +kernel
theorem dX0_canBecomeEnough_19 : decode cX0_canBecomeEnough 19 = .ok (.getfield 18, 3) := by decide +kernel
theorem dX0_canBecomeEnough_22 : decode cX0_canBecomeEnough 22 = .ok (.iload_n 2, 1) := by decide +kernel
theorem dX0_canBecomeEnough_23 : decode cX0_canBecomeEnough 23 = .ok (.iload_n 3, 1) := by decide +kernel
theorem dX0_canBecomeEnough_24 : decode cX0_canBecomeEnough 24 = .ok (.iadd, 1) := by decide +kernel
theorem dX0_canBecomeEnough_25 : decode cX0_canBecomeEnough 25 = .ok (.iaload, 1) := by decide +kernel
theorem dX0_canBecomeEnough_26 : decode cX0_canBecomeEnough 26 = .ok (.aload_n 0, 1) := by decide +kernel
theorem dX0_canBecomeEnough_27 : decode cX0_canBecomeEnough 27 = .ok (.getfield 15, 3) := by decide +kernel
theorem dX0_canBecomeEnough_30 : decode cX0_canBecomeEnough 30 = .ok (.iload_n 2, 1) := by decide +kernel
theorem dX0_canBecomeEnough_31 : decode cX0_canBecomeEnough 31 = .ok (.iload_n 3, 1) := by decide +kernel
theorem dX0_canBecomeEnough_32 : decode cX0_canBecomeEnough 32 = .ok (.iadd, 1) := by decide +kernel
theorem dX0_canBecomeEnough_33 : decode cX0_canBecomeEnough 33 = .ok (.iaload, 1) := by decide +kernel
theorem dX0_canBecomeEnough_34 : decode cX0_canBecomeEnough 34 = .ok (.iadd, 1) := by decide +kernel
theorem dX0_canBecomeEnough_35 : decode cX0_canBecomeEnough 35 = .ok (.aload_n 0, 1) := by decide +kernel
theorem dX0_canBecomeEnough_36 : decode cX0_canBecomeEnough 36 = .ok (.getfield 30, 3) := by decide +kernel
theorem dX0_canBecomeEnough_39 : decode cX0_canBecomeEnough 39 = .ok (.getfield 127, 3) := by decide +kernel
theorem dX0_canBecomeEnough_42 : decode cX0_canBecomeEnough 42 = .ok (.iload_n 3, 1) := by decide +kernel
theorem dX0_canBecomeEnough_43 : decode cX0_canBecomeEnough 43 = .ok (.iaload, 1) := by decide +kernel
theorem dX0_canBecomeEnough_44 : decode cX0_canBecomeEnough 44 = .ok (.if_icmp .ge 5, 3) := by decide +kernel
theorem dX0_canBecomeEnough_47 : decode cX0_canBecomeEnough 47 = .ok (.iconst 0, 1) := by decide +kernel
theorem dX0_canBecomeEnough_48 : decode cX0_canBecomeEnough 48 = .ok (.ireturn, 1) := by decide +kernel
theorem dX0_canBecomeEnough_49 : decode cX0_canBecomeEnough 49 = .ok (.iinc 3 1, 3) := by decide +kernel
theorem dX0_canBecomeEnough_52 : decode cX0_canBecomeEnough 52 = .ok (.goto (-45), 3) := by decide +kernel
theorem dX0_canBecomeEnough_55 : decode cX0_canBecomeEnough 55 = .ok (.iconst 1, 1) := by decide +kernel
theorem dX0_canBecomeEnough_56 : decode cX0_canBecomeEnough 56 = .ok (.ireturn, 1) := by decide +kernel
theorem dX0_weigh_0 : decode cX0_weigh 0 = .ok (.aload_n 0, 1) := by decide +kernel
theorem dX0_weigh_1 : decode cX0_weigh 1 = .ok (.getfield 30, 3) := by decide +kernel
theorem dX0_weigh_4 : decode cX0_weigh 4 = .ok (.getfield 65, 3) := by decide +kernel
theorem dX0_weigh_7 : decode cX0_weigh 7 = .ok (.bipush 16, 2) := by decide +kernel
theorem dX0_weigh_9 : decode cX0_weigh 9 = .ok (.imul, 1) := by decide +kernel
theorem dX0_weigh_10 : decode cX0_weigh 10 = .ok (.istore_n 2, 1) := by decide +kernel
theorem dX0_weigh_11 : decode cX0_weigh 11 = .ok (.aload_n 0, 1) := by decide +kernel
theorem dX0_weigh_12 : decode cX0_weigh 12 = .ok (.getfield 30, 3) := by decide +kernel
theorem dX0_weigh_15 : decode cX0_weigh 15 = .ok (.getfield 75, 3) := by decide +kernel
theorem dX0_weigh_18 : decode cX0_weigh 18 = .ok (.ifCond .le 13, 3) := by decide +kernel
theorem dX0_weigh_21 : decode cX0_weigh 21 = .ok (.aload_n 0, 1) := by decide +kernel
theorem dX0_weigh_22 : decode cX0_weigh 22 = .ok (.getfield 18, 3) := by decide +kernel
theorem dX0_weigh_25 : decode cX0_weigh 25 = .ok (.iload_n 2, 1) := by decide +kernel
theorem dX0_weigh_26 : decode cX0_weigh 26 = .ok (.iaload, 1) := by decide +kernel
theorem dX0_weigh_27 : decode cX0_weigh 27 = .ok (.i2l, 1) := by decide +kernel
theorem dX0_weigh_28 : decode cX0_weigh 28 = .ok (.goto 4, 3) := by decide +kernel
theorem dX0_weigh_31 : decode cX0_weigh 31 = .ok (.lconst 0, 1) := by decide +kernel
theorem dX0_weigh_32 : decode cX0_weigh 32 = .ok (.lstore_n 3, 1) := by decide +kernel
theorem dX0_weigh_33 : decode cX0_weigh 33 = .ok (.lconst 0, 1) := by decide +kernel
theorem dX0_weigh_34 : decode cX0_weigh 34 = .ok (.lstore 5, 2) := by decide +kernel
theorem dX0_weigh_36 : decode cX0_weigh 36 = .ok (.iconst 0, 1) := by decide +kernel
theorem dX0_weigh_37 : decode cX0_weigh 37 = .ok (.istore 7, 2) := by decide +kernel
theorem dX0_weigh_39 : decode cX0_weigh 39 = .ok (.iload 7, 2) := by decide +kernel
theorem dX0_weigh_41 : decode cX0_weigh 41 = .ok (.aload_n 0, 1) := by decide +kernel
theorem dX0_weigh_42 : decode cX0_weigh 42 = .ok (.getfield 30, 3) := by decide +kernel
theorem dX0_weigh_45 : decode cX0_weigh 45 = .ok (.getfield 75, 3) := by decide +kernel
theorem dX0_weigh_48 : decode cX0_weigh 48 = .ok (.if_icmp .ge 39, 3) := by decide +kernel
theorem dX0_weigh_51 : decode cX0_weigh 51 = .ok (.lload_n 3, 1) := by decide +kernel
theorem dX0_weigh_52 : decode cX0_weigh 52 = .ok (.aload_n 0, 1) := by decide +kernel
theorem dX0_weigh_53 : decode cX0_weigh 53 = .ok (.getfield 18, 3) := by decide +kernel
theorem dX0_weigh_56 : decode cX0_weigh 56 = .ok (.iload_n 2, 1) := by decide +kernel
theorem dX0_weigh_57 : decode cX0_weigh 57 = .ok (.iload 7, 2) := by decide +kernel
theorem dX0_weigh_59 : decode cX0_weigh 59 = .ok (.iadd, 1) := by decide +kernel
theorem dX0_weigh_60 : decode cX0_weigh 60 = .ok (.iaload, 1) := by decide +kernel
theorem dX0_weigh_61 : decode cX0_weigh 61 = .ok (.i2l, 1) := by decide +kernel
theorem dX0_weigh_62 : decode cX0_weigh 62 = .ok (.invokestatic 130, 3) := by decide +kernel
theorem dX0_weigh_65 : decode cX0_weigh 65 = .ok (.lstore_n 3, 1) := by decide +kernel
theorem dX0_weigh_66 : decode cX0_weigh 66 = .ok (.lload 5, 2) := by decide +kernel
theorem dX0_weigh_68 : decode cX0_weigh 68 = .ok (.aload_n 0, 1) := by decide +kernel
theorem dX0_weigh_69 : decode cX0_weigh 69 = .ok (.getfield 18, 3) := by decide +kernel
theorem dX0_weigh_72 : decode cX0_weigh 72 = .ok (.iload_n 2, 1) := by decide +kernel
theorem dX0_weigh_73 : decode cX0_weigh 73 = .ok (.iload 7, 2) := by decide +kernel
theorem dX0_weigh_75 : decode cX0_weigh 75 = .ok (.iadd, 1) := by decide +kernel
theorem dX0_weigh_76 : decode cX0_weigh 76 = .ok (.iaload, 1) := by decide +kernel
theorem dX0_weigh_77 : decode cX0_weigh 77 = .ok (.i2l, 1) := by decide +kernel
theorem dX0_weigh_78 : decode cX0_weigh 78 = .ok (.ladd, 1) := by decide +kernel
theorem dX0_weigh_79 : decode cX0_weigh 79 = .ok (.lstore 5, 2) := by decide +kernel
theorem dX0_weigh_81 : decode cX0_weigh 81 = .ok (.iinc 7 1, 3) := by decide +kernel
theorem dX0_weigh_84 : decode cX0_weigh 84 = .ok (.goto (-45), 3) := by decide +kernel
theorem dX0_weigh_87 : decode cX0_weigh 87 = .ok (.lload 5, 2) := by decide +kernel
theorem dX0_weigh_89 : decode cX0_weigh 89 = .ok (.lconst 1, 1) := by decide +kernel
theorem dX0_weigh_90 : decode cX0_weigh 90 = .ok (.invokestatic 133, 3) := by decide +kernel
theorem dX0_weigh_93 : decode cX0_weigh 93 = .ok (.lstore 5, 2) := by decide +kernel
theorem dX0_weigh_95 : decode cX0_weigh 95 = .ok (.aload_n 0, 1) := by decide +kernel
theorem dX0_weigh_96 : decode cX0_weigh 96 = .ok (.getfield 38, 3) := by decide +kernel
theorem dX0_weigh_99 : decode cX0_weigh 99 = .ok (.ifCond .eq 36, 3) := by decide +kernel
theorem dX0_weigh_102 : decode cX0_weigh 102 = .ok (.iload_n 1, 1) := by decide +kernel
theorem dX0_weigh_103 : decode cX0_weigh 103 = .ok (.aload_n 0, 1) := by decide +kernel
theorem dX0_weigh_104 : decode cX0_weigh 104 = .ok (.getfield 115, 3) := by decide +kernel
theorem dX0_weigh_107 : decode cX0_weigh 107 = .ok (.if_icmp .lt 28, 3) := by decide +kernel
theorem dX0_weigh_110 : decode cX0_weigh 110 = .ok (.iload_n 1, 1) := by decide +kernel
theorem dX0_weigh_111 : decode cX0_weigh 111 = .ok (.aload_n 0, 1) := by decide +kernel
theorem dX0_weigh_112 : decode cX0_weigh 112 = .ok (.getfield 115, 3) := by decide +kernel
theorem dX0_weigh_115 : decode cX0_weigh 115 = .ok (.if_icmp .ne 81, 3) := by decide +kernel
theorem dX0_weigh_118 : decode cX0_weigh 118 = .ok (.lload_n 3, 1) := by decide +kernel
theorem dX0_weigh_119 : decode cX0_weigh 119 = .ok (.aload_n 0, 1) := by decide +kernel
theorem dX0_weigh_120 : decode cX0_weigh 120 = .ok (.getfield 78, 3) := by decide +kernel
theorem dX0_weigh_123 : decode cX0_weigh 123 = .ok (.lmul, 1) := by decide +kernel
theorem dX0_weigh_124 : decode cX0_weigh 124 = .ok (.aload_n 0, 1) := by decide +kernel
theorem dX0_weigh_125 : decode cX0_weigh 125 = .ok (.getfield 71, 3) := by decide +kernel
theorem dX0_weigh_128 : decode cX0_weigh 128 = .ok (.lload 5, 2) := by decide +kernel
theorem dX0_weigh_130 : decode cX0_weigh 130 = .ok (.lmul, 1) := by decide +kernel
theorem dX0_weigh_131 : decode cX0_weigh 131 = .ok (.lcmp, 1) := by decide +kernel
theorem dX0_weigh_132 : decode cX0_weigh 132 = .ok (.ifCond .le 64, 3) := by decide +kernel
theorem dX0_weigh_135 : decode cX0_weigh 135 = .ok (.aload_n 0, 1) := by decide +kernel
theorem dX0_weigh_136 : decode cX0_weigh 136 = .ok (.iconst 1, 1) := by decide +kernel
theorem dX0_weigh_137 : decode cX0_weigh 137 = .ok (.putfield 38, 3) := by decide +kernel
theorem dX0_weigh_140 : decode cX0_weigh 140 = .ok (.aload_n 0, 1) := by decide +kernel
theorem dX0_weigh_141 : decode cX0_weigh 141 = .ok (.iload_n 1, 1) := by decide +kernel
theorem dX0_weigh_142 : decode cX0_weigh 142 = .ok (.putfield 115, 3) := by decide +kernel
theorem dX0_weigh_145 : decode cX0_weigh 145 = .ok (.aload_n 0, 1) := by decide +kernel
theorem dX0_weigh_146 : decode cX0_weigh 146 = .ok (.lload_n 3, 1) := by decide +kernel
theorem dX0_weigh_147 : decode cX0_weigh 147 = .ok (.putfield 71, 3) := by decide +kernel
theorem dX0_weigh_150 : decode cX0_weigh 150 = .ok (.aload_n 0, 1) := by decide +kernel
theorem dX0_weigh_151 : decode cX0_weigh 151 = .ok (.lload 5, 2) := by decide +kernel
theorem dX0_weigh_153 : decode cX0_weigh 153 = .ok (.putfield 78, 3) := by decide +kernel
theorem dX0_weigh_156 : decode cX0_weigh 156 = .ok (.aload_n 0, 1) := by decide +kernel
theorem dX0_weigh_157 : decode cX0_weigh 157 = .ok (.getfield 21, 3) := by decide +kernel
theorem dX0_weigh_160 : decode cX0_weigh 160 = .ok (.iconst 0, 1) := by decide +kernel
theorem dX0_weigh_161 : decode cX0_weigh 161 = .ok (.aload_n 0, 1) := by decide +kernel
theorem dX0_weigh_162 : decode cX0_weigh 162 = .ok (.getfield 24, 3) := by decide +kernel
theorem dX0_weigh_165 : decode cX0_weigh 165 = .ok (.iconst 0, 1) := by decide +kernel
theorem dX0_weigh_166 : decode cX0_weigh 166 = .ok (.aload_n 0, 1) := by decide +kernel
theorem dX0_weigh_167 : decode cX0_weigh 167 = .ok (.getfield 30, 3) := by decide +kernel
theorem dX0_weigh_170 : decode cX0_weigh 170 = .ok (.getfield 65, 3) := by decide +kernel
theorem dX0_weigh_173 : decode cX0_weigh 173 = .ok (.invokestatic 121, 3) := by decide +kernel
theorem dX0_weigh_176 : decode cX0_weigh 176 = .ok (.aload_n 0, 1) := by decide +kernel
theorem dX0_weigh_177 : decode cX0_weigh 177 = .ok (.getfield 18, 3) := by decide +kernel
theorem dX0_weigh_180 : decode cX0_weigh 180 = .ok (.iload_n 2, 1) := by decide +kernel
theorem dX0_weigh_181 : decode cX0_weigh 181 = .ok (.aload_n 0, 1) := by decide +kernel
theorem dX0_weigh_182 : decode cX0_weigh 182 = .ok (.getfield 27, 3) := by decide +kernel
theorem dX0_weigh_185 : decode cX0_weigh 185 = .ok (.iconst 0, 1) := by decide +kernel
theorem dX0_weigh_186 : decode cX0_weigh 186 = .ok (.aload_n 0, 1) := by decide +kernel
theorem dX0_weigh_187 : decode cX0_weigh 187 = .ok (.getfield 30, 3) := by decide +kernel
theorem dX0_weigh_190 : decode cX0_weigh 190 = .ok (.getfield 75, 3) := by decide +kernel
theorem dX0_weigh_193 : decode cX0_weigh 193 = .ok (.invokestatic 121, 3) := by decide +kernel
theorem dX0_weigh_196 : decode cX0_weigh 196 = .ok (.return_, 1) := by decide +kernel
theorem dX1_init_0 : decode cX1_init 0 = .ok (.aload_n 0, 1) := by decide +kernel
theorem dX1_init_1 : decode cX1_init 1 = .ok (.invokespecial 3, 3) := by decide +kernel
theorem dX1_init_4 : decode cX1_init 4 = .ok (.aload_n 0, 1) := by decide +kernel
theorem dX1_init_5 : decode cX1_init 5 = .ok (.bipush 7, 2) := by decide +kernel
theorem dX1_init_7 : decode cX1_init 7 = .ok (.newarray .int, 2) := by decide +kernel
theorem dX1_init_9 : decode cX1_init 9 = .ok (.putfield 9, 3) := by decide +kernel
theorem dX1_init_12 : decode cX1_init 12 = .ok (.aload_n 0, 1) := by decide +kernel
theorem dX1_init_13 : decode cX1_init 13 = .ok (.bipush 16, 2) := by decide +kernel
theorem dX1_init_15 : decode cX1_init 15 = .ok (.newarray .int, 2) := by decide +kernel
theorem dX1_init_17 : decode cX1_init 17 = .ok (.putfield 15, 3) := by decide +kernel
theorem dX1_init_20 : decode cX1_init 20 = .ok (.aload_n 0, 1) := by decide +kernel
theorem dX1_init_21 : decode cX1_init 21 = .ok (.bipush 7, 2) := by decide +kernel
theorem dX1_init_23 : decode cX1_init 23 = .ok (.newarray .int, 2) := by decide +kernel
theorem dX1_init_25 : decode cX1_init 25 = .ok (.putfield 18, 3) := by decide +kernel
theorem dX1_init_28 : decode cX1_init 28 = .ok (.aload_n 0, 1) := by decide +kernel
theorem dX1_init_29 : decode cX1_init 29 = .ok (.bipush 7, 2) := by decide +kernel
theorem dX1_init_31 : decode cX1_init 31 = .ok (.newarray .int, 2) := by decide +kernel
theorem dX1_init_33 : decode cX1_init 33 = .ok (.putfield 21, 3) := by decide +kernel
theorem dX1_init_36 : decode cX1_init 36 = .ok (.aload_n 0, 1) := by decide +kernel
theorem dX1_init_37 : decode cX1_init 37 = .ok (.bipush 10, 2) := by decide +kernel
theorem dX1_init_39 : decode cX1_init 39 = .ok (.putfield 24, 3) := by decide +kernel
theorem dX1_init_42 : decode cX1_init 42 = .ok (.aload_n 0, 1) := by decide +kernel
theorem dX1_init_43 : decode cX1_init 43 = .ok (.aload_n 1, 1) := by decide +kernel
theorem dX1_init_44 : decode cX1_init 44 = .ok (.putfield 28, 3) := by decide +kernel
theorem dX1_init_47 : decode cX1_init 47 = .ok (.aload_n 0, 1) := by decide +kernel
theorem dX1_init_48 : decode cX1_init 48 = .ok (.aload_n 2, 1) := by decide +kernel
theorem dX1_init_49 : decode cX1_init 49 = .ok (.putfield 32, 3) := by decide +kernel
theorem dX1_init_52 : decode cX1_init 52 = .ok (.iconst 0, 1) := by decide +kernel
theorem dX1_init_53 : decode cX1_init 53 = .ok (.istore_n 3, 1) := by decide +kernel
theorem dX1_init_54 : decode cX1_init 54 = .ok (.iload_n 3, 1) := by decide +kernel
theorem dX1_init_55 : decode cX1_init 55 = .ok (.bipush 7, 2) := by decide +kernel
theorem dX1_init_57 : decode cX1_init 57 = .ok (.if_icmp .ge 16, 3) := by decide +kernel
theorem dX1_init_60 : decode cX1_init 60 = .ok (.aload_n 0, 1) := by decide +kernel
theorem dX1_init_61 : decode cX1_init 61 = .ok (.getfield 9, 3) := by decide +kernel
theorem dX1_init_64 : decode cX1_init 64 = .ok (.iload_n 3, 1) := by decide +kernel
theorem dX1_init_65 : decode cX1_init 65 = .ok (.iconst (-1), 1) := by decide +kernel
theorem dX1_init_66 : decode cX1_init 66 = .ok (.iastore, 1) := by decide +kernel
theorem dX1_init_67 : decode cX1_init 67 = .ok (.iinc 3 1, 3) := by decide +kernel
theorem dX1_init_70 : decode cX1_init 70 = .ok (.goto (-16), 3) := by decide +kernel
theorem dX1_init_73 : decode cX1_init 73 = .ok (.return_, 1) := by decide +kernel
set_option maxRecDepth 20000 in
theorem ggX1_startAnew_J7_fill_53178 : GoodIn wsX1_startAnew wsJ7_fill_53178 := goodIn_r _ [6] (by decide +kernel) (by decide +kernel)
set_option maxRecDepth 20000 in
theorem gX1_startAnew_J7_fill_53178 : GoodIn wsX1_startAnew (va_wsS RX1 36 yJ7_fill_53178 wsJ7_fill_53178) := goodIn_app (goodIn_of _ (by decide +kernel)) ggX1_startAnew_J7_fill_53178
theorem dX1_startAnew_0 : decode cX1_startAnew 0 = .ok (.aload_n 0, 1) := by decide +kernel
theorem dX1_startAnew_1 : decode cX1_startAnew 1 = .ok (.getfield 18, 3) := by decide +kernel
theorem dX1_startAnew_4 : decode cX1_startAnew 4 = .ok (.iconst 0, 1) := by decide +kernel
theorem dX1_startAnew_5 : decode cX1_startAnew 5 = .ok (.invokestatic 36, 3) := by decide +kernel
theorem dX1_startAnew_8 : decode cX1_startAnew 8 = .ok (.aload_n 0, 1) := by decide +kernel
theorem dX1_startAnew_9 : decode cX1_startAnew 9 = .ok (.getfield 21, 3) := by decide +kernel
theorem dX1_startAnew_12 : decode cX1_startAnew 12 = .ok (.iconst 0, 1) := by decide +kernel
theorem dX1_startAnew_13 : decode cX1_startAnew 13 = .ok (.invokestatic 36, 3) := by decide +kernel
theorem dX1_startAnew_16 : decode cX1_startAnew 16 = .ok (.return_, 1) := by decide +kernel
set_option maxRecDepth 20000 in
theorem ggX1_pass_X1_follow : GoodIn wsX1_pass wsX1_follow := goodIn_r _ [10, 11, 12, 13, 14, 9, 15, 16, 1, 17, 18, 3, 19, 20, 21, 22, 23, 24, 25, 26, 27, 28, 29, 30, 31, 32, 33, 34, 35, 36, 37, 38, 39, 40, 41, 42, 43, 44, 45, 46, 47, 48, 49, 50, 51, 4, 52, 53, 54, 55, 56, 57, 58, 59, 60, 61, 62, 63, 64, 65, 66, 67, 68, 69, 70, 71, 72, 73, 74, 75, 76, 77, 78, 79, 80, 81, 82, 83, 84, 85, 86, 87, 88, 89, 90, 91, 92, 93, 94, 95] (by decide +kernel) (by decide +kernel)
set_option maxRecDepth 20000 in
theorem gX1_pass_X1_follow : GoodIn wsX1_pass (wsV RX1 52 RX1 yX1_follow wsX1_follow) := goodIn_app (goodIn_of _ (by decide +kernel)) ggX1_pass_X1_follow
theorem dX1_pass_0 : decode cX1_pass 0 = .ok (.iconst 0, 1) := by decide +kernel
theorem dX1_pass_1 : decode cX1_pass 1 = .ok (.istore_n 2, 1) := by decide +kernel
theorem dX1_pass_2 : decode cX1_pass 2 = .ok (.iload_n 2, 1) := by decide +kernel
theorem dX1_pass_3 : decode cX1_pass 3 = .ok (.aload_n 0, 1) := by decide +kernel
theorem dX1_pass_4 : decode cX1_pass 4 = .ok (.getfield 28, 3) := by decide +kernel
theorem dX1_pass_7 : decode cX1_pass 7 = .ok (.getfield 42, 3) := by decide +kernel
theorem dX1_pass_10 : decode cX1_pass 10 = .ok (.if_icmp .ge 28, 3) := by decide +kernel
theorem dX1_pass_13 : decode cX1_pass 13 = .ok (.aload_n 0, 1) := by decide +kernel
theorem dX1_pass_14 : decode cX1_pass 14 = .ok (.getfield 32, 3) := by decide +kernel
theorem dX1_pass_17 : decode cX1_pass 17 = .ok (.getfield 47, 3) := by decide +kernel
theorem dX1_pass_20 : decode cX1_pass 20 = .ok (.iload_n 2, 1) := by decide +kernel
theorem dX1_pass_21 : decode cX1_pass 21 = .ok (.iaload, 1) := by decide +kernel
theorem dX1_pass_22 : decode cX1_pass 22 = .ok (.iconst (-1), 1) := by decide +kernel
theorem dX1_pass_23 : decode cX1_pass 23 = .ok (.if_icmp .eq 9, 3) := by decide +kernel
theorem dX1_pass_26 : decode cX1_pass 26 = .ok (.aload_n 0, 1) := by decide +kernel
theorem dX1_pass_27 : decode cX1_pass 27 = .ok (.iload_n 2, 1) := by decide +kernel
theorem dX1_pass_28 : decode cX1_pass 28 = .ok (.iload_n 1, 1) := by decide +kernel
theorem dX1_pass_29 : decode cX1_pass 29 = .ok (.invokevirtual 52, 3) := by decide +kernel
theorem dX1_pass_32 : decode cX1_pass 32 = .ok (.iinc 2 1, 3) := by decide +kernel
theorem dX1_pass_35 : decode cX1_pass 35 = .ok (.goto (-33), 3) := by decide +kernel
theorem dX1_pass_38 : decode cX1_pass 38 = .ok (.aload_n 0, 1) := by decide +kernel
theorem dX1_pass_39 : decode cX1_pass 39 = .ok (.dup, 1) := by decide +kernel
theorem dX1_pass_40 : decode cX1_pass 40 = .ok (.getfield 56, 3) := by decide +kernel
theorem dX1_pass_43 : decode cX1_pass 43 = .ok (.iload_n 1, 1) := by decide +kernel
theorem dX1_pass_44 : decode cX1_pass 44 = .ok (.iadd, 1) := by decide +kernel
theorem dX1_pass_45 : decode cX1_pass 45 = .ok (.putfield 56, 3) := by decide +kernel
theorem dX1_pass_48 : decode cX1_pass 48 = .ok (.return_, 1) := by decide +kernel
set_option maxRecDepth 20000 in
theorem ggX1_follow_X1_needOf : GoodIn wsX1_follow wsX1_needOf := goodIn_r _ [6, 7, 8, 9, 10, 11, 12, 13, 14, 15, 16, 17, 18, 19, 20, 21, 22, 23, 24, 25, 26, 27, 28, 29, 53, 54, 55, 56, 57, 58, 59, 60, 61, 62, 63, 64, 65, 66, 67, 68, 69, 70, 71, 72, 73, 74, 75, 76, 77, 78, 79, 80, 81, 82, 83, 84, 85, 86, 87, 88, 89] (by decide +kernel) (by decide +kernel)
set_option maxRecDepth 20000 in
theorem gX1_follow_X1_needOf : GoodIn wsX1_follow (wsV RX1 59 RX1 yX1_needOf wsX1_needOf) := goodIn_app (goodIn_of _ (by decide +kernel)) ggX1_follow_X1_needOf
set_option maxRecDepth 20000 in
theorem ggX1_follow_X1_stepTowards : GoodIn wsX1_follow wsX1_stepTowards := goodIn_r _ [33, 34, 35, 36, 15, 37, 38, 39, 40, 53, 54, 55, 56, 57, 58, 59, 60, 61, 62, 63] (by decide +kernel) (by decide +kernel)
set_option maxRecDepth 20000 in
theorem gX1_follow_X1_stepTowards : GoodIn wsX1_follow (wsV RX1 63 RX1 yX1_stepTowards wsX1_stepTowards) := goodIn_app (goodIn_of _ (by decide +kernel)) ggX1_follow_X1_stepTowards
set_option maxRecDepth 20000 in
theorem ggX1_follow_X1_shine : GoodIn wsX1_follow wsX1_shine := goodIn_r _ [44, 11, 45, 1, 46, 8, 47, 48, 49, 50, 51, 52, 27, 28, 29, 53, 54, 55, 56, 57, 58, 59, 60, 61, 62, 63, 78, 79, 80, 81, 82, 83, 84, 85, 86, 87, 88, 89, 64, 65, 66, 67, 68, 69, 70, 71, 72, 73, 74, 75, 76, 77] (by decide +kernel) (by decide +kernel)
set_option maxRecDepth 20000 in
theorem gX1_follow_X1_shine : GoodIn wsX1_follow (wsV RX1 67 RX1 yX1_shine wsX1_shine) := goodIn_app (goodIn_of _ (by decide +kernel)) ggX1_follow_X1_shine
theorem dX1_follow_0 : decode cX1_follow 0 = .ok (.aload_n 0, 1) := by decide +kernel
theorem dX1_follow_1 : decode cX1_follow 1 = .ok (.iload_n 1, 1) := by decide +kernel
theorem dX1_follow_2 : decode cX1_follow 2 = .ok (.invokevirtual 59, 3) := by decide +kernel
theorem dX1_follow_5 : decode cX1_follow 5 = .ok (.istore_n 3, 1) := by decide +kernel
theorem dX1_follow_6 : decode cX1_follow 6 = .ok (.iload_n 2, 1) := by decide +kernel
theorem dX1_follow_7 : decode cX1_follow 7 = .ok (.istore 4, 2) := by decide +kernel
theorem dX1_follow_9 : decode cX1_follow 9 = .ok (.iload 4, 2) := by decide +kernel
theorem dX1_follow_11 : decode cX1_follow 11 = .ok (.ifCond .le 42, 3) := by decide +kernel
theorem dX1_follow_14 : decode cX1_follow 14 = .ok (.aload_n 0, 1) := by decide +kernel
theorem dX1_follow_15 : decode cX1_follow 15 = .ok (.getfield 18, 3) := by decide +kernel
theorem dX1_follow_18 : decode cX1_follow 18 = .ok (.iload_n 1, 1) := by decide +kernel
theorem dX1_follow_19 : decode cX1_follow 19 = .ok (.iaload, 1) := by decide +kernel
theorem dX1_follow_20 : decode cX1_follow 20 = .ok (.iload_n 3, 1) := by decide +kernel
theorem dX1_follow_21 : decode cX1_follow 21 = .ok (.if_icmp .eq 32, 3) := by decide +kernel
theorem dX1_follow_24 : decode cX1_follow 24 = .ok (.aload_n 0, 1) := by decide +kernel
theorem dX1_follow_25 : decode cX1_follow 25 = .ok (.getfield 18, 3) := by decide +kernel
theorem dX1_follow_28 : decode cX1_follow 28 = .ok (.iload_n 1, 1) := by decide +kernel
theorem dX1_follow_29 : decode cX1_follow 29 = .ok (.aload_n 0, 1) := by decide +kernel
theorem dX1_follow_30 : decode cX1_follow 30 = .ok (.aload_n 0, 1) := by decide +kernel
theorem dX1_follow_31 : decode cX1_follow 31 = .ok (.getfield 18, 3) := by decide +kernel
theorem dX1_follow_34 : decode cX1_follow 34 = .ok (.iload_n 1, 1) := by decide +kernel
theorem dX1_follow_35 : decode cX1_follow 35 = .ok (.iaload, 1) := by decide +kernel
theorem dX1_follow_36 : decode cX1_follow 36 = .ok (.iload_n 3, 1) := by decide +kernel
theorem dX1_follow_37 : decode cX1_follow 37 = .ok (.invokevirtual 63, 3) := by decide +kernel
theorem dX1_follow_40 : decode cX1_follow 40 = .ok (.iastore, 1) := by decide +kernel
theorem dX1_follow_41 : decode cX1_follow 41 = .ok (.aload_n 0, 1) := by decide +kernel
theorem dX1_follow_42 : decode cX1_follow 42 = .ok (.iload_n 1, 1) := by decide +kernel
theorem dX1_follow_43 : decode cX1_follow 43 = .ok (.iconst 1, 1) := by decide +kernel
theorem dX1_follow_44 : decode cX1_follow 44 = .ok (.invokevirtual 67, 3) := by decide +kernel
theorem dX1_follow_47 : decode cX1_follow 47 = .ok (.iinc 4 (-1), 3) := by decide +kernel
theorem dX1_follow_50 : decode cX1_follow 50 = .ok (.goto (-41), 3) := by decide +kernel
theorem dX1_follow_53 : decode cX1_follow 53 = .ok (.aload_n 0, 1) := by decide +kernel
theorem dX1_follow_54 : decode cX1_follow 54 = .ok (.iload_n 1, 1) := by decide +kernel
theorem dX1_follow_55 : decode cX1_follow 55 = .ok (.iload 4, 2) := by decide +kernel
theorem dX1_follow_57 : decode cX1_follow 57 = .ok (.invokevirtual 67, 3) := by decide +kernel
theorem dX1_follow_60 : decode cX1_follow 60 = .ok (.return_, 1) := by decide +kernel
theorem dX1_stepTowards_0 : decode cX1_stepTowards 0 = .ok (.iload_n 1, 1) := by decide +kernel
theorem dX1_stepTowards_1 : decode cX1_stepTowards 1 = .ok (.aload_n 0, 1) := by decide +kernel
theorem dX1_stepTowards_2 : decode cX1_stepTowards 2 = .ok (.getfield 24, 3) := by decide +kernel
theorem dX1_stepTowards_5 : decode cX1_stepTowards 5 = .ok (.isub, 1) := by decide +kernel
theorem dX1_stepTowards_6 : decode cX1_stepTowards 6 = .ok (.iload_n 1, 1) := by decide +kernel
theorem dX1_stepTowards_7 : decode cX1_stepTowards 7 = .ok (.aload_n 0, 1) := by decide +kernel
end
section
theorem dX1_stepTowards_8 : decode cX1_stepTowards 8 = .ok (.getfield 24, 3) := by decide +kernel
theorem dX1_stepTowards_11 : decode cX1_stepTowards 11 = .ok (.iadd, 1) := by decide +kernel
theorem dX1_stepTowards_12 : decode cX1_stepTowards 12 = .ok (.iload_n 2, 1) := by decide +kernel
theorem dX1_stepTowards_13 : decode cX1_stepTowards 13 = .ok (.invokestatic 70, 3) := by decide +kernel
theorem dX1_stepTowards_16 : decode cX1_stepTowards 16 = .ok (.invokestatic 75, 3) := by decide +kernel
theorem dX1_stepTowards_19 : decode cX1_stepTowards 19 = .ok (.ireturn, 1) := by decide +kernel
set_option maxRecDepth 20000 in
theorem ggX1_needOf_X0_lampLight : GoodIn wsX1_needOf wsX0_lampLight := goodIn_r _ [15, 16, 17, 18, 19, 14, 20, 49, 50, 51, 52, 53, 54, 55, 56, 57, 58, 59, 60] (by decide +kernel) (by decide +kernel)
set_option maxRecDepth 20000 in
theorem gX1_needOf_X0_lampLight : GoodIn wsX1_needOf (wsV RX1 81 RX0 yX0_lampLight wsX0_lampLight) := goodIn_app (goodIn_of _ (by decide +kernel)) ggX1_needOf_X0_lampLight
set_option maxRecDepth 20000 in
theorem ggX1_needOf_X4_quotient : GoodIn wsX1_needOf wsX4_quotient := goodIn_r _ [23] (by decide +kernel) (by decide +kernel)
set_option maxRecDepth 20000 in
theorem gX1_needOf_X4_quotient_n86 : GoodIn wsX1_needOf (wsX4_quotient) := ggX1_needOf_X4_quotient
theorem dX1_needOf_0 : decode cX1_needOf 0 = .ok (.aload_n 0, 1) := by decide +kernel
theorem dX1_needOf_1 : decode cX1_needOf 1 = .ok (.getfield 9, 3) := by decide +kernel
theorem dX1_needOf_4 : decode cX1_needOf 4 = .ok (.iload_n 1, 1) := by decide +kernel
theorem dX1_needOf_5 : decode cX1_needOf 5 = .ok (.iaload, 1) := by decide +kernel
theorem dX1_needOf_6 : decode cX1_needOf 6 = .ok (.istore_n 2, 1) := by decide +kernel
theorem dX1_needOf_7 : decode cX1_needOf 7 = .ok (.iload_n 2, 1) := by decide +kernel
theorem dX1_needOf_8 : decode cX1_needOf 8 = .ok (.ifCond .ge 6, 3) := by decide +kernel
theorem dX1_needOf_11 : decode cX1_needOf 11 = .ok (.bipush 100, 2) := by decide +kernel
theorem dX1_needOf_13 : decode cX1_needOf 13 = .ok (.ireturn, 1) := by decide +kernel
theorem dX1_needOf_14 : decode cX1_needOf 14 = .ok (.aload_n 0, 1) := by decide +kernel
theorem dX1_needOf_15 : decode cX1_needOf 15 = .ok (.getfield 28, 3) := by decide +kernel
theorem dX1_needOf_18 : decode cX1_needOf 18 = .ok (.getfield 78, 3) := by decide +kernel
theorem dX1_needOf_21 : decode cX1_needOf 21 = .ok (.iload_n 2, 1) := by decide +kernel
theorem dX1_needOf_22 : decode cX1_needOf 22 = .ok (.iaload, 1) := by decide +kernel
theorem dX1_needOf_23 : decode cX1_needOf 23 = .ok (.aload_n 0, 1) := by decide +kernel
theorem dX1_needOf_24 : decode cX1_needOf 24 = .ok (.getfield 15, 3) := by decide +kernel
theorem dX1_needOf_27 : decode cX1_needOf 27 = .ok (.iload_n 2, 1) := by decide +kernel
theorem dX1_needOf_28 : decode cX1_needOf 28 = .ok (.iaload, 1) := by decide +kernel
theorem dX1_needOf_29 : decode cX1_needOf 29 = .ok (.isub, 1) := by decide +kernel
theorem dX1_needOf_30 : decode cX1_needOf 30 = .ok (.istore_n 3, 1) := by decide +kernel
theorem dX1_needOf_31 : decode cX1_needOf 31 = .ok (.iload_n 3, 1) := by decide +kernel
theorem dX1_needOf_32 : decode cX1_needOf 32 = .ok (.ifCond .gt 5, 3) := by decide +kernel
theorem dX1_needOf_35 : decode cX1_needOf 35 = .ok (.iconst 0, 1) := by decide +kernel
theorem dX1_needOf_36 : decode cX1_needOf 36 = .ok (.ireturn, 1) := by decide +kernel
theorem dX1_needOf_37 : decode cX1_needOf 37 = .ok (.aload_n 0, 1) := by decide +kernel
theorem dX1_needOf_38 : decode cX1_needOf 38 = .ok (.getfield 32, 3) := by decide +kernel
theorem dX1_needOf_41 : decode cX1_needOf 41 = .ok (.iload_n 1, 1) := by decide +kernel
theorem dX1_needOf_42 : decode cX1_needOf 42 = .ok (.iload_n 2, 1) := by decide +kernel
theorem dX1_needOf_43 : decode cX1_needOf 43 = .ok (.invokevirtual 81, 3) := by decide +kernel
theorem dX1_needOf_46 : decode cX1_needOf 46 = .ok (.i2l, 1) := by decide +kernel
theorem dX1_needOf_47 : decode cX1_needOf 47 = .ok (.lstore 4, 2) := by decide +kernel
theorem dX1_needOf_49 : decode cX1_needOf 49 = .ok (.lload 4, 2) := by decide +kernel
theorem dX1_needOf_51 : decode cX1_needOf 51 = .ok (.lconst 0, 1) := by decide +kernel
theorem dX1_needOf_52 : decode cX1_needOf 52 = .ok (.lcmp, 1) := by decide +kernel
theorem dX1_needOf_53 : decode cX1_needOf 53 = .ok (.ifCond .ne 6, 3) := by decide +kernel
theorem dX1_needOf_56 : decode cX1_needOf 56 = .ok (.bipush 100, 2) := by decide +kernel
theorem dX1_needOf_58 : decode cX1_needOf 58 = .ok (.ireturn, 1) := by decide +kernel
theorem dX1_needOf_59 : decode cX1_needOf 59 = .ok (.ldc2_w 84, 3) := by decide +kernel
theorem dX1_needOf_62 : decode cX1_needOf 62 = .ok (.ldc2_w 84, 3) := by decide +kernel
theorem dX1_needOf_65 : decode cX1_needOf 65 = .ok (.iload_n 3, 1) := by decide +kernel
theorem dX1_needOf_66 : decode cX1_needOf 66 = .ok (.i2l, 1) := by decide +kernel
theorem dX1_needOf_67 : decode cX1_needOf 67 = .ok (.lmul, 1) := by decide +kernel
theorem dX1_needOf_68 : decode cX1_needOf 68 = .ok (.lload 4, 2) := by decide +kernel
theorem dX1_needOf_70 : decode cX1_needOf 70 = .ok (.ladd, 1) := by decide +kernel
theorem dX1_needOf_71 : decode cX1_needOf 71 = .ok (.lconst 1, 1) := by decide +kernel
theorem dX1_needOf_72 : decode cX1_needOf 72 = .ok (.lsub, 1) := by decide +kernel
theorem dX1_needOf_73 : decode cX1_needOf 73 = .ok (.lload 4, 2) := by decide +kernel
theorem dX1_needOf_75 : decode cX1_needOf 75 = .ok (.invokestatic 86, 3) := by decide +kernel
theorem dX1_needOf_78 : decode cX1_needOf 78 = .ok (.invokestatic 90, 3) := by decide +kernel
theorem dX1_needOf_81 : decode cX1_needOf 81 = .ok (.l2i, 1) := by decide +kernel
theorem dX1_needOf_82 : decode cX1_needOf 82 = .ok (.ireturn, 1) := by decide +kernel
set_option maxRecDepth 20000 in
theorem ggX1_shine_X4_quotient : GoodIn wsX1_shine wsX4_quotient := goodIn_r _ [14] (by decide +kernel) (by decide +kernel)
set_option maxRecDepth 20000 in
theorem gX1_shine_X4_quotient_n86 : GoodIn wsX1_shine (wsX4_quotient) := ggX1_shine_X4_quotient
theorem dX1_shine_0 : decode cX1_shine 0 = .ok (.aload_n 0, 1) := by decide +kernel
theorem dX1_shine_1 : decode cX1_shine 1 = .ok (.getfield 32, 3) := by decide +kernel
theorem dX1_shine_4 : decode cX1_shine 4 = .ok (.getfield 47, 3) := by decide +kernel
theorem dX1_shine_7 : decode cX1_shine 7 = .ok (.iload_n 1, 1) := by decide +kernel
theorem dX1_shine_8 : decode cX1_shine 8 = .ok (.iaload, 1) := by decide +kernel
theorem dX1_shine_9 : decode cX1_shine 9 = .ok (.istore_n 3, 1) := by decide +kernel
theorem dX1_shine_10 : decode cX1_shine 10 = .ok (.iload_n 3, 1) := by decide +kernel
theorem dX1_shine_11 : decode cX1_shine 11 = .ok (.ifCond .lt 16, 3) := by decide +kernel
theorem dX1_shine_14 : decode cX1_shine 14 = .ok (.iload_n 2, 1) := by decide +kernel
theorem dX1_shine_15 : decode cX1_shine 15 = .ok (.ifCond .le 12, 3) := by decide +kernel
theorem dX1_shine_18 : decode cX1_shine 18 = .ok (.aload_n 0, 1) := by decide +kernel
theorem dX1_shine_19 : decode cX1_shine 19 = .ok (.getfield 18, 3) := by decide +kernel
theorem dX1_shine_22 : decode cX1_shine 22 = .ok (.iload_n 1, 1) := by decide +kernel
theorem dX1_shine_23 : decode cX1_shine 23 = .ok (.iaload, 1) := by decide +kernel
theorem dX1_shine_24 : decode cX1_shine 24 = .ok (.ifCond .ne 4, 3) := by decide +kernel
theorem dX1_shine_27 : decode cX1_shine 27 = .ok (.return_, 1) := by decide +kernel
theorem dX1_shine_28 : decode cX1_shine 28 = .ok (.aload_n 0, 1) := by decide +kernel
theorem dX1_shine_29 : decode cX1_shine 29 = .ok (.dup, 1) := by decide +kernel
theorem dX1_shine_30 : decode cX1_shine 30 = .ok (.getfield 92, 3) := by decide +kernel
theorem dX1_shine_33 : decode cX1_shine 33 = .ok (.iload_n 2, 1) := by decide +kernel
theorem dX1_shine_34 : decode cX1_shine 34 = .ok (.i2l, 1) := by decide +kernel
theorem dX1_shine_35 : decode cX1_shine 35 = .ok (.aload_n 0, 1) := by decide +kernel
theorem dX1_shine_36 : decode cX1_shine 36 = .ok (.getfield 18, 3) := by decide +kernel
theorem dX1_shine_39 : decode cX1_shine 39 = .ok (.iload_n 1, 1) := by decide +kernel
theorem dX1_shine_40 : decode cX1_shine 40 = .ok (.iaload, 1) := by decide +kernel
theorem dX1_shine_41 : decode cX1_shine 41 = .ok (.i2l, 1) := by decide +kernel
theorem dX1_shine_42 : decode cX1_shine 42 = .ok (.lmul, 1) := by decide +kernel
theorem dX1_shine_43 : decode cX1_shine 43 = .ok (.aload_n 0, 1) := by decide +kernel
theorem dX1_shine_44 : decode cX1_shine 44 = .ok (.getfield 28, 3) := by decide +kernel
theorem dX1_shine_47 : decode cX1_shine 47 = .ok (.getfield 96, 3) := by decide +kernel
theorem dX1_shine_50 : decode cX1_shine 50 = .ok (.iload_n 3, 1) := by decide +kernel
theorem dX1_shine_51 : decode cX1_shine 51 = .ok (.iaload, 1) := by decide +kernel
theorem dX1_shine_52 : decode cX1_shine 52 = .ok (.i2l, 1) := by decide +kernel
theorem dX1_shine_53 : decode cX1_shine 53 = .ok (.lmul, 1) := by decide +kernel
theorem dX1_shine_54 : decode cX1_shine 54 = .ok (.ladd, 1) := by decide +kernel
theorem dX1_shine_55 : decode cX1_shine 55 = .ok (.putfield 92, 3) := by decide +kernel
theorem dX1_shine_58 : decode cX1_shine 58 = .ok (.bipush 60, 2) := by decide +kernel
theorem dX1_shine_60 : decode cX1_shine 60 = .ok (.aload_n 0, 1) := by decide +kernel
theorem dX1_shine_61 : decode cX1_shine 61 = .ok (.getfield 28, 3) := by decide +kernel
theorem dX1_shine_64 : decode cX1_shine 64 = .ok (.getfield 99, 3) := by decide +kernel
theorem dX1_shine_67 : decode cX1_shine 67 = .ok (.iload_n 3, 1) := by decide +kernel
theorem dX1_shine_68 : decode cX1_shine 68 = .ok (.iaload, 1) := by decide +kernel
theorem dX1_shine_69 : decode cX1_shine 69 = .ok (.imul, 1) := by decide +kernel
theorem dX1_shine_70 : decode cX1_shine 70 = .ok (.istore 4, 2) := by decide +kernel
theorem dX1_shine_72 : decode cX1_shine 72 = .ok (.aload_n 0, 1) := by decide +kernel
theorem dX1_shine_73 : decode cX1_shine 73 = .ok (.getfield 21, 3) := by decide +kernel
theorem dX1_shine_76 : decode cX1_shine 76 = .ok (.iload_n 1, 1) := by decide +kernel
theorem dX1_shine_77 : decode cX1_shine 77 = .ok (.iaload, 1) := by decide +kernel
theorem dX1_shine_78 : decode cX1_shine 78 = .ok (.iload_n 2, 1) := by decide +kernel
theorem dX1_shine_79 : decode cX1_shine 79 = .ok (.iadd, 1) := by decide +kernel
theorem dX1_shine_80 : decode cX1_shine 80 = .ok (.istore 5, 2) := by decide +kernel
theorem dX1_shine_82 : decode cX1_shine 82 = .ok (.iload 5, 2) := by decide +kernel
theorem dX1_shine_84 : decode cX1_shine 84 = .ok (.iconst 1, 1) := by decide +kernel
theorem dX1_shine_85 : decode cX1_shine 85 = .ok (.isub, 1) := by decide +kernel
theorem dX1_shine_86 : decode cX1_shine 86 = .ok (.i2l, 1) := by decide +kernel
theorem dX1_shine_87 : decode cX1_shine 87 = .ok (.iload 4, 2) := by decide +kernel
theorem dX1_shine_89 : decode cX1_shine 89 = .ok (.i2l, 1) := by decide +kernel
theorem dX1_shine_90 : decode cX1_shine 90 = .ok (.invokestatic 86, 3) := by decide +kernel
theorem dX1_shine_93 : decode cX1_shine 93 = .ok (.l2i, 1) := by decide +kernel
theorem dX1_shine_94 : decode cX1_shine 94 = .ok (.istore 6, 2) := by decide +kernel
theorem dX1_shine_96 : decode cX1_shine 96 = .ok (.aload_n 0, 1) := by decide +kernel
theorem dX1_shine_97 : decode cX1_shine 97 = .ok (.getfield 21, 3) := by decide +kernel
theorem dX1_shine_100 : decode cX1_shine 100 = .ok (.iload_n 1, 1) := by decide +kernel
theorem dX1_shine_101 : decode cX1_shine 101 = .ok (.iload 5, 2) := by decide +kernel
theorem dX1_shine_103 : decode cX1_shine 103 = .ok (.iload 6, 2) := by decide +kernel
theorem dX1_shine_105 : decode cX1_shine 105 = .ok (.iload 4, 2) := by decide +kernel
theorem dX1_shine_107 : decode cX1_shine 107 = .ok (.imul, 1) := by decide +kernel
theorem dX1_shine_108 : decode cX1_shine 108 = .ok (.isub, 1) := by decide +kernel
theorem dX1_shine_109 : decode cX1_shine 109 = .ok (.iastore, 1) := by decide +kernel
theorem dX1_shine_110 : decode cX1_shine 110 = .ok (.aload_n 0, 1) := by decide +kernel
theorem dX1_shine_111 : decode cX1_shine 111 = .ok (.dup, 1) := by decide +kernel
theorem dX1_shine_112 : decode cX1_shine 112 = .ok (.getfield 102, 3) := by decide +kernel
theorem dX1_shine_115 : decode cX1_shine 115 = .ok (.iload 6, 2) := by decide +kernel
theorem dX1_shine_117 : decode cX1_shine 117 = .ok (.i2l, 1) := by decide +kernel
theorem dX1_shine_118 : decode cX1_shine 118 = .ok (.ladd, 1) := by decide +kernel
theorem dX1_shine_119 : decode cX1_shine 119 = .ok (.putfield 102, 3) := by decide +kernel
theorem dX1_shine_122 : decode cX1_shine 122 = .ok (.aload_n 0, 1) := by decide +kernel
theorem dX1_shine_123 : decode cX1_shine 123 = .ok (.dup, 1) := by decide +kernel
theorem dX1_shine_124 : decode cX1_shine 124 = .ok (.getfield 105, 3) := by decide +kernel
theorem dX1_shine_127 : decode cX1_shine 127 = .ok (.iload 6, 2) := by decide +kernel
theorem dX1_shine_129 : decode cX1_shine 129 = .ok (.i2l, 1) := by decide +kernel
theorem dX1_shine_130 : decode cX1_shine 130 = .ok (.aload_n 0, 1) := by decide +kernel
theorem dX1_shine_131 : decode cX1_shine 131 = .ok (.getfield 28, 3) := by decide +kernel
theorem dX1_shine_134 : decode cX1_shine 134 = .ok (.getfield 108, 3) := by decide +kernel
theorem dX1_shine_137 : decode cX1_shine 137 = .ok (.iload_n 3, 1) := by decide +kernel
theorem dX1_shine_138 : decode cX1_shine 138 = .ok (.iaload, 1) := by decide +kernel
theorem dX1_shine_139 : decode cX1_shine 139 = .ok (.i2l, 1) := by decide +kernel
theorem dX1_shine_140 : decode cX1_shine 140 = .ok (.lmul, 1) := by decide +kernel
theorem dX1_shine_141 : decode cX1_shine 141 = .ok (.ladd, 1) := by decide +kernel
theorem dX1_shine_142 : decode cX1_shine 142 = .ok (.putfield 105, 3) := by decide +kernel
theorem dX1_shine_145 : decode cX1_shine 145 = .ok (.return_, 1) := by decide +kernel
theorem dX2_init_0 : decode cX2_init 0 = .ok (.aload_n 0, 1) := by decide +kernel
theorem dX2_init_1 : decode cX2_init 1 = .ok (.invokespecial 3, 3) := by decide +kernel
theorem dX2_init_4 : decode cX2_init 4 = .ok (.aload_n 0, 1) := by decide +kernel
theorem dX2_init_5 : decode cX2_init 5 = .ok (.iconst 3, 1) := by decide +kernel
theorem dX2_init_6 : decode cX2_init 6 = .ok (.newarray .int, 2) := by decide +kernel
theorem dX2_init_8 : decode cX2_init 8 = .ok (.putfield 9, 3) := by decide +kernel
theorem dX2_init_11 : decode cX2_init 11 = .ok (.aload_n 0, 1) := by decide +kernel
theorem dX2_init_12 : decode cX2_init 12 = .ok (.iconst 3, 1) := by decide +kernel
theorem dX2_init_13 : decode cX2_init 13 = .ok (.newarray .int, 2) := by decide +kernel
theorem dX2_init_15 : decode cX2_init 15 = .ok (.putfield 15, 3) := by decide +kernel
theorem dX2_init_18 : decode cX2_init 18 = .ok (.aload_n 0, 1) := by decide +kernel
theorem dX2_init_19 : decode cX2_init 19 = .ok (.iconst 3, 1) := by decide +kernel
theorem dX2_init_20 : decode cX2_init 20 = .ok (.newarray .int, 2) := by decide +kernel
theorem dX2_init_22 : decode cX2_init 22 = .ok (.putfield 18, 3) := by decide +kernel
theorem dX2_init_25 : decode cX2_init 25 = .ok (.aload_n 0, 1) := by decide +kernel
theorem dX2_init_26 : decode cX2_init 26 = .ok (.iconst 3, 1) := by decide +kernel
theorem dX2_init_27 : decode cX2_init 27 = .ok (.newarray .int, 2) := by decide +kernel
theorem dX2_init_29 : decode cX2_init 29 = .ok (.putfield 21, 3) := by decide +kernel
theorem dX2_init_32 : decode cX2_init 32 = .ok (.aload_n 0, 1) := by decide +kernel
theorem dX2_init_33 : decode cX2_init 33 = .ok (.bipush 7, 2) := by decide +kernel
theorem dX2_init_35 : decode cX2_init 35 = .ok (.newarray .int, 2) := by decide +kernel
theorem dX2_init_37 : decode cX2_init 37 = .ok (.putfield 24, 3) := by decide +kernel
theorem dX2_init_40 : decode cX2_init 40 = .ok (.aload_n 0, 1) := by decide +kernel
theorem dX2_init_41 : decode cX2_init 41 = .ok (.bipush 7, 2) := by decide +kernel
theorem dX2_init_43 : decode cX2_init 43 = .ok (.newarray .int, 2) := by decide +kernel
theorem dX2_init_45 : decode cX2_init 45 = .ok (.putfield 27, 3) := by decide +kernel
theorem dX2_init_48 : decode cX2_init 48 = .ok (.aload_n 0, 1) := by decide +kernel
theorem dX2_init_49 : decode cX2_init 49 = .ok (.bipush 7, 2) := by decide +kernel
theorem dX2_init_51 : decode cX2_init 51 = .ok (.newarray .int, 2) := by decide +kernel
theorem dX2_init_53 : decode cX2_init 53 = .ok (.putfield 30, 3) := by decide +kernel
theorem dX2_init_56 : decode cX2_init 56 = .ok (.aload_n 0, 1) := by decide +kernel
theorem dX2_init_57 : decode cX2_init 57 = .ok (.bipush 16, 2) := by decide +kernel
theorem dX2_init_59 : decode cX2_init 59 = .ok (.newarray .int, 2) := by decide +kernel
theorem dX2_init_61 : decode cX2_init 61 = .ok (.putfield 33, 3) := by decide +kernel
theorem dX2_init_64 : decode cX2_init 64 = .ok (.aload_n 0, 1) := by decide +kernel
theorem dX2_init_65 : decode cX2_init 65 = .ok (.bipush 16, 2) := by decide +kernel
theorem dX2_init_67 : decode cX2_init 67 = .ok (.newarray .int, 2) := by decide +kernel
theorem dX2_init_69 : decode cX2_init 69 = .ok (.putfield 36, 3) := by decide +kernel
theorem dX2_init_72 : decode cX2_init 72 = .ok (.aload_n 0, 1) := by decide +kernel
theorem dX2_init_73 : decode cX2_init 73 = .ok (.bipush 16, 2) := by decide +kernel
theorem dX2_init_75 : decode cX2_init 75 = .ok (.newarray .int, 2) := by decide +kernel
theorem dX2_init_77 : decode cX2_init 77 = .ok (.putfield 39, 3) := by decide +kernel
theorem dX2_init_80 : decode cX2_init 80 = .ok (.aload_n 0, 1) := by decide +kernel
theorem dX2_init_81 : decode cX2_init 81 = .ok (.iconst 3, 1) := by decide +kernel
theorem dX2_init_82 : decode cX2_init 82 = .ok (.putfield 42, 3) := by decide +kernel
theorem dX2_init_85 : decode cX2_init 85 = .ok (.iconst 0, 1) := by decide +kernel
theorem dX2_init_86 : decode cX2_init 86 = .ok (.istore_n 1, 1) := by decide +kernel
theorem dX2_init_87 : decode cX2_init 87 = .ok (.iload_n 1, 1) := by decide +kernel
theorem dX2_init_88 : decode cX2_init 88 = .ok (.bipush 7, 2) := by decide +kernel
theorem dX2_init_90 : decode cX2_init 90 = .ok (.if_icmp .ge 17, 3) := by decide +kernel
theorem dX2_init_93 : decode cX2_init 93 = .ok (.aload_n 0, 1) := by decide +kernel
theorem dX2_init_94 : decode cX2_init 94 = .ok (.getfield 30, 3) := by decide +kernel
theorem dX2_init_97 : decode cX2_init 97 = .ok (.iload_n 1, 1) := by decide +kernel
theorem dX2_init_98 : decode cX2_init 98 = .ok (.bipush (-2), 2) := by decide +kernel
theorem dX2_init_100 : decode cX2_init 100 = .ok (.iastore, 1) := by decide +kernel
theorem dX2_init_101 : decode cX2_init 101 = .ok (.iinc 1 1, 3) := by decide +kernel
theorem dX2_init_104 : decode cX2_init 104 = .ok (.goto (-17), 3) := by decide +kernel
theorem dX2_init_107 : decode cX2_init 107 = .ok (.return_, 1) := by decide +kernel
theorem dX2_addKind_0 : decode cX2_addKind 0 = .ok (.aload_n 0, 1) := by decide +kernel
theorem dX2_addKind_1 : decode cX2_addKind 1 = .ok (.getfield 46, 3) := by decide +kernel
theorem dX2_addKind_4 : decode cX2_addKind 4 = .ok (.istore 5, 2) := by decide +kernel
theorem dX2_addKind_6 : decode cX2_addKind 6 = .ok (.aload_n 0, 1) := by decide +kernel
theorem dX2_addKind_7 : decode cX2_addKind 7 = .ok (.getfield 9, 3) := by decide +kernel
theorem dX2_addKind_10 : decode cX2_addKind 10 = .ok (.iload 5, 2) := by decide +kernel
theorem dX2_addKind_12 : decode cX2_addKind 12 = .ok (.iload_n 1, 1) := by decide +kernel
theorem dX2_addKind_13 : decode cX2_addKind 13 = .ok (.iastore, 1) := by decide +kernel
theorem dX2_addKind_14 : decode cX2_addKind 14 = .ok (.aload_n 0, 1) := by decide +kernel
theorem dX2_addKind_15 : decode cX2_addKind 15 = .ok (.getfield 15, 3) := by decide +kernel
theorem dX2_addKind_18 : decode cX2_addKind 18 = .ok (.iload 5, 2) := by decide +kernel
theorem dX2_addKind_20 : decode cX2_addKind 20 = .ok (.iload_n 2, 1) := by decide +kernel
theorem dX2_addKind_21 : decode cX2_addKind 21 = .ok (.iastore, 1) := by decide +kernel
theorem dX2_addKind_22 : decode cX2_addKind 22 = .ok (.aload_n 0, 1) := by decide +kernel
theorem dX2_addKind_23 : decode cX2_addKind 23 = .ok (.getfield 18, 3) := by decide +kernel
theorem dX2_addKind_26 : decode cX2_addKind 26 = .ok (.iload 5, 2) := by decide +kernel
theorem dX2_addKind_28 : decode cX2_addKind 28 = .ok (.iload_n 3, 1) := by decide +kernel
theorem dX2_addKind_29 : decode cX2_addKind 29 = .ok (.iastore, 1) := by decide +kernel
theorem dX2_addKind_30 : decode cX2_addKind 30 = .ok (.aload_n 0, 1) := by decide +kernel
theorem dX2_addKind_31 : decode cX2_addKind 31 = .ok (.getfield 21, 3) := by decide +kernel
theorem dX2_addKind_34 : decode cX2_addKind 34 = .ok (.iload 5, 2) := by decide +kernel
theorem dX2_addKind_36 : decode cX2_addKind 36 = .ok (.iload 4, 2) := by decide +kernel
theorem dX2_addKind_38 : decode cX2_addKind 38 = .ok (.iastore, 1) := by decide +kernel
theorem dX2_addKind_39 : decode cX2_addKind 39 = .ok (.aload_n 0, 1) := by decide +kernel
theorem dX2_addKind_40 : decode cX2_addKind 40 = .ok (.dup, 1) := by decide +kernel
theorem dX2_addKind_41 : decode cX2_addKind 41 = .ok (.getfield 46, 3) := by decide +kernel
theorem dX2_addKind_44 : decode cX2_addKind 44 = .ok (.iconst 1, 1) := by decide +kernel
theorem dX2_addKind_45 : decode cX2_addKind 45 = .ok (.iadd, 1) := by decide +kernel
theorem dX2_addKind_46 : decode cX2_addKind 46 = .ok (.putfield 46, 3) := by decide +kernel
theorem dX2_addKind_49 : decode cX2_addKind 49 = .ok (.iload 5, 2) := by decide +kernel
theorem dX2_addKind_51 : decode cX2_addKind 51 = .ok (.ireturn, 1) := by decide +kernel
theorem dX2_addPlace_0 : decode cX2_addPlace 0 = .ok (.aload_n 0, 1) := by decide +kernel
theorem dX2_addPlace_1 : decode cX2_addPlace 1 = .ok (.getfield 49, 3) := by decide +kernel
theorem dX2_addPlace_4 : decode cX2_addPlace 4 = .ok (.istore_n 3, 1) := by decide +kernel
theorem dX2_addPlace_5 : decode cX2_addPlace 5 = .ok (.aload_n 0, 1) := by decide +kernel
theorem dX2_addPlace_6 : decode cX2_addPlace 6 = .ok (.getfield 24, 3) := by decide +kernel
theorem dX2_addPlace_9 : decode cX2_addPlace 9 = .ok (.iload_n 3, 1) := by decide +kernel
theorem dX2_addPlace_10 : decode cX2_addPlace 10 = .ok (.iload_n 1, 1) := by decide +kernel
theorem dX2_addPlace_11 : decode cX2_addPlace 11 = .ok (.iastore, 1) := by decide +kernel
theorem dX2_addPlace_12 : decode cX2_addPlace 12 = .ok (.aload_n 0, 1) := by decide +kernel
theorem dX2_addPlace_13 : decode cX2_addPlace 13 = .ok (.getfield 27, 3) := by decide +kernel
theorem dX2_addPlace_16 : decode cX2_addPlace 16 = .ok (.iload_n 3, 1) := by decide +kernel
theorem dX2_addPlace_17 : decode cX2_addPlace 17 = .ok (.iload_n 2, 1) := by decide +kernel
theorem dX2_addPlace_18 : decode cX2_addPlace 18 = .ok (.iastore, 1) := by decide +kernel
theorem dX2_addPlace_19 : decode cX2_addPlace 19 = .ok (.aload_n 0, 1) := by decide +kernel
theorem dX2_addPlace_20 : decode cX2_addPlace 20 = .ok (.dup, 1) := by decide +kernel
theorem dX2_addPlace_21 : decode cX2_addPlace 21 = .ok (.getfield 49, 3) := by decide +kernel
theorem dX2_addPlace_24 : decode cX2_addPlace 24 = .ok (.iconst 1, 1) := by decide +kernel
theorem dX2_addPlace_25 : decode cX2_addPlace 25 = .ok (.iadd, 1) := by decide +kernel
theorem dX2_addPlace_26 : decode cX2_addPlace 26 = .ok (.putfield 49, 3) := by decide +kernel
theorem dX2_addPlace_29 : decode cX2_addPlace 29 = .ok (.iload_n 3, 1) := by decide +kernel
theorem dX2_addPlace_30 : decode cX2_addPlace 30 = .ok (.ireturn, 1) := by decide +kernel
theorem dX2_addPoint_0 : decode cX2_addPoint 0 = .ok (.aload_n 0, 1) := by decide +kernel
theorem dX2_addPoint_1 : decode cX2_addPoint 1 = .ok (.getfield 52, 3) := by decide +kernel
theorem dX2_addPoint_4 : decode cX2_addPoint 4 = .ok (.istore 4, 2) := by decide +kernel
theorem dX2_addPoint_6 : decode cX2_addPoint 6 = .ok (.aload_n 0, 1) := by decide +kernel
theorem dX2_addPoint_7 : decode cX2_addPoint 7 = .ok (.getfield 33, 3) := by decide +kernel
theorem dX2_addPoint_10 : decode cX2_addPoint 10 = .ok (.iload 4, 2) := by decide +kernel
theorem dX2_addPoint_12 : decode cX2_addPoint 12 = .ok (.iload_n 1, 1) := by decide +kernel
theorem dX2_addPoint_13 : decode cX2_addPoint 13 = .ok (.iastore, 1) := by decide +kernel
theorem dX2_addPoint_14 : decode cX2_addPoint 14 = .ok (.aload_n 0, 1) := by decide +kernel
theorem dX2_addPoint_15 : decode cX2_addPoint 15 = .ok (.getfield 36, 3) := by decide +kernel
theorem dX2_addPoint_18 : decode cX2_addPoint 18 = .ok (.iload 4, 2) := by decide +kernel
theorem dX2_addPoint_20 : decode cX2_addPoint 20 = .ok (.iload_n 2, 1) := by decide +kernel
theorem dX2_addPoint_21 : decode cX2_addPoint 21 = .ok (.iastore, 1) := by decide +kernel
theorem dX2_addPoint_22 : decode cX2_addPoint 22 = .ok (.aload_n 0, 1) := by decide +kernel
theorem dX2_addPoint_23 : decode cX2_addPoint 23 = .ok (.getfield 39, 3) := by decide +kernel
theorem dX2_addPoint_26 : decode cX2_addPoint 26 = .ok (.iload 4, 2) := by decide +kernel
theorem dX2_addPoint_28 : decode cX2_addPoint 28 = .ok (.iload_n 3, 1) := by decide +kernel
theorem dX2_addPoint_29 : decode cX2_addPoint 29 = .ok (.iastore, 1) := by decide +kernel
theorem dX2_addPoint_30 : decode cX2_addPoint 30 = .ok (.aload_n 0, 1) := by decide +kernel
theorem dX2_addPoint_31 : decode cX2_addPoint 31 = .ok (.dup, 1) := by decide +kernel
theorem dX2_addPoint_32 : decode cX2_addPoint 32 = .ok (.getfield 52, 3) := by decide +kernel
theorem dX2_addPoint_35 : decode cX2_addPoint 35 = .ok (.iconst 1, 1) := by decide +kernel
theorem dX2_addPoint_36 : decode cX2_addPoint 36 = .ok (.iadd, 1) := by decide +kernel
theorem dX2_addPoint_37 : decode cX2_addPoint 37 = .ok (.putfield 52, 3) := by decide +kernel
theorem dX2_addPoint_40 : decode cX2_addPoint 40 = .ok (.iload 4, 2) := by decide +kernel
theorem dX2_addPoint_42 : decode cX2_addPoint 42 = .ok (.ireturn, 1) := by decide +kernel
theorem dX2_mayHave_0 : decode cX2_mayHave 0 = .ok (.aload_n 0, 1) := by decide +kernel
theorem dX2_mayHave_1 : decode cX2_mayHave 1 = .ok (.getfield 30, 3) := by decide +kernel
theorem dX2_mayHave_4 : decode cX2_mayHave 4 = .ok (.iload_n 1, 1) := by decide +kernel
theorem dX2_mayHave_5 : decode cX2_mayHave 5 = .ok (.iaload, 1) := by decide +kernel
theorem dX2_mayHave_6 : decode cX2_mayHave 6 = .ok (.bipush (-2), 2) := by decide +kernel
theorem dX2_mayHave_8 : decode cX2_mayHave 8 = .ok (.if_icmp .eq 13, 3) := by decide +kernel
theorem dX2_mayHave_11 : decode cX2_mayHave 11 = .ok (.aload_n 0, 1) := by decide +kernel
theorem dX2_mayHave_12 : decode cX2_mayHave 12 = .ok (.getfield 30, 3) := by decide +kernel
theorem dX2_mayHave_15 : decode cX2_mayHave 15 = .ok (.iload_n 1, 1) := by decide +kernel
theorem dX2_mayHave_16 : decode cX2_mayHave 16 = .ok (.iaload, 1) := by decide +kernel
theorem dX2_mayHave_17 : decode cX2_mayHave 17 = .ok (.iload_n 2, 1) := by decide +kernel
theorem dX2_mayHave_18 : decode cX2_mayHave 18 = .ok (.if_icmp .ne 7, 3) := by decide +kernel
theorem dX2_mayHave_21 : decode cX2_mayHave 21 = .ok (.iconst 1, 1) := by decide +kernel
theorem dX2_mayHave_22 : decode cX2_mayHave 22 = .ok (.goto 4, 3) := by decide +kernel
theorem dX2_mayHave_25 : decode cX2_mayHave 25 = .ok (.iconst 0, 1) := by decide +kernel
theorem dX2_mayHave_26 : decode cX2_mayHave 26 = .ok (.ireturn, 1) := by decide +kernel
theorem dX2_wattsOf_0 : decode cX2_wattsOf 0 = .ok (.iload_n 1, 1) := by decide +kernel
theorem dX2_wattsOf_1 : decode cX2_wattsOf 1 = .ok (.ifCond .lt 12, 3) := by decide +kernel
theorem dX2_wattsOf_4 : decode cX2_wattsOf 4 = .ok (.aload_n 0, 1) := by decide +kernel
theorem dX2_wattsOf_5 : decode cX2_wattsOf 5 = .ok (.getfield 15, 3) := by decide +kernel
theorem dX2_wattsOf_8 : decode cX2_wattsOf 8 = .ok (.iload_n 1, 1) := by decide +kernel
theorem dX2_wattsOf_9 : decode cX2_wattsOf 9 = .ok (.iaload, 1) := by decide +kernel
theorem dX2_wattsOf_10 : decode cX2_wattsOf 10 = .ok (.goto 4, 3) := by decide +kernel
theorem dX2_wattsOf_13 : decode cX2_wattsOf 13 = .ok (.iconst 0, 1) := by decide +kernel
theorem dX2_wattsOf_14 : decode cX2_wattsOf 14 = .ok (.ireturn, 1) := by decide +kernel
set_option maxRecDepth 20000 in
theorem ggX2_lightOf_X4_quotient : GoodIn wsX2_lightOf wsX4_quotient := goodIn_r _ [10] (by decide +kernel) (by decide +kernel)
set_option maxRecDepth 20000 in
theorem gX2_lightOf_X4_quotient_n57 : GoodIn wsX2_lightOf (wsX4_quotient) := ggX2_lightOf_X4_quotient
theorem dX2_lightOf_0 : decode cX2_lightOf 0 = .ok (.aload_n 0, 1) := by decide +kernel
theorem dX2_lightOf_1 : decode cX2_lightOf 1 = .ok (.getfield 24, 3) := by decide +kernel
theorem dX2_lightOf_4 : decode cX2_lightOf 4 = .ok (.iload_n 2, 1) := by decide +kernel
theorem dX2_lightOf_5 : decode cX2_lightOf 5 = .ok (.iaload, 1) := by decide +kernel
theorem dX2_lightOf_6 : decode cX2_lightOf 6 = .ok (.aload_n 0, 1) := by decide +kernel
theorem dX2_lightOf_7 : decode cX2_lightOf 7 = .ok (.getfield 33, 3) := by decide +kernel
theorem dX2_lightOf_10 : decode cX2_lightOf 10 = .ok (.iload_n 3, 1) := by decide +kernel
theorem dX2_lightOf_11 : decode cX2_lightOf 11 = .ok (.iaload, 1) := by decide +kernel
theorem dX2_lightOf_12 : decode cX2_lightOf 12 = .ok (.isub, 1) := by decide +kernel
theorem dX2_lightOf_13 : decode cX2_lightOf 13 = .ok (.istore 4, 2) := by decide +kernel
theorem dX2_lightOf_15 : decode cX2_lightOf 15 = .ok (.aload_n 0, 1) := by decide +kernel
theorem dX2_lightOf_16 : decode cX2_lightOf 16 = .ok (.getfield 27, 3) := by decide +kernel
theorem dX2_lightOf_19 : decode cX2_lightOf 19 = .ok (.iload_n 2, 1) := by decide +kernel
theorem dX2_lightOf_20 : decode cX2_lightOf 20 = .ok (.iaload, 1) := by decide +kernel
theorem dX2_lightOf_21 : decode cX2_lightOf 21 = .ok (.aload_n 0, 1) := by decide +kernel
theorem dX2_lightOf_22 : decode cX2_lightOf 22 = .ok (.getfield 36, 3) := by decide +kernel
theorem dX2_lightOf_25 : decode cX2_lightOf 25 = .ok (.iload_n 3, 1) := by decide +kernel
theorem dX2_lightOf_26 : decode cX2_lightOf 26 = .ok (.iaload, 1) := by decide +kernel
theorem dX2_lightOf_27 : decode cX2_lightOf 27 = .ok (.isub, 1) := by decide +kernel
theorem dX2_lightOf_28 : decode cX2_lightOf 28 = .ok (.istore 5, 2) := by decide +kernel
theorem dX2_lightOf_30 : decode cX2_lightOf 30 = .ok (.ldc2_w 55, 3) := by decide +kernel
theorem dX2_lightOf_33 : decode cX2_lightOf 33 = .ok (.aload_n 0, 1) := by decide +kernel
theorem dX2_lightOf_34 : decode cX2_lightOf 34 = .ok (.getfield 9, 3) := by decide +kernel
theorem dX2_lightOf_37 : decode cX2_lightOf 37 = .ok (.iload_n 1, 1) := by decide +kernel
theorem dX2_lightOf_38 : decode cX2_lightOf 38 = .ok (.iaload, 1) := by decide +kernel
theorem dX2_lightOf_39 : decode cX2_lightOf 39 = .ok (.i2l, 1) := by decide +kernel
theorem dX2_lightOf_40 : decode cX2_lightOf 40 = .ok (.lmul, 1) := by decide +kernel
theorem dX2_lightOf_41 : decode cX2_lightOf 41 = .ok (.aload_n 0, 1) := by decide +kernel
theorem dX2_lightOf_42 : decode cX2_lightOf 42 = .ok (.getfield 42, 3) := by decide +kernel
theorem dX2_lightOf_45 : decode cX2_lightOf 45 = .ok (.aload_n 0, 1) := by decide +kernel
theorem dX2_lightOf_46 : decode cX2_lightOf 46 = .ok (.getfield 42, 3) := by decide +kernel
theorem dX2_lightOf_49 : decode cX2_lightOf 49 = .ok (.imul, 1) := by decide +kernel
theorem dX2_lightOf_50 : decode cX2_lightOf 50 = .ok (.iload 4, 2) := by decide +kernel
theorem dX2_lightOf_52 : decode cX2_lightOf 52 = .ok (.iload 4, 2) := by decide +kernel
theorem dX2_lightOf_54 : decode cX2_lightOf 54 = .ok (.imul, 1) := by decide +kernel
theorem dX2_lightOf_55 : decode cX2_lightOf 55 = .ok (.iadd, 1) := by decide +kernel
theorem dX2_lightOf_56 : decode cX2_lightOf 56 = .ok (.iload 5, 2) := by decide +kernel
theorem dX2_lightOf_58 : decode cX2_lightOf 58 = .ok (.iload 5, 2) := by decide +kernel
theorem dX2_lightOf_60 : decode cX2_lightOf 60 = .ok (.imul, 1) := by decide +kernel
theorem dX2_lightOf_61 : decode cX2_lightOf 61 = .ok (.iadd, 1) := by decide +kernel
theorem dX2_lightOf_62 : decode cX2_lightOf 62 = .ok (.i2l, 1) := by decide +kernel
theorem dX2_lightOf_63 : decode cX2_lightOf 63 = .ok (.invokestatic 57, 3) := by decide +kernel
theorem dX2_lightOf_66 : decode cX2_lightOf 66 = .ok (.l2i, 1) := by decide +kernel
theorem dX2_lightOf_67 : decode cX2_lightOf 67 = .ok (.ireturn, 1) := by decide +kernel
theorem dX3_init_0 : decode cX3_init 0 = .ok (.aload_n 0, 1) := by decide +kernel
theorem dX3_init_1 : decode cX3_init 1 = .ok (.invokespecial 3, 3) := by decide +kernel
theorem dX3_init_4 : decode cX3_init 4 = .ok (.aload_n 0, 1) := by decide +kernel
theorem dX3_init_5 : decode cX3_init 5 = .ok (.bipush 16, 2) := by decide +kernel
theorem dX3_init_7 : decode cX3_init 7 = .ok (.newarray .int, 2) := by decide +kernel
theorem dX3_init_9 : decode cX3_init 9 = .ok (.putfield 9, 3) := by decide +kernel
theorem dX3_init_12 : decode cX3_init 12 = .ok (.aload_n 0, 1) := by decide +kernel
theorem dX3_init_13 : decode cX3_init 13 = .ok (.bipush 7, 2) := by decide +kernel
theorem dX3_init_15 : decode cX3_init 15 = .ok (.newarray .int, 2) := by decide +kernel
theorem dX3_init_17 : decode cX3_init 17 = .ok (.putfield 15, 3) := by decide +kernel
theorem dX3_init_20 : decode cX3_init 20 = .ok (.aload_n 0, 1) := by decide +kernel
theorem dX3_init_21 : decode cX3_init 21 = .ok (.bipush 16, 2) := by decide +kernel
theorem dX3_init_23 : decode cX3_init 23 = .ok (.newarray .long, 2) := by decide +kernel
theorem dX3_init_25 : decode cX3_init 25 = .ok (.putfield 18, 3) := by decide +kernel
theorem dX3_init_28 : decode cX3_init 28 = .ok (.aload_n 0, 1) := by decide +kernel
theorem dX3_init_29 : decode cX3_init 29 = .ok (.aload_n 1, 1) := by decide +kernel
theorem dX3_init_30 : decode cX3_init 30 = .ok (.putfield 22, 3) := by decide +kernel
theorem dX3_init_33 : decode cX3_init 33 = .ok (.aload_n 0, 1) := by decide +kernel
theorem dX3_init_34 : decode cX3_init 34 = .ok (.aload_n 2, 1) := by decide +kernel
theorem dX3_init_35 : decode cX3_init 35 = .ok (.putfield 26, 3) := by decide +kernel
theorem dX3_init_38 : decode cX3_init 38 = .ok (.return_, 1) := by decide +kernel
theorem dX3_changeAim_0 : decode cX3_changeAim 0 = .ok (.aload_n 0, 1) := by decide +kernel
theorem dX3_changeAim_1 : decode cX3_changeAim 1 = .ok (.getfield 9, 3) := by decide +kernel
theorem dX3_changeAim_4 : decode cX3_changeAim 4 = .ok (.iload_n 1, 1) := by decide +kernel
theorem dX3_changeAim_5 : decode cX3_changeAim 5 = .ok (.iaload, 1) := by decide +kernel
theorem dX3_changeAim_6 : decode cX3_changeAim 6 = .ok (.istore_n 3, 1) := by decide +kernel
theorem dX3_changeAim_7 : decode cX3_changeAim 7 = .ok (.aload_n 0, 1) := by decide +kernel
theorem dX3_changeAim_8 : decode cX3_changeAim 8 = .ok (.getfield 9, 3) := by decide +kernel
theorem dX3_changeAim_11 : decode cX3_changeAim 11 = .ok (.iload_n 1, 1) := by decide +kernel
theorem dX3_changeAim_12 : decode cX3_changeAim 12 = .ok (.iload_n 2, 1) := by decide +kernel
theorem dX3_changeAim_13 : decode cX3_changeAim 13 = .ok (.iastore, 1) := by decide +kernel
theorem dX3_changeAim_14 : decode cX3_changeAim 14 = .ok (.aload_n 0, 1) := by decide +kernel
theorem dX3_changeAim_15 : decode cX3_changeAim 15 = .ok (.iconst 0, 1) := by decide +kernel
theorem dX3_changeAim_16 : decode cX3_changeAim 16 = .ok (.putfield 30, 3) := by decide +kernel
theorem dX3_changeAim_19 : decode cX3_changeAim 19 = .ok (.iload_n 3, 1) := by decide +kernel
theorem dX3_changeAim_20 : decode cX3_changeAim 20 = .ok (.ireturn, 1) := by decide +kernel
set_option maxRecDepth 20000 in
theorem ggX3_settle_J7_fill_53178 : GoodIn wsX3_settle wsJ7_fill_53178 := goodIn_r _ [13] (by decide +kernel) (by decide +kernel)
set_option maxRecDepth 20000 in
theorem gX3_settle_J7_fill_53178 : GoodIn wsX3_settle (va_wsS RX3 34 yJ7_fill_53178 wsJ7_fill_53178) := goodIn_app (goodIn_of _ (by decide +kernel)) ggX3_settle_J7_fill_53178
set_option maxRecDepth 20000 in
theorem ggX3_settle_X0_hasLamps : GoodIn wsX3_settle wsX0_hasLamps := goodIn_r _ [18, 19, 20, 21, 74, 75, 76, 77, 78, 79, 80, 81, 82, 83, 84, 85, 60, 61, 62, 63, 64, 65, 66, 67, 68, 69, 70, 71, 72, 73] (by decide +kernel) (by decide +kernel)
set_option maxRecDepth 20000 in
theorem gX3_settle_X0_hasLamps : GoodIn wsX3_settle (wsV RX3 51 RX0 yX0_hasLamps wsX0_hasLamps) := goodIn_app (goodIn_of _ (by decide +kernel)) ggX3_settle_X0_hasLamps
set_option maxRecDepth 20000 in
theorem ggX3_settle_X3_sweep : GoodIn wsX3_settle wsX3_sweep := goodIn_r _ [26, 3, 27, 9, 28, 2, 29, 30, 31, 25, 32, 4, 5, 33, 6, 34, 35, 36, 37, 38, 39, 40, 17, 41, 21, 42, 43, 44, 45, 46, 47, 48, 49, 50, 51, 52, 53, 54, 55, 56, 57, 58, 59, 60, 61, 62, 63, 64, 65, 66, 67, 68, 69, 70, 71, 72, 73, 74, 75, 76, 77, 78, 79, 80, 81, 82, 83, 84, 85] (by decide +kernel) (by decide +kernel)
set_option maxRecDepth 20000 in
theorem gX3_settle_X3_sweep : GoodIn wsX3_settle (wsV RX3 57 RX3 yX3_sweep wsX3_sweep) := goodIn_app (goodIn_of _ (by decide +kernel)) ggX3_settle_X3_sweep
theorem dX3_settle_0 : decode cX3_settle 0 = .ok (.aload_n 0, 1) := by decide +kernel
theorem dX3_settle_1 : decode cX3_settle 1 = .ok (.getfield 30, 3) := by decide +kernel
theorem dX3_settle_4 : decode cX3_settle 4 = .ok (.ifCond .eq 4, 3) := by decide +kernel
theorem dX3_settle_7 : decode cX3_settle 7 = .ok (.return_, 1) := by decide +kernel
theorem dX3_settle_8 : decode cX3_settle 8 = .ok (.aload_n 0, 1) := by decide +kernel
theorem dX3_settle_9 : decode cX3_settle 9 = .ok (.iconst 1, 1) := by decide +kernel
theorem dX3_settle_10 : decode cX3_settle 10 = .ok (.putfield 30, 3) := by decide +kernel
theorem dX3_settle_13 : decode cX3_settle 13 = .ok (.aload_n 0, 1) := by decide +kernel
theorem dX3_settle_14 : decode cX3_settle 14 = .ok (.getfield 15, 3) := by decide +kernel
theorem dX3_settle_17 : decode cX3_settle 17 = .ok (.iconst 0, 1) := by decide +kernel
theorem dX3_settle_18 : decode cX3_settle 18 = .ok (.invokestatic 34, 3) := by decide +kernel
theorem dX3_settle_21 : decode cX3_settle 21 = .ok (.iconst 0, 1) := by decide +kernel
theorem dX3_settle_22 : decode cX3_settle 22 = .ok (.istore_n 1, 1) := by decide +kernel
theorem dX3_settle_23 : decode cX3_settle 23 = .ok (.iload_n 1, 1) := by decide +kernel
theorem dX3_settle_24 : decode cX3_settle 24 = .ok (.aload_n 0, 1) := by decide +kernel
theorem dX3_settle_25 : decode cX3_settle 25 = .ok (.getfield 22, 3) := by decide +kernel
theorem dX3_settle_28 : decode cX3_settle 28 = .ok (.getfield 40, 3) := by decide +kernel
theorem dX3_settle_31 : decode cX3_settle 31 = .ok (.if_icmp .ge 26, 3) := by decide +kernel
theorem dX3_settle_34 : decode cX3_settle 34 = .ok (.aload_n 0, 1) := by decide +kernel
theorem dX3_settle_35 : decode cX3_settle 35 = .ok (.getfield 18, 3) := by decide +kernel
theorem dX3_settle_38 : decode cX3_settle 38 = .ok (.iload_n 1, 1) := by decide +kernel
theorem dX3_settle_39 : decode cX3_settle 39 = .ok (.ldc2_w 46, 3) := by decide +kernel
theorem dX3_settle_42 : decode cX3_settle 42 = .ok (.aload_n 0, 1) := by decide +kernel
theorem dX3_settle_43 : decode cX3_settle 43 = .ok (.getfield 9, 3) := by decide +kernel
theorem dX3_settle_46 : decode cX3_settle 46 = .ok (.iload_n 1, 1) := by decide +kernel
theorem dX3_settle_47 : decode cX3_settle 47 = .ok (.iaload, 1) := by decide +kernel
theorem dX3_settle_48 : decode cX3_settle 48 = .ok (.i2l, 1) := by decide +kernel
theorem dX3_settle_49 : decode cX3_settle 49 = .ok (.lmul, 1) := by decide +kernel
theorem dX3_settle_50 : decode cX3_settle 50 = .ok (.lastore, 1) := by decide +kernel
theorem dX3_settle_51 : decode cX3_settle 51 = .ok (.iinc 1 1, 3) := by decide +kernel
theorem dX3_settle_54 : decode cX3_settle 54 = .ok (.goto (-31), 3) := by decide +kernel
theorem dX3_settle_57 : decode cX3_settle 57 = .ok (.aload_n 0, 1) := by decide +kernel
theorem dX3_settle_58 : decode cX3_settle 58 = .ok (.iconst 0, 1) := by decide +kernel
theorem dX3_settle_59 : decode cX3_settle 59 = .ok (.putfield 48, 3) := by decide +kernel
theorem dX3_settle_62 : decode cX3_settle 62 = .ok (.aload_n 0, 1) := by decide +kernel
theorem dX3_settle_63 : decode cX3_settle 63 = .ok (.getfield 26, 3) := by decide +kernel
theorem dX3_settle_66 : decode cX3_settle 66 = .ok (.invokevirtual 51, 3) := by decide +kernel
theorem dX3_settle_69 : decode cX3_settle 69 = .ok (.istore_n 1, 1) := by decide +kernel
theorem dX3_settle_70 : decode cX3_settle 70 = .ok (.iload_n 1, 1) := by decide +kernel
theorem dX3_settle_71 : decode cX3_settle 71 = .ok (.ifCond .eq 30, 3) := by decide +kernel
theorem dX3_settle_74 : decode cX3_settle 74 = .ok (.aload_n 0, 1) := by decide +kernel
theorem dX3_settle_75 : decode cX3_settle 75 = .ok (.getfield 48, 3) := by decide +kernel
theorem dX3_settle_78 : decode cX3_settle 78 = .ok (.bipush 20, 2) := by decide +kernel
theorem dX3_settle_80 : decode cX3_settle 80 = .ok (.if_icmp .ge 21, 3) := by decide +kernel
theorem dX3_settle_83 : decode cX3_settle 83 = .ok (.aload_n 0, 1) := by decide +kernel
theorem dX3_settle_84 : decode cX3_settle 84 = .ok (.invokevirtual 57, 3) := by decide +kernel
theorem dX3_settle_87 : decode cX3_settle 87 = .ok (.istore_n 1, 1) := by decide +kernel
theorem dX3_settle_88 : decode cX3_settle 88 = .ok (.aload_n 0, 1) := by decide +kernel
theorem dX3_settle_89 : decode cX3_settle 89 = .ok (.dup, 1) := by decide +kernel
theorem dX3_settle_90 : decode cX3_settle 90 = .ok (.getfield 48, 3) := by decide +kernel
theorem dX3_settle_93 : decode cX3_settle 93 = .ok (.iconst 1, 1) := by decide +kernel
theorem dX3_settle_94 : decode cX3_settle 94 = .ok (.iadd, 1) := by decide +kernel
theorem dX3_settle_95 : decode cX3_settle 95 = .ok (.putfield 48, 3) := by decide +kernel
theorem dX3_settle_98 : decode cX3_settle 98 = .ok (.goto (-28), 3) := by decide +kernel
theorem dX3_settle_101 : decode cX3_settle 101 = .ok (.return_, 1) := by decide +kernel
set_option maxRecDepth 20000 in
theorem ggX3_sweep_X3_fittingDim : GoodIn wsX3_sweep wsX3_fittingDim := goodIn_r _ [10, 1, 11, 3, 12, 5, 13, 14, 15, 16, 17, 18, 19, 20, 21, 22, 23, 24, 25, 26, 27, 28, 29, 30, 31, 36, 37, 38, 39, 40, 41, 42, 43, 44, 45, 46, 47, 48, 49, 50, 51, 52, 53, 54, 55, 56, 57, 58, 59, 60, 61, 62, 63, 64, 65, 66, 67, 68] (by decide +kernel) (by decide +kernel)
set_option maxRecDepth 20000 in
theorem gX3_sweep_X3_fittingDim : GoodIn wsX3_sweep (wsV RX3 66 RX3 yX3_fittingDim wsX3_fittingDim) := goodIn_app (goodIn_of _ (by decide +kernel)) ggX3_sweep_X3_fittingDim
set_option maxRecDepth 20000 in
theorem ggX3_sweep_X3_moveTo : GoodIn wsX3_sweep wsX3_moveTo := goodIn_r _ [35, 5, 1, 11, 12, 3, 19, 20, 21, 22, 23, 24, 25, 26, 27, 28, 36, 37, 38, 39, 40, 41, 42, 43, 44, 45, 46, 47, 48, 49, 50, 51, 52, 53, 54, 55, 56, 57, 58, 59, 60, 61, 62, 63, 64, 65, 66, 67, 68] (by decide +kernel) (by decide +kernel)
set_option maxRecDepth 20000 in
theorem gX3_sweep_X3_moveTo : GoodIn wsX3_sweep (wsV RX3 70 RX3 yX3_moveTo wsX3_moveTo) := goodIn_app (goodIn_of _ (by decide +kernel)) ggX3_sweep_X3_moveTo
theorem dX3_sweep_0 : decode cX3_sweep 0 = .ok (.iconst 0, 1) := by decide +kernel
theorem dX3_sweep_1 : decode cX3_sweep 1 = .ok (.istore_n 1, 1) := by decide +kernel
theorem dX3_sweep_2 : decode cX3_sweep 2 = .ok (.iconst 0, 1) := by decide +kernel
theorem dX3_sweep_3 : decode cX3_sweep 3 = .ok (.istore_n 2, 1) := by decide +kernel
theorem dX3_sweep_4 : decode cX3_sweep 4 = .ok (.iload_n 2, 1) := by decide +kernel
theorem dX3_sweep_5 : decode cX3_sweep 5 = .ok (.aload_n 0, 1) := by decide +kernel
theorem dX3_sweep_6 : decode cX3_sweep 6 = .ok (.getfield 22, 3) := by decide +kernel
theorem dX3_sweep_9 : decode cX3_sweep 9 = .ok (.getfield 60, 3) := by decide +kernel
theorem dX3_sweep_12 : decode cX3_sweep 12 = .ok (.if_icmp .ge 55, 3) := by decide +kernel
theorem dX3_sweep_15 : decode cX3_sweep 15 = .ok (.aload_n 0, 1) := by decide +kernel
theorem dX3_sweep_16 : decode cX3_sweep 16 = .ok (.getfield 26, 3) := by decide +kernel
theorem dX3_sweep_19 : decode cX3_sweep 19 = .ok (.getfield 63, 3) := by decide +kernel
theorem dX3_sweep_22 : decode cX3_sweep 22 = .ok (.iload_n 2, 1) := by decide +kernel
theorem dX3_sweep_23 : decode cX3_sweep 23 = .ok (.iaload, 1) := by decide +kernel
theorem dX3_sweep_24 : decode cX3_sweep 24 = .ok (.iconst (-1), 1) := by decide +kernel
theorem dX3_sweep_25 : decode cX3_sweep 25 = .ok (.if_icmp .ne 12, 3) := by decide +kernel
theorem dX3_sweep_28 : decode cX3_sweep 28 = .ok (.aload_n 0, 1) := by decide +kernel
theorem dX3_sweep_29 : decode cX3_sweep 29 = .ok (.getfield 15, 3) := by decide +kernel
theorem dX3_sweep_32 : decode cX3_sweep 32 = .ok (.iload_n 2, 1) := by decide +kernel
theorem dX3_sweep_33 : decode cX3_sweep 33 = .ok (.iaload, 1) := by decide +kernel
theorem dX3_sweep_34 : decode cX3_sweep 34 = .ok (.goto 8, 3) := by decide +kernel
theorem dX3_sweep_37 : decode cX3_sweep 37 = .ok (.aload_n 0, 1) := by decide +kernel
theorem dX3_sweep_38 : decode cX3_sweep 38 = .ok (.iload_n 2, 1) := by decide +kernel
theorem dX3_sweep_39 : decode cX3_sweep 39 = .ok (.invokevirtual 66, 3) := by decide +kernel
theorem dX3_sweep_42 : decode cX3_sweep 42 = .ok (.istore_n 3, 1) := by decide +kernel
theorem dX3_sweep_43 : decode cX3_sweep 43 = .ok (.iload_n 3, 1) := by decide +kernel
theorem dX3_sweep_44 : decode cX3_sweep 44 = .ok (.aload_n 0, 1) := by decide +kernel
theorem dX3_sweep_45 : decode cX3_sweep 45 = .ok (.getfield 15, 3) := by decide +kernel
theorem dX3_sweep_48 : decode cX3_sweep 48 = .ok (.iload_n 2, 1) := by decide +kernel
theorem dX3_sweep_49 : decode cX3_sweep 49 = .ok (.iaload, 1) := by decide +kernel
theorem dX3_sweep_50 : decode cX3_sweep 50 = .ok (.if_icmp .eq 11, 3) := by decide +kernel
theorem dX3_sweep_53 : decode cX3_sweep 53 = .ok (.aload_n 0, 1) := by decide +kernel
theorem dX3_sweep_54 : decode cX3_sweep 54 = .ok (.iload_n 2, 1) := by decide +kernel
theorem dX3_sweep_55 : decode cX3_sweep 55 = .ok (.iload_n 3, 1) := by decide +kernel
theorem dX3_sweep_56 : decode cX3_sweep 56 = .ok (.invokevirtual 70, 3) := by decide +kernel
theorem dX3_sweep_59 : decode cX3_sweep 59 = .ok (.iconst 1, 1) := by decide +kernel
theorem dX3_sweep_60 : decode cX3_sweep 60 = .ok (.istore_n 1, 1) := by decide +kernel
theorem dX3_sweep_61 : decode cX3_sweep 61 = .ok (.iinc 2 1, 3) := by decide +kernel
theorem dX3_sweep_64 : decode cX3_sweep 64 = .ok (.goto (-60), 3) := by decide +kernel
theorem dX3_sweep_67 : decode cX3_sweep 67 = .ok (.iload_n 1, 1) := by decide +kernel
theorem dX3_sweep_68 : decode cX3_sweep 68 = .ok (.ireturn, 1) := by decide +kernel
set_option maxRecDepth 20000 in
theorem ggX3_fittingDim_X0_lampLight : GoodIn wsX3_fittingDim wsX0_lampLight := goodIn_r _ [16, 17, 18, 19, 20, 15, 21, 46, 47, 48, 49, 50, 51, 52, 53, 54, 55, 56, 57] (by decide +kernel) (by decide +kernel)
set_option maxRecDepth 20000 in
theorem gX3_fittingDim_X0_lampLight : GoodIn wsX3_fittingDim (wsV RX3 74 RX0 yX0_lampLight wsX0_lampLight) := goodIn_app (goodIn_of _ (by decide +kernel)) ggX3_fittingDim_X0_lampLight
set_option maxRecDepth 20000 in
theorem ggX3_fittingDim_X4_quotient : GoodIn wsX3_fittingDim wsX4_quotient := goodIn_r _ [24] (by decide +kernel) (by decide +kernel)
set_option maxRecDepth 20000 in
theorem gX3_fittingDim_X4_quotient_n80 : GoodIn wsX3_fittingDim (wsX4_quotient) := ggX3_fittingDim_X4_quotient
theorem dX3_fittingDim_0 : decode cX3_fittingDim 0 = .ok (.lconst 0, 1) := by decide +kernel
theorem dX3_fittingDim_1 : decode cX3_fittingDim 1 = .ok (.lstore_n 2, 1) := by decide +kernel
theorem dX3_fittingDim_2 : decode cX3_fittingDim 2 = .ok (.lconst 0, 1) := by decide +kernel
theorem dX3_fittingDim_3 : decode cX3_fittingDim 3 = .ok (.lstore 4, 2) := by decide +kernel
theorem dX3_fittingDim_5 : decode cX3_fittingDim 5 = .ok (.iconst 0, 1) := by decide +kernel
theorem dX3_fittingDim_6 : decode cX3_fittingDim 6 = .ok (.istore 6, 2) := by decide +kernel
theorem dX3_fittingDim_8 : decode cX3_fittingDim 8 = .ok (.iload 6, 2) := by decide +kernel
theorem dX3_fittingDim_10 : decode cX3_fittingDim 10 = .ok (.aload_n 0, 1) := by decide +kernel
theorem dX3_fittingDim_11 : decode cX3_fittingDim 11 = .ok (.getfield 22, 3) := by decide +kernel
theorem dX3_fittingDim_14 : decode cX3_fittingDim 14 = .ok (.getfield 40, 3) := by decide +kernel
theorem dX3_fittingDim_17 : decode cX3_fittingDim 17 = .ok (.if_icmp .ge 56, 3) := by decide +kernel
theorem dX3_fittingDim_20 : decode cX3_fittingDim 20 = .ok (.aload_n 0, 1) := by decide +kernel
theorem dX3_fittingDim_21 : decode cX3_fittingDim 21 = .ok (.getfield 26, 3) := by decide +kernel
theorem dX3_fittingDim_24 : decode cX3_fittingDim 24 = .ok (.iload_n 1, 1) := by decide +kernel
theorem dX3_fittingDim_25 : decode cX3_fittingDim 25 = .ok (.iload 6, 2) := by decide +kernel
theorem dX3_fittingDim_27 : decode cX3_fittingDim 27 = .ok (.invokevirtual 74, 3) := by decide +kernel
theorem dX3_fittingDim_30 : decode cX3_fittingDim 30 = .ok (.i2l, 1) := by decide +kernel
theorem dX3_fittingDim_31 : decode cX3_fittingDim 31 = .ok (.lstore 7, 2) := by decide +kernel
theorem dX3_fittingDim_33 : decode cX3_fittingDim 33 = .ok (.lload_n 2, 1) := by decide +kernel
theorem dX3_fittingDim_34 : decode cX3_fittingDim 34 = .ok (.lload 7, 2) := by decide +kernel
theorem dX3_fittingDim_36 : decode cX3_fittingDim 36 = .ok (.lload 7, 2) := by decide +kernel
theorem dX3_fittingDim_38 : decode cX3_fittingDim 38 = .ok (.lmul, 1) := by decide +kernel
theorem dX3_fittingDim_39 : decode cX3_fittingDim 39 = .ok (.ladd, 1) := by decide +kernel
theorem dX3_fittingDim_40 : decode cX3_fittingDim 40 = .ok (.lstore_n 2, 1) := by decide +kernel
theorem dX3_fittingDim_41 : decode cX3_fittingDim 41 = .ok (.lload 4, 2) := by decide +kernel
theorem dX3_fittingDim_43 : decode cX3_fittingDim 43 = .ok (.lload 7, 2) := by decide +kernel
theorem dX3_fittingDim_45 : decode cX3_fittingDim 45 = .ok (.aload_n 0, 1) := by decide +kernel
theorem dX3_fittingDim_46 : decode cX3_fittingDim 46 = .ok (.getfield 18, 3) := by decide +kernel
theorem dX3_fittingDim_49 : decode cX3_fittingDim 49 = .ok (.iload 6, 2) := by decide +kernel
theorem dX3_fittingDim_51 : decode cX3_fittingDim 51 = .ok (.laload, 1) := by decide +kernel
theorem dX3_fittingDim_52 : decode cX3_fittingDim 52 = .ok (.lload 7, 2) := by decide +kernel
theorem dX3_fittingDim_54 : decode cX3_fittingDim 54 = .ok (.aload_n 0, 1) := by decide +kernel
theorem dX3_fittingDim_55 : decode cX3_fittingDim 55 = .ok (.getfield 15, 3) := by decide +kernel
theorem dX3_fittingDim_58 : decode cX3_fittingDim 58 = .ok (.iload_n 1, 1) := by decide +kernel
theorem dX3_fittingDim_59 : decode cX3_fittingDim 59 = .ok (.iaload, 1) := by decide +kernel
theorem dX3_fittingDim_60 : decode cX3_fittingDim 60 = .ok (.i2l, 1) := by decide +kernel
theorem dX3_fittingDim_61 : decode cX3_fittingDim 61 = .ok (.lmul, 1) := by decide +kernel
theorem dX3_fittingDim_62 : decode cX3_fittingDim 62 = .ok (.ladd, 1) := by decide +kernel
theorem dX3_fittingDim_63 : decode cX3_fittingDim 63 = .ok (.lmul, 1) := by decide +kernel
theorem dX3_fittingDim_64 : decode cX3_fittingDim 64 = .ok (.ladd, 1) := by decide +kernel
theorem dX3_fittingDim_65 : decode cX3_fittingDim 65 = .ok (.lstore 4, 2) := by decide +kernel
theorem dX3_fittingDim_67 : decode cX3_fittingDim 67 = .ok (.iinc 6 1, 3) := by decide +kernel
theorem dX3_fittingDim_70 : decode cX3_fittingDim 70 = .ok (.goto (-62), 3) := by decide +kernel
theorem dX3_fittingDim_73 : decode cX3_fittingDim 73 = .ok (.ldc2_w 78, 3) := by decide +kernel
theorem dX3_fittingDim_76 : decode cX3_fittingDim 76 = .ok (.lload 4, 2) := by decide +kernel
theorem dX3_fittingDim_78 : decode cX3_fittingDim 78 = .ok (.lmul, 1) := by decide +kernel
theorem dX3_fittingDim_79 : decode cX3_fittingDim 79 = .ok (.lload_n 2, 1) := by decide +kernel
theorem dX3_fittingDim_80 : decode cX3_fittingDim 80 = .ok (.lsub, 1) := by decide +kernel
theorem dX3_fittingDim_81 : decode cX3_fittingDim 81 = .ok (.lstore 6, 2) := by decide +kernel
theorem dX3_fittingDim_83 : decode cX3_fittingDim 83 = .ok (.lload 6, 2) := by decide +kernel
theorem dX3_fittingDim_85 : decode cX3_fittingDim 85 = .ok (.lconst 0, 1) := by decide +kernel
theorem dX3_fittingDim_86 : decode cX3_fittingDim 86 = .ok (.lcmp, 1) := by decide +kernel
theorem dX3_fittingDim_87 : decode cX3_fittingDim 87 = .ok (.ifCond .gt 5, 3) := by decide +kernel
theorem dX3_fittingDim_90 : decode cX3_fittingDim 90 = .ok (.iconst 0, 1) := by decide +kernel
theorem dX3_fittingDim_91 : decode cX3_fittingDim 91 = .ok (.ireturn, 1) := by decide +kernel
theorem dX3_fittingDim_92 : decode cX3_fittingDim 92 = .ok (.ldc2_w 46, 3) := by decide +kernel
theorem dX3_fittingDim_95 : decode cX3_fittingDim 95 = .ok (.lload 6, 2) := by decide +kernel
theorem dX3_fittingDim_97 : decode cX3_fittingDim 97 = .ok (.ldc2_w 78, 3) := by decide +kernel
theorem dX3_fittingDim_100 : decode cX3_fittingDim 100 = .ok (.lload_n 2, 1) := by decide +kernel
theorem dX3_fittingDim_101 : decode cX3_fittingDim 101 = .ok (.lmul, 1) := by decide +kernel
theorem dX3_fittingDim_102 : decode cX3_fittingDim 102 = .ok (.ladd, 1) := by decide +kernel
theorem dX3_fittingDim_103 : decode cX3_fittingDim 103 = .ok (.lconst 1, 1) := by decide +kernel
theorem dX3_fittingDim_104 : decode cX3_fittingDim 104 = .ok (.lsub, 1) := by decide +kernel
theorem dX3_fittingDim_105 : decode cX3_fittingDim 105 = .ok (.ldc2_w 78, 3) := by decide +kernel
theorem dX3_fittingDim_108 : decode cX3_fittingDim 108 = .ok (.lload_n 2, 1) := by decide +kernel
theorem dX3_fittingDim_109 : decode cX3_fittingDim 109 = .ok (.lmul, 1) := by decide +kernel
theorem dX3_fittingDim_110 : decode cX3_fittingDim 110 = .ok (.invokestatic 80, 3) := by decide +kernel
theorem dX3_fittingDim_113 : decode cX3_fittingDim 113 = .ok (.invokestatic 84, 3) := by decide +kernel
theorem dX3_fittingDim_116 : decode cX3_fittingDim 116 = .ok (.l2i, 1) := by decide +kernel
theorem dX3_fittingDim_117 : decode cX3_fittingDim 117 = .ok (.ireturn, 1) := by decide +kernel
set_option maxRecDepth 20000 in
theorem ggX3_moveTo_X0_lampLight : GoodIn wsX3_moveTo wsX0_lampLight := goodIn_r _ [10, 11, 12, 13, 14, 9, 15, 37, 38, 39, 40, 41, 42, 43, 44, 45, 46, 47, 48] (by decide +kernel) (by decide +kernel)
set_option maxRecDepth 20000 in
theorem gX3_moveTo_X0_lampLight : GoodIn wsX3_moveTo (wsV RX3 74 RX0 yX0_lampLight wsX0_lampLight) := goodIn_app (goodIn_of _ (by decide +kernel)) ggX3_moveTo_X0_lampLight
theorem dX3_moveTo_0 : decode cX3_moveTo 0 = .ok (.iload_n 2, 1) := by decide +kernel
theorem dX3_moveTo_1 : decode cX3_moveTo 1 = .ok (.aload_n 0, 1) := by decide +kernel
theorem dX3_moveTo_2 : decode cX3_moveTo 2 = .ok (.getfield 15, 3) := by decide +kernel
theorem dX3_moveTo_5 : decode cX3_moveTo 5 = .ok (.iload_n 1, 1) := by decide +kernel
theorem dX3_moveTo_6 : decode cX3_moveTo 6 = .ok (.iaload, 1) := by decide +kernel
theorem dX3_moveTo_7 : decode cX3_moveTo 7 = .ok (.isub, 1) := by decide +kernel
theorem dX3_moveTo_8 : decode cX3_moveTo 8 = .ok (.i2l, 1) := by decide +kernel
theorem dX3_moveTo_9 : decode cX3_moveTo 9 = .ok (.lstore_n 3, 1) := by decide +kernel
theorem dX3_moveTo_10 : decode cX3_moveTo 10 = .ok (.iconst 0, 1) := by decide +kernel
theorem dX3_moveTo_11 : decode cX3_moveTo 11 = .ok (.istore 5, 2) := by decide +kernel
theorem dX3_moveTo_13 : decode cX3_moveTo 13 = .ok (.iload 5, 2) := by decide +kernel
theorem dX3_moveTo_15 : decode cX3_moveTo 15 = .ok (.aload_n 0, 1) := by decide +kernel
theorem dX3_moveTo_16 : decode cX3_moveTo 16 = .ok (.getfield 22, 3) := by decide +kernel
theorem dX3_moveTo_19 : decode cX3_moveTo 19 = .ok (.getfield 40, 3) := by decide +kernel
theorem dX3_moveTo_22 : decode cX3_moveTo 22 = .ok (.if_icmp .ge 32, 3) := by decide +kernel
theorem dX3_moveTo_25 : decode cX3_moveTo 25 = .ok (.aload_n 0, 1) := by decide +kernel
theorem dX3_moveTo_26 : decode cX3_moveTo 26 = .ok (.getfield 18, 3) := by decide +kernel
theorem dX3_moveTo_29 : decode cX3_moveTo 29 = .ok (.iload 5, 2) := by decide +kernel
theorem dX3_moveTo_31 : decode cX3_moveTo 31 = .ok (.dup2, 1) := by decide +kernel
theorem dX3_moveTo_32 : decode cX3_moveTo 32 = .ok (.laload, 1) := by decide +kernel
theorem dX3_moveTo_33 : decode cX3_moveTo 33 = .ok (.lload_n 3, 1) := by decide +kernel
theorem dX3_moveTo_34 : decode cX3_moveTo 34 = .ok (.aload_n 0, 1) := by decide +kernel
theorem dX3_moveTo_35 : decode cX3_moveTo 35 = .ok (.getfield 26, 3) := by decide +kernel
theorem dX3_moveTo_38 : decode cX3_moveTo 38 = .ok (.iload_n 1, 1) := by decide +kernel
theorem dX3_moveTo_39 : decode cX3_moveTo 39 = .ok (.iload 5, 2) := by decide +kernel
theorem dX3_moveTo_41 : decode cX3_moveTo 41 = .ok (.invokevirtual 74, 3) := by decide +kernel
theorem dX3_moveTo_44 : decode cX3_moveTo 44 = .ok (.i2l, 1) := by decide +kernel
theorem dX3_moveTo_45 : decode cX3_moveTo 45 = .ok (.lmul, 1) := by decide +kernel
theorem dX3_moveTo_46 : decode cX3_moveTo 46 = .ok (.lsub, 1) := by decide +kernel
theorem dX3_moveTo_47 : decode cX3_moveTo 47 = .ok (.lastore, 1) := by decide +kernel
theorem dX3_moveTo_48 : decode cX3_moveTo 48 = .ok (.iinc 5 1, 3) := by decide +kernel
theorem dX3_moveTo_51 : decode cX3_moveTo 51 = .ok (.goto (-38), 3) := by decide +kernel
theorem dX3_moveTo_54 : decode cX3_moveTo 54 = .ok (.aload_n 0, 1) := by decide +kernel
theorem dX3_moveTo_55 : decode cX3_moveTo 55 = .ok (.getfield 15, 3) := by decide +kernel
theorem dX3_moveTo_58 : decode cX3_moveTo 58 = .ok (.iload_n 1, 1) := by decide +kernel
theorem dX3_moveTo_59 : decode cX3_moveTo 59 = .ok (.iload_n 2, 1) := by decide +kernel
theorem dX3_moveTo_60 : decode cX3_moveTo 60 = .ok (.iastore, 1) := by decide +kernel
theorem dX3_moveTo_61 : decode cX3_moveTo 61 = .ok (.return_, 1) := by decide +kernel
set_option maxRecDepth 20000 in
theorem ggX4_init_X2_init : GoodIn wsX4_init wsX2_init := goodIn_r _ [22, 23, 2, 3, 24, 25, 26, 27, 28, 29, 30, 31, 32, 33, 34, 35, 68, 69, 70, 71, 72, 73, 74, 75, 76, 77, 78, 79, 80, 81] (by decide +kernel) (by decide +kernel)
set_option maxRecDepth 20000 in
theorem gX4_init_X2_init : GoodIn wsX4_init (wsX2_init) := ggX4_init_X2_init
set_option maxRecDepth 20000 in
theorem ggX4_init_X0_init : GoodIn wsX4_init wsX0_init := goodIn_r _ [38, 39, 2, 3, 24, 40, 41, 42, 43, 44, 45, 46, 82, 83, 84, 85, 86, 87, 88, 89, 90, 91, 92, 93] (by decide +kernel) (by decide +kernel)
set_option maxRecDepth 20000 in
theorem gX4_init_X0_init : GoodIn wsX4_init (wsX0_init) := ggX4_init_X0_init
set_option maxRecDepth 20000 in
theorem ggX4_init_X3_init : GoodIn wsX4_init wsX3_init := goodIn_r _ [49, 50, 2, 3, 24, 51, 52, 53, 54, 55, 56, 98, 99, 100, 101, 102, 103, 104] (by decide +kernel) (by decide +kernel)
set_option maxRecDepth 20000 in
theorem gX4_init_X3_init : GoodIn wsX4_init (wsX3_init) := ggX4_init_X3_init
set_option maxRecDepth 20000 in
theorem ggX4_init_X1_init : GoodIn wsX4_init wsX1_init := goodIn_r _ [59, 60, 2, 3, 24, 61, 62, 63, 64, 65, 66, 67, 105, 106, 107, 108, 109, 110, 111, 112, 113, 114, 115] (by decide +kernel) (by decide +kernel)
set_option maxRecDepth 20000 in
theorem gX4_init_X1_init : GoodIn wsX4_init (wsX1_init) := ggX4_init_X1_init
theorem dX4_init_0 : decode cX4_init 0 = .ok (.aload_n 0, 1) := by decide +kernel
theorem dX4_init_1 : decode cX4_init 1 = .ok (.invokespecial 1, 3) := by decide +kernel
theorem dX4_init_4 : decode cX4_init 4 = .ok (.new 7, 3) := by decide +kernel
theorem dX4_init_7 : decode cX4_init 7 = .ok (.dup, 1) := by decide +kernel
theorem dX4_init_8 : decode cX4_init 8 = .ok (.invokespecial 9, 3) := by decide +kernel
theorem dX4_init_11 : decode cX4_init 11 = .ok (.astore_n 1, 1) := by decide +kernel
theorem dX4_init_12 : decode cX4_init 12 = .ok (.new 10, 3) := by decide +kernel
theorem dX4_init_15 : decode cX4_init 15 = .ok (.dup, 1) := by decide +kernel
theorem dX4_init_16 : decode cX4_init 16 = .ok (.aload_n 1, 1) := by decide +kernel
theorem dX4_init_17 : decode cX4_init 17 = .ok (.invokespecial 12, 3) := by decide +kernel
theorem dX4_init_20 : decode cX4_init 20 = .ok (.astore_n 2, 1) := by decide +kernel
theorem dX4_init_21 : decode cX4_init 21 = .ok (.aload_n 0, 1) := by decide +kernel
theorem dX4_init_22 : decode cX4_init 22 = .ok (.aload_n 1, 1) := by decide +kernel
theorem dX4_init_23 : decode cX4_init 23 = .ok (.putfield 15, 3) := by decide +kernel
theorem dX4_init_26 : decode cX4_init 26 = .ok (.aload_n 0, 1) := by decide +kernel
theorem dX4_init_27 : decode cX4_init 27 = .ok (.aload_n 2, 1) := by decide +kernel
theorem dX4_init_28 : decode cX4_init 28 = .ok (.putfield 21, 3) := by decide +kernel
theorem dX4_init_31 : decode cX4_init 31 = .ok (.aload_n 0, 1) := by decide +kernel
theorem dX4_init_32 : decode cX4_init 32 = .ok (.new 25, 3) := by decide +kernel
theorem dX4_init_35 : decode cX4_init 35 = .ok (.dup, 1) := by decide +kernel
theorem dX4_init_36 : decode cX4_init 36 = .ok (.aload_n 1, 1) := by decide +kernel
theorem dX4_init_37 : decode cX4_init 37 = .ok (.aload_n 2, 1) := by decide +kernel
theorem dX4_init_38 : decode cX4_init 38 = .ok (.invokespecial 27, 3) := by decide +kernel
theorem dX4_init_41 : decode cX4_init 41 = .ok (.putfield 30, 3) := by decide +kernel
theorem dX4_init_44 : decode cX4_init 44 = .ok (.aload_n 0, 1) := by decide +kernel
theorem dX4_init_45 : decode cX4_init 45 = .ok (.new 34, 3) := by decide +kernel
theorem dX4_init_48 : decode cX4_init 48 = .ok (.dup, 1) := by decide +kernel
theorem dX4_init_49 : decode cX4_init 49 = .ok (.aload_n 1, 1) := by decide +kernel
theorem dX4_init_50 : decode cX4_init 50 = .ok (.aload_n 2, 1) := by decide +kernel
theorem dX4_init_51 : decode cX4_init 51 = .ok (.invokespecial 36, 3) := by decide +kernel
theorem dX4_init_54 : decode cX4_init 54 = .ok (.putfield 37, 3) := by decide +kernel
theorem dX4_init_57 : decode cX4_init 57 = .ok (.return_, 1) := by decide +kernel
set_option maxRecDepth 20000 in
theorem ggX4_kind_X4_checkBounds : GoodIn wsX4_kind wsX4_checkBounds := goodIn_ca (goodIn_r _ [7, 8, 9] (by decide +kernel) (by decide +kernel)) (goodIn_sub (fun _ h => List.mem_cons_of_mem _ (List.mem_append_left _ (List.mem_append_right _ h))) (by decide +kernel))
set_option maxRecDepth 20000 in
theorem gX4_kind_X4_checkBounds : GoodIn wsX4_kind (va_wsS RX4 41 yX4_checkBounds wsX4_checkBounds) := goodIn_app (goodIn_of _ (by decide +kernel)) ggX4_kind_X4_checkBounds
set_option maxRecDepth 20000 in
theorem ggX4_kind_X4_checkCount : GoodIn wsX4_kind wsX4_checkCount := goodIn_ca (goodIn_r _ [12, 13, 14] (by decide +kernel) (by decide +kernel)) (goodIn_sub (fun _ h => List.mem_cons_of_mem _ (List.mem_append_right _ h)) (by decide +kernel))
set_option maxRecDepth 20000 in
theorem gX4_kind_X4_checkCount : GoodIn wsX4_kind (va_wsS RX4 50 yX4_checkCount wsX4_checkCount) := goodIn_app (goodIn_of _ (by decide +kernel)) ggX4_kind_X4_checkCount
set_option maxRecDepth 20000 in
theorem ggX4_kind_X2_addKind : GoodIn wsX4_kind wsX2_addKind := goodIn_r _ [19, 20, 21, 22, 23, 24, 49, 50, 51, 52, 53, 54, 55, 56, 57, 58, 59, 60, 61, 62] (by decide +kernel) (by decide +kernel)
set_option maxRecDepth 20000 in
theorem gX4_kind_X2_addKind : GoodIn wsX4_kind (wsV RX4 54 RX2 yX2_addKind wsX2_addKind) := goodIn_app (goodIn_of _ (by decide +kernel)) ggX4_kind_X2_addKind
set_option maxRecDepth 20000 in
theorem ggX4_kind_X4_lampsGo : GoodIn wsX4_kind wsX4_lampsGo := goodIn_r _ [28, 29, 30, 31, 32, 33, 34, 35, 36, 37, 38, 39, 40, 41, 42, 43, 44, 45, 46, 47, 48, 63, 64, 65, 66, 67, 68, 69, 70, 71, 72, 73, 74, 75, 76, 77, 78, 79, 80, 81, 82, 83, 84, 85, 86, 87, 88, 89, 90, 91, 92] (by decide +kernel) (by decide +kernel)
set_option maxRecDepth 20000 in
theorem gX4_kind_X4_lampsGo : GoodIn wsX4_kind (wsV RX4 58 RX4 yX4_lampsGo wsX4_lampsGo) := goodIn_app (goodIn_of _ (by decide +kernel)) ggX4_kind_X4_lampsGo
theorem dX4_kind_0 : decode cX4_kind 0 = .ok (.iload_n 1, 1) := by decide +kernel
theorem dX4_kind_1 : decode cX4_kind 1 = .ok (.iconst 1, 1) := by decide +kernel
theorem dX4_kind_2 : decode cX4_kind 2 = .ok (.sipush 10000, 3) := by decide +kernel
theorem dX4_kind_5 : decode cX4_kind 5 = .ok (.invokestatic 41, 3) := by decide +kernel
theorem dX4_kind_8 : decode cX4_kind 8 = .ok (.iload_n 2, 1) := by decide +kernel
theorem dX4_kind_9 : decode cX4_kind 9 = .ok (.iconst 1, 1) := by decide +kernel
theorem dX4_kind_10 : decode cX4_kind 10 = .ok (.sipush 500, 3) := by decide +kernel
theorem dX4_kind_13 : decode cX4_kind 13 = .ok (.invokestatic 41, 3) := by decide +kernel
theorem dX4_kind_16 : decode cX4_kind 16 = .ok (.iload_n 3, 1) := by decide +kernel
theorem dX4_kind_17 : decode cX4_kind 17 = .ok (.iconst 1, 1) := by decide +kernel
theorem dX4_kind_18 : decode cX4_kind 18 = .ok (.ldc 45, 2) := by decide +kernel
theorem dX4_kind_20 : decode cX4_kind 20 = .ok (.invokestatic 41, 3) := by decide +kernel
theorem dX4_kind_23 : decode cX4_kind 23 = .ok (.iload 4, 2) := by decide +kernel
theorem dX4_kind_25 : decode cX4_kind 25 = .ok (.iconst 0, 1) := by decide +kernel
theorem dX4_kind_26 : decode cX4_kind 26 = .ok (.ldc 45, 2) := by decide +kernel
theorem dX4_kind_28 : decode cX4_kind 28 = .ok (.invokestatic 41, 3) := by decide +kernel
theorem dX4_kind_31 : decode cX4_kind 31 = .ok (.aload_n 0, 1) := by decide +kernel
theorem dX4_kind_32 : decode cX4_kind 32 = .ok (.getfield 15, 3) := by decide +kernel
theorem dX4_kind_35 : decode cX4_kind 35 = .ok (.getfield 46, 3) := by decide +kernel
theorem dX4_kind_38 : decode cX4_kind 38 = .ok (.iconst 3, 1) := by decide +kernel
theorem dX4_kind_39 : decode cX4_kind 39 = .ok (.invokestatic 50, 3) := by decide +kernel
theorem dX4_kind_42 : decode cX4_kind 42 = .ok (.aload_n 0, 1) := by decide +kernel
theorem dX4_kind_43 : decode cX4_kind 43 = .ok (.getfield 15, 3) := by decide +kernel
theorem dX4_kind_46 : decode cX4_kind 46 = .ok (.iload_n 1, 1) := by decide +kernel
theorem dX4_kind_47 : decode cX4_kind 47 = .ok (.iload_n 2, 1) := by decide +kernel
theorem dX4_kind_48 : decode cX4_kind 48 = .ok (.iload_n 3, 1) := by decide +kernel
theorem dX4_kind_49 : decode cX4_kind 49 = .ok (.iload 4, 2) := by decide +kernel
theorem dX4_kind_51 : decode cX4_kind 51 = .ok (.invokevirtual 54, 3) := by decide +kernel
theorem dX4_kind_54 : decode cX4_kind 54 = .ok (.istore 5, 2) := by decide +kernel
theorem dX4_kind_56 : decode cX4_kind 56 = .ok (.aload_n 0, 1) := by decide +kernel
theorem dX4_kind_57 : decode cX4_kind 57 = .ok (.invokevirtual 58, 3) := by decide +kernel
theorem dX4_kind_60 : decode cX4_kind 60 = .ok (.iload 5, 2) := by decide +kernel
theorem dX4_kind_62 : decode cX4_kind 62 = .ok (.ireturn, 1) := by decide +kernel
set_option maxRecDepth 20000 in
theorem ggX4_place_X4_checkBounds : GoodIn wsX4_place wsX4_checkBounds := goodIn_ca (goodIn_r _ [6, 7, 8] (by decide +kernel) (by decide +kernel)) (goodIn_sub (fun _ h => List.mem_cons_of_mem _ (List.mem_append_left _ (List.mem_append_right _ h))) (by decide +kernel))
set_option maxRecDepth 20000 in
theorem gX4_place_X4_checkBounds : GoodIn wsX4_place (va_wsS RX4 41 yX4_checkBounds wsX4_checkBounds) := goodIn_app (goodIn_of _ (by decide +kernel)) ggX4_place_X4_checkBounds
end
section
set_option maxRecDepth 20000 in
theorem ggX4_place_X4_checkCount : GoodIn wsX4_place wsX4_checkCount := goodIn_ca (goodIn_r _ [11, 12, 13] (by decide +kernel) (by decide +kernel)) (goodIn_sub (fun _ h => List.mem_cons_of_mem _ (List.mem_append_right _ h)) (by decide +kernel))
set_option maxRecDepth 20000 in
theorem gX4_place_X4_checkCount : GoodIn wsX4_place (va_wsS RX4 50 yX4_checkCount wsX4_checkCount) := goodIn_app (goodIn_of _ (by decide +kernel)) ggX4_place_X4_checkCount
set_option maxRecDepth 20000 in
theorem ggX4_place_X2_addPlace : GoodIn wsX4_place wsX2_addPlace := goodIn_r _ [18, 19, 20, 21, 46, 47, 48, 49, 50, 51, 52, 53, 54, 55, 56, 57, 58, 59] (by decide +kernel) (by decide +kernel)
set_option maxRecDepth 20000 in
theorem gX4_place_X2_addPlace : GoodIn wsX4_place (wsV RX4 64 RX2 yX2_addPlace wsX2_addPlace) := goodIn_app (goodIn_of _ (by decide +kernel)) ggX4_place_X2_addPlace
set_option maxRecDepth 20000 in
theorem ggX4_place_X4_lampsGo : GoodIn wsX4_place wsX4_lampsGo := goodIn_r _ [25, 26, 27, 28, 29, 30, 31, 32, 33, 34, 35, 36, 37, 38, 39, 40, 41, 42, 43, 44, 45, 60, 61, 62, 63, 64, 65, 66, 67, 68, 69, 70, 71, 72, 73, 74, 75, 76, 77, 78, 79, 80, 81, 82, 83, 84, 85, 86, 87, 88, 89] (by decide +kernel) (by decide +kernel)
set_option maxRecDepth 20000 in
theorem gX4_place_X4_lampsGo : GoodIn wsX4_place (wsV RX4 58 RX4 yX4_lampsGo wsX4_lampsGo) := goodIn_app (goodIn_of _ (by decide +kernel)) ggX4_place_X4_lampsGo
theorem dX4_place_0 : decode cX4_place 0 = .ok (.iload_n 1, 1) := by decide +kernel
theorem dX4_place_1 : decode cX4_place 1 = .ok (.iconst 0, 1) := by decide +kernel
theorem dX4_place_2 : decode cX4_place 2 = .ok (.bipush 50, 2) := by decide +kernel
theorem dX4_place_4 : decode cX4_place 4 = .ok (.invokestatic 41, 3) := by decide +kernel
theorem dX4_place_7 : decode cX4_place 7 = .ok (.iload_n 2, 1) := by decide +kernel
theorem dX4_place_8 : decode cX4_place 8 = .ok (.iconst 0, 1) := by decide +kernel
theorem dX4_place_9 : decode cX4_place 9 = .ok (.bipush 50, 2) := by decide +kernel
theorem dX4_place_11 : decode cX4_place 11 = .ok (.invokestatic 41, 3) := by decide +kernel
theorem dX4_place_14 : decode cX4_place 14 = .ok (.aload_n 0, 1) := by decide +kernel
theorem dX4_place_15 : decode cX4_place 15 = .ok (.getfield 15, 3) := by decide +kernel
theorem dX4_place_18 : decode cX4_place 18 = .ok (.getfield 61, 3) := by decide +kernel
theorem dX4_place_21 : decode cX4_place 21 = .ok (.bipush 7, 2) := by decide +kernel
theorem dX4_place_23 : decode cX4_place 23 = .ok (.invokestatic 50, 3) := by decide +kernel
theorem dX4_place_26 : decode cX4_place 26 = .ok (.aload_n 0, 1) := by decide +kernel
theorem dX4_place_27 : decode cX4_place 27 = .ok (.getfield 15, 3) := by decide +kernel
theorem dX4_place_30 : decode cX4_place 30 = .ok (.iload_n 1, 1) := by decide +kernel
theorem dX4_place_31 : decode cX4_place 31 = .ok (.iload_n 2, 1) := by decide +kernel
theorem dX4_place_32 : decode cX4_place 32 = .ok (.invokevirtual 64, 3) := by decide +kernel
theorem dX4_place_35 : decode cX4_place 35 = .ok (.istore_n 3, 1) := by decide +kernel
theorem dX4_place_36 : decode cX4_place 36 = .ok (.aload_n 0, 1) := by decide +kernel
theorem dX4_place_37 : decode cX4_place 37 = .ok (.invokevirtual 58, 3) := by decide +kernel
theorem dX4_place_40 : decode cX4_place 40 = .ok (.iload_n 3, 1) := by decide +kernel
theorem dX4_place_41 : decode cX4_place 41 = .ok (.ireturn, 1) := by decide +kernel
set_option maxRecDepth 20000 in
theorem ggX4_point_X4_checkBounds : GoodIn wsX4_point wsX4_checkBounds := goodIn_ca (goodIn_r _ [7, 8, 9] (by decide +kernel) (by decide +kernel)) (goodIn_sub (fun _ h => List.mem_cons_of_mem _ (List.mem_append_left _ (List.mem_append_right _ h))) (by decide +kernel))
set_option maxRecDepth 20000 in
theorem gX4_point_X4_checkBounds : GoodIn wsX4_point (va_wsS RX4 41 yX4_checkBounds wsX4_checkBounds) := goodIn_app (goodIn_of _ (by decide +kernel)) ggX4_point_X4_checkBounds
set_option maxRecDepth 20000 in
theorem ggX4_point_X4_checkCount : GoodIn wsX4_point wsX4_checkCount := goodIn_ca (goodIn_r _ [12, 13, 14] (by decide +kernel) (by decide +kernel)) (goodIn_sub (fun _ h => List.mem_cons_of_mem _ (List.mem_append_right _ h)) (by decide +kernel))
set_option maxRecDepth 20000 in
theorem gX4_point_X4_checkCount : GoodIn wsX4_point (va_wsS RX4 50 yX4_checkCount wsX4_checkCount) := goodIn_app (goodIn_of _ (by decide +kernel)) ggX4_point_X4_checkCount
set_option maxRecDepth 20000 in
theorem ggX4_point_X2_addPoint : GoodIn wsX4_point wsX2_addPoint := goodIn_r _ [19, 20, 21, 22, 23, 48, 49, 50, 51, 52, 53, 54, 55, 56, 57, 58, 59, 60, 61] (by decide +kernel) (by decide +kernel)
set_option maxRecDepth 20000 in
theorem gX4_point_X2_addPoint : GoodIn wsX4_point (wsV RX4 71 RX2 yX2_addPoint wsX2_addPoint) := goodIn_app (goodIn_of _ (by decide +kernel)) ggX4_point_X2_addPoint
set_option maxRecDepth 20000 in
theorem ggX4_point_X4_lampsGo : GoodIn wsX4_point wsX4_lampsGo := goodIn_r _ [27, 28, 29, 30, 31, 32, 33, 34, 35, 36, 37, 38, 39, 40, 41, 42, 43, 44, 45, 46, 47, 62, 63, 64, 65, 66, 67, 68, 69, 70, 71, 72, 73, 74, 75, 76, 77, 78, 79, 80, 81, 82, 83, 84, 85, 86, 87, 88, 89, 90, 91] (by decide +kernel) (by decide +kernel)
set_option maxRecDepth 20000 in
theorem gX4_point_X4_lampsGo : GoodIn wsX4_point (wsV RX4 58 RX4 yX4_lampsGo wsX4_lampsGo) := goodIn_app (goodIn_of _ (by decide +kernel)) ggX4_point_X4_lampsGo
theorem dX4_point_0 : decode cX4_point 0 = .ok (.iload_n 1, 1) := by decide +kernel
theorem dX4_point_1 : decode cX4_point 1 = .ok (.iconst 0, 1) := by decide +kernel
theorem dX4_point_2 : decode cX4_point 2 = .ok (.bipush 50, 2) := by decide +kernel
theorem dX4_point_4 : decode cX4_point 4 = .ok (.invokestatic 41, 3) := by decide +kernel
theorem dX4_point_7 : decode cX4_point 7 = .ok (.iload_n 2, 1) := by decide +kernel
theorem dX4_point_8 : decode cX4_point 8 = .ok (.iconst 0, 1) := by decide +kernel
theorem dX4_point_9 : decode cX4_point 9 = .ok (.bipush 50, 2) := by decide +kernel
theorem dX4_point_11 : decode cX4_point 11 = .ok (.invokestatic 41, 3) := by decide +kernel
theorem dX4_point_14 : decode cX4_point 14 = .ok (.iload_n 3, 1) := by decide +kernel
theorem dX4_point_15 : decode cX4_point 15 = .ok (.iconst 0, 1) := by decide +kernel
theorem dX4_point_16 : decode cX4_point 16 = .ok (.ldc 45, 2) := by decide +kernel
theorem dX4_point_18 : decode cX4_point 18 = .ok (.invokestatic 41, 3) := by decide +kernel
theorem dX4_point_21 : decode cX4_point 21 = .ok (.aload_n 0, 1) := by decide +kernel
theorem dX4_point_22 : decode cX4_point 22 = .ok (.getfield 15, 3) := by decide +kernel
theorem dX4_point_25 : decode cX4_point 25 = .ok (.getfield 68, 3) := by decide +kernel
theorem dX4_point_28 : decode cX4_point 28 = .ok (.bipush 16, 2) := by decide +kernel
theorem dX4_point_30 : decode cX4_point 30 = .ok (.invokestatic 50, 3) := by decide +kernel
theorem dX4_point_33 : decode cX4_point 33 = .ok (.aload_n 0, 1) := by decide +kernel
theorem dX4_point_34 : decode cX4_point 34 = .ok (.getfield 15, 3) := by decide +kernel
theorem dX4_point_37 : decode cX4_point 37 = .ok (.iload_n 1, 1) := by decide +kernel
theorem dX4_point_38 : decode cX4_point 38 = .ok (.iload_n 2, 1) := by decide +kernel
theorem dX4_point_39 : decode cX4_point 39 = .ok (.iload_n 3, 1) := by decide +kernel
theorem dX4_point_40 : decode cX4_point 40 = .ok (.invokevirtual 71, 3) := by decide +kernel
theorem dX4_point_43 : decode cX4_point 43 = .ok (.istore 4, 2) := by decide +kernel
theorem dX4_point_45 : decode cX4_point 45 = .ok (.aload_n 0, 1) := by decide +kernel
theorem dX4_point_46 : decode cX4_point 46 = .ok (.invokevirtual 58, 3) := by decide +kernel
theorem dX4_point_49 : decode cX4_point 49 = .ok (.iload 4, 2) := by decide +kernel
theorem dX4_point_51 : decode cX4_point 51 = .ok (.ireturn, 1) := by decide +kernel
set_option maxRecDepth 20000 in
theorem ggX4_height_X4_checkBounds : GoodIn wsX4_height wsX4_checkBounds := goodIn_ca (goodIn_r _ [6, 7, 8] (by decide +kernel) (by decide +kernel)) (goodIn_sub (fun _ h => List.mem_cons_of_mem _ (List.mem_append_right _ h)) (by decide +kernel))
set_option maxRecDepth 20000 in
theorem gX4_height_X4_checkBounds : GoodIn wsX4_height (va_wsS RX4 41 yX4_checkBounds wsX4_checkBounds) := goodIn_app (goodIn_of _ (by decide +kernel)) ggX4_height_X4_checkBounds
set_option maxRecDepth 20000 in
theorem ggX4_height_X4_lampsGo : GoodIn wsX4_height wsX4_lampsGo := goodIn_r _ [12, 13, 14, 15, 16, 17, 18, 19, 20, 21, 22, 23, 24, 25, 26, 27, 28, 29, 30, 31, 32, 47, 48, 49, 50, 51, 52, 53, 54, 55, 56, 57, 58, 59, 60, 61, 62, 63, 64, 65, 66, 67, 68, 69, 70, 71, 72, 73, 74, 75, 76] (by decide +kernel) (by decide +kernel)
set_option maxRecDepth 20000 in
theorem gX4_height_X4_lampsGo : GoodIn wsX4_height (wsV RX4 58 RX4 yX4_lampsGo wsX4_lampsGo) := goodIn_app (goodIn_of _ (by decide +kernel)) ggX4_height_X4_lampsGo
theorem dX4_height_0 : decode cX4_height 0 = .ok (.iload_n 1, 1) := by decide +kernel
theorem dX4_height_1 : decode cX4_height 1 = .ok (.iconst 1, 1) := by decide +kernel
theorem dX4_height_2 : decode cX4_height 2 = .ok (.bipush 50, 2) := by decide +kernel
theorem dX4_height_4 : decode cX4_height 4 = .ok (.invokestatic 41, 3) := by decide +kernel
theorem dX4_height_7 : decode cX4_height 7 = .ok (.aload_n 0, 1) := by decide +kernel
theorem dX4_height_8 : decode cX4_height 8 = .ok (.getfield 15, 3) := by decide +kernel
theorem dX4_height_11 : decode cX4_height 11 = .ok (.getfield 75, 3) := by decide +kernel
theorem dX4_height_14 : decode cX4_height 14 = .ok (.istore_n 2, 1) := by decide +kernel
theorem dX4_height_15 : decode cX4_height 15 = .ok (.aload_n 0, 1) := by decide +kernel
theorem dX4_height_16 : decode cX4_height 16 = .ok (.getfield 15, 3) := by decide +kernel
theorem dX4_height_19 : decode cX4_height 19 = .ok (.iload_n 1, 1) := by decide +kernel
theorem dX4_height_20 : decode cX4_height 20 = .ok (.putfield 75, 3) := by decide +kernel
theorem dX4_height_23 : decode cX4_height 23 = .ok (.aload_n 0, 1) := by decide +kernel
theorem dX4_height_24 : decode cX4_height 24 = .ok (.invokevirtual 58, 3) := by decide +kernel
theorem dX4_height_27 : decode cX4_height 27 = .ok (.iload_n 2, 1) := by decide +kernel
theorem dX4_height_28 : decode cX4_height 28 = .ok (.ireturn, 1) := by decide +kernel
set_option maxRecDepth 20000 in
theorem ggX4_hold_X4_checkPlace : GoodIn wsX4_hold wsX4_checkPlace := goodIn_ca (goodIn_r _ [8, 1, 9, 10, 11, 7, 12, 13, 14, 35, 36, 37, 38, 39, 40, 41, 42, 43, 44, 45, 46, 47, 48, 49, 50, 51, 52] (by decide +kernel) (by decide +kernel)) (goodIn_sub (fun _ h => List.mem_cons_of_mem _ (List.mem_append_right _ h)) (by decide +kernel))
set_option maxRecDepth 20000 in
theorem gX4_hold_X4_checkPlace : GoodIn wsX4_hold (wsV RX4 78 RX4 yX4_checkPlace wsX4_checkPlace) := goodIn_app (goodIn_of _ (by decide +kernel)) ggX4_hold_X4_checkPlace
set_option maxRecDepth 20000 in
theorem ggX4_hold_X4_checkBounds : GoodIn wsX4_hold wsX4_checkBounds := goodIn_ca (goodIn_r _ [12, 13, 14] (by decide +kernel) (by decide +kernel)) (goodIn_sub (fun _ h => List.mem_cons_of_mem _ (List.mem_append_right _ h)) (by decide +kernel))
set_option maxRecDepth 20000 in
theorem gX4_hold_X4_checkBounds : GoodIn wsX4_hold (va_wsS RX4 41 yX4_checkBounds wsX4_checkBounds) := goodIn_app (goodIn_of _ (by decide +kernel)) ggX4_hold_X4_checkBounds
set_option maxRecDepth 20000 in
theorem ggX4_hold_X4_lampsGo : GoodIn wsX4_hold wsX4_lampsGo := goodIn_r _ [18, 19, 20, 21, 22, 23, 24, 25, 26, 27, 28, 29, 30, 31, 32, 33, 34, 35, 36, 37, 38, 53, 54, 55, 56, 57, 58, 59, 60, 61, 62, 63, 64, 65, 66, 67, 68, 69, 70, 71, 72, 73, 74, 75, 76, 77, 78, 79, 80, 81, 82] (by decide +kernel) (by decide +kernel)
set_option maxRecDepth 20000 in
theorem gX4_hold_X4_lampsGo : GoodIn wsX4_hold (wsV RX4 58 RX4 yX4_lampsGo wsX4_lampsGo) := goodIn_app (goodIn_of _ (by decide +kernel)) ggX4_hold_X4_lampsGo
theorem dX4_hold_0 : decode cX4_hold 0 = .ok (.aload_n 0, 1) := by decide +kernel
theorem dX4_hold_1 : decode cX4_hold 1 = .ok (.iload_n 1, 1) := by decide +kernel
theorem dX4_hold_2 : decode cX4_hold 2 = .ok (.invokevirtual 78, 3) := by decide +kernel
theorem dX4_hold_5 : decode cX4_hold 5 = .ok (.iload_n 2, 1) := by decide +kernel
theorem dX4_hold_6 : decode cX4_hold 6 = .ok (.bipush (-2), 2) := by decide +kernel
theorem dX4_hold_8 : decode cX4_hold 8 = .ok (.aload_n 0, 1) := by decide +kernel
theorem dX4_hold_9 : decode cX4_hold 9 = .ok (.getfield 15, 3) := by decide +kernel
theorem dX4_hold_12 : decode cX4_hold 12 = .ok (.getfield 46, 3) := by decide +kernel
theorem dX4_hold_15 : decode cX4_hold 15 = .ok (.iconst 1, 1) := by decide +kernel
theorem dX4_hold_16 : decode cX4_hold 16 = .ok (.isub, 1) := by decide +kernel
theorem dX4_hold_17 : decode cX4_hold 17 = .ok (.invokestatic 41, 3) := by decide +kernel
theorem dX4_hold_20 : decode cX4_hold 20 = .ok (.aload_n 0, 1) := by decide +kernel
theorem dX4_hold_21 : decode cX4_hold 21 = .ok (.getfield 15, 3) := by decide +kernel
theorem dX4_hold_24 : decode cX4_hold 24 = .ok (.getfield 82, 3) := by decide +kernel
theorem dX4_hold_27 : decode cX4_hold 27 = .ok (.iload_n 1, 1) := by decide +kernel
theorem dX4_hold_28 : decode cX4_hold 28 = .ok (.iload_n 2, 1) := by decide +kernel
theorem dX4_hold_29 : decode cX4_hold 29 = .ok (.iastore, 1) := by decide +kernel
theorem dX4_hold_30 : decode cX4_hold 30 = .ok (.aload_n 0, 1) := by decide +kernel
theorem dX4_hold_31 : decode cX4_hold 31 = .ok (.invokevirtual 58, 3) := by decide +kernel
theorem dX4_hold_34 : decode cX4_hold 34 = .ok (.return_, 1) := by decide +kernel
set_option maxRecDepth 20000 in
theorem ggX4_light_X4_checkBounds : GoodIn wsX4_light wsX4_checkBounds := goodIn_ca (goodIn_r _ [6, 7, 8] (by decide +kernel) (by decide +kernel)) (goodIn_sub (fun _ h => List.mem_cons_of_mem _ (List.mem_append_right _ h)) (by decide +kernel))
set_option maxRecDepth 20000 in
theorem gX4_light_X4_checkBounds : GoodIn wsX4_light (va_wsS RX4 41 yX4_checkBounds wsX4_checkBounds) := goodIn_app (goodIn_of _ (by decide +kernel)) ggX4_light_X4_checkBounds
set_option maxRecDepth 20000 in
theorem ggX4_light_X4_checkPlace : GoodIn wsX4_light wsX4_checkPlace := goodIn_ca (goodIn_r _ [12, 1, 13, 3, 4, 5, 6, 7, 8, 33, 34, 35, 36, 37, 38, 39, 40, 41, 42, 43, 44, 45, 46, 47, 48, 49, 50] (by decide +kernel) (by decide +kernel)) (goodIn_sub (fun _ h => List.mem_cons_of_mem _ (List.mem_append_right _ h)) (by decide +kernel))
set_option maxRecDepth 20000 in
theorem gX4_light_X4_checkPlace : GoodIn wsX4_light (wsV RX4 78 RX4 yX4_checkPlace wsX4_checkPlace) := goodIn_app (goodIn_of _ (by decide +kernel)) ggX4_light_X4_checkPlace
set_option maxRecDepth 20000 in
theorem ggX4_light_X4_checkPoint : GoodIn wsX4_light wsX4_checkPoint := goodIn_ca (goodIn_r _ [17, 1, 18, 3, 4, 5, 6, 7, 8, 33, 34, 35, 36, 37, 38, 39, 40, 41, 42, 43, 44, 45, 46, 47, 48, 49, 50] (by decide +kernel) (by decide +kernel)) (goodIn_sub (fun _ h => List.mem_cons_of_mem _ (List.mem_append_right _ h)) (by decide +kernel))
set_option maxRecDepth 20000 in
theorem gX4_light_X4_checkPoint : GoodIn wsX4_light (wsV RX4 86 RX4 yX4_checkPoint wsX4_checkPoint) := goodIn_app (goodIn_of _ (by decide +kernel)) ggX4_light_X4_checkPoint
set_option maxRecDepth 20000 in
theorem ggX4_light_X2_lightOf : GoodIn wsX4_light wsX2_lightOf := goodIn_r _ [23, 24, 25, 26, 27, 28, 29, 30, 31, 5, 32, 37, 38, 39, 40, 41, 42, 43, 44, 45, 46, 47, 48, 49, 50] (by decide +kernel) (by decide +kernel)
set_option maxRecDepth 20000 in
theorem gX4_light_X2_lightOf : GoodIn wsX4_light (wsV RX4 89 RX2 yX2_lightOf wsX2_lightOf) := goodIn_app (goodIn_of _ (by decide +kernel)) ggX4_light_X2_lightOf
theorem dX4_light_0 : decode cX4_light 0 = .ok (.iload_n 1, 1) := by decide +kernel
theorem dX4_light_1 : decode cX4_light 1 = .ok (.iconst 0, 1) := by decide +kernel
theorem dX4_light_2 : decode cX4_light 2 = .ok (.aload_n 0, 1) := by decide +kernel
theorem dX4_light_3 : decode cX4_light 3 = .ok (.getfield 15, 3) := by decide +kernel
theorem dX4_light_6 : decode cX4_light 6 = .ok (.getfield 46, 3) := by decide +kernel
theorem dX4_light_9 : decode cX4_light 9 = .ok (.iconst 1, 1) := by decide +kernel
theorem dX4_light_10 : decode cX4_light 10 = .ok (.isub, 1) := by decide +kernel
theorem dX4_light_11 : decode cX4_light 11 = .ok (.invokestatic 41, 3) := by decide +kernel
theorem dX4_light_14 : decode cX4_light 14 = .ok (.aload_n 0, 1) := by decide +kernel
theorem dX4_light_15 : decode cX4_light 15 = .ok (.iload_n 2, 1) := by decide +kernel
theorem dX4_light_16 : decode cX4_light 16 = .ok (.invokevirtual 78, 3) := by decide +kernel
theorem dX4_light_19 : decode cX4_light 19 = .ok (.aload_n 0, 1) := by decide +kernel
theorem dX4_light_20 : decode cX4_light 20 = .ok (.iload_n 3, 1) := by decide +kernel
theorem dX4_light_21 : decode cX4_light 21 = .ok (.invokevirtual 86, 3) := by decide +kernel
theorem dX4_light_24 : decode cX4_light 24 = .ok (.aload_n 0, 1) := by decide +kernel
theorem dX4_light_25 : decode cX4_light 25 = .ok (.getfield 15, 3) := by decide +kernel
theorem dX4_light_28 : decode cX4_light 28 = .ok (.iload_n 1, 1) := by decide +kernel
theorem dX4_light_29 : decode cX4_light 29 = .ok (.iload_n 2, 1) := by decide +kernel
theorem dX4_light_30 : decode cX4_light 30 = .ok (.iload_n 3, 1) := by decide +kernel
theorem dX4_light_31 : decode cX4_light 31 = .ok (.invokevirtual 89, 3) := by decide +kernel
theorem dX4_light_34 : decode cX4_light 34 = .ok (.ireturn, 1) := by decide +kernel
set_option maxRecDepth 20000 in
theorem ggX4_best_X0_settle : GoodIn wsX4_best wsX0_settle := goodIn_r _ [8, 9, 10, 11, 12, 13, 14, 15, 16, 17, 18, 7, 19, 20, 21, 22, 23, 24, 25, 26, 27, 28, 29, 30, 31, 32, 33, 34, 35, 36, 37, 38, 39, 40, 41, 42, 43, 44, 45, 46, 47, 48, 49, 50, 51, 52, 53, 54, 55, 56, 57, 58, 59, 60, 61, 62, 63, 64, 65, 66, 67, 68, 69, 70, 71, 72, 73, 74, 75, 76, 77, 78, 79, 80, 81, 82, 83, 84, 85, 86, 87, 88, 89, 90, 91, 92, 93, 94, 95, 96, 97, 98, 103, 104, 105, 106, 107, 108, 109, 110, 111, 112, 113, 114, 115, 116, 117, 118, 119, 120, 121, 122, 123, 124, 125, 126, 127, 128] (by decide +kernel) (by decide +kernel)
set_option maxRecDepth 20000 in
theorem gX4_best_X0_settle : GoodIn wsX4_best (wsV RX4 92 RX0 yX0_settle wsX0_settle) := goodIn_app (goodIn_of _ (by decide +kernel)) ggX4_best_X0_settle
theorem dX4_best_0 : decode cX4_best 0 = .ok (.aload_n 0, 1) := by decide +kernel
theorem dX4_best_1 : decode cX4_best 1 = .ok (.getfield 21, 3) := by decide +kernel
theorem dX4_best_4 : decode cX4_best 4 = .ok (.invokevirtual 92, 3) := by decide +kernel
theorem dX4_best_7 : decode cX4_best 7 = .ok (.aload_n 0, 1) := by decide +kernel
theorem dX4_best_8 : decode cX4_best 8 = .ok (.getfield 21, 3) := by decide +kernel
theorem dX4_best_11 : decode cX4_best 11 = .ok (.getfield 95, 3) := by decide +kernel
theorem dX4_best_14 : decode cX4_best 14 = .ok (.ifCond .eq 13, 3) := by decide +kernel
theorem dX4_best_17 : decode cX4_best 17 = .ok (.aload_n 0, 1) := by decide +kernel
theorem dX4_best_18 : decode cX4_best 18 = .ok (.getfield 21, 3) := by decide +kernel
theorem dX4_best_21 : decode cX4_best 21 = .ok (.getfield 99, 3) := by decide +kernel
theorem dX4_best_24 : decode cX4_best 24 = .ok (.goto 5, 3) := by decide +kernel
theorem dX4_best_27 : decode cX4_best 27 = .ok (.bipush (-2), 2) := by decide +kernel
theorem dX4_best_29 : decode cX4_best 29 = .ok (.ireturn, 1) := by decide +kernel
set_option maxRecDepth 20000 in
theorem ggX4_lamp_X4_checkPlace : GoodIn wsX4_lamp wsX4_checkPlace := goodIn_ca (goodIn_r _ [8, 9, 10, 11, 12, 7, 13, 14, 15, 110, 111, 112, 113, 126, 127, 128, 129, 130, 131, 132, 133, 134, 135, 136, 137, 138, 139] (by decide +kernel) (by decide +kernel)) (goodIn_sub (fun _ h => List.mem_cons_of_mem _ (List.mem_append_right _ h)) (by decide +kernel))
set_option maxRecDepth 20000 in
theorem gX4_lamp_X4_checkPlace : GoodIn wsX4_lamp (wsV RX4 78 RX4 yX4_checkPlace wsX4_checkPlace) := goodIn_app (goodIn_of _ (by decide +kernel)) ggX4_lamp_X4_checkPlace
set_option maxRecDepth 20000 in
theorem ggX4_lamp_X0_settle : GoodIn wsX4_lamp wsX0_settle := goodIn_r _ [20, 21, 22, 23, 24, 25, 26, 27, 28, 29, 30, 19, 31, 32, 33, 34, 35, 36, 37, 38, 39, 40, 41, 42, 43, 44, 45, 46, 47, 48, 49, 50, 51, 52, 7, 53, 54, 55, 56, 57, 58, 59, 60, 61, 62, 63, 64, 65, 66, 67, 68, 69, 70, 71, 72, 73, 74, 75, 76, 77, 78, 79, 80, 81, 82, 83, 84, 85, 86, 87, 88, 89, 90, 91, 92, 93, 94, 95, 96, 97, 98, 99, 100, 101, 102, 103, 104, 105, 106, 107, 108, 109, 114, 115, 116, 117, 118, 119, 120, 121, 122, 123, 124, 125, 126, 127, 128, 129, 130, 131, 132, 133, 134, 135, 136, 137, 138, 139] (by decide +kernel) (by decide +kernel)
set_option maxRecDepth 20000 in
theorem gX4_lamp_X0_settle : GoodIn wsX4_lamp (wsV RX4 92 RX0 yX0_settle wsX0_settle) := goodIn_app (goodIn_of _ (by decide +kernel)) ggX4_lamp_X0_settle
theorem dX4_lamp_0 : decode cX4_lamp 0 = .ok (.aload_n 0, 1) := by decide +kernel
theorem dX4_lamp_1 : decode cX4_lamp 1 = .ok (.iload_n 1, 1) := by decide +kernel
theorem dX4_lamp_2 : decode cX4_lamp 2 = .ok (.invokevirtual 78, 3) := by decide +kernel
theorem dX4_lamp_5 : decode cX4_lamp 5 = .ok (.aload_n 0, 1) := by decide +kernel
theorem dX4_lamp_6 : decode cX4_lamp 6 = .ok (.getfield 21, 3) := by decide +kernel
theorem dX4_lamp_9 : decode cX4_lamp 9 = .ok (.invokevirtual 92, 3) := by decide +kernel
theorem dX4_lamp_12 : decode cX4_lamp 12 = .ok (.aload_n 0, 1) := by decide +kernel
theorem dX4_lamp_13 : decode cX4_lamp 13 = .ok (.getfield 21, 3) := by decide +kernel
theorem dX4_lamp_16 : decode cX4_lamp 16 = .ok (.getfield 95, 3) := by decide +kernel
theorem dX4_lamp_19 : decode cX4_lamp 19 = .ok (.ifCond .eq 15, 3) := by decide +kernel
theorem dX4_lamp_22 : decode cX4_lamp 22 = .ok (.aload_n 0, 1) := by decide +kernel
theorem dX4_lamp_23 : decode cX4_lamp 23 = .ok (.getfield 21, 3) := by decide +kernel
theorem dX4_lamp_26 : decode cX4_lamp 26 = .ok (.getfield 102, 3) := by decide +kernel
theorem dX4_lamp_29 : decode cX4_lamp 29 = .ok (.iload_n 1, 1) := by decide +kernel
theorem dX4_lamp_30 : decode cX4_lamp 30 = .ok (.iaload, 1) := by decide +kernel
theorem dX4_lamp_31 : decode cX4_lamp 31 = .ok (.goto 5, 3) := by decide +kernel
theorem dX4_lamp_34 : decode cX4_lamp 34 = .ok (.bipush (-2), 2) := by decide +kernel
theorem dX4_lamp_36 : decode cX4_lamp 36 = .ok (.ireturn, 1) := by decide +kernel
set_option maxRecDepth 20000 in
theorem ggX4_level_X4_checkPoint : GoodIn wsX4_level wsX4_checkPoint := goodIn_ca (goodIn_r _ [8, 9, 10, 11, 12, 7, 13, 14, 15, 110, 111, 112, 113, 126, 127, 128, 129, 130, 131, 132, 133, 134, 135, 136, 137, 138, 139] (by decide +kernel) (by decide +kernel)) (goodIn_sub (fun _ h => List.mem_cons_of_mem _ (List.mem_append_right _ h)) (by decide +kernel))
set_option maxRecDepth 20000 in
theorem gX4_level_X4_checkPoint : GoodIn wsX4_level (wsV RX4 86 RX4 yX4_checkPoint wsX4_checkPoint) := goodIn_app (goodIn_of _ (by decide +kernel)) ggX4_level_X4_checkPoint
set_option maxRecDepth 20000 in
theorem ggX4_level_X0_settle : GoodIn wsX4_level wsX0_settle := goodIn_r _ [20, 21, 22, 23, 24, 25, 26, 27, 28, 29, 30, 19, 31, 32, 33, 34, 35, 36, 37, 38, 39, 40, 41, 42, 43, 44, 45, 46, 47, 48, 49, 50, 51, 52, 7, 53, 54, 55, 56, 57, 58, 59, 60, 61, 62, 63, 64, 65, 66, 67, 68, 69, 70, 71, 72, 73, 74, 75, 76, 77, 78, 79, 80, 81, 82, 83, 84, 85, 86, 87, 88, 89, 90, 91, 92, 93, 94, 95, 96, 97, 98, 99, 100, 101, 102, 103, 104, 105, 106, 107, 108, 109, 114, 115, 116, 117, 118, 119, 120, 121, 122, 123, 124, 125, 126, 127, 128, 129, 130, 131, 132, 133, 134, 135, 136, 137, 138, 139] (by decide +kernel) (by decide +kernel)
set_option maxRecDepth 20000 in
theorem gX4_level_X0_settle : GoodIn wsX4_level (wsV RX4 92 RX0 yX0_settle wsX0_settle) := goodIn_app (goodIn_of _ (by decide +kernel)) ggX4_level_X0_settle
theorem dX4_level_0 : decode cX4_level 0 = .ok (.aload_n 0, 1) := by decide +kernel
theorem dX4_level_1 : decode cX4_level 1 = .ok (.iload_n 1, 1) := by decide +kernel
theorem dX4_level_2 : decode cX4_level 2 = .ok (.invokevirtual 86, 3) := by decide +kernel
theorem dX4_level_5 : decode cX4_level 5 = .ok (.aload_n 0, 1) := by decide +kernel
theorem dX4_level_6 : decode cX4_level 6 = .ok (.getfield 21, 3) := by decide +kernel
theorem dX4_level_9 : decode cX4_level 9 = .ok (.invokevirtual 92, 3) := by decide +kernel
theorem dX4_level_12 : decode cX4_level 12 = .ok (.aload_n 0, 1) := by decide +kernel
theorem dX4_level_13 : decode cX4_level 13 = .ok (.getfield 21, 3) := by decide +kernel
theorem dX4_level_16 : decode cX4_level 16 = .ok (.getfield 95, 3) := by decide +kernel
theorem dX4_level_19 : decode cX4_level 19 = .ok (.ifCond .eq 15, 3) := by decide +kernel
theorem dX4_level_22 : decode cX4_level 22 = .ok (.aload_n 0, 1) := by decide +kernel
theorem dX4_level_23 : decode cX4_level 23 = .ok (.getfield 21, 3) := by decide +kernel
theorem dX4_level_26 : decode cX4_level 26 = .ok (.getfield 105, 3) := by decide +kernel
theorem dX4_level_29 : decode cX4_level 29 = .ok (.iload_n 1, 1) := by decide +kernel
theorem dX4_level_30 : decode cX4_level 30 = .ok (.iaload, 1) := by decide +kernel
theorem dX4_level_31 : decode cX4_level 31 = .ok (.goto 5, 3) := by decide +kernel
theorem dX4_level_34 : decode cX4_level 34 = .ok (.bipush (-2), 2) := by decide +kernel
theorem dX4_level_36 : decode cX4_level 36 = .ok (.ireturn, 1) := by decide +kernel
set_option maxRecDepth 20000 in
theorem ggX4_even_X4_checkBounds : GoodIn wsX4_even wsX4_checkBounds := goodIn_ca (goodIn_r _ [7, 8, 9] (by decide +kernel) (by decide +kernel)) (goodIn_sub (fun _ h => List.mem_cons_of_mem _ (List.mem_append_right _ h)) (by decide +kernel))
set_option maxRecDepth 20000 in
theorem gX4_even_X4_checkBounds : GoodIn wsX4_even (va_wsS RX4 41 yX4_checkBounds wsX4_checkBounds) := goodIn_app (goodIn_of _ (by decide +kernel)) ggX4_even_X4_checkBounds
set_option maxRecDepth 20000 in
theorem ggX4_even_X0_settle : GoodIn wsX4_even wsX0_settle := goodIn_r _ [14, 15, 16, 17, 18, 19, 20, 21, 22, 23, 24, 13, 25, 26, 27, 28, 29, 30, 31, 32, 33, 34, 35, 36, 37, 38, 39, 40, 41, 42, 43, 44, 45, 46, 6, 47, 48, 49, 50, 51, 52, 53, 54, 55, 56, 57, 58, 59, 60, 61, 62, 63, 64, 65, 66, 67, 68, 69, 70, 71, 72, 73, 74, 75, 76, 77, 78, 79, 80, 81, 82, 83, 84, 85, 86, 87, 88, 89, 90, 91, 92, 93, 94, 95, 96, 97, 98, 99, 100, 101, 102, 103, 119, 120, 121, 122, 123, 124, 125, 126, 127, 128, 129, 130, 131, 132, 133, 134, 135, 136, 137, 138, 139, 140, 141, 142, 143, 144] (by decide +kernel) (by decide +kernel)
set_option maxRecDepth 20000 in
theorem gX4_even_X0_settle : GoodIn wsX4_even (wsV RX4 92 RX0 yX0_settle wsX0_settle) := goodIn_app (goodIn_of _ (by decide +kernel)) ggX4_even_X0_settle
set_option maxRecDepth 20000 in
theorem ggX4_even_X0_evennessAbove : GoodIn wsX4_even wsX0_evennessAbove := goodIn_r _ [107, 89, 26, 29, 88, 108, 109, 13, 110, 46, 6, 47, 119, 120, 121, 122, 123, 124, 125, 126, 127, 128, 129, 130, 131, 132, 133, 134, 135, 136, 137, 138, 139, 140, 141, 142, 143, 144] (by decide +kernel) (by decide +kernel)
set_option maxRecDepth 20000 in
theorem gX4_even_X0_evennessAbove : GoodIn wsX4_even (wsV RX4 110 RX0 yX0_evennessAbove wsX0_evennessAbove) := goodIn_app (goodIn_of _ (by decide +kernel)) ggX4_even_X0_evennessAbove
set_option maxRecDepth 20000 in
theorem ggX4_even_X0_evennessBelow : GoodIn wsX4_even wsX0_evennessBelow := goodIn_r _ [114, 88, 89, 26, 29, 108, 109, 13, 110, 46, 6, 47, 119, 120, 121, 122, 123, 124, 125, 126, 127, 128, 129, 130, 131, 132, 133, 134, 135, 136, 137, 138, 139, 140, 141, 142, 143, 144] (by decide +kernel) (by decide +kernel)
set_option maxRecDepth 20000 in
theorem gX4_even_X0_evennessBelow : GoodIn wsX4_even (wsV RX4 114 RX0 yX0_evennessBelow wsX0_evennessBelow) := goodIn_app (goodIn_of _ (by decide +kernel)) ggX4_even_X0_evennessBelow
theorem dX4_even_0 : decode cX4_even 0 = .ok (.iload_n 1, 1) := by decide +kernel
theorem dX4_even_1 : decode cX4_even 1 = .ok (.iconst 0, 1) := by decide +kernel
theorem dX4_even_2 : decode cX4_even 2 = .ok (.iconst 1, 1) := by decide +kernel
theorem dX4_even_3 : decode cX4_even 3 = .ok (.invokestatic 41, 3) := by decide +kernel
theorem dX4_even_6 : decode cX4_even 6 = .ok (.aload_n 0, 1) := by decide +kernel
theorem dX4_even_7 : decode cX4_even 7 = .ok (.getfield 21, 3) := by decide +kernel
theorem dX4_even_10 : decode cX4_even 10 = .ok (.invokevirtual 92, 3) := by decide +kernel
theorem dX4_even_13 : decode cX4_even 13 = .ok (.aload_n 0, 1) := by decide +kernel
theorem dX4_even_14 : decode cX4_even 14 = .ok (.getfield 21, 3) := by decide +kernel
theorem dX4_even_17 : decode cX4_even 17 = .ok (.getfield 95, 3) := by decide +kernel
theorem dX4_even_20 : decode cX4_even 20 = .ok (.ifCond .ne 7, 3) := by decide +kernel
theorem dX4_even_23 : decode cX4_even 23 = .ok (.ldc2_w 108, 3) := by decide +kernel
theorem dX4_even_26 : decode cX4_even 26 = .ok (.lreturn, 1) := by decide +kernel
theorem dX4_even_27 : decode cX4_even 27 = .ok (.iload_n 1, 1) := by decide +kernel
theorem dX4_even_28 : decode cX4_even 28 = .ok (.ifCond .ne 13, 3) := by decide +kernel
theorem dX4_even_31 : decode cX4_even 31 = .ok (.aload_n 0, 1) := by decide +kernel
theorem dX4_even_32 : decode cX4_even 32 = .ok (.getfield 21, 3) := by decide +kernel
theorem dX4_even_35 : decode cX4_even 35 = .ok (.invokevirtual 110, 3) := by decide +kernel
theorem dX4_even_38 : decode cX4_even 38 = .ok (.goto 10, 3) := by decide +kernel
theorem dX4_even_41 : decode cX4_even 41 = .ok (.aload_n 0, 1) := by decide +kernel
theorem dX4_even_42 : decode cX4_even 42 = .ok (.getfield 21, 3) := by decide +kernel
theorem dX4_even_45 : decode cX4_even 45 = .ok (.invokevirtual 114, 3) := by decide +kernel
theorem dX4_even_48 : decode cX4_even 48 = .ok (.lreturn, 1) := by decide +kernel
set_option maxRecDepth 20000 in
theorem ggX4_aim_X4_checkPoint : GoodIn wsX4_aim wsX4_checkPoint := goodIn_ca (goodIn_r _ [7, 8, 9, 10, 11, 6, 12, 13, 14, 22, 23, 24, 25, 26, 27, 28, 29, 30, 31, 32, 33, 34, 35, 36, 37, 38, 39] (by decide +kernel) (by decide +kernel)) (goodIn_sub (fun _ h => List.mem_cons_of_mem _ (List.mem_append_right _ h)) (by decide +kernel))
set_option maxRecDepth 20000 in
theorem gX4_aim_X4_checkPoint : GoodIn wsX4_aim (wsV RX4 86 RX4 yX4_checkPoint wsX4_checkPoint) := goodIn_app (goodIn_of _ (by decide +kernel)) ggX4_aim_X4_checkPoint
set_option maxRecDepth 20000 in
theorem ggX4_aim_X4_checkBounds : GoodIn wsX4_aim wsX4_checkBounds := goodIn_ca (goodIn_r _ [12, 13, 14] (by decide +kernel) (by decide +kernel)) (goodIn_sub (fun _ h => List.mem_cons_of_mem _ (List.mem_append_right _ h)) (by decide +kernel))
set_option maxRecDepth 20000 in
theorem gX4_aim_X4_checkBounds : GoodIn wsX4_aim (va_wsS RX4 41 yX4_checkBounds wsX4_checkBounds) := goodIn_app (goodIn_of _ (by decide +kernel)) ggX4_aim_X4_checkBounds
set_option maxRecDepth 20000 in
theorem ggX4_aim_X3_changeAim : GoodIn wsX4_aim wsX3_changeAim := goodIn_r _ [19, 20, 21, 40, 41, 42, 43, 44, 45, 46] (by decide +kernel) (by decide +kernel)
set_option maxRecDepth 20000 in
theorem gX4_aim_X3_changeAim : GoodIn wsX4_aim (wsV RX4 118 RX3 yX3_changeAim wsX3_changeAim) := goodIn_app (goodIn_of _ (by decide +kernel)) ggX4_aim_X3_changeAim
theorem dX4_aim_0 : decode cX4_aim 0 = .ok (.aload_n 0, 1) := by decide +kernel
theorem dX4_aim_1 : decode cX4_aim 1 = .ok (.iload_n 1, 1) := by decide +kernel
theorem dX4_aim_2 : decode cX4_aim 2 = .ok (.invokevirtual 86, 3) := by decide +kernel
theorem dX4_aim_5 : decode cX4_aim 5 = .ok (.iload_n 2, 1) := by decide +kernel
theorem dX4_aim_6 : decode cX4_aim 6 = .ok (.iconst 0, 1) := by decide +kernel
theorem dX4_aim_7 : decode cX4_aim 7 = .ok (.ldc 117, 2) := by decide +kernel
theorem dX4_aim_9 : decode cX4_aim 9 = .ok (.invokestatic 41, 3) := by decide +kernel
theorem dX4_aim_12 : decode cX4_aim 12 = .ok (.aload_n 0, 1) := by decide +kernel
theorem dX4_aim_13 : decode cX4_aim 13 = .ok (.getfield 30, 3) := by decide +kernel
theorem dX4_aim_16 : decode cX4_aim 16 = .ok (.iload_n 1, 1) := by decide +kernel
theorem dX4_aim_17 : decode cX4_aim 17 = .ok (.iload_n 2, 1) := by decide +kernel
theorem dX4_aim_18 : decode cX4_aim 18 = .ok (.invokevirtual 118, 3) := by decide +kernel
theorem dX4_aim_21 : decode cX4_aim 21 = .ok (.ireturn, 1) := by decide +kernel
set_option maxRecDepth 20000 in
theorem ggX4_scene_X4_settleScene : GoodIn wsX4_scene wsX4_settleScene := goodIn_r _ [7, 8, 1, 9, 10, 11, 12, 13, 14, 15, 16, 17, 18, 19, 20, 21, 22, 23, 24, 25, 26, 27, 28, 29, 30, 31, 32, 33, 34, 35, 36, 37, 38, 39, 40, 41, 42, 43, 44, 45, 6, 46, 47, 48, 49, 50, 51, 52, 53, 54, 55, 56, 57, 58, 59, 60, 61, 62, 63, 64, 65, 66, 67, 68, 69, 70, 71, 72, 73, 74, 75, 76, 77, 78, 79, 80, 81, 82, 83, 84, 85, 86, 87, 88, 89, 90, 91, 92, 93, 94, 95, 96, 97, 98, 99, 100, 101, 102, 103, 104, 105, 106, 107, 108, 109, 110, 111, 112, 113, 114, 115, 116, 117, 118, 119, 120, 121, 122, 123, 124, 125, 126, 127, 128, 129, 130, 131, 132, 133, 134, 135, 136, 137, 138, 139, 140, 141, 142, 143, 144, 145, 153, 154, 155, 156, 157, 158, 159, 160, 161, 162, 163, 164, 165, 166, 167, 168, 169, 170, 171, 172, 173, 174, 175, 176, 177, 178, 146, 147, 148, 149, 150, 151, 152] (by decide +kernel) (by decide +kernel)
set_option maxRecDepth 20000 in
theorem gX4_scene_X4_settleScene : GoodIn wsX4_scene (wsV RX4 121 RX4 yX4_settleScene wsX4_settleScene) := goodIn_app (goodIn_of _ (by decide +kernel)) ggX4_scene_X4_settleScene
theorem dX4_scene_0 : decode cX4_scene 0 = .ok (.aload_n 0, 1) := by decide +kernel
theorem dX4_scene_1 : decode cX4_scene 1 = .ok (.invokevirtual 121, 3) := by decide +kernel
theorem dX4_scene_4 : decode cX4_scene 4 = .ok (.aload_n 0, 1) := by decide +kernel
theorem dX4_scene_5 : decode cX4_scene 5 = .ok (.getfield 30, 3) := by decide +kernel
theorem dX4_scene_8 : decode cX4_scene 8 = .ok (.getfield 124, 3) := by decide +kernel
theorem dX4_scene_11 : decode cX4_scene 11 = .ok (.ireturn, 1) := by decide +kernel
set_option maxRecDepth 20000 in
theorem ggX4_dim_X4_checkPlace : GoodIn wsX4_dim wsX4_checkPlace := goodIn_ca (goodIn_r _ [9, 10, 11, 12, 13, 8, 14, 15, 16, 154, 155, 156, 157, 177, 178, 179, 180, 181, 182, 183, 184, 185, 186, 187, 188, 189, 190] (by decide +kernel) (by decide +kernel)) (goodIn_sub (fun _ h => List.mem_cons_of_mem _ (List.mem_append_right _ h)) (by decide +kernel))
set_option maxRecDepth 20000 in
theorem gX4_dim_X4_checkPlace : GoodIn wsX4_dim (wsV RX4 78 RX4 yX4_checkPlace wsX4_checkPlace) := goodIn_app (goodIn_of _ (by decide +kernel)) ggX4_dim_X4_checkPlace
set_option maxRecDepth 20000 in
theorem ggX4_dim_X4_settleScene : GoodIn wsX4_dim wsX4_settleScene := goodIn_r _ [20, 1, 3, 21, 22, 23, 24, 25, 26, 27, 28, 29, 30, 31, 32, 33, 34, 35, 36, 37, 38, 39, 40, 41, 42, 43, 44, 45, 46, 47, 48, 49, 50, 51, 52, 53, 54, 55, 56, 57, 8, 58, 59, 60, 61, 62, 63, 64, 65, 66, 67, 68, 69, 70, 71, 72, 73, 74, 75, 76, 77, 78, 79, 80, 81, 82, 83, 84, 85, 86, 87, 88, 89, 90, 91, 92, 93, 94, 95, 96, 97, 98, 99, 100, 101, 102, 103, 104, 105, 106, 107, 108, 109, 110, 111, 112, 113, 114, 115, 116, 117, 118, 119, 120, 121, 122, 123, 124, 125, 126, 127, 128, 129, 130, 131, 132, 133, 134, 135, 136, 137, 138, 139, 140, 141, 142, 143, 144, 145, 146, 147, 148, 149, 150, 151, 152, 153, 154, 155, 156, 157, 158, 159, 160, 161, 162, 163, 164, 165, 166, 167, 168, 169, 177, 178, 179, 180, 181, 182, 183, 184, 185, 186, 187, 188, 189, 190, 170, 171, 172, 173, 174, 175, 176] (by decide +kernel) (by decide +kernel)
set_option maxRecDepth 20000 in
theorem gX4_dim_X4_settleScene : GoodIn wsX4_dim (wsV RX4 121 RX4 yX4_settleScene wsX4_settleScene) := goodIn_app (goodIn_of _ (by decide +kernel)) ggX4_dim_X4_settleScene
theorem dX4_dim_0 : decode cX4_dim 0 = .ok (.aload_n 0, 1) := by decide +kernel
theorem dX4_dim_1 : decode cX4_dim 1 = .ok (.iload_n 1, 1) := by decide +kernel
theorem dX4_dim_2 : decode cX4_dim 2 = .ok (.invokevirtual 78, 3) := by decide +kernel
theorem dX4_dim_5 : decode cX4_dim 5 = .ok (.aload_n 0, 1) := by decide +kernel
theorem dX4_dim_6 : decode cX4_dim 6 = .ok (.invokevirtual 121, 3) := by decide +kernel
theorem dX4_dim_9 : decode cX4_dim 9 = .ok (.aload_n 0, 1) := by decide +kernel
theorem dX4_dim_10 : decode cX4_dim 10 = .ok (.getfield 21, 3) := by decide +kernel
theorem dX4_dim_13 : decode cX4_dim 13 = .ok (.getfield 102, 3) := by decide +kernel
theorem dX4_dim_16 : decode cX4_dim 16 = .ok (.iload_n 1, 1) := by decide +kernel
theorem dX4_dim_17 : decode cX4_dim 17 = .ok (.iaload, 1) := by decide +kernel
theorem dX4_dim_18 : decode cX4_dim 18 = .ok (.iconst (-1), 1) := by decide +kernel
theorem dX4_dim_19 : decode cX4_dim 19 = .ok (.if_icmp .ne 7, 3) := by decide +kernel
theorem dX4_dim_22 : decode cX4_dim 22 = .ok (.iconst (-1), 1) := by decide +kernel
theorem dX4_dim_23 : decode cX4_dim 23 = .ok (.goto 12, 3) := by decide +kernel
theorem dX4_dim_26 : decode cX4_dim 26 = .ok (.aload_n 0, 1) := by decide +kernel
theorem dX4_dim_27 : decode cX4_dim 27 = .ok (.getfield 30, 3) := by decide +kernel
theorem dX4_dim_30 : decode cX4_dim 30 = .ok (.getfield 127, 3) := by decide +kernel
theorem dX4_dim_33 : decode cX4_dim 33 = .ok (.iload_n 1, 1) := by decide +kernel
theorem dX4_dim_34 : decode cX4_dim 34 = .ok (.iaload, 1) := by decide +kernel
theorem dX4_dim_35 : decode cX4_dim 35 = .ok (.ireturn, 1) := by decide +kernel
set_option maxRecDepth 20000 in
theorem ggX4_miss_X4_checkPoint : GoodIn wsX4_miss wsX4_checkPoint := goodIn_ca (goodIn_r _ [7, 8, 9, 10, 11, 6, 12, 13, 14, 153, 154, 155, 156, 164, 165, 166, 167, 168, 169, 170, 171, 172, 173, 174, 175, 176, 177] (by decide +kernel) (by decide +kernel)) (goodIn_sub (fun _ h => List.mem_cons_of_mem _ (List.mem_append_right _ h)) (by decide +kernel))
set_option maxRecDepth 20000 in
theorem gX4_miss_X4_checkPoint : GoodIn wsX4_miss (wsV RX4 86 RX4 yX4_checkPoint wsX4_checkPoint) := goodIn_app (goodIn_of _ (by decide +kernel)) ggX4_miss_X4_checkPoint
set_option maxRecDepth 20000 in
theorem ggX4_miss_X4_settleScene : GoodIn wsX4_miss wsX4_settleScene := goodIn_r _ [18, 19, 1, 20, 21, 22, 23, 24, 25, 26, 27, 28, 29, 30, 31, 32, 33, 34, 35, 36, 37, 38, 39, 40, 41, 42, 43, 44, 45, 46, 47, 48, 49, 50, 51, 52, 53, 54, 55, 56, 6, 57, 58, 59, 60, 61, 62, 63, 64, 65, 66, 67, 68, 69, 70, 71, 72, 73, 74, 75, 76, 77, 78, 79, 80, 81, 82, 83, 84, 85, 86, 87, 88, 89, 90, 91, 92, 93, 94, 95, 96, 97, 98, 99, 100, 101, 102, 103, 104, 105, 106, 107, 108, 109, 110, 111, 112, 113, 114, 115, 116, 117, 118, 119, 120, 121, 122, 123, 124, 125, 126, 127, 128, 129, 130, 131, 132, 133, 134, 135, 136, 137, 138, 139, 140, 141, 142, 143, 144, 145, 146, 147, 148, 149, 150, 151, 152, 153, 154, 155, 156, 178, 179, 180, 181, 182, 183, 184, 185, 186, 187, 188, 189, 164, 165, 166, 167, 168, 169, 170, 171, 172, 173, 174, 175, 176, 177, 157, 158, 159, 160, 161, 162, 163] (by decide +kernel) (by decide +kernel)
set_option maxRecDepth 20000 in
theorem gX4_miss_X4_settleScene : GoodIn wsX4_miss (wsV RX4 121 RX4 yX4_settleScene wsX4_settleScene) := goodIn_app (goodIn_of _ (by decide +kernel)) ggX4_miss_X4_settleScene
theorem dX4_miss_0 : decode cX4_miss 0 = .ok (.aload_n 0, 1) := by decide +kernel
theorem dX4_miss_1 : decode cX4_miss 1 = .ok (.iload_n 1, 1) := by decide +kernel
theorem dX4_miss_2 : decode cX4_miss 2 = .ok (.invokevirtual 86, 3) := by decide +kernel
theorem dX4_miss_5 : decode cX4_miss 5 = .ok (.aload_n 0, 1) := by decide +kernel
theorem dX4_miss_6 : decode cX4_miss 6 = .ok (.invokevirtual 121, 3) := by decide +kernel
theorem dX4_miss_9 : decode cX4_miss 9 = .ok (.aload_n 0, 1) := by decide +kernel
theorem dX4_miss_10 : decode cX4_miss 10 = .ok (.getfield 30, 3) := by decide +kernel
theorem dX4_miss_13 : decode cX4_miss 13 = .ok (.getfield 130, 3) := by decide +kernel
theorem dX4_miss_16 : decode cX4_miss 16 = .ok (.iload_n 1, 1) := by decide +kernel
theorem dX4_miss_17 : decode cX4_miss 17 = .ok (.laload, 1) := by decide +kernel
theorem dX4_miss_18 : decode cX4_miss 18 = .ok (.lreturn, 1) := by decide +kernel
set_option maxRecDepth 20000 in
theorem ggX4_sensor_X4_checkPlace : GoodIn wsX4_sensor wsX4_checkPlace := goodIn_ca (goodIn_r _ [9, 1, 10, 11, 12, 8, 13, 14, 15, 35, 36, 37, 38, 39, 40, 41, 42, 43, 44, 45, 46, 47, 48, 49, 50, 51, 52] (by decide +kernel) (by decide +kernel)) (goodIn_sub (fun _ h => List.mem_cons_of_mem _ (List.mem_append_right _ h)) (by decide +kernel))
set_option maxRecDepth 20000 in
theorem gX4_sensor_X4_checkPlace : GoodIn wsX4_sensor (wsV RX4 78 RX4 yX4_checkPlace wsX4_checkPlace) := goodIn_app (goodIn_of _ (by decide +kernel)) ggX4_sensor_X4_checkPlace
set_option maxRecDepth 20000 in
theorem ggX4_sensor_X4_checkBounds : GoodIn wsX4_sensor wsX4_checkBounds := goodIn_ca (goodIn_r _ [13, 14, 15] (by decide +kernel) (by decide +kernel)) (goodIn_sub (fun _ h => List.mem_cons_of_mem _ (List.mem_append_right _ h)) (by decide +kernel))
set_option maxRecDepth 20000 in
theorem gX4_sensor_X4_checkBounds : GoodIn wsX4_sensor (va_wsS RX4 41 yX4_checkBounds wsX4_checkBounds) := goodIn_app (goodIn_of _ (by decide +kernel)) ggX4_sensor_X4_checkBounds
set_option maxRecDepth 20000 in
theorem ggX4_sensor_X4_lampsGo : GoodIn wsX4_sensor wsX4_lampsGo := goodIn_r _ [19, 20, 21, 22, 23, 3, 24, 25, 26, 27, 28, 29, 30, 31, 32, 33, 34, 35, 36, 37, 38, 64, 65, 66, 67, 68, 69, 70, 71, 72, 73, 74, 75, 76, 77, 78, 79, 80, 81, 82, 53, 54, 55, 56, 57, 58, 59, 60, 61, 62, 63] (by decide +kernel) (by decide +kernel)
set_option maxRecDepth 20000 in
theorem gX4_sensor_X4_lampsGo : GoodIn wsX4_sensor (wsV RX4 58 RX4 yX4_lampsGo wsX4_lampsGo) := goodIn_app (goodIn_of _ (by decide +kernel)) ggX4_sensor_X4_lampsGo
theorem dX4_sensor_0 : decode cX4_sensor 0 = .ok (.aload_n 0, 1) := by decide +kernel
theorem dX4_sensor_1 : decode cX4_sensor 1 = .ok (.iload_n 1, 1) := by decide +kernel
theorem dX4_sensor_2 : decode cX4_sensor 2 = .ok (.invokevirtual 78, 3) := by decide +kernel
theorem dX4_sensor_5 : decode cX4_sensor 5 = .ok (.iload_n 2, 1) := by decide +kernel
theorem dX4_sensor_6 : decode cX4_sensor 6 = .ok (.iconst (-1), 1) := by decide +kernel
theorem dX4_sensor_7 : decode cX4_sensor 7 = .ok (.aload_n 0, 1) := by decide +kernel
theorem dX4_sensor_8 : decode cX4_sensor 8 = .ok (.getfield 15, 3) := by decide +kernel
theorem dX4_sensor_11 : decode cX4_sensor 11 = .ok (.getfield 68, 3) := by decide +kernel
theorem dX4_sensor_14 : decode cX4_sensor 14 = .ok (.iconst 1, 1) := by decide +kernel
theorem dX4_sensor_15 : decode cX4_sensor 15 = .ok (.isub, 1) := by decide +kernel
theorem dX4_sensor_16 : decode cX4_sensor 16 = .ok (.invokestatic 41, 3) := by decide +kernel
theorem dX4_sensor_19 : decode cX4_sensor 19 = .ok (.aload_n 0, 1) := by decide +kernel
theorem dX4_sensor_20 : decode cX4_sensor 20 = .ok (.getfield 37, 3) := by decide +kernel
theorem dX4_sensor_23 : decode cX4_sensor 23 = .ok (.getfield 134, 3) := by decide +kernel
theorem dX4_sensor_26 : decode cX4_sensor 26 = .ok (.iload_n 1, 1) := by decide +kernel
theorem dX4_sensor_27 : decode cX4_sensor 27 = .ok (.iload_n 2, 1) := by decide +kernel
theorem dX4_sensor_28 : decode cX4_sensor 28 = .ok (.iastore, 1) := by decide +kernel
theorem dX4_sensor_29 : decode cX4_sensor 29 = .ok (.aload_n 0, 1) := by decide +kernel
theorem dX4_sensor_30 : decode cX4_sensor 30 = .ok (.invokevirtual 58, 3) := by decide +kernel
theorem dX4_sensor_33 : decode cX4_sensor 33 = .ok (.return_, 1) := by decide +kernel
set_option maxRecDepth 20000 in
theorem ggX4_daylight_X4_checkPoint : GoodIn wsX4_daylight wsX4_checkPoint := goodIn_ca (goodIn_r _ [8, 9, 10, 11, 12, 7, 13, 14, 15, 16, 17, 18, 19, 31, 32, 33, 34, 35, 36, 37, 38, 39, 40, 41, 42, 43, 44] (by decide +kernel) (by decide +kernel)) (goodIn_sub (fun _ h => List.mem_cons_of_mem _ (List.mem_append_right _ h)) (by decide +kernel))
set_option maxRecDepth 20000 in
theorem gX4_daylight_X4_checkPoint : GoodIn wsX4_daylight (wsV RX4 86 RX4 yX4_checkPoint wsX4_checkPoint) := goodIn_app (goodIn_of _ (by decide +kernel)) ggX4_daylight_X4_checkPoint
set_option maxRecDepth 20000 in
theorem ggX4_daylight_X4_checkBounds : GoodIn wsX4_daylight wsX4_checkBounds := goodIn_ca (goodIn_r _ [13, 14, 15] (by decide +kernel) (by decide +kernel)) (goodIn_sub (fun _ h => List.mem_cons_of_mem _ (List.mem_append_right _ h)) (by decide +kernel))
set_option maxRecDepth 20000 in
theorem gX4_daylight_X4_checkBounds : GoodIn wsX4_daylight (va_wsS RX4 41 yX4_checkBounds wsX4_checkBounds) := goodIn_app (goodIn_of _ (by decide +kernel)) ggX4_daylight_X4_checkBounds
theorem dX4_daylight_0 : decode cX4_daylight 0 = .ok (.aload_n 0, 1) := by decide +kernel
theorem dX4_daylight_1 : decode cX4_daylight 1 = .ok (.iload_n 1, 1) := by decide +kernel
theorem dX4_daylight_2 : decode cX4_daylight 2 = .ok (.invokevirtual 86, 3) := by decide +kernel
theorem dX4_daylight_5 : decode cX4_daylight 5 = .ok (.iload_n 2, 1) := by decide +kernel
theorem dX4_daylight_6 : decode cX4_daylight 6 = .ok (.iconst 0, 1) := by decide +kernel
theorem dX4_daylight_7 : decode cX4_daylight 7 = .ok (.ldc 45, 2) := by decide +kernel
theorem dX4_daylight_9 : decode cX4_daylight 9 = .ok (.invokestatic 41, 3) := by decide +kernel
theorem dX4_daylight_12 : decode cX4_daylight 12 = .ok (.aload_n 0, 1) := by decide +kernel
theorem dX4_daylight_13 : decode cX4_daylight 13 = .ok (.getfield 37, 3) := by decide +kernel
theorem dX4_daylight_16 : decode cX4_daylight 16 = .ok (.getfield 137, 3) := by decide +kernel
theorem dX4_daylight_19 : decode cX4_daylight 19 = .ok (.iload_n 1, 1) := by decide +kernel
theorem dX4_daylight_20 : decode cX4_daylight 20 = .ok (.iaload, 1) := by decide +kernel
theorem dX4_daylight_21 : decode cX4_daylight 21 = .ok (.istore_n 3, 1) := by decide +kernel
theorem dX4_daylight_22 : decode cX4_daylight 22 = .ok (.aload_n 0, 1) := by decide +kernel
theorem dX4_daylight_23 : decode cX4_daylight 23 = .ok (.getfield 37, 3) := by decide +kernel
theorem dX4_daylight_26 : decode cX4_daylight 26 = .ok (.getfield 137, 3) := by decide +kernel
theorem dX4_daylight_29 : decode cX4_daylight 29 = .ok (.iload_n 1, 1) := by decide +kernel
theorem dX4_daylight_30 : decode cX4_daylight 30 = .ok (.iload_n 2, 1) := by decide +kernel
theorem dX4_daylight_31 : decode cX4_daylight 31 = .ok (.iastore, 1) := by decide +kernel
theorem dX4_daylight_32 : decode cX4_daylight 32 = .ok (.iload_n 3, 1) := by decide +kernel
theorem dX4_daylight_33 : decode cX4_daylight 33 = .ok (.ireturn, 1) := by decide +kernel
set_option maxRecDepth 20000 in
theorem ggX4_step_X4_checkBounds : GoodIn wsX4_step wsX4_checkBounds := goodIn_ca (goodIn_r _ [6, 7, 8] (by decide +kernel) (by decide +kernel)) (goodIn_sub (fun _ h => List.mem_cons_of_mem _ (List.mem_append_right _ h)) (by decide +kernel))
set_option maxRecDepth 20000 in
theorem gX4_step_X4_checkBounds : GoodIn wsX4_step (va_wsS RX4 41 yX4_checkBounds wsX4_checkBounds) := goodIn_app (goodIn_of _ (by decide +kernel)) ggX4_step_X4_checkBounds
theorem dX4_step_0 : decode cX4_step 0 = .ok (.iload_n 1, 1) := by decide +kernel
theorem dX4_step_1 : decode cX4_step 1 = .ok (.iconst 1, 1) := by decide +kernel
theorem dX4_step_2 : decode cX4_step 2 = .ok (.bipush 100, 2) := by decide +kernel
theorem dX4_step_4 : decode cX4_step 4 = .ok (.invokestatic 41, 3) := by decide +kernel
theorem dX4_step_7 : decode cX4_step 7 = .ok (.aload_n 0, 1) := by decide +kernel
theorem dX4_step_8 : decode cX4_step 8 = .ok (.getfield 37, 3) := by decide +kernel
theorem dX4_step_11 : decode cX4_step 11 = .ok (.getfield 140, 3) := by decide +kernel
theorem dX4_step_14 : decode cX4_step 14 = .ok (.istore_n 2, 1) := by decide +kernel
theorem dX4_step_15 : decode cX4_step 15 = .ok (.aload_n 0, 1) := by decide +kernel
theorem dX4_step_16 : decode cX4_step 16 = .ok (.getfield 37, 3) := by decide +kernel
theorem dX4_step_19 : decode cX4_step 19 = .ok (.iload_n 1, 1) := by decide +kernel
theorem dX4_step_20 : decode cX4_step 20 = .ok (.putfield 140, 3) := by decide +kernel
theorem dX4_step_23 : decode cX4_step 23 = .ok (.iload_n 2, 1) := by decide +kernel
theorem dX4_step_24 : decode cX4_step 24 = .ok (.ireturn, 1) := by decide +kernel
set_option maxRecDepth 20000 in
theorem ggX4_run_X4_checkBounds : GoodIn wsX4_run wsX4_checkBounds := goodIn_ca (goodIn_r _ [10, 11, 12] (by decide +kernel) (by decide +kernel)) (goodIn_sub (fun _ h => List.mem_cons_of_mem _ (List.mem_append_right _ h)) (by decide +kernel))
set_option maxRecDepth 20000 in
theorem gX4_run_X4_checkBounds : GoodIn wsX4_run (va_wsS RX4 41 yX4_checkBounds wsX4_checkBounds) := goodIn_app (goodIn_of _ (by decide +kernel)) ggX4_run_X4_checkBounds
set_option maxRecDepth 20000 in
theorem ggX4_run_X0_settle : GoodIn wsX4_run wsX0_settle := goodIn_r _ [17, 18, 19, 20, 21, 22, 23, 24, 25, 26, 27, 16, 28, 29, 30, 31, 32, 33, 34, 35, 36, 37, 38, 39, 40, 41, 42, 43, 44, 45, 46, 47, 48, 49, 9, 50, 51, 52, 53, 54, 55, 56, 57, 58, 59, 60, 61, 62, 63, 64, 65, 66, 67, 68, 69, 70, 71, 72, 73, 74, 75, 76, 77, 78, 79, 80, 81, 82, 83, 84, 85, 86, 87, 88, 89, 90, 91, 92, 93, 94, 95, 96, 97, 98, 99, 100, 101, 102, 103, 104, 105, 106, 170, 171, 172, 173, 174, 175, 176, 177, 178, 179, 180, 181, 182, 183, 184, 185, 186, 187, 188, 189, 190, 191, 192, 193, 194, 195] (by decide +kernel) (by decide +kernel)
set_option maxRecDepth 20000 in
theorem gX4_run_X0_settle : GoodIn wsX4_run (wsV RX4 92 RX0 yX0_settle wsX0_settle) := goodIn_app (goodIn_of _ (by decide +kernel)) ggX4_run_X0_settle
set_option maxRecDepth 20000 in
theorem ggX4_run_X1_pass : GoodIn wsX4_run wsX1_pass := goodIn_r _ [111, 112, 113, 114, 115, 116, 117, 118, 119, 110, 120, 121, 122, 123, 124, 125, 126, 127, 128, 129, 130, 86, 62, 87, 131, 132, 133, 16, 134, 20, 33, 34, 35, 36, 49, 9, 50, 135, 136, 137, 138, 139, 140, 141, 142, 143, 61, 63, 144, 145, 146, 147, 148, 149, 150, 151, 152, 153, 154, 159, 160, 161, 162, 163, 164, 165, 166, 167, 168, 169, 182, 183, 184, 185, 186, 187, 188, 189, 190, 191, 192, 193, 194, 195, 170, 171, 172, 173, 174, 175, 176, 177, 178, 179, 180, 181] (by decide +kernel) (by decide +kernel)
set_option maxRecDepth 20000 in
theorem gX4_run_X1_pass : GoodIn wsX4_run (wsV RX4 153 RX1 yX1_pass wsX1_pass) := goodIn_app (goodIn_of _ (by decide +kernel)) ggX4_run_X1_pass
theorem dX4_run_0 : decode cX4_run 0 = .ok (.iload_n 1, 1) := by decide +kernel
theorem dX4_run_1 : decode cX4_run 1 = .ok (.iconst 1, 1) := by decide +kernel
theorem dX4_run_2 : decode cX4_run 2 = .ok (.sipush 10000, 3) := by decide +kernel
theorem dX4_run_5 : decode cX4_run 5 = .ok (.invokestatic 41, 3) := by decide +kernel
theorem dX4_run_8 : decode cX4_run 8 = .ok (.aload_n 0, 1) := by decide +kernel
theorem dX4_run_9 : decode cX4_run 9 = .ok (.getfield 37, 3) := by decide +kernel
theorem dX4_run_12 : decode cX4_run 12 = .ok (.getfield 143, 3) := by decide +kernel
theorem dX4_run_15 : decode cX4_run 15 = .ok (.ldc 117, 2) := by decide +kernel
theorem dX4_run_17 : decode cX4_run 17 = .ok (.iload_n 1, 1) := by decide +kernel
theorem dX4_run_18 : decode cX4_run 18 = .ok (.isub, 1) := by decide +kernel
theorem dX4_run_19 : decode cX4_run 19 = .ok (.if_icmp .le 13, 3) := by decide +kernel
theorem dX4_run_22 : decode cX4_run 22 = .ok (.new 146, 3) := by decide +kernel
theorem dX4_run_25 : decode cX4_run 25 = .ok (.dup, 1) := by decide +kernel
theorem dX4_run_26 : decode cX4_run 26 = .ok (.ldc 148, 2) := by decide +kernel
theorem dX4_run_28 : decode cX4_run 28 = .ok (.invokespecial 150, 3) := by decide +kernel
theorem dX4_run_31 : decode cX4_run 31 = .ok (.athrow, 1) := by decide +kernel
theorem dX4_run_32 : decode cX4_run 32 = .ok (.aload_n 0, 1) := by decide +kernel
theorem dX4_run_33 : decode cX4_run 33 = .ok (.getfield 21, 3) := by decide +kernel
theorem dX4_run_36 : decode cX4_run 36 = .ok (.invokevirtual 92, 3) := by decide +kernel
theorem dX4_run_39 : decode cX4_run 39 = .ok (.aload_n 0, 1) := by decide +kernel
theorem dX4_run_40 : decode cX4_run 40 = .ok (.getfield 37, 3) := by decide +kernel
theorem dX4_run_43 : decode cX4_run 43 = .ok (.iload_n 1, 1) := by decide +kernel
theorem dX4_run_44 : decode cX4_run 44 = .ok (.invokevirtual 153, 3) := by decide +kernel
theorem dX4_run_47 : decode cX4_run 47 = .ok (.aload_n 0, 1) := by decide +kernel
theorem dX4_run_48 : decode cX4_run 48 = .ok (.getfield 37, 3) := by decide +kernel
theorem dX4_run_51 : decode cX4_run 51 = .ok (.getfield 143, 3) := by decide +kernel
theorem dX4_run_54 : decode cX4_run 54 = .ok (.ireturn, 1) := by decide +kernel
set_option maxRecDepth 20000 in
theorem ggX4_own_X4_checkPlace : GoodIn wsX4_own wsX4_checkPlace := goodIn_ca (goodIn_r _ [10, 11, 12, 13, 14, 9, 15, 16, 17, 112, 113, 114, 115, 139, 140, 141, 142, 143, 144, 145, 146, 147, 148, 149, 150, 151, 152] (by decide +kernel) (by decide +kernel)) (goodIn_sub (fun _ h => List.mem_cons_of_mem _ (List.mem_append_right _ h)) (by decide +kernel))
set_option maxRecDepth 20000 in
theorem gX4_own_X4_checkPlace : GoodIn wsX4_own (wsV RX4 78 RX4 yX4_checkPlace wsX4_checkPlace) := goodIn_app (goodIn_of _ (by decide +kernel)) ggX4_own_X4_checkPlace
set_option maxRecDepth 20000 in
theorem ggX4_own_X4_checkBounds : GoodIn wsX4_own wsX4_checkBounds := goodIn_ca (goodIn_r _ [15, 16, 17] (by decide +kernel) (by decide +kernel)) (goodIn_sub (fun _ h => List.mem_cons_of_mem _ (List.mem_append_right _ h)) (by decide +kernel))
set_option maxRecDepth 20000 in
theorem gX4_own_X4_checkBounds : GoodIn wsX4_own (va_wsS RX4 41 yX4_checkBounds wsX4_checkBounds) := goodIn_app (goodIn_of _ (by decide +kernel)) ggX4_own_X4_checkBounds
set_option maxRecDepth 20000 in
theorem ggX4_own_X0_settle : GoodIn wsX4_own wsX0_settle := goodIn_r _ [22, 23, 24, 25, 26, 27, 28, 29, 30, 31, 32, 21, 33, 34, 35, 36, 37, 38, 39, 40, 41, 42, 43, 44, 45, 46, 47, 48, 49, 50, 51, 52, 53, 54, 9, 55, 56, 57, 58, 59, 60, 61, 62, 63, 64, 65, 66, 67, 68, 69, 70, 71, 72, 73, 74, 75, 76, 77, 78, 79, 80, 81, 82, 83, 84, 85, 86, 87, 88, 89, 90, 91, 92, 93, 94, 95, 96, 97, 98, 99, 100, 101, 102, 103, 104, 105, 106, 107, 108, 109, 110, 111, 116, 117, 118, 119, 120, 121, 122, 123, 124, 125, 126, 127, 139, 140, 141, 142, 143, 144, 145, 146, 147, 148, 149, 150, 151, 152] (by decide +kernel) (by decide +kernel)
set_option maxRecDepth 20000 in
theorem gX4_own_X0_settle : GoodIn wsX4_own (wsV RX4 92 RX0 yX0_settle wsX0_settle) := goodIn_app (goodIn_of _ (by decide +kernel)) ggX4_own_X0_settle
theorem dX4_own_0 : decode cX4_own 0 = .ok (.aload_n 0, 1) := by decide +kernel
theorem dX4_own_1 : decode cX4_own 1 = .ok (.iload_n 1, 1) := by decide +kernel
theorem dX4_own_2 : decode cX4_own 2 = .ok (.invokevirtual 78, 3) := by decide +kernel
theorem dX4_own_5 : decode cX4_own 5 = .ok (.iload_n 2, 1) := by decide +kernel
theorem dX4_own_6 : decode cX4_own 6 = .ok (.iconst 0, 1) := by decide +kernel
theorem dX4_own_7 : decode cX4_own 7 = .ok (.iconst 1, 1) := by decide +kernel
theorem dX4_own_8 : decode cX4_own 8 = .ok (.invokestatic 41, 3) := by decide +kernel
theorem dX4_own_11 : decode cX4_own 11 = .ok (.aload_n 0, 1) := by decide +kernel
theorem dX4_own_12 : decode cX4_own 12 = .ok (.getfield 21, 3) := by decide +kernel
theorem dX4_own_15 : decode cX4_own 15 = .ok (.invokevirtual 92, 3) := by decide +kernel
theorem dX4_own_18 : decode cX4_own 18 = .ok (.aload_n 0, 1) := by decide +kernel
theorem dX4_own_19 : decode cX4_own 19 = .ok (.getfield 21, 3) := by decide +kernel
theorem dX4_own_22 : decode cX4_own 22 = .ok (.getfield 102, 3) := by decide +kernel
theorem dX4_own_25 : decode cX4_own 25 = .ok (.iload_n 1, 1) := by decide +kernel
theorem dX4_own_26 : decode cX4_own 26 = .ok (.iaload, 1) := by decide +kernel
theorem dX4_own_27 : decode cX4_own 27 = .ok (.iconst (-1), 1) := by decide +kernel
theorem dX4_own_28 : decode cX4_own 28 = .ok (.if_icmp .ne 5, 3) := by decide +kernel
theorem dX4_own_31 : decode cX4_own 31 = .ok (.iconst (-1), 1) := by decide +kernel
theorem dX4_own_32 : decode cX4_own 32 = .ok (.ireturn, 1) := by decide +kernel
theorem dX4_own_33 : decode cX4_own 33 = .ok (.iload_n 2, 1) := by decide +kernel
theorem dX4_own_34 : decode cX4_own 34 = .ok (.ifCond .ne 15, 3) := by decide +kernel
theorem dX4_own_37 : decode cX4_own 37 = .ok (.aload_n 0, 1) := by decide +kernel
theorem dX4_own_38 : decode cX4_own 38 = .ok (.getfield 37, 3) := by decide +kernel
theorem dX4_own_41 : decode cX4_own 41 = .ok (.getfield 156, 3) := by decide +kernel
theorem dX4_own_44 : decode cX4_own 44 = .ok (.iload_n 1, 1) := by decide +kernel
theorem dX4_own_45 : decode cX4_own 45 = .ok (.iaload, 1) := by decide +kernel
theorem dX4_own_46 : decode cX4_own 46 = .ok (.goto 12, 3) := by decide +kernel
theorem dX4_own_49 : decode cX4_own 49 = .ok (.aload_n 0, 1) := by decide +kernel
theorem dX4_own_50 : decode cX4_own 50 = .ok (.getfield 37, 3) := by decide +kernel
theorem dX4_own_53 : decode cX4_own 53 = .ok (.getfield 159, 3) := by decide +kernel
theorem dX4_own_56 : decode cX4_own 56 = .ok (.iload_n 1, 1) := by decide +kernel
theorem dX4_own_57 : decode cX4_own 57 = .ok (.iaload, 1) := by decide +kernel
theorem dX4_own_58 : decode cX4_own 58 = .ok (.ireturn, 1) := by decide +kernel
set_option maxRecDepth 20000 in
theorem ggX4_used_X4_checkBounds : GoodIn wsX4_used wsX4_checkBounds := goodIn_ca (goodIn_r _ [8, 9, 10] (by decide +kernel) (by decide +kernel)) (goodIn_sub (fun _ h => List.mem_cons_of_mem _ (List.mem_append_right _ h)) (by decide +kernel))
set_option maxRecDepth 20000 in
theorem gX4_used_X4_checkBounds : GoodIn wsX4_used (va_wsS RX4 41 yX4_checkBounds wsX4_checkBounds) := goodIn_app (goodIn_of _ (by decide +kernel)) ggX4_used_X4_checkBounds
theorem dX4_used_0 : decode cX4_used 0 = .ok (.iload_n 1, 1) := by decide +kernel
theorem dX4_used_1 : decode cX4_used 1 = .ok (.iconst 0, 1) := by decide +kernel
theorem dX4_used_2 : decode cX4_used 2 = .ok (.iconst 2, 1) := by decide +kernel
theorem dX4_used_3 : decode cX4_used 3 = .ok (.invokestatic 41, 3) := by decide +kernel
theorem dX4_used_6 : decode cX4_used 6 = .ok (.iload_n 1, 1) := by decide +kernel
theorem dX4_used_7 : decode cX4_used 7 = .ok (.ifCond .ne 11, 3) := by decide +kernel
theorem dX4_used_10 : decode cX4_used 10 = .ok (.aload_n 0, 1) := by decide +kernel
theorem dX4_used_11 : decode cX4_used 11 = .ok (.getfield 37, 3) := by decide +kernel
theorem dX4_used_14 : decode cX4_used 14 = .ok (.getfield 162, 3) := by decide +kernel
theorem dX4_used_17 : decode cX4_used 17 = .ok (.lreturn, 1) := by decide +kernel
theorem dX4_used_18 : decode cX4_used 18 = .ok (.iload_n 1, 1) := by decide +kernel
theorem dX4_used_19 : decode cX4_used 19 = .ok (.iconst 1, 1) := by decide +kernel
theorem dX4_used_20 : decode cX4_used 20 = .ok (.if_icmp .ne 13, 3) := by decide +kernel
theorem dX4_used_23 : decode cX4_used 23 = .ok (.aload_n 0, 1) := by decide +kernel
theorem dX4_used_24 : decode cX4_used 24 = .ok (.getfield 37, 3) := by decide +kernel
theorem dX4_used_27 : decode cX4_used 27 = .ok (.getfield 166, 3) := by decide +kernel
theorem dX4_used_30 : decode cX4_used 30 = .ok (.goto 10, 3) := by decide +kernel
theorem dX4_used_33 : decode cX4_used 33 = .ok (.aload_n 0, 1) := by decide +kernel
theorem dX4_used_34 : decode cX4_used 34 = .ok (.getfield 37, 3) := by decide +kernel
theorem dX4_used_37 : decode cX4_used 37 = .ok (.getfield 169, 3) := by decide +kernel
theorem dX4_used_40 : decode cX4_used 40 = .ok (.lreturn, 1) := by decide +kernel
set_option maxRecDepth 20000 in
theorem ggX4_checkPlace_X4_checkBounds : GoodIn wsX4_checkPlace wsX4_checkBounds := goodIn_ca (goodIn_r _ [6, 7, 8] (by decide +kernel) (by decide +kernel)) (goodIn_sub (fun _ h => List.mem_cons_of_mem _ (List.mem_append_right _ h)) (by decide +kernel))
set_option maxRecDepth 20000 in
theorem gX4_checkPlace_X4_checkBounds : GoodIn wsX4_checkPlace (va_wsS RX4 41 yX4_checkBounds wsX4_checkBounds) := goodIn_app (goodIn_of _ (by decide +kernel)) ggX4_checkPlace_X4_checkBounds
theorem dX4_checkPlace_0 : decode cX4_checkPlace 0 = .ok (.iload_n 1, 1) := by decide +kernel
theorem dX4_checkPlace_1 : decode cX4_checkPlace 1 = .ok (.iconst 0, 1) := by decide +kernel
theorem dX4_checkPlace_2 : decode cX4_checkPlace 2 = .ok (.aload_n 0, 1) := by decide +kernel
theorem dX4_checkPlace_3 : decode cX4_checkPlace 3 = .ok (.getfield 15, 3) := by decide +kernel
theorem dX4_checkPlace_6 : decode cX4_checkPlace 6 = .ok (.getfield 61, 3) := by decide +kernel
theorem dX4_checkPlace_9 : decode cX4_checkPlace 9 = .ok (.iconst 1, 1) := by decide +kernel
theorem dX4_checkPlace_10 : decode cX4_checkPlace 10 = .ok (.isub, 1) := by decide +kernel
theorem dX4_checkPlace_11 : decode cX4_checkPlace 11 = .ok (.invokestatic 41, 3) := by decide +kernel
theorem dX4_checkPlace_14 : decode cX4_checkPlace 14 = .ok (.return_, 1) := by decide +kernel
set_option maxRecDepth 20000 in
theorem ggX4_checkPoint_X4_checkBounds : GoodIn wsX4_checkPoint wsX4_checkBounds := goodIn_ca (goodIn_r _ [6, 7, 8] (by decide +kernel) (by decide +kernel)) (goodIn_sub (fun _ h => List.mem_cons_of_mem _ (List.mem_append_right _ h)) (by decide +kernel))
set_option maxRecDepth 20000 in
theorem gX4_checkPoint_X4_checkBounds : GoodIn wsX4_checkPoint (va_wsS RX4 41 yX4_checkBounds wsX4_checkBounds) := goodIn_app (goodIn_of _ (by decide +kernel)) ggX4_checkPoint_X4_checkBounds
theorem dX4_checkPoint_0 : decode cX4_checkPoint 0 = .ok (.iload_n 1, 1) := by decide +kernel
theorem dX4_checkPoint_1 : decode cX4_checkPoint 1 = .ok (.iconst 0, 1) := by decide +kernel
theorem dX4_checkPoint_2 : decode cX4_checkPoint 2 = .ok (.aload_n 0, 1) := by decide +kernel
theorem dX4_checkPoint_3 : decode cX4_checkPoint 3 = .ok (.getfield 15, 3) := by decide +kernel
theorem dX4_checkPoint_6 : decode cX4_checkPoint 6 = .ok (.getfield 68, 3) := by decide +kernel
theorem dX4_checkPoint_9 : decode cX4_checkPoint 9 = .ok (.iconst 1, 1) := by decide +kernel
theorem dX4_checkPoint_10 : decode cX4_checkPoint 10 = .ok (.isub, 1) := by decide +kernel
theorem dX4_checkPoint_11 : decode cX4_checkPoint 11 = .ok (.invokestatic 41, 3) := by decide +kernel
theorem dX4_checkPoint_14 : decode cX4_checkPoint 14 = .ok (.return_, 1) := by decide +kernel
theorem dX4_checkBounds_0 : decode cX4_checkBounds 0 = .ok (.iload_n 0, 1) := by decide +kernel
theorem dX4_checkBounds_1 : decode cX4_checkBounds 1 = .ok (.iload_n 1, 1) := by decide +kernel
theorem dX4_checkBounds_2 : decode cX4_checkBounds 2 = .ok (.if_icmp .lt 8, 3) := by decide +kernel
theorem dX4_checkBounds_5 : decode cX4_checkBounds 5 = .ok (.iload_n 0, 1) := by decide +kernel
theorem dX4_checkBounds_6 : decode cX4_checkBounds 6 = .ok (.iload_n 2, 1) := by decide +kernel
theorem dX4_checkBounds_7 : decode cX4_checkBounds 7 = .ok (.if_icmp .le 13, 3) := by decide +kernel
theorem dX4_checkBounds_10 : decode cX4_checkBounds 10 = .ok (.new 172, 3) := by decide +kernel
theorem dX4_checkBounds_13 : decode cX4_checkBounds 13 = .ok (.dup, 1) := by decide +kernel
theorem dX4_checkBounds_14 : decode cX4_checkBounds 14 = .ok (.ldc 174, 2) := by decide +kernel
theorem dX4_checkBounds_16 : decode cX4_checkBounds 16 = .ok (.invokespecial 176, 3) := by decide +kernel
theorem dX4_checkBounds_19 : decode cX4_checkBounds 19 = .ok (.athrow, 1) := by decide +kernel
theorem dX4_checkBounds_20 : decode cX4_checkBounds 20 = .ok (.return_, 1) := by decide +kernel
theorem dX4_checkCount_0 : decode cX4_checkCount 0 = .ok (.iload_n 0, 1) := by decide +kernel
theorem dX4_checkCount_1 : decode cX4_checkCount 1 = .ok (.iload_n 1, 1) := by decide +kernel
theorem dX4_checkCount_2 : decode cX4_checkCount 2 = .ok (.if_icmp .lt 13, 3) := by decide +kernel
theorem dX4_checkCount_5 : decode cX4_checkCount 5 = .ok (.new 146, 3) := by decide +kernel
theorem dX4_checkCount_8 : decode cX4_checkCount 8 = .ok (.dup, 1) := by decide +kernel
theorem dX4_checkCount_9 : decode cX4_checkCount 9 = .ok (.ldc 177, 2) := by decide +kernel
theorem dX4_checkCount_11 : decode cX4_checkCount 11 = .ok (.invokespecial 150, 3) := by decide +kernel
theorem dX4_checkCount_14 : decode cX4_checkCount 14 = .ok (.athrow, 1) := by decide +kernel
theorem dX4_checkCount_15 : decode cX4_checkCount 15 = .ok (.return_, 1) := by decide +kernel
set_option maxRecDepth 20000 in
theorem ggX4_lampsGo_X1_startAnew : GoodIn wsX4_lampsGo wsX1_startAnew := goodIn_r _ [10, 11, 12, 13, 14, 15, 16, 40, 41, 42, 43, 44, 45, 46, 47, 48, 49, 50] (by decide +kernel) (by decide +kernel)
set_option maxRecDepth 20000 in
theorem gX4_lampsGo_X1_startAnew : GoodIn wsX4_lampsGo (wsV RX4 183 RX1 yX1_startAnew wsX1_startAnew) := goodIn_app (goodIn_of _ (by decide +kernel)) ggX4_lampsGo_X1_startAnew
theorem dX4_lampsGo_0 : decode cX4_lampsGo 0 = .ok (.aload_n 0, 1) := by decide +kernel
theorem dX4_lampsGo_1 : decode cX4_lampsGo 1 = .ok (.getfield 21, 3) := by decide +kernel
theorem dX4_lampsGo_4 : decode cX4_lampsGo 4 = .ok (.iconst 0, 1) := by decide +kernel
theorem dX4_lampsGo_5 : decode cX4_lampsGo 5 = .ok (.putfield 179, 3) := by decide +kernel
theorem dX4_lampsGo_8 : decode cX4_lampsGo 8 = .ok (.aload_n 0, 1) := by decide +kernel
theorem dX4_lampsGo_9 : decode cX4_lampsGo 9 = .ok (.getfield 30, 3) := by decide +kernel
theorem dX4_lampsGo_12 : decode cX4_lampsGo 12 = .ok (.iconst 0, 1) := by decide +kernel
theorem dX4_lampsGo_13 : decode cX4_lampsGo 13 = .ok (.putfield 182, 3) := by decide +kernel
theorem dX4_lampsGo_16 : decode cX4_lampsGo 16 = .ok (.aload_n 0, 1) := by decide +kernel
theorem dX4_lampsGo_17 : decode cX4_lampsGo 17 = .ok (.getfield 37, 3) := by decide +kernel
theorem dX4_lampsGo_20 : decode cX4_lampsGo 20 = .ok (.invokevirtual 183, 3) := by decide +kernel
theorem dX4_lampsGo_23 : decode cX4_lampsGo 23 = .ok (.return_, 1) := by decide +kernel
set_option maxRecDepth 20000 in
theorem ggX4_settleScene_X0_settle : GoodIn wsX4_settleScene wsX0_settle := goodIn_r _ [7, 8, 9, 10, 11, 12, 13, 14, 15, 16, 17, 6, 18, 19, 20, 21, 22, 23, 24, 25, 26, 27, 28, 29, 30, 31, 32, 33, 34, 35, 36, 37, 38, 39, 40, 41, 42, 43, 44, 45, 46, 47, 48, 49, 50, 51, 52, 53, 54, 55, 56, 57, 58, 59, 60, 61, 62, 63, 64, 65, 66, 67, 68, 69, 70, 71, 72, 73, 74, 75, 76, 77, 78, 79, 80, 81, 82, 83, 84, 85, 86, 87, 88, 89, 90, 91, 92, 93, 94, 95, 96, 97, 141, 142, 143, 144, 145, 146, 147, 148, 149, 150, 151, 152, 153, 154, 155, 156, 157, 158, 159, 160, 161, 162, 163, 164, 165, 166] (by decide +kernel) (by decide +kernel)
set_option maxRecDepth 20000 in
theorem gX4_settleScene_X0_settle : GoodIn wsX4_settleScene (wsV RX4 92 RX0 yX0_settle wsX0_settle) := goodIn_app (goodIn_of _ (by decide +kernel)) ggX4_settleScene_X0_settle
set_option maxRecDepth 20000 in
theorem ggX4_settleScene_X3_settle : GoodIn wsX4_settleScene wsX3_settle := goodIn_r _ [102, 103, 104, 105, 106, 107, 108, 109, 110, 111, 112, 12, 13, 14, 113, 114, 115, 6, 116, 19, 20, 10, 117, 118, 119, 101, 120, 121, 122, 123, 124, 125, 126, 127, 128, 77, 53, 78, 129, 130, 131, 132, 23, 24, 25, 26, 39, 40, 41, 133, 134, 135, 136, 167, 168, 169, 170, 171, 172, 173, 153, 154, 155, 156, 157, 158, 159, 160, 161, 162, 163, 164, 165, 166, 141, 142, 143, 144, 145, 146, 147, 148, 149, 150, 151, 152] (by decide +kernel) (by decide +kernel)
set_option maxRecDepth 20000 in
theorem gX4_settleScene_X3_settle : GoodIn wsX4_settleScene (wsV RX4 186 RX3 yX3_settle wsX3_settle) := goodIn_app (goodIn_of _ (by decide +kernel)) ggX4_settleScene_X3_settle
theorem dX4_settleScene_0 : decode cX4_settleScene 0 = .ok (.aload_n 0, 1) := by decide +kernel
theorem dX4_settleScene_1 : decode cX4_settleScene 1 = .ok (.getfield 21, 3) := by decide +kernel
theorem dX4_settleScene_4 : decode cX4_settleScene 4 = .ok (.invokevirtual 92, 3) := by decide +kernel
theorem dX4_settleScene_7 : decode cX4_settleScene 7 = .ok (.aload_n 0, 1) := by decide +kernel
theorem dX4_settleScene_8 : decode cX4_settleScene 8 = .ok (.getfield 30, 3) := by decide +kernel
theorem dX4_settleScene_11 : decode cX4_settleScene 11 = .ok (.invokevirtual 186, 3) := by decide +kernel
theorem dX4_settleScene_14 : decode cX4_settleScene 14 = .ok (.return_, 1) := by decide +kernel
theorem dX4_quotient_0 : decode cX4_quotient 0 = .ok (.lload_n 2, 1) := by decide +kernel
theorem dX4_quotient_1 : decode cX4_quotient 1 = .ok (.lconst 0, 1) := by decide +kernel
theorem dX4_quotient_2 : decode cX4_quotient 2 = .ok (.lcmp, 1) := by decide +kernel
theorem dX4_quotient_3 : decode cX4_quotient 3 = .ok (.ifCond .le 9, 3) := by decide +kernel
theorem dX4_quotient_6 : decode cX4_quotient 6 = .ok (.lload_n 0, 1) := by decide +kernel
theorem dX4_quotient_7 : decode cX4_quotient 7 = .ok (.lload_n 2, 1) := by decide +kernel
theorem dX4_quotient_8 : decode cX4_quotient 8 = .ok (.ldiv, 1) := by decide +kernel
theorem dX4_quotient_9 : decode cX4_quotient 9 = .ok (.goto 4, 3) := by decide +kernel
theorem dX4_quotient_12 : decode cX4_quotient 12 = .ok (.lconst 0, 1) := by decide +kernel
theorem dX4_quotient_13 : decode cX4_quotient 13 = .ok (.lreturn, 1) := by decide +kernel
theorem dX5_init_0 : decode cX5_init 0 = .ok (.aload_n 0, 1) := by decide +kernel
theorem dX5_init_1 : decode cX5_init 1 = .ok (.invokespecial 1, 3) := by decide +kernel
theorem dX5_init_4 : decode cX5_init 4 = .ok (.aload_n 0, 1) := by decide +kernel
theorem dX5_init_5 : decode cX5_init 5 = .ok (.iconst 3, 1) := by decide +kernel
theorem dX5_init_6 : decode cX5_init 6 = .ok (.newarray .int, 2) := by decide +kernel
theorem dX5_init_8 : decode cX5_init 8 = .ok (.putfield 7, 3) := by decide +kernel
theorem dX5_init_11 : decode cX5_init 11 = .ok (.aload_n 0, 1) := by decide +kernel
theorem dX5_init_12 : decode cX5_init 12 = .ok (.iconst 3, 1) := by decide +kernel
theorem dX5_init_13 : decode cX5_init 13 = .ok (.newarray .int, 2) := by decide +kernel
theorem dX5_init_15 : decode cX5_init 15 = .ok (.putfield 13, 3) := by decide +kernel
theorem dX5_init_18 : decode cX5_init 18 = .ok (.aload_n 0, 1) := by decide +kernel
theorem dX5_init_19 : decode cX5_init 19 = .ok (.iconst 3, 1) := by decide +kernel
theorem dX5_init_20 : decode cX5_init 20 = .ok (.newarray .int, 2) := by decide +kernel
theorem dX5_init_22 : decode cX5_init 22 = .ok (.putfield 16, 3) := by decide +kernel
theorem dX5_init_25 : decode cX5_init 25 = .ok (.aload_n 0, 1) := by decide +kernel
theorem dX5_init_26 : decode cX5_init 26 = .ok (.iconst 3, 1) := by decide +kernel
theorem dX5_init_27 : decode cX5_init 27 = .ok (.newarray .int, 2) := by decide +kernel
theorem dX5_init_29 : decode cX5_init 29 = .ok (.putfield 19, 3) := by decide +kernel
theorem dX5_init_32 : decode cX5_init 32 = .ok (.aload_n 0, 1) := by decide +kernel
theorem dX5_init_33 : decode cX5_init 33 = .ok (.bipush 7, 2) := by decide +kernel
theorem dX5_init_35 : decode cX5_init 35 = .ok (.newarray .int, 2) := by decide +kernel
theorem dX5_init_37 : decode cX5_init 37 = .ok (.putfield 22, 3) := by decide +kernel
theorem dX5_init_40 : decode cX5_init 40 = .ok (.aload_n 0, 1) := by decide +kernel
theorem dX5_init_41 : decode cX5_init 41 = .ok (.bipush 7, 2) := by decide +kernel
theorem dX5_init_43 : decode cX5_init 43 = .ok (.newarray .int, 2) := by decide +kernel
theorem dX5_init_45 : decode cX5_init 45 = .ok (.putfield 25, 3) := by decide +kernel
theorem dX5_init_48 : decode cX5_init 48 = .ok (.aload_n 0, 1) := by decide +kernel
theorem dX5_init_49 : decode cX5_init 49 = .ok (.bipush 7, 2) := by decide +kernel
theorem dX5_init_51 : decode cX5_init 51 = .ok (.newarray .int, 2) := by decide +kernel
theorem dX5_init_53 : decode cX5_init 53 = .ok (.putfield 28, 3) := by decide +kernel
theorem dX5_init_56 : decode cX5_init 56 = .ok (.aload_n 0, 1) := by decide +kernel
theorem dX5_init_57 : decode cX5_init 57 = .ok (.bipush 7, 2) := by decide +kernel
theorem dX5_init_59 : decode cX5_init 59 = .ok (.newarray .int, 2) := by decide +kernel
theorem dX5_init_61 : decode cX5_init 61 = .ok (.putfield 31, 3) := by decide +kernel
theorem dX5_init_64 : decode cX5_init 64 = .ok (.aload_n 0, 1) := by decide +kernel
theorem dX5_init_65 : decode cX5_init 65 = .ok (.bipush 16, 2) := by decide +kernel
theorem dX5_init_67 : decode cX5_init 67 = .ok (.newarray .int, 2) := by decide +kernel
theorem dX5_init_69 : decode cX5_init 69 = .ok (.putfield 34, 3) := by decide +kernel
theorem dX5_init_72 : decode cX5_init 72 = .ok (.aload_n 0, 1) := by decide +kernel
theorem dX5_init_73 : decode cX5_init 73 = .ok (.bipush 16, 2) := by decide +kernel
theorem dX5_init_75 : decode cX5_init 75 = .ok (.newarray .int, 2) := by decide +kernel
theorem dX5_init_77 : decode cX5_init 77 = .ok (.putfield 37, 3) := by decide +kernel
theorem dX5_init_80 : decode cX5_init 80 = .ok (.aload_n 0, 1) := by decide +kernel
theorem dX5_init_81 : decode cX5_init 81 = .ok (.bipush 16, 2) := by decide +kernel
theorem dX5_init_83 : decode cX5_init 83 = .ok (.newarray .int, 2) := by decide +kernel
theorem dX5_init_85 : decode cX5_init 85 = .ok (.putfield 40, 3) := by decide +kernel
theorem dX5_init_88 : decode cX5_init 88 = .ok (.aload_n 0, 1) := by decide +kernel
theorem dX5_init_89 : decode cX5_init 89 = .ok (.bipush 16, 2) := by decide +kernel
theorem dX5_init_91 : decode cX5_init 91 = .ok (.newarray .int, 2) := by decide +kernel
theorem dX5_init_93 : decode cX5_init 93 = .ok (.putfield 43, 3) := by decide +kernel
theorem dX5_init_96 : decode cX5_init 96 = .ok (.aload_n 0, 1) := by decide +kernel
theorem dX5_init_97 : decode cX5_init 97 = .ok (.bipush 16, 2) := by decide +kernel
theorem dX5_init_99 : decode cX5_init 99 = .ok (.newarray .int, 2) := by decide +kernel
theorem dX5_init_101 : decode cX5_init 101 = .ok (.putfield 46, 3) := by decide +kernel
theorem dX5_init_104 : decode cX5_init 104 = .ok (.aload_n 0, 1) := by decide +kernel
theorem dX5_init_105 : decode cX5_init 105 = .ok (.iconst 3, 1) := by decide +kernel
theorem dX5_init_106 : decode cX5_init 106 = .ok (.putfield 49, 3) := by decide +kernel
theorem dX5_init_109 : decode cX5_init 109 = .ok (.aload_n 0, 1) := by decide +kernel
theorem dX5_init_110 : decode cX5_init 110 = .ok (.bipush 10, 2) := by decide +kernel
theorem dX5_init_112 : decode cX5_init 112 = .ok (.putfield 53, 3) := by decide +kernel
theorem dX5_init_115 : decode cX5_init 115 = .ok (.aload_n 0, 1) := by decide +kernel
theorem dX5_init_116 : decode cX5_init 116 = .ok (.bipush 7, 2) := by decide +kernel
theorem dX5_init_118 : decode cX5_init 118 = .ok (.newarray .int, 2) := by decide +kernel
theorem dX5_init_120 : decode cX5_init 120 = .ok (.putfield 56, 3) := by decide +kernel
theorem dX5_init_123 : decode cX5_init 123 = .ok (.aload_n 0, 1) := by decide +kernel
theorem dX5_init_124 : decode cX5_init 124 = .ok (.bipush 7, 2) := by decide +kernel
theorem dX5_init_126 : decode cX5_init 126 = .ok (.newarray .int, 2) := by decide +kernel
theorem dX5_init_128 : decode cX5_init 128 = .ok (.putfield 59, 3) := by decide +kernel
theorem dX5_init_131 : decode cX5_init 131 = .ok (.aload_n 0, 1) := by decide +kernel
theorem dX5_init_132 : decode cX5_init 132 = .ok (.sipush 128, 3) := by decide +kernel
theorem dX5_init_135 : decode cX5_init 135 = .ok (.newarray .int, 2) := by decide +kernel
theorem dX5_init_137 : decode cX5_init 137 = .ok (.putfield 62, 3) := by decide +kernel
theorem dX5_init_140 : decode cX5_init 140 = .ok (.aload_n 0, 1) := by decide +kernel
theorem dX5_init_141 : decode cX5_init 141 = .ok (.bipush 8, 2) := by decide +kernel
theorem dX5_init_143 : decode cX5_init 143 = .ok (.newarray .int, 2) := by decide +kernel
theorem dX5_init_145 : decode cX5_init 145 = .ok (.putfield 65, 3) := by decide +kernel
theorem dX5_init_148 : decode cX5_init 148 = .ok (.aload_n 0, 1) := by decide +kernel
theorem dX5_init_149 : decode cX5_init 149 = .ok (.sipush 336, 3) := by decide +kernel
theorem dX5_init_152 : decode cX5_init 152 = .ok (.newarray .int, 2) := by decide +kernel
theorem dX5_init_154 : decode cX5_init 154 = .ok (.putfield 68, 3) := by decide +kernel
theorem dX5_init_157 : decode cX5_init 157 = .ok (.aload_n 0, 1) := by decide +kernel
theorem dX5_init_158 : decode cX5_init 158 = .ok (.bipush 7, 2) := by decide +kernel
theorem dX5_init_160 : decode cX5_init 160 = .ok (.newarray .int, 2) := by decide +kernel
theorem dX5_init_162 : decode cX5_init 162 = .ok (.putfield 71, 3) := by decide +kernel
theorem dX5_init_165 : decode cX5_init 165 = .ok (.aload_n 0, 1) := by decide +kernel
theorem dX5_init_166 : decode cX5_init 166 = .ok (.bipush 7, 2) := by decide +kernel
theorem dX5_init_168 : decode cX5_init 168 = .ok (.newarray .int, 2) := by decide +kernel
theorem dX5_init_170 : decode cX5_init 170 = .ok (.putfield 74, 3) := by decide +kernel
theorem dX5_init_173 : decode cX5_init 173 = .ok (.aload_n 0, 1) := by decide +kernel
theorem dX5_init_174 : decode cX5_init 174 = .ok (.bipush 7, 2) := by decide +kernel
theorem dX5_init_176 : decode cX5_init 176 = .ok (.newarray .int, 2) := by decide +kernel
theorem dX5_init_178 : decode cX5_init 178 = .ok (.putfield 77, 3) := by decide +kernel
theorem dX5_init_181 : decode cX5_init 181 = .ok (.return_, 1) := by decide +kernel
theorem dX5_thrown_0 : decode cX5_thrown 0 = .ok (.aload_n 0, 1) := by decide +kernel
theorem dX5_thrown_1 : decode cX5_thrown 1 = .ok (.getfield 80, 3) := by decide +kernel
theorem dX5_thrown_4 : decode cX5_thrown 4 = .ok (.ireturn, 1) := by decide +kernel
theorem dX5_isIn_0 : decode cX5_isIn 0 = .ok (.iload_n 0, 1) := by decide +kernel
theorem dX5_isIn_1 : decode cX5_isIn 1 = .ok (.iload_n 1, 1) := by decide +kernel
theorem dX5_isIn_2 : decode cX5_isIn 2 = .ok (.if_icmp .lt 12, 3) := by decide +kernel
theorem dX5_isIn_5 : decode cX5_isIn 5 = .ok (.iload_n 0, 1) := by decide +kernel
theorem dX5_isIn_6 : decode cX5_isIn 6 = .ok (.iload_n 2, 1) := by decide +kernel
theorem dX5_isIn_7 : decode cX5_isIn 7 = .ok (.if_icmp .gt 7, 3) := by decide +kernel
theorem dX5_isIn_10 : decode cX5_isIn 10 = .ok (.iconst 1, 1) := by decide +kernel
theorem dX5_isIn_11 : decode cX5_isIn 11 = .ok (.goto 4, 3) := by decide +kernel
theorem dX5_isIn_14 : decode cX5_isIn 14 = .ok (.iconst 0, 1) := by decide +kernel
theorem dX5_isIn_15 : decode cX5_isIn 15 = .ok (.ireturn, 1) := by decide +kernel
set_option maxRecDepth 20000 in
theorem ggX5_isKind_X5_isIn : GoodIn wsX5_isKind wsX5_isIn := goodIn_r _ [5] (by decide +kernel) (by decide +kernel)
set_option maxRecDepth 20000 in
theorem gX5_isKind_X5_isIn : GoodIn wsX5_isKind (va_wsS RX5 86 yX5_isIn wsX5_isIn) := goodIn_app (goodIn_of _ (by decide +kernel)) ggX5_isKind_X5_isIn
theorem dX5_isKind_0 : decode cX5_isKind 0 = .ok (.iload_n 1, 1) := by decide +kernel
theorem dX5_isKind_1 : decode cX5_isKind 1 = .ok (.iconst 0, 1) := by decide +kernel
theorem dX5_isKind_2 : decode cX5_isKind 2 = .ok (.aload_n 0, 1) := by decide +kernel
theorem dX5_isKind_3 : decode cX5_isKind 3 = .ok (.getfield 83, 3) := by decide +kernel
theorem dX5_isKind_6 : decode cX5_isKind 6 = .ok (.iconst 1, 1) := by decide +kernel
theorem dX5_isKind_7 : decode cX5_isKind 7 = .ok (.isub, 1) := by decide +kernel
theorem dX5_isKind_8 : decode cX5_isKind 8 = .ok (.invokestatic 86, 3) := by decide +kernel
theorem dX5_isKind_11 : decode cX5_isKind 11 = .ok (.ireturn, 1) := by decide +kernel
set_option maxRecDepth 20000 in
theorem ggX5_isPlace_X5_isIn : GoodIn wsX5_isPlace wsX5_isIn := goodIn_r _ [5] (by decide +kernel) (by decide +kernel)
set_option maxRecDepth 20000 in
theorem gX5_isPlace_X5_isIn : GoodIn wsX5_isPlace (va_wsS RX5 86 yX5_isIn wsX5_isIn) := goodIn_app (goodIn_of _ (by decide +kernel)) ggX5_isPlace_X5_isIn
theorem dX5_isPlace_0 : decode cX5_isPlace 0 = .ok (.iload_n 1, 1) := by decide +kernel
theorem dX5_isPlace_1 : decode cX5_isPlace 1 = .ok (.iconst 0, 1) := by decide +kernel
theorem dX5_isPlace_2 : decode cX5_isPlace 2 = .ok (.aload_n 0, 1) := by decide +kernel
theorem dX5_isPlace_3 : decode cX5_isPlace 3 = .ok (.getfield 90, 3) := by decide +kernel
theorem dX5_isPlace_6 : decode cX5_isPlace 6 = .ok (.iconst 1, 1) := by decide +kernel
theorem dX5_isPlace_7 : decode cX5_isPlace 7 = .ok (.isub, 1) := by decide +kernel
theorem dX5_isPlace_8 : decode cX5_isPlace 8 = .ok (.invokestatic 86, 3) := by decide +kernel
theorem dX5_isPlace_11 : decode cX5_isPlace 11 = .ok (.ireturn, 1) := by decide +kernel
set_option maxRecDepth 20000 in
theorem ggX5_isPoint_X5_isIn : GoodIn wsX5_isPoint wsX5_isIn := goodIn_r _ [5] (by decide +kernel) (by decide +kernel)
set_option maxRecDepth 20000 in
theorem gX5_isPoint_X5_isIn : GoodIn wsX5_isPoint (va_wsS RX5 86 yX5_isIn wsX5_isIn) := goodIn_app (goodIn_of _ (by decide +kernel)) ggX5_isPoint_X5_isIn
theorem dX5_isPoint_0 : decode cX5_isPoint 0 = .ok (.iload_n 1, 1) := by decide +kernel
theorem dX5_isPoint_1 : decode cX5_isPoint 1 = .ok (.iconst 0, 1) := by decide +kernel
theorem dX5_isPoint_2 : decode cX5_isPoint 2 = .ok (.aload_n 0, 1) := by decide +kernel
theorem dX5_isPoint_3 : decode cX5_isPoint 3 = .ok (.getfield 93, 3) := by decide +kernel
theorem dX5_isPoint_6 : decode cX5_isPoint 6 = .ok (.iconst 1, 1) := by decide +kernel
theorem dX5_isPoint_7 : decode cX5_isPoint 7 = .ok (.isub, 1) := by decide +kernel
theorem dX5_isPoint_8 : decode cX5_isPoint 8 = .ok (.invokestatic 86, 3) := by decide +kernel
theorem dX5_isPoint_11 : decode cX5_isPoint 11 = .ok (.ireturn, 1) := by decide +kernel
theorem dX5_renew_0 : decode cX5_renew 0 = .ok (.aload_n 0, 1) := by decide +kernel
theorem dX5_renew_1 : decode cX5_renew 1 = .ok (.iconst 0, 1) := by decide +kernel
theorem dX5_renew_2 : decode cX5_renew 2 = .ok (.putfield 96, 3) := by decide +kernel
theorem dX5_renew_5 : decode cX5_renew 5 = .ok (.iconst 0, 1) := by decide +kernel
theorem dX5_renew_6 : decode cX5_renew 6 = .ok (.istore_n 1, 1) := by decide +kernel
theorem dX5_renew_7 : decode cX5_renew 7 = .ok (.iload_n 1, 1) := by decide +kernel
theorem dX5_renew_8 : decode cX5_renew 8 = .ok (.bipush 7, 2) := by decide +kernel
theorem dX5_renew_10 : decode cX5_renew 10 = .ok (.if_icmp .ge 23, 3) := by decide +kernel
theorem dX5_renew_13 : decode cX5_renew 13 = .ok (.aload_n 0, 1) := by decide +kernel
theorem dX5_renew_14 : decode cX5_renew 14 = .ok (.getfield 74, 3) := by decide +kernel
theorem dX5_renew_17 : decode cX5_renew 17 = .ok (.iload_n 1, 1) := by decide +kernel
theorem dX5_renew_18 : decode cX5_renew 18 = .ok (.iconst 0, 1) := by decide +kernel
theorem dX5_renew_19 : decode cX5_renew 19 = .ok (.iastore, 1) := by decide +kernel
theorem dX5_renew_20 : decode cX5_renew 20 = .ok (.aload_n 0, 1) := by decide +kernel
theorem dX5_renew_21 : decode cX5_renew 21 = .ok (.getfield 77, 3) := by decide +kernel
theorem dX5_renew_24 : decode cX5_renew 24 = .ok (.iload_n 1, 1) := by decide +kernel
theorem dX5_renew_25 : decode cX5_renew 25 = .ok (.iconst 0, 1) := by decide +kernel
theorem dX5_renew_26 : decode cX5_renew 26 = .ok (.iastore, 1) := by decide +kernel
theorem dX5_renew_27 : decode cX5_renew 27 = .ok (.iinc 1 1, 3) := by decide +kernel
theorem dX5_renew_30 : decode cX5_renew 30 = .ok (.goto (-23), 3) := by decide +kernel
theorem dX5_renew_33 : decode cX5_renew 33 = .ok (.return_, 1) := by decide +kernel
set_option maxRecDepth 20000 in
theorem ggX5_kind_X5_isIn : GoodIn wsX5_kind wsX5_isIn := goodIn_r _ [11] (by decide +kernel) (by decide +kernel)
set_option maxRecDepth 20000 in
theorem gX5_kind_X5_isIn : GoodIn wsX5_kind (va_wsS RX5 86 yX5_isIn wsX5_isIn) := goodIn_app (goodIn_of _ (by decide +kernel)) ggX5_kind_X5_isIn
set_option maxRecDepth 20000 in
theorem ggX5_kind_X5_renew : GoodIn wsX5_kind wsX5_renew := goodIn_r _ [15, 16, 17, 18, 19, 20, 21, 22, 23, 24, 25, 26, 27, 28, 29, 30, 31, 32, 33, 34, 35, 36, 37, 38, 39, 40, 41, 42, 43, 44, 45, 46, 47, 48, 49, 50, 51, 52, 53, 54] (by decide +kernel) (by decide +kernel)
set_option maxRecDepth 20000 in
theorem gX5_kind_X5_renew : GoodIn wsX5_kind (wsV RX5 101 RX5 yX5_renew wsX5_renew) := goodIn_app (goodIn_of _ (by decide +kernel)) ggX5_kind_X5_renew
theorem dX5_kind_0 : decode cX5_kind 0 = .ok (.iload_n 1, 1) := by decide +kernel
theorem dX5_kind_1 : decode cX5_kind 1 = .ok (.iconst 1, 1) := by decide +kernel
theorem dX5_kind_2 : decode cX5_kind 2 = .ok (.sipush 10000, 3) := by decide +kernel
end
section
theorem dX5_kind_5 : decode cX5_kind 5 = .ok (.invokestatic 86, 3) := by decide +kernel
theorem dX5_kind_8 : decode cX5_kind 8 = .ok (.ifCond .eq 39, 3) := by decide +kernel
theorem dX5_kind_11 : decode cX5_kind 11 = .ok (.iload_n 2, 1) := by decide +kernel
theorem dX5_kind_12 : decode cX5_kind 12 = .ok (.iconst 1, 1) := by decide +kernel
theorem dX5_kind_13 : decode cX5_kind 13 = .ok (.sipush 500, 3) := by decide +kernel
theorem dX5_kind_16 : decode cX5_kind 16 = .ok (.invokestatic 86, 3) := by decide +kernel
theorem dX5_kind_19 : decode cX5_kind 19 = .ok (.ifCond .eq 28, 3) := by decide +kernel
theorem dX5_kind_22 : decode cX5_kind 22 = .ok (.iload_n 3, 1) := by decide +kernel
theorem dX5_kind_23 : decode cX5_kind 23 = .ok (.iconst 1, 1) := by decide +kernel
theorem dX5_kind_24 : decode cX5_kind 24 = .ok (.ldc 100, 2) := by decide +kernel
theorem dX5_kind_26 : decode cX5_kind 26 = .ok (.invokestatic 86, 3) := by decide +kernel
theorem dX5_kind_29 : decode cX5_kind 29 = .ok (.ifCond .eq 18, 3) := by decide +kernel
theorem dX5_kind_32 : decode cX5_kind 32 = .ok (.iload 4, 2) := by decide +kernel
theorem dX5_kind_34 : decode cX5_kind 34 = .ok (.iconst 0, 1) := by decide +kernel
theorem dX5_kind_35 : decode cX5_kind 35 = .ok (.ldc 100, 2) := by decide +kernel
theorem dX5_kind_37 : decode cX5_kind 37 = .ok (.invokestatic 86, 3) := by decide +kernel
theorem dX5_kind_40 : decode cX5_kind 40 = .ok (.ifCond .eq 7, 3) := by decide +kernel
theorem dX5_kind_43 : decode cX5_kind 43 = .ok (.iconst 1, 1) := by decide +kernel
theorem dX5_kind_44 : decode cX5_kind 44 = .ok (.goto 4, 3) := by decide +kernel
theorem dX5_kind_47 : decode cX5_kind 47 = .ok (.iconst 0, 1) := by decide +kernel
theorem dX5_kind_48 : decode cX5_kind 48 = .ok (.istore 5, 2) := by decide +kernel
theorem dX5_kind_50 : decode cX5_kind 50 = .ok (.aload_n 0, 1) := by decide +kernel
theorem dX5_kind_51 : decode cX5_kind 51 = .ok (.iload 5, 2) := by decide +kernel
theorem dX5_kind_53 : decode cX5_kind 53 = .ok (.ifCond .ne 7, 3) := by decide +kernel
theorem dX5_kind_56 : decode cX5_kind 56 = .ok (.iconst 1, 1) := by decide +kernel
theorem dX5_kind_57 : decode cX5_kind 57 = .ok (.goto 16, 3) := by decide +kernel
theorem dX5_kind_60 : decode cX5_kind 60 = .ok (.aload_n 0, 1) := by decide +kernel
theorem dX5_kind_61 : decode cX5_kind 61 = .ok (.getfield 83, 3) := by decide +kernel
theorem dX5_kind_64 : decode cX5_kind 64 = .ok (.iconst 3, 1) := by decide +kernel
theorem dX5_kind_65 : decode cX5_kind 65 = .ok (.if_icmp .ne 7, 3) := by decide +kernel
theorem dX5_kind_68 : decode cX5_kind 68 = .ok (.iconst 2, 1) := by decide +kernel
theorem dX5_kind_69 : decode cX5_kind 69 = .ok (.goto 4, 3) := by decide +kernel
theorem dX5_kind_72 : decode cX5_kind 72 = .ok (.iconst 0, 1) := by decide +kernel
theorem dX5_kind_73 : decode cX5_kind 73 = .ok (.putfield 80, 3) := by decide +kernel
theorem dX5_kind_76 : decode cX5_kind 76 = .ok (.aload_n 0, 1) := by decide +kernel
theorem dX5_kind_77 : decode cX5_kind 77 = .ok (.getfield 80, 3) := by decide +kernel
theorem dX5_kind_80 : decode cX5_kind 80 = .ok (.ifCond .le 5, 3) := by decide +kernel
theorem dX5_kind_83 : decode cX5_kind 83 = .ok (.iconst 0, 1) := by decide +kernel
theorem dX5_kind_84 : decode cX5_kind 84 = .ok (.ireturn, 1) := by decide +kernel
theorem dX5_kind_85 : decode cX5_kind 85 = .ok (.aload_n 0, 1) := by decide +kernel
theorem dX5_kind_86 : decode cX5_kind 86 = .ok (.getfield 7, 3) := by decide +kernel
theorem dX5_kind_89 : decode cX5_kind 89 = .ok (.aload_n 0, 1) := by decide +kernel
theorem dX5_kind_90 : decode cX5_kind 90 = .ok (.getfield 83, 3) := by decide +kernel
theorem dX5_kind_93 : decode cX5_kind 93 = .ok (.iload_n 1, 1) := by decide +kernel
theorem dX5_kind_94 : decode cX5_kind 94 = .ok (.iastore, 1) := by decide +kernel
theorem dX5_kind_95 : decode cX5_kind 95 = .ok (.aload_n 0, 1) := by decide +kernel
theorem dX5_kind_96 : decode cX5_kind 96 = .ok (.getfield 13, 3) := by decide +kernel
theorem dX5_kind_99 : decode cX5_kind 99 = .ok (.aload_n 0, 1) := by decide +kernel
theorem dX5_kind_100 : decode cX5_kind 100 = .ok (.getfield 83, 3) := by decide +kernel
theorem dX5_kind_103 : decode cX5_kind 103 = .ok (.iload_n 2, 1) := by decide +kernel
theorem dX5_kind_104 : decode cX5_kind 104 = .ok (.iastore, 1) := by decide +kernel
theorem dX5_kind_105 : decode cX5_kind 105 = .ok (.aload_n 0, 1) := by decide +kernel
theorem dX5_kind_106 : decode cX5_kind 106 = .ok (.getfield 16, 3) := by decide +kernel
theorem dX5_kind_109 : decode cX5_kind 109 = .ok (.aload_n 0, 1) := by decide +kernel
theorem dX5_kind_110 : decode cX5_kind 110 = .ok (.getfield 83, 3) := by decide +kernel
theorem dX5_kind_113 : decode cX5_kind 113 = .ok (.iload_n 3, 1) := by decide +kernel
theorem dX5_kind_114 : decode cX5_kind 114 = .ok (.iastore, 1) := by decide +kernel
theorem dX5_kind_115 : decode cX5_kind 115 = .ok (.aload_n 0, 1) := by decide +kernel
theorem dX5_kind_116 : decode cX5_kind 116 = .ok (.getfield 19, 3) := by decide +kernel
theorem dX5_kind_119 : decode cX5_kind 119 = .ok (.aload_n 0, 1) := by decide +kernel
theorem dX5_kind_120 : decode cX5_kind 120 = .ok (.getfield 83, 3) := by decide +kernel
theorem dX5_kind_123 : decode cX5_kind 123 = .ok (.iload 4, 2) := by decide +kernel
theorem dX5_kind_125 : decode cX5_kind 125 = .ok (.iastore, 1) := by decide +kernel
theorem dX5_kind_126 : decode cX5_kind 126 = .ok (.aload_n 0, 1) := by decide +kernel
theorem dX5_kind_127 : decode cX5_kind 127 = .ok (.dup, 1) := by decide +kernel
theorem dX5_kind_128 : decode cX5_kind 128 = .ok (.getfield 83, 3) := by decide +kernel
theorem dX5_kind_131 : decode cX5_kind 131 = .ok (.iconst 1, 1) := by decide +kernel
theorem dX5_kind_132 : decode cX5_kind 132 = .ok (.iadd, 1) := by decide +kernel
theorem dX5_kind_133 : decode cX5_kind 133 = .ok (.putfield 83, 3) := by decide +kernel
theorem dX5_kind_136 : decode cX5_kind 136 = .ok (.aload_n 0, 1) := by decide +kernel
theorem dX5_kind_137 : decode cX5_kind 137 = .ok (.invokevirtual 101, 3) := by decide +kernel
theorem dX5_kind_140 : decode cX5_kind 140 = .ok (.aload_n 0, 1) := by decide +kernel
theorem dX5_kind_141 : decode cX5_kind 141 = .ok (.getfield 83, 3) := by decide +kernel
theorem dX5_kind_144 : decode cX5_kind 144 = .ok (.iconst 1, 1) := by decide +kernel
theorem dX5_kind_145 : decode cX5_kind 145 = .ok (.isub, 1) := by decide +kernel
theorem dX5_kind_146 : decode cX5_kind 146 = .ok (.ireturn, 1) := by decide +kernel
set_option maxRecDepth 20000 in
theorem ggX5_place_X5_isIn : GoodIn wsX5_place wsX5_isIn := goodIn_r _ [10] (by decide +kernel) (by decide +kernel)
set_option maxRecDepth 20000 in
theorem gX5_place_X5_isIn : GoodIn wsX5_place (va_wsS RX5 86 yX5_isIn wsX5_isIn) := goodIn_app (goodIn_of _ (by decide +kernel)) ggX5_place_X5_isIn
set_option maxRecDepth 20000 in
theorem ggX5_place_X5_renew : GoodIn wsX5_place wsX5_renew := goodIn_r _ [14, 15, 16, 17, 18, 19, 20, 21, 22, 23, 24, 25, 26, 27, 28, 29, 30, 31, 32, 33, 34, 35, 36, 37, 38, 39, 40, 41, 42, 43, 44, 45, 46, 47, 48, 49, 50, 51, 52, 53] (by decide +kernel) (by decide +kernel)
set_option maxRecDepth 20000 in
theorem gX5_place_X5_renew : GoodIn wsX5_place (wsV RX5 101 RX5 yX5_renew wsX5_renew) := goodIn_app (goodIn_of _ (by decide +kernel)) ggX5_place_X5_renew
theorem dX5_place_0 : decode cX5_place 0 = .ok (.aload_n 0, 1) := by decide +kernel
theorem dX5_place_1 : decode cX5_place 1 = .ok (.iload_n 1, 1) := by decide +kernel
theorem dX5_place_2 : decode cX5_place 2 = .ok (.iconst 0, 1) := by decide +kernel
theorem dX5_place_3 : decode cX5_place 3 = .ok (.bipush 50, 2) := by decide +kernel
theorem dX5_place_5 : decode cX5_place 5 = .ok (.invokestatic 86, 3) := by decide +kernel
theorem dX5_place_8 : decode cX5_place 8 = .ok (.ifCond .eq 13, 3) := by decide +kernel
theorem dX5_place_11 : decode cX5_place 11 = .ok (.iload_n 2, 1) := by decide +kernel
theorem dX5_place_12 : decode cX5_place 12 = .ok (.iconst 0, 1) := by decide +kernel
theorem dX5_place_13 : decode cX5_place 13 = .ok (.bipush 50, 2) := by decide +kernel
theorem dX5_place_15 : decode cX5_place 15 = .ok (.invokestatic 86, 3) := by decide +kernel
theorem dX5_place_18 : decode cX5_place 18 = .ok (.ifCond .ne 7, 3) := by decide +kernel
theorem dX5_place_21 : decode cX5_place 21 = .ok (.iconst 1, 1) := by decide +kernel
theorem dX5_place_22 : decode cX5_place 22 = .ok (.goto 17, 3) := by decide +kernel
theorem dX5_place_25 : decode cX5_place 25 = .ok (.aload_n 0, 1) := by decide +kernel
theorem dX5_place_26 : decode cX5_place 26 = .ok (.getfield 90, 3) := by decide +kernel
theorem dX5_place_29 : decode cX5_place 29 = .ok (.bipush 7, 2) := by decide +kernel
theorem dX5_place_31 : decode cX5_place 31 = .ok (.if_icmp .ne 7, 3) := by decide +kernel
theorem dX5_place_34 : decode cX5_place 34 = .ok (.iconst 2, 1) := by decide +kernel
theorem dX5_place_35 : decode cX5_place 35 = .ok (.goto 4, 3) := by decide +kernel
theorem dX5_place_38 : decode cX5_place 38 = .ok (.iconst 0, 1) := by decide +kernel
theorem dX5_place_39 : decode cX5_place 39 = .ok (.putfield 80, 3) := by decide +kernel
theorem dX5_place_42 : decode cX5_place 42 = .ok (.aload_n 0, 1) := by decide +kernel
theorem dX5_place_43 : decode cX5_place 43 = .ok (.getfield 80, 3) := by decide +kernel
theorem dX5_place_46 : decode cX5_place 46 = .ok (.ifCond .le 5, 3) := by decide +kernel
theorem dX5_place_49 : decode cX5_place 49 = .ok (.iconst 0, 1) := by decide +kernel
theorem dX5_place_50 : decode cX5_place 50 = .ok (.ireturn, 1) := by decide +kernel
theorem dX5_place_51 : decode cX5_place 51 = .ok (.aload_n 0, 1) := by decide +kernel
theorem dX5_place_52 : decode cX5_place 52 = .ok (.getfield 22, 3) := by decide +kernel
theorem dX5_place_55 : decode cX5_place 55 = .ok (.aload_n 0, 1) := by decide +kernel
theorem dX5_place_56 : decode cX5_place 56 = .ok (.getfield 90, 3) := by decide +kernel
theorem dX5_place_59 : decode cX5_place 59 = .ok (.iload_n 1, 1) := by decide +kernel
theorem dX5_place_60 : decode cX5_place 60 = .ok (.iastore, 1) := by decide +kernel
theorem dX5_place_61 : decode cX5_place 61 = .ok (.aload_n 0, 1) := by decide +kernel
theorem dX5_place_62 : decode cX5_place 62 = .ok (.getfield 25, 3) := by decide +kernel
theorem dX5_place_65 : decode cX5_place 65 = .ok (.aload_n 0, 1) := by decide +kernel
theorem dX5_place_66 : decode cX5_place 66 = .ok (.getfield 90, 3) := by decide +kernel
theorem dX5_place_69 : decode cX5_place 69 = .ok (.iload_n 2, 1) := by decide +kernel
theorem dX5_place_70 : decode cX5_place 70 = .ok (.iastore, 1) := by decide +kernel
theorem dX5_place_71 : decode cX5_place 71 = .ok (.aload_n 0, 1) := by decide +kernel
theorem dX5_place_72 : decode cX5_place 72 = .ok (.getfield 28, 3) := by decide +kernel
theorem dX5_place_75 : decode cX5_place 75 = .ok (.aload_n 0, 1) := by decide +kernel
theorem dX5_place_76 : decode cX5_place 76 = .ok (.getfield 90, 3) := by decide +kernel
theorem dX5_place_79 : decode cX5_place 79 = .ok (.bipush (-2), 2) := by decide +kernel
theorem dX5_place_81 : decode cX5_place 81 = .ok (.iastore, 1) := by decide +kernel
theorem dX5_place_82 : decode cX5_place 82 = .ok (.aload_n 0, 1) := by decide +kernel
theorem dX5_place_83 : decode cX5_place 83 = .ok (.getfield 31, 3) := by decide +kernel
theorem dX5_place_86 : decode cX5_place 86 = .ok (.aload_n 0, 1) := by decide +kernel
theorem dX5_place_87 : decode cX5_place 87 = .ok (.getfield 90, 3) := by decide +kernel
theorem dX5_place_90 : decode cX5_place 90 = .ok (.iconst (-1), 1) := by decide +kernel
theorem dX5_place_91 : decode cX5_place 91 = .ok (.iastore, 1) := by decide +kernel
theorem dX5_place_92 : decode cX5_place 92 = .ok (.aload_n 0, 1) := by decide +kernel
theorem dX5_place_93 : decode cX5_place 93 = .ok (.dup, 1) := by decide +kernel
theorem dX5_place_94 : decode cX5_place 94 = .ok (.getfield 90, 3) := by decide +kernel
theorem dX5_place_97 : decode cX5_place 97 = .ok (.iconst 1, 1) := by decide +kernel
theorem dX5_place_98 : decode cX5_place 98 = .ok (.iadd, 1) := by decide +kernel
theorem dX5_place_99 : decode cX5_place 99 = .ok (.putfield 90, 3) := by decide +kernel
theorem dX5_place_102 : decode cX5_place 102 = .ok (.aload_n 0, 1) := by decide +kernel
theorem dX5_place_103 : decode cX5_place 103 = .ok (.invokevirtual 101, 3) := by decide +kernel
theorem dX5_place_106 : decode cX5_place 106 = .ok (.aload_n 0, 1) := by decide +kernel
theorem dX5_place_107 : decode cX5_place 107 = .ok (.getfield 90, 3) := by decide +kernel
theorem dX5_place_110 : decode cX5_place 110 = .ok (.iconst 1, 1) := by decide +kernel
theorem dX5_place_111 : decode cX5_place 111 = .ok (.isub, 1) := by decide +kernel
theorem dX5_place_112 : decode cX5_place 112 = .ok (.ireturn, 1) := by decide +kernel
set_option maxRecDepth 20000 in
theorem ggX5_point_X5_isIn : GoodIn wsX5_point wsX5_isIn := goodIn_r _ [10] (by decide +kernel) (by decide +kernel)
set_option maxRecDepth 20000 in
theorem gX5_point_X5_isIn : GoodIn wsX5_point (va_wsS RX5 86 yX5_isIn wsX5_isIn) := goodIn_app (goodIn_of _ (by decide +kernel)) ggX5_point_X5_isIn
set_option maxRecDepth 20000 in
theorem ggX5_point_X5_renew : GoodIn wsX5_point wsX5_renew := goodIn_r _ [14, 15, 16, 17, 18, 19, 20, 21, 22, 23, 24, 25, 26, 27, 28, 29, 30, 31, 32, 33, 34, 35, 36, 37, 38, 39, 40, 41, 42, 43, 44, 45, 46, 47, 48, 49, 50, 51, 52, 53] (by decide +kernel) (by decide +kernel)
set_option maxRecDepth 20000 in
theorem gX5_point_X5_renew : GoodIn wsX5_point (wsV RX5 101 RX5 yX5_renew wsX5_renew) := goodIn_app (goodIn_of _ (by decide +kernel)) ggX5_point_X5_renew
theorem dX5_point_0 : decode cX5_point 0 = .ok (.aload_n 0, 1) := by decide +kernel
theorem dX5_point_1 : decode cX5_point 1 = .ok (.iload_n 1, 1) := by decide +kernel
theorem dX5_point_2 : decode cX5_point 2 = .ok (.iconst 0, 1) := by decide +kernel
theorem dX5_point_3 : decode cX5_point 3 = .ok (.bipush 50, 2) := by decide +kernel
theorem dX5_point_5 : decode cX5_point 5 = .ok (.invokestatic 86, 3) := by decide +kernel
theorem dX5_point_8 : decode cX5_point 8 = .ok (.ifCond .eq 23, 3) := by decide +kernel
theorem dX5_point_11 : decode cX5_point 11 = .ok (.iload_n 2, 1) := by decide +kernel
theorem dX5_point_12 : decode cX5_point 12 = .ok (.iconst 0, 1) := by decide +kernel
theorem dX5_point_13 : decode cX5_point 13 = .ok (.bipush 50, 2) := by decide +kernel
theorem dX5_point_15 : decode cX5_point 15 = .ok (.invokestatic 86, 3) := by decide +kernel
theorem dX5_point_18 : decode cX5_point 18 = .ok (.ifCond .eq 13, 3) := by decide +kernel
theorem dX5_point_21 : decode cX5_point 21 = .ok (.iload_n 3, 1) := by decide +kernel
theorem dX5_point_22 : decode cX5_point 22 = .ok (.iconst 0, 1) := by decide +kernel
theorem dX5_point_23 : decode cX5_point 23 = .ok (.ldc 100, 2) := by decide +kernel
theorem dX5_point_25 : decode cX5_point 25 = .ok (.invokestatic 86, 3) := by decide +kernel
theorem dX5_point_28 : decode cX5_point 28 = .ok (.ifCond .ne 7, 3) := by decide +kernel
theorem dX5_point_31 : decode cX5_point 31 = .ok (.iconst 1, 1) := by decide +kernel
theorem dX5_point_32 : decode cX5_point 32 = .ok (.goto 17, 3) := by decide +kernel
theorem dX5_point_35 : decode cX5_point 35 = .ok (.aload_n 0, 1) := by decide +kernel
theorem dX5_point_36 : decode cX5_point 36 = .ok (.getfield 93, 3) := by decide +kernel
theorem dX5_point_39 : decode cX5_point 39 = .ok (.bipush 16, 2) := by decide +kernel
theorem dX5_point_41 : decode cX5_point 41 = .ok (.if_icmp .ne 7, 3) := by decide +kernel
theorem dX5_point_44 : decode cX5_point 44 = .ok (.iconst 2, 1) := by decide +kernel
theorem dX5_point_45 : decode cX5_point 45 = .ok (.goto 4, 3) := by decide +kernel
theorem dX5_point_48 : decode cX5_point 48 = .ok (.iconst 0, 1) := by decide +kernel
theorem dX5_point_49 : decode cX5_point 49 = .ok (.putfield 80, 3) := by decide +kernel
theorem dX5_point_52 : decode cX5_point 52 = .ok (.aload_n 0, 1) := by decide +kernel
theorem dX5_point_53 : decode cX5_point 53 = .ok (.getfield 80, 3) := by decide +kernel
theorem dX5_point_56 : decode cX5_point 56 = .ok (.ifCond .le 5, 3) := by decide +kernel
theorem dX5_point_59 : decode cX5_point 59 = .ok (.iconst 0, 1) := by decide +kernel
theorem dX5_point_60 : decode cX5_point 60 = .ok (.ireturn, 1) := by decide +kernel
theorem dX5_point_61 : decode cX5_point 61 = .ok (.aload_n 0, 1) := by decide +kernel
theorem dX5_point_62 : decode cX5_point 62 = .ok (.getfield 34, 3) := by decide +kernel
theorem dX5_point_65 : decode cX5_point 65 = .ok (.aload_n 0, 1) := by decide +kernel
theorem dX5_point_66 : decode cX5_point 66 = .ok (.getfield 93, 3) := by decide +kernel
theorem dX5_point_69 : decode cX5_point 69 = .ok (.iload_n 1, 1) := by decide +kernel
theorem dX5_point_70 : decode cX5_point 70 = .ok (.iastore, 1) := by decide +kernel
theorem dX5_point_71 : decode cX5_point 71 = .ok (.aload_n 0, 1) := by decide +kernel
theorem dX5_point_72 : decode cX5_point 72 = .ok (.getfield 37, 3) := by decide +kernel
theorem dX5_point_75 : decode cX5_point 75 = .ok (.aload_n 0, 1) := by decide +kernel
theorem dX5_point_76 : decode cX5_point 76 = .ok (.getfield 93, 3) := by decide +kernel
theorem dX5_point_79 : decode cX5_point 79 = .ok (.iload_n 2, 1) := by decide +kernel
theorem dX5_point_80 : decode cX5_point 80 = .ok (.iastore, 1) := by decide +kernel
theorem dX5_point_81 : decode cX5_point 81 = .ok (.aload_n 0, 1) := by decide +kernel
theorem dX5_point_82 : decode cX5_point 82 = .ok (.getfield 40, 3) := by decide +kernel
theorem dX5_point_85 : decode cX5_point 85 = .ok (.aload_n 0, 1) := by decide +kernel
theorem dX5_point_86 : decode cX5_point 86 = .ok (.getfield 93, 3) := by decide +kernel
theorem dX5_point_89 : decode cX5_point 89 = .ok (.iload_n 3, 1) := by decide +kernel
theorem dX5_point_90 : decode cX5_point 90 = .ok (.iastore, 1) := by decide +kernel
theorem dX5_point_91 : decode cX5_point 91 = .ok (.aload_n 0, 1) := by decide +kernel
theorem dX5_point_92 : decode cX5_point 92 = .ok (.dup, 1) := by decide +kernel
theorem dX5_point_93 : decode cX5_point 93 = .ok (.getfield 93, 3) := by decide +kernel
theorem dX5_point_96 : decode cX5_point 96 = .ok (.iconst 1, 1) := by decide +kernel
theorem dX5_point_97 : decode cX5_point 97 = .ok (.iadd, 1) := by decide +kernel
theorem dX5_point_98 : decode cX5_point 98 = .ok (.putfield 93, 3) := by decide +kernel
theorem dX5_point_101 : decode cX5_point 101 = .ok (.aload_n 0, 1) := by decide +kernel
theorem dX5_point_102 : decode cX5_point 102 = .ok (.invokevirtual 101, 3) := by decide +kernel
theorem dX5_point_105 : decode cX5_point 105 = .ok (.aload_n 0, 1) := by decide +kernel
theorem dX5_point_106 : decode cX5_point 106 = .ok (.getfield 93, 3) := by decide +kernel
theorem dX5_point_109 : decode cX5_point 109 = .ok (.iconst 1, 1) := by decide +kernel
theorem dX5_point_110 : decode cX5_point 110 = .ok (.isub, 1) := by decide +kernel
theorem dX5_point_111 : decode cX5_point 111 = .ok (.ireturn, 1) := by decide +kernel
set_option maxRecDepth 20000 in
theorem ggX5_height_X5_isIn : GoodIn wsX5_height wsX5_isIn := goodIn_r _ [6] (by decide +kernel) (by decide +kernel)
set_option maxRecDepth 20000 in
theorem gX5_height_X5_isIn : GoodIn wsX5_height (va_wsS RX5 86 yX5_isIn wsX5_isIn) := goodIn_app (goodIn_of _ (by decide +kernel)) ggX5_height_X5_isIn
set_option maxRecDepth 20000 in
theorem ggX5_height_X5_renew : GoodIn wsX5_height wsX5_renew := goodIn_r _ [10, 11, 12, 13, 14, 15, 16, 17, 18, 19, 20, 21, 22, 23, 24, 25, 26, 27, 28, 29, 30, 31, 32, 33, 34, 35, 36, 37, 38, 39, 40, 41, 42, 43, 44, 45, 46, 47, 48, 49] (by decide +kernel) (by decide +kernel)
set_option maxRecDepth 20000 in
theorem gX5_height_X5_renew : GoodIn wsX5_height (wsV RX5 101 RX5 yX5_renew wsX5_renew) := goodIn_app (goodIn_of _ (by decide +kernel)) ggX5_height_X5_renew
theorem dX5_height_0 : decode cX5_height 0 = .ok (.aload_n 0, 1) := by decide +kernel
theorem dX5_height_1 : decode cX5_height 1 = .ok (.iload_n 1, 1) := by decide +kernel
theorem dX5_height_2 : decode cX5_height 2 = .ok (.iconst 1, 1) := by decide +kernel
theorem dX5_height_3 : decode cX5_height 3 = .ok (.bipush 50, 2) := by decide +kernel
theorem dX5_height_5 : decode cX5_height 5 = .ok (.invokestatic 86, 3) := by decide +kernel
theorem dX5_height_8 : decode cX5_height 8 = .ok (.ifCond .eq 7, 3) := by decide +kernel
theorem dX5_height_11 : decode cX5_height 11 = .ok (.iconst 0, 1) := by decide +kernel
theorem dX5_height_12 : decode cX5_height 12 = .ok (.goto 4, 3) := by decide +kernel
theorem dX5_height_15 : decode cX5_height 15 = .ok (.iconst 1, 1) := by decide +kernel
theorem dX5_height_16 : decode cX5_height 16 = .ok (.putfield 80, 3) := by decide +kernel
theorem dX5_height_19 : decode cX5_height 19 = .ok (.aload_n 0, 1) := by decide +kernel
theorem dX5_height_20 : decode cX5_height 20 = .ok (.getfield 80, 3) := by decide +kernel
theorem dX5_height_23 : decode cX5_height 23 = .ok (.ifCond .le 5, 3) := by decide +kernel
theorem dX5_height_26 : decode cX5_height 26 = .ok (.iconst 0, 1) := by decide +kernel
theorem dX5_height_27 : decode cX5_height 27 = .ok (.ireturn, 1) := by decide +kernel
theorem dX5_height_28 : decode cX5_height 28 = .ok (.aload_n 0, 1) := by decide +kernel
theorem dX5_height_29 : decode cX5_height 29 = .ok (.getfield 49, 3) := by decide +kernel
theorem dX5_height_32 : decode cX5_height 32 = .ok (.istore_n 2, 1) := by decide +kernel
theorem dX5_height_33 : decode cX5_height 33 = .ok (.aload_n 0, 1) := by decide +kernel
theorem dX5_height_34 : decode cX5_height 34 = .ok (.iload_n 1, 1) := by decide +kernel
theorem dX5_height_35 : decode cX5_height 35 = .ok (.putfield 49, 3) := by decide +kernel
theorem dX5_height_38 : decode cX5_height 38 = .ok (.aload_n 0, 1) := by decide +kernel
theorem dX5_height_39 : decode cX5_height 39 = .ok (.invokevirtual 101, 3) := by decide +kernel
theorem dX5_height_42 : decode cX5_height 42 = .ok (.iload_n 2, 1) := by decide +kernel
theorem dX5_height_43 : decode cX5_height 43 = .ok (.ireturn, 1) := by decide +kernel
set_option maxRecDepth 20000 in
theorem ggX5_hold_X5_isPlace : GoodIn wsX5_hold wsX5_isPlace := goodIn_r _ [7, 8, 9, 10, 6, 11, 24, 25, 26, 27, 28, 29, 30, 31, 32, 33, 34, 35, 36, 37, 38, 39, 40, 41, 42, 43, 44, 45, 46, 47, 48, 49, 50, 51, 52, 53, 54, 55, 56, 57, 58, 59] (by decide +kernel) (by decide +kernel)
set_option maxRecDepth 20000 in
theorem gX5_hold_X5_isPlace : GoodIn wsX5_hold (wsV RX5 104 RX5 yX5_isPlace wsX5_isPlace) := goodIn_app (goodIn_of _ (by decide +kernel)) ggX5_hold_X5_isPlace
set_option maxRecDepth 20000 in
theorem ggX5_hold_X5_isKind : GoodIn wsX5_hold wsX5_isKind := goodIn_r _ [15, 16, 9, 10, 6, 11, 24, 25, 26, 27, 28, 29, 30, 31, 32, 33, 34, 35, 36, 37, 38, 39, 40, 41, 42, 43, 44, 45, 46, 47, 48, 49, 50, 51, 52, 53, 54, 55, 56, 57, 58, 59] (by decide +kernel) (by decide +kernel)
set_option maxRecDepth 20000 in
theorem gX5_hold_X5_isKind : GoodIn wsX5_hold (wsV RX5 108 RX5 yX5_isKind wsX5_isKind) := goodIn_app (goodIn_of _ (by decide +kernel)) ggX5_hold_X5_isKind
set_option maxRecDepth 20000 in
theorem ggX5_hold_X5_renew : GoodIn wsX5_hold wsX5_renew := goodIn_r _ [20, 21, 22, 23, 24, 25, 26, 27, 28, 29, 30, 31, 32, 33, 34, 35, 36, 37, 38, 39, 40, 41, 42, 43, 44, 45, 46, 47, 48, 49, 50, 51, 52, 53, 54, 55, 56, 57, 58, 59] (by decide +kernel) (by decide +kernel)
set_option maxRecDepth 20000 in
theorem gX5_hold_X5_renew : GoodIn wsX5_hold (wsV RX5 101 RX5 yX5_renew wsX5_renew) := goodIn_app (goodIn_of _ (by decide +kernel)) ggX5_hold_X5_renew
theorem dX5_hold_0 : decode cX5_hold 0 = .ok (.aload_n 0, 1) := by decide +kernel
theorem dX5_hold_1 : decode cX5_hold 1 = .ok (.aload_n 0, 1) := by decide +kernel
theorem dX5_hold_2 : decode cX5_hold 2 = .ok (.iload_n 1, 1) := by decide +kernel
theorem dX5_hold_3 : decode cX5_hold 3 = .ok (.invokevirtual 104, 3) := by decide +kernel
theorem dX5_hold_6 : decode cX5_hold 6 = .ok (.ifCond .eq 26, 3) := by decide +kernel
theorem dX5_hold_9 : decode cX5_hold 9 = .ok (.aload_n 0, 1) := by decide +kernel
theorem dX5_hold_10 : decode cX5_hold 10 = .ok (.iload_n 2, 1) := by decide +kernel
theorem dX5_hold_11 : decode cX5_hold 11 = .ok (.invokevirtual 108, 3) := by decide +kernel
theorem dX5_hold_14 : decode cX5_hold 14 = .ok (.ifCond .ne 14, 3) := by decide +kernel
theorem dX5_hold_17 : decode cX5_hold 17 = .ok (.iload_n 2, 1) := by decide +kernel
theorem dX5_hold_18 : decode cX5_hold 18 = .ok (.iconst (-1), 1) := by decide +kernel
theorem dX5_hold_19 : decode cX5_hold 19 = .ok (.if_icmp .eq 9, 3) := by decide +kernel
theorem dX5_hold_22 : decode cX5_hold 22 = .ok (.iload_n 2, 1) := by decide +kernel
theorem dX5_hold_23 : decode cX5_hold 23 = .ok (.bipush (-2), 2) := by decide +kernel
theorem dX5_hold_25 : decode cX5_hold 25 = .ok (.if_icmp .ne 7, 3) := by decide +kernel
theorem dX5_hold_28 : decode cX5_hold 28 = .ok (.iconst 0, 1) := by decide +kernel
theorem dX5_hold_29 : decode cX5_hold 29 = .ok (.goto 4, 3) := by decide +kernel
theorem dX5_hold_32 : decode cX5_hold 32 = .ok (.iconst 1, 1) := by decide +kernel
theorem dX5_hold_33 : decode cX5_hold 33 = .ok (.putfield 80, 3) := by decide +kernel
theorem dX5_hold_36 : decode cX5_hold 36 = .ok (.aload_n 0, 1) := by decide +kernel
theorem dX5_hold_37 : decode cX5_hold 37 = .ok (.getfield 80, 3) := by decide +kernel
theorem dX5_hold_40 : decode cX5_hold 40 = .ok (.ifCond .ne 14, 3) := by decide +kernel
theorem dX5_hold_43 : decode cX5_hold 43 = .ok (.aload_n 0, 1) := by decide +kernel
theorem dX5_hold_44 : decode cX5_hold 44 = .ok (.getfield 28, 3) := by decide +kernel
theorem dX5_hold_47 : decode cX5_hold 47 = .ok (.iload_n 1, 1) := by decide +kernel
theorem dX5_hold_48 : decode cX5_hold 48 = .ok (.iload_n 2, 1) := by decide +kernel
theorem dX5_hold_49 : decode cX5_hold 49 = .ok (.iastore, 1) := by decide +kernel
theorem dX5_hold_50 : decode cX5_hold 50 = .ok (.aload_n 0, 1) := by decide +kernel
theorem dX5_hold_51 : decode cX5_hold 51 = .ok (.invokevirtual 101, 3) := by decide +kernel
theorem dX5_hold_54 : decode cX5_hold 54 = .ok (.return_, 1) := by decide +kernel
theorem dX5_lightOf_0 : decode cX5_lightOf 0 = .ok (.aload_n 0, 1) := by decide +kernel
theorem dX5_lightOf_1 : decode cX5_lightOf 1 = .ok (.getfield 22, 3) := by decide +kernel
theorem dX5_lightOf_4 : decode cX5_lightOf 4 = .ok (.iload_n 2, 1) := by decide +kernel
theorem dX5_lightOf_5 : decode cX5_lightOf 5 = .ok (.iaload, 1) := by decide +kernel
theorem dX5_lightOf_6 : decode cX5_lightOf 6 = .ok (.aload_n 0, 1) := by decide +kernel
theorem dX5_lightOf_7 : decode cX5_lightOf 7 = .ok (.getfield 34, 3) := by decide +kernel
theorem dX5_lightOf_10 : decode cX5_lightOf 10 = .ok (.iload_n 3, 1) := by decide +kernel
theorem dX5_lightOf_11 : decode cX5_lightOf 11 = .ok (.iaload, 1) := by decide +kernel
theorem dX5_lightOf_12 : decode cX5_lightOf 12 = .ok (.isub, 1) := by decide +kernel
theorem dX5_lightOf_13 : decode cX5_lightOf 13 = .ok (.istore 4, 2) := by decide +kernel
theorem dX5_lightOf_15 : decode cX5_lightOf 15 = .ok (.aload_n 0, 1) := by decide +kernel
theorem dX5_lightOf_16 : decode cX5_lightOf 16 = .ok (.getfield 25, 3) := by decide +kernel
theorem dX5_lightOf_19 : decode cX5_lightOf 19 = .ok (.iload_n 2, 1) := by decide +kernel
theorem dX5_lightOf_20 : decode cX5_lightOf 20 = .ok (.iaload, 1) := by decide +kernel
theorem dX5_lightOf_21 : decode cX5_lightOf 21 = .ok (.aload_n 0, 1) := by decide +kernel
theorem dX5_lightOf_22 : decode cX5_lightOf 22 = .ok (.getfield 37, 3) := by decide +kernel
theorem dX5_lightOf_25 : decode cX5_lightOf 25 = .ok (.iload_n 3, 1) := by decide +kernel
theorem dX5_lightOf_26 : decode cX5_lightOf 26 = .ok (.iaload, 1) := by decide +kernel
theorem dX5_lightOf_27 : decode cX5_lightOf 27 = .ok (.isub, 1) := by decide +kernel
theorem dX5_lightOf_28 : decode cX5_lightOf 28 = .ok (.istore 5, 2) := by decide +kernel
theorem dX5_lightOf_30 : decode cX5_lightOf 30 = .ok (.sipush 1000, 3) := by decide +kernel
theorem dX5_lightOf_33 : decode cX5_lightOf 33 = .ok (.aload_n 0, 1) := by decide +kernel
theorem dX5_lightOf_34 : decode cX5_lightOf 34 = .ok (.getfield 7, 3) := by decide +kernel
theorem dX5_lightOf_37 : decode cX5_lightOf 37 = .ok (.iload_n 1, 1) := by decide +kernel
theorem dX5_lightOf_38 : decode cX5_lightOf 38 = .ok (.iaload, 1) := by decide +kernel
theorem dX5_lightOf_39 : decode cX5_lightOf 39 = .ok (.imul, 1) := by decide +kernel
theorem dX5_lightOf_40 : decode cX5_lightOf 40 = .ok (.aload_n 0, 1) := by decide +kernel
theorem dX5_lightOf_41 : decode cX5_lightOf 41 = .ok (.getfield 49, 3) := by decide +kernel
theorem dX5_lightOf_44 : decode cX5_lightOf 44 = .ok (.aload_n 0, 1) := by decide +kernel
theorem dX5_lightOf_45 : decode cX5_lightOf 45 = .ok (.getfield 49, 3) := by decide +kernel
theorem dX5_lightOf_48 : decode cX5_lightOf 48 = .ok (.imul, 1) := by decide +kernel
theorem dX5_lightOf_49 : decode cX5_lightOf 49 = .ok (.iload 4, 2) := by decide +kernel
theorem dX5_lightOf_51 : decode cX5_lightOf 51 = .ok (.iload 4, 2) := by decide +kernel
theorem dX5_lightOf_53 : decode cX5_lightOf 53 = .ok (.imul, 1) := by decide +kernel
theorem dX5_lightOf_54 : decode cX5_lightOf 54 = .ok (.iadd, 1) := by decide +kernel
theorem dX5_lightOf_55 : decode cX5_lightOf 55 = .ok (.iload 5, 2) := by decide +kernel
theorem dX5_lightOf_57 : decode cX5_lightOf 57 = .ok (.iload 5, 2) := by decide +kernel
theorem dX5_lightOf_59 : decode cX5_lightOf 59 = .ok (.imul, 1) := by decide +kernel
theorem dX5_lightOf_60 : decode cX5_lightOf 60 = .ok (.iadd, 1) := by decide +kernel
theorem dX5_lightOf_61 : decode cX5_lightOf 61 = .ok (.idiv, 1) := by decide +kernel
theorem dX5_lightOf_62 : decode cX5_lightOf 62 = .ok (.ireturn, 1) := by decide +kernel
set_option maxRecDepth 20000 in
theorem ggX5_light_X5_isKind : GoodIn wsX5_light wsX5_isKind := goodIn_r _ [6, 7, 8, 9, 5, 10, 31, 32, 33, 34, 35, 36, 37, 38, 39, 40, 41, 42, 43, 44, 45, 46, 47, 48, 49, 50, 51, 52, 53, 54, 55, 56, 57, 58, 59, 60, 61, 62, 63, 64, 65, 66] (by decide +kernel) (by decide +kernel)
set_option maxRecDepth 20000 in
theorem gX5_light_X5_isKind : GoodIn wsX5_light (wsV RX5 108 RX5 yX5_isKind wsX5_isKind) := goodIn_app (goodIn_of _ (by decide +kernel)) ggX5_light_X5_isKind
set_option maxRecDepth 20000 in
theorem ggX5_light_X5_isPlace : GoodIn wsX5_light wsX5_isPlace := goodIn_r _ [14, 15, 8, 9, 5, 10, 31, 32, 33, 34, 35, 36, 37, 38, 39, 40, 41, 42, 43, 44, 45, 46, 47, 48, 49, 50, 51, 52, 53, 54, 55, 56, 57, 58, 59, 60, 61, 62, 63, 64, 65, 66] (by decide +kernel) (by decide +kernel)
set_option maxRecDepth 20000 in
theorem gX5_light_X5_isPlace : GoodIn wsX5_light (wsV RX5 104 RX5 yX5_isPlace wsX5_isPlace) := goodIn_app (goodIn_of _ (by decide +kernel)) ggX5_light_X5_isPlace
set_option maxRecDepth 20000 in
theorem ggX5_light_X5_isPoint : GoodIn wsX5_light wsX5_isPoint := goodIn_r _ [19, 20, 8, 9, 5, 10, 31, 32, 33, 34, 35, 36, 37, 38, 39, 40, 41, 42, 43, 44, 45, 46, 47, 48, 49, 50, 51, 52, 53, 54, 55, 56, 57, 58, 59, 60, 61, 62, 63, 64, 65, 66] (by decide +kernel) (by decide +kernel)
set_option maxRecDepth 20000 in
theorem gX5_light_X5_isPoint : GoodIn wsX5_light (wsV RX5 111 RX5 yX5_isPoint wsX5_isPoint) := goodIn_app (goodIn_of _ (by decide +kernel)) ggX5_light_X5_isPoint
set_option maxRecDepth 20000 in
theorem ggX5_light_X5_lightOf : GoodIn wsX5_light wsX5_lightOf := goodIn_r _ [24, 25, 26, 27, 28, 29, 30, 31, 32, 33, 34, 35, 36, 37, 38, 39, 40, 41, 42, 43, 44, 45, 46, 47, 48, 49, 50, 51, 52, 53, 54, 55, 56, 57, 58, 59, 60, 61, 62, 63, 64, 65, 66] (by decide +kernel) (by decide +kernel)
set_option maxRecDepth 20000 in
theorem gX5_light_X5_lightOf : GoodIn wsX5_light (wsV RX5 114 RX5 yX5_lightOf wsX5_lightOf) := goodIn_app (goodIn_of _ (by decide +kernel)) ggX5_light_X5_lightOf
theorem dX5_light_0 : decode cX5_light 0 = .ok (.aload_n 0, 1) := by decide +kernel
theorem dX5_light_1 : decode cX5_light 1 = .ok (.aload_n 0, 1) := by decide +kernel
theorem dX5_light_2 : decode cX5_light 2 = .ok (.iload_n 1, 1) := by decide +kernel
theorem dX5_light_3 : decode cX5_light 3 = .ok (.invokevirtual 108, 3) := by decide +kernel
theorem dX5_light_6 : decode cX5_light 6 = .ok (.ifCond .eq 23, 3) := by decide +kernel
theorem dX5_light_9 : decode cX5_light 9 = .ok (.aload_n 0, 1) := by decide +kernel
theorem dX5_light_10 : decode cX5_light 10 = .ok (.iload_n 2, 1) := by decide +kernel
theorem dX5_light_11 : decode cX5_light 11 = .ok (.invokevirtual 104, 3) := by decide +kernel
theorem dX5_light_14 : decode cX5_light 14 = .ok (.ifCond .eq 15, 3) := by decide +kernel
theorem dX5_light_17 : decode cX5_light 17 = .ok (.aload_n 0, 1) := by decide +kernel
theorem dX5_light_18 : decode cX5_light 18 = .ok (.iload_n 3, 1) := by decide +kernel
theorem dX5_light_19 : decode cX5_light 19 = .ok (.invokevirtual 111, 3) := by decide +kernel
theorem dX5_light_22 : decode cX5_light 22 = .ok (.ifCond .eq 7, 3) := by decide +kernel
theorem dX5_light_25 : decode cX5_light 25 = .ok (.iconst 0, 1) := by decide +kernel
theorem dX5_light_26 : decode cX5_light 26 = .ok (.goto 4, 3) := by decide +kernel
theorem dX5_light_29 : decode cX5_light 29 = .ok (.iconst 1, 1) := by decide +kernel
theorem dX5_light_30 : decode cX5_light 30 = .ok (.putfield 80, 3) := by decide +kernel
theorem dX5_light_33 : decode cX5_light 33 = .ok (.aload_n 0, 1) := by decide +kernel
theorem dX5_light_34 : decode cX5_light 34 = .ok (.getfield 80, 3) := by decide +kernel
theorem dX5_light_37 : decode cX5_light 37 = .ok (.ifCond .le 7, 3) := by decide +kernel
theorem dX5_light_40 : decode cX5_light 40 = .ok (.iconst 0, 1) := by decide +kernel
theorem dX5_light_41 : decode cX5_light 41 = .ok (.goto 10, 3) := by decide +kernel
theorem dX5_light_44 : decode cX5_light 44 = .ok (.aload_n 0, 1) := by decide +kernel
theorem dX5_light_45 : decode cX5_light 45 = .ok (.iload_n 1, 1) := by decide +kernel
theorem dX5_light_46 : decode cX5_light 46 = .ok (.iload_n 2, 1) := by decide +kernel
theorem dX5_light_47 : decode cX5_light 47 = .ok (.iload_n 3, 1) := by decide +kernel
theorem dX5_light_48 : decode cX5_light 48 = .ok (.invokevirtual 114, 3) := by decide +kernel
theorem dX5_light_51 : decode cX5_light 51 = .ok (.ireturn, 1) := by decide +kernel
theorem dX5_firstOf_0 : decode cX5_firstOf 0 = .ok (.aload_n 0, 1) := by decide +kernel
theorem dX5_firstOf_1 : decode cX5_firstOf 1 = .ok (.getfield 28, 3) := by decide +kernel
theorem dX5_firstOf_4 : decode cX5_firstOf 4 = .ok (.iload_n 1, 1) := by decide +kernel
theorem dX5_firstOf_5 : decode cX5_firstOf 5 = .ok (.iaload, 1) := by decide +kernel
theorem dX5_firstOf_6 : decode cX5_firstOf 6 = .ok (.bipush (-2), 2) := by decide +kernel
theorem dX5_firstOf_8 : decode cX5_firstOf 8 = .ok (.if_icmp .ne 7, 3) := by decide +kernel
theorem dX5_firstOf_11 : decode cX5_firstOf 11 = .ok (.iconst (-1), 1) := by decide +kernel
theorem dX5_firstOf_12 : decode cX5_firstOf 12 = .ok (.goto 9, 3) := by decide +kernel
theorem dX5_firstOf_15 : decode cX5_firstOf 15 = .ok (.aload_n 0, 1) := by decide +kernel
theorem dX5_firstOf_16 : decode cX5_firstOf 16 = .ok (.getfield 28, 3) := by decide +kernel
theorem dX5_firstOf_19 : decode cX5_firstOf 19 = .ok (.iload_n 1, 1) := by decide +kernel
theorem dX5_firstOf_20 : decode cX5_firstOf 20 = .ok (.iaload, 1) := by decide +kernel
theorem dX5_firstOf_21 : decode cX5_firstOf 21 = .ok (.ireturn, 1) := by decide +kernel
theorem dX5_addUp_0 : decode cX5_addUp 0 = .ok (.iload_n 1, 1) := by decide +kernel
theorem dX5_addUp_1 : decode cX5_addUp 1 = .ok (.istore_n 2, 1) := by decide +kernel
theorem dX5_addUp_2 : decode cX5_addUp 2 = .ok (.iload_n 2, 1) := by decide +kernel
theorem dX5_addUp_3 : decode cX5_addUp 3 = .ok (.aload_n 0, 1) := by decide +kernel
theorem dX5_addUp_4 : decode cX5_addUp 4 = .ok (.getfield 90, 3) := by decide +kernel
theorem dX5_addUp_7 : decode cX5_addUp 7 = .ok (.if_icmp .ge 115, 3) := by decide +kernel
theorem dX5_addUp_10 : decode cX5_addUp 10 = .ok (.aload_n 0, 1) := by decide +kernel
theorem dX5_addUp_11 : decode cX5_addUp 11 = .ok (.getfield 59, 3) := by decide +kernel
theorem dX5_addUp_14 : decode cX5_addUp 14 = .ok (.iload_n 2, 1) := by decide +kernel
theorem dX5_addUp_15 : decode cX5_addUp 15 = .ok (.iaload, 1) := by decide +kernel
theorem dX5_addUp_16 : decode cX5_addUp 16 = .ok (.istore_n 3, 1) := by decide +kernel
theorem dX5_addUp_17 : decode cX5_addUp 17 = .ok (.aload_n 0, 1) := by decide +kernel
theorem dX5_addUp_18 : decode cX5_addUp 18 = .ok (.getfield 65, 3) := by decide +kernel
theorem dX5_addUp_21 : decode cX5_addUp 21 = .ok (.iload_n 2, 1) := by decide +kernel
theorem dX5_addUp_22 : decode cX5_addUp 22 = .ok (.iconst 1, 1) := by decide +kernel
theorem dX5_addUp_23 : decode cX5_addUp 23 = .ok (.iadd, 1) := by decide +kernel
theorem dX5_addUp_24 : decode cX5_addUp 24 = .ok (.aload_n 0, 1) := by decide +kernel
theorem dX5_addUp_25 : decode cX5_addUp 25 = .ok (.getfield 65, 3) := by decide +kernel
theorem dX5_addUp_28 : decode cX5_addUp 28 = .ok (.iload_n 2, 1) := by decide +kernel
theorem dX5_addUp_29 : decode cX5_addUp 29 = .ok (.iaload, 1) := by decide +kernel
theorem dX5_addUp_30 : decode cX5_addUp 30 = .ok (.iload_n 3, 1) := by decide +kernel
theorem dX5_addUp_31 : decode cX5_addUp 31 = .ok (.ifCond .ge 7, 3) := by decide +kernel
theorem dX5_addUp_34 : decode cX5_addUp 34 = .ok (.iconst 0, 1) := by decide +kernel
theorem dX5_addUp_35 : decode cX5_addUp 35 = .ok (.goto 9, 3) := by decide +kernel
theorem dX5_addUp_38 : decode cX5_addUp 38 = .ok (.aload_n 0, 1) := by decide +kernel
theorem dX5_addUp_39 : decode cX5_addUp 39 = .ok (.getfield 13, 3) := by decide +kernel
theorem dX5_addUp_42 : decode cX5_addUp 42 = .ok (.iload_n 3, 1) := by decide +kernel
theorem dX5_addUp_43 : decode cX5_addUp 43 = .ok (.iaload, 1) := by decide +kernel
theorem dX5_addUp_44 : decode cX5_addUp 44 = .ok (.iadd, 1) := by decide +kernel
theorem dX5_addUp_45 : decode cX5_addUp 45 = .ok (.iastore, 1) := by decide +kernel
theorem dX5_addUp_46 : decode cX5_addUp 46 = .ok (.iconst 0, 1) := by decide +kernel
theorem dX5_addUp_47 : decode cX5_addUp 47 = .ok (.istore 4, 2) := by decide +kernel
theorem dX5_addUp_49 : decode cX5_addUp 49 = .ok (.iload 4, 2) := by decide +kernel
theorem dX5_addUp_51 : decode cX5_addUp 51 = .ok (.aload_n 0, 1) := by decide +kernel
theorem dX5_addUp_52 : decode cX5_addUp 52 = .ok (.getfield 93, 3) := by decide +kernel
theorem dX5_addUp_55 : decode cX5_addUp 55 = .ok (.if_icmp .ge 61, 3) := by decide +kernel
theorem dX5_addUp_58 : decode cX5_addUp 58 = .ok (.aload_n 0, 1) := by decide +kernel
theorem dX5_addUp_59 : decode cX5_addUp 59 = .ok (.getfield 62, 3) := by decide +kernel
theorem dX5_addUp_62 : decode cX5_addUp 62 = .ok (.bipush 16, 2) := by decide +kernel
theorem dX5_addUp_64 : decode cX5_addUp 64 = .ok (.iload_n 2, 1) := by decide +kernel
theorem dX5_addUp_65 : decode cX5_addUp 65 = .ok (.iconst 1, 1) := by decide +kernel
theorem dX5_addUp_66 : decode cX5_addUp 66 = .ok (.iadd, 1) := by decide +kernel
theorem dX5_addUp_67 : decode cX5_addUp 67 = .ok (.imul, 1) := by decide +kernel
theorem dX5_addUp_68 : decode cX5_addUp 68 = .ok (.iload 4, 2) := by decide +kernel
theorem dX5_addUp_70 : decode cX5_addUp 70 = .ok (.iadd, 1) := by decide +kernel
theorem dX5_addUp_71 : decode cX5_addUp 71 = .ok (.aload_n 0, 1) := by decide +kernel
theorem dX5_addUp_72 : decode cX5_addUp 72 = .ok (.getfield 62, 3) := by decide +kernel
theorem dX5_addUp_75 : decode cX5_addUp 75 = .ok (.bipush 16, 2) := by decide +kernel
theorem dX5_addUp_77 : decode cX5_addUp 77 = .ok (.iload_n 2, 1) := by decide +kernel
theorem dX5_addUp_78 : decode cX5_addUp 78 = .ok (.imul, 1) := by decide +kernel
theorem dX5_addUp_79 : decode cX5_addUp 79 = .ok (.iload 4, 2) := by decide +kernel
theorem dX5_addUp_81 : decode cX5_addUp 81 = .ok (.iadd, 1) := by decide +kernel
theorem dX5_addUp_82 : decode cX5_addUp 82 = .ok (.iaload, 1) := by decide +kernel
theorem dX5_addUp_83 : decode cX5_addUp 83 = .ok (.iload_n 3, 1) := by decide +kernel
theorem dX5_addUp_84 : decode cX5_addUp 84 = .ok (.ifCond .ge 7, 3) := by decide +kernel
theorem dX5_addUp_87 : decode cX5_addUp 87 = .ok (.iconst 0, 1) := by decide +kernel
theorem dX5_addUp_88 : decode cX5_addUp 88 = .ok (.goto 20, 3) := by decide +kernel
theorem dX5_addUp_91 : decode cX5_addUp 91 = .ok (.aload_n 0, 1) := by decide +kernel
theorem dX5_addUp_92 : decode cX5_addUp 92 = .ok (.getfield 68, 3) := by decide +kernel
theorem dX5_addUp_95 : decode cX5_addUp 95 = .ok (.bipush 112, 2) := by decide +kernel
theorem dX5_addUp_97 : decode cX5_addUp 97 = .ok (.iload_n 3, 1) := by decide +kernel
theorem dX5_addUp_98 : decode cX5_addUp 98 = .ok (.imul, 1) := by decide +kernel
theorem dX5_addUp_99 : decode cX5_addUp 99 = .ok (.bipush 16, 2) := by decide +kernel
theorem dX5_addUp_101 : decode cX5_addUp 101 = .ok (.iload_n 2, 1) := by decide +kernel
theorem dX5_addUp_102 : decode cX5_addUp 102 = .ok (.imul, 1) := by decide +kernel
theorem dX5_addUp_103 : decode cX5_addUp 103 = .ok (.iadd, 1) := by decide +kernel
theorem dX5_addUp_104 : decode cX5_addUp 104 = .ok (.iload 4, 2) := by decide +kernel
theorem dX5_addUp_106 : decode cX5_addUp 106 = .ok (.iadd, 1) := by decide +kernel
theorem dX5_addUp_107 : decode cX5_addUp 107 = .ok (.iaload, 1) := by decide +kernel
theorem dX5_addUp_108 : decode cX5_addUp 108 = .ok (.iadd, 1) := by decide +kernel
theorem dX5_addUp_109 : decode cX5_addUp 109 = .ok (.iastore, 1) := by decide +kernel
theorem dX5_addUp_110 : decode cX5_addUp 110 = .ok (.iinc 4 1, 3) := by decide +kernel
theorem dX5_addUp_113 : decode cX5_addUp 113 = .ok (.goto (-64), 3) := by decide +kernel
theorem dX5_addUp_116 : decode cX5_addUp 116 = .ok (.iinc 2 1, 3) := by decide +kernel
theorem dX5_addUp_119 : decode cX5_addUp 119 = .ok (.goto (-117), 3) := by decide +kernel
theorem dX5_addUp_122 : decode cX5_addUp 122 = .ok (.return_, 1) := by decide +kernel
set_option maxRecDepth 20000 in
theorem ggX5_nextChoice_X5_firstOf : GoodIn wsX5_nextChoice wsX5_firstOf := goodIn_r _ [9, 2, 10, 11, 12, 13, 14, 15, 16, 17, 18, 19, 20, 21, 22, 23, 24, 25, 26, 27, 28, 29, 30, 31, 32, 33, 34, 35, 36, 37, 38, 39, 40, 41, 42, 43, 44, 45] (by decide +kernel) (by decide +kernel)
set_option maxRecDepth 20000 in
theorem gX5_nextChoice_X5_firstOf : GoodIn wsX5_nextChoice (wsV RX5 118 RX5 yX5_firstOf wsX5_firstOf) := goodIn_app (goodIn_of _ (by decide +kernel)) ggX5_nextChoice_X5_firstOf
theorem dX5_nextChoice_0 : decode cX5_nextChoice 0 = .ok (.aload_n 0, 1) := by decide +kernel
theorem dX5_nextChoice_1 : decode cX5_nextChoice 1 = .ok (.getfield 90, 3) := by decide +kernel
theorem dX5_nextChoice_4 : decode cX5_nextChoice 4 = .ok (.iconst 1, 1) := by decide +kernel
theorem dX5_nextChoice_5 : decode cX5_nextChoice 5 = .ok (.isub, 1) := by decide +kernel
theorem dX5_nextChoice_6 : decode cX5_nextChoice 6 = .ok (.istore_n 1, 1) := by decide +kernel
theorem dX5_nextChoice_7 : decode cX5_nextChoice 7 = .ok (.iload_n 1, 1) := by decide +kernel
theorem dX5_nextChoice_8 : decode cX5_nextChoice 8 = .ok (.ifCond .lt 58, 3) := by decide +kernel
theorem dX5_nextChoice_11 : decode cX5_nextChoice 11 = .ok (.aload_n 0, 1) := by decide +kernel
theorem dX5_nextChoice_12 : decode cX5_nextChoice 12 = .ok (.getfield 28, 3) := by decide +kernel
theorem dX5_nextChoice_15 : decode cX5_nextChoice 15 = .ok (.iload_n 1, 1) := by decide +kernel
theorem dX5_nextChoice_16 : decode cX5_nextChoice 16 = .ok (.iaload, 1) := by decide +kernel
theorem dX5_nextChoice_17 : decode cX5_nextChoice 17 = .ok (.bipush (-2), 2) := by decide +kernel
theorem dX5_nextChoice_19 : decode cX5_nextChoice 19 = .ok (.if_icmp .ne 30, 3) := by decide +kernel
theorem dX5_nextChoice_22 : decode cX5_nextChoice 22 = .ok (.aload_n 0, 1) := by decide +kernel
theorem dX5_nextChoice_23 : decode cX5_nextChoice 23 = .ok (.getfield 59, 3) := by decide +kernel
theorem dX5_nextChoice_26 : decode cX5_nextChoice 26 = .ok (.iload_n 1, 1) := by decide +kernel
theorem dX5_nextChoice_27 : decode cX5_nextChoice 27 = .ok (.iaload, 1) := by decide +kernel
theorem dX5_nextChoice_28 : decode cX5_nextChoice 28 = .ok (.aload_n 0, 1) := by decide +kernel
theorem dX5_nextChoice_29 : decode cX5_nextChoice 29 = .ok (.getfield 83, 3) := by decide +kernel
theorem dX5_nextChoice_32 : decode cX5_nextChoice 32 = .ok (.iconst 1, 1) := by decide +kernel
theorem dX5_nextChoice_33 : decode cX5_nextChoice 33 = .ok (.isub, 1) := by decide +kernel
theorem dX5_nextChoice_34 : decode cX5_nextChoice 34 = .ok (.if_icmp .ge 15, 3) := by decide +kernel
theorem dX5_nextChoice_37 : decode cX5_nextChoice 37 = .ok (.aload_n 0, 1) := by decide +kernel
theorem dX5_nextChoice_38 : decode cX5_nextChoice 38 = .ok (.getfield 59, 3) := by decide +kernel
theorem dX5_nextChoice_41 : decode cX5_nextChoice 41 = .ok (.iload_n 1, 1) := by decide +kernel
theorem dX5_nextChoice_42 : decode cX5_nextChoice 42 = .ok (.dup2, 1) := by decide +kernel
theorem dX5_nextChoice_43 : decode cX5_nextChoice 43 = .ok (.iaload, 1) := by decide +kernel
theorem dX5_nextChoice_44 : decode cX5_nextChoice 44 = .ok (.iconst 1, 1) := by decide +kernel
theorem dX5_nextChoice_45 : decode cX5_nextChoice 45 = .ok (.iadd, 1) := by decide +kernel
theorem dX5_nextChoice_46 : decode cX5_nextChoice 46 = .ok (.iastore, 1) := by decide +kernel
theorem dX5_nextChoice_47 : decode cX5_nextChoice 47 = .ok (.iload_n 1, 1) := by decide +kernel
theorem dX5_nextChoice_48 : decode cX5_nextChoice 48 = .ok (.ireturn, 1) := by decide +kernel
theorem dX5_nextChoice_49 : decode cX5_nextChoice 49 = .ok (.aload_n 0, 1) := by decide +kernel
theorem dX5_nextChoice_50 : decode cX5_nextChoice 50 = .ok (.getfield 59, 3) := by decide +kernel
theorem dX5_nextChoice_53 : decode cX5_nextChoice 53 = .ok (.iload_n 1, 1) := by decide +kernel
theorem dX5_nextChoice_54 : decode cX5_nextChoice 54 = .ok (.aload_n 0, 1) := by decide +kernel
theorem dX5_nextChoice_55 : decode cX5_nextChoice 55 = .ok (.iload_n 1, 1) := by decide +kernel
theorem dX5_nextChoice_56 : decode cX5_nextChoice 56 = .ok (.invokevirtual 118, 3) := by decide +kernel
theorem dX5_nextChoice_59 : decode cX5_nextChoice 59 = .ok (.iastore, 1) := by decide +kernel
theorem dX5_nextChoice_60 : decode cX5_nextChoice 60 = .ok (.iinc 1 (-1), 3) := by decide +kernel
theorem dX5_nextChoice_63 : decode cX5_nextChoice 63 = .ok (.goto (-56), 3) := by decide +kernel
theorem dX5_nextChoice_66 : decode cX5_nextChoice 66 = .ok (.iconst (-1), 1) := by decide +kernel
theorem dX5_nextChoice_67 : decode cX5_nextChoice 67 = .ok (.ireturn, 1) := by decide +kernel
theorem dX5_look_0 : decode cX5_look 0 = .ok (.aload_n 0, 1) := by decide +kernel
theorem dX5_look_1 : decode cX5_look 1 = .ok (.getfield 65, 3) := by decide +kernel
theorem dX5_look_4 : decode cX5_look 4 = .ok (.aload_n 0, 1) := by decide +kernel
theorem dX5_look_5 : decode cX5_look 5 = .ok (.getfield 90, 3) := by decide +kernel
theorem dX5_look_8 : decode cX5_look 8 = .ok (.iaload, 1) := by decide +kernel
theorem dX5_look_9 : decode cX5_look 9 = .ok (.istore_n 1, 1) := by decide +kernel
theorem dX5_look_10 : decode cX5_look 10 = .ok (.aload_n 0, 1) := by decide +kernel
theorem dX5_look_11 : decode cX5_look 11 = .ok (.getfield 122, 3) := by decide +kernel
theorem dX5_look_14 : decode cX5_look 14 = .ok (.ifCond .eq 12, 3) := by decide +kernel
theorem dX5_look_17 : decode cX5_look 17 = .ok (.iload_n 1, 1) := by decide +kernel
theorem dX5_look_18 : decode cX5_look 18 = .ok (.aload_n 0, 1) := by decide +kernel
theorem dX5_look_19 : decode cX5_look 19 = .ok (.getfield 125, 3) := by decide +kernel
theorem dX5_look_22 : decode cX5_look 22 = .ok (.if_icmp .le 4, 3) := by decide +kernel
theorem dX5_look_25 : decode cX5_look 25 = .ok (.return_, 1) := by decide +kernel
theorem dX5_look_26 : decode cX5_look 26 = .ok (.lconst 0, 1) := by decide +kernel
theorem dX5_look_27 : decode cX5_look 27 = .ok (.lstore_n 2, 1) := by decide +kernel
theorem dX5_look_28 : decode cX5_look 28 = .ok (.lconst 0, 1) := by decide +kernel
theorem dX5_look_29 : decode cX5_look 29 = .ok (.lstore 4, 2) := by decide +kernel
theorem dX5_look_31 : decode cX5_look 31 = .ok (.iconst 0, 1) := by decide +kernel
theorem dX5_look_32 : decode cX5_look 32 = .ok (.istore 6, 2) := by decide +kernel
theorem dX5_look_34 : decode cX5_look 34 = .ok (.iload 6, 2) := by decide +kernel
theorem dX5_look_36 : decode cX5_look 36 = .ok (.aload_n 0, 1) := by decide +kernel
theorem dX5_look_37 : decode cX5_look 37 = .ok (.getfield 93, 3) := by decide +kernel
theorem dX5_look_40 : decode cX5_look 40 = .ok (.if_icmp .ge 68, 3) := by decide +kernel
theorem dX5_look_43 : decode cX5_look 43 = .ok (.aload_n 0, 1) := by decide +kernel
theorem dX5_look_44 : decode cX5_look 44 = .ok (.getfield 62, 3) := by decide +kernel
theorem dX5_look_47 : decode cX5_look 47 = .ok (.bipush 16, 2) := by decide +kernel
theorem dX5_look_49 : decode cX5_look 49 = .ok (.aload_n 0, 1) := by decide +kernel
theorem dX5_look_50 : decode cX5_look 50 = .ok (.getfield 90, 3) := by decide +kernel
theorem dX5_look_53 : decode cX5_look 53 = .ok (.imul, 1) := by decide +kernel
theorem dX5_look_54 : decode cX5_look 54 = .ok (.iload 6, 2) := by decide +kernel
theorem dX5_look_56 : decode cX5_look 56 = .ok (.iadd, 1) := by decide +kernel
theorem dX5_look_57 : decode cX5_look 57 = .ok (.iaload, 1) := by decide +kernel
theorem dX5_look_58 : decode cX5_look 58 = .ok (.istore 7, 2) := by decide +kernel
theorem dX5_look_60 : decode cX5_look 60 = .ok (.iload 7, 2) := by decide +kernel
theorem dX5_look_62 : decode cX5_look 62 = .ok (.aload_n 0, 1) := by decide +kernel
theorem dX5_look_63 : decode cX5_look 63 = .ok (.getfield 40, 3) := by decide +kernel
theorem dX5_look_66 : decode cX5_look 66 = .ok (.iload 6, 2) := by decide +kernel
theorem dX5_look_68 : decode cX5_look 68 = .ok (.iaload, 1) := by decide +kernel
theorem dX5_look_69 : decode cX5_look 69 = .ok (.if_icmp .ge 4, 3) := by decide +kernel
theorem dX5_look_72 : decode cX5_look 72 = .ok (.return_, 1) := by decide +kernel
theorem dX5_look_73 : decode cX5_look 73 = .ok (.iload 6, 2) := by decide +kernel
theorem dX5_look_75 : decode cX5_look 75 = .ok (.ifCond .eq 11, 3) := by decide +kernel
theorem dX5_look_78 : decode cX5_look 78 = .ok (.iload 7, 2) := by decide +kernel
theorem dX5_look_80 : decode cX5_look 80 = .ok (.i2l, 1) := by decide +kernel
theorem dX5_look_81 : decode cX5_look 81 = .ok (.lload_n 2, 1) := by decide +kernel
theorem dX5_look_82 : decode cX5_look 82 = .ok (.lcmp, 1) := by decide +kernel
theorem dX5_look_83 : decode cX5_look 83 = .ok (.ifCond .ge 9, 3) := by decide +kernel
theorem dX5_look_86 : decode cX5_look 86 = .ok (.iload 7, 2) := by decide +kernel
theorem dX5_look_88 : decode cX5_look 88 = .ok (.i2l, 1) := by decide +kernel
theorem dX5_look_89 : decode cX5_look 89 = .ok (.goto 4, 3) := by decide +kernel
theorem dX5_look_92 : decode cX5_look 92 = .ok (.lload_n 2, 1) := by decide +kernel
theorem dX5_look_93 : decode cX5_look 93 = .ok (.lstore_n 2, 1) := by decide +kernel
theorem dX5_look_94 : decode cX5_look 94 = .ok (.lload 4, 2) := by decide +kernel
theorem dX5_look_96 : decode cX5_look 96 = .ok (.iload 7, 2) := by decide +kernel
theorem dX5_look_98 : decode cX5_look 98 = .ok (.i2l, 1) := by decide +kernel
theorem dX5_look_99 : decode cX5_look 99 = .ok (.ladd, 1) := by decide +kernel
theorem dX5_look_100 : decode cX5_look 100 = .ok (.lstore 4, 2) := by decide +kernel
theorem dX5_look_102 : decode cX5_look 102 = .ok (.iinc 6 1, 3) := by decide +kernel
theorem dX5_look_105 : decode cX5_look 105 = .ok (.goto (-71), 3) := by decide +kernel
theorem dX5_look_108 : decode cX5_look 108 = .ok (.lload_n 2, 1) := by decide +kernel
theorem dX5_look_109 : decode cX5_look 109 = .ok (.aload_n 0, 1) := by decide +kernel
theorem dX5_look_110 : decode cX5_look 110 = .ok (.getfield 93, 3) := by decide +kernel
theorem dX5_look_113 : decode cX5_look 113 = .ok (.i2l, 1) := by decide +kernel
theorem dX5_look_114 : decode cX5_look 114 = .ok (.lmul, 1) := by decide +kernel
theorem dX5_look_115 : decode cX5_look 115 = .ok (.lstore_n 2, 1) := by decide +kernel
theorem dX5_look_116 : decode cX5_look 116 = .ok (.lload 4, 2) := by decide +kernel
theorem dX5_look_118 : decode cX5_look 118 = .ok (.lconst 0, 1) := by decide +kernel
theorem dX5_look_119 : decode cX5_look 119 = .ok (.lcmp, 1) := by decide +kernel
theorem dX5_look_120 : decode cX5_look 120 = .ok (.ifCond .ne 7, 3) := by decide +kernel
theorem dX5_look_123 : decode cX5_look 123 = .ok (.lconst 1, 1) := by decide +kernel
theorem dX5_look_124 : decode cX5_look 124 = .ok (.goto 5, 3) := by decide +kernel
theorem dX5_look_127 : decode cX5_look 127 = .ok (.lload 4, 2) := by decide +kernel
theorem dX5_look_129 : decode cX5_look 129 = .ok (.lstore 4, 2) := by decide +kernel
theorem dX5_look_131 : decode cX5_look 131 = .ok (.aload_n 0, 1) := by decide +kernel
theorem dX5_look_132 : decode cX5_look 132 = .ok (.getfield 122, 3) := by decide +kernel
theorem dX5_look_135 : decode cX5_look 135 = .ok (.ifCond .eq 28, 3) := by decide +kernel
theorem dX5_look_138 : decode cX5_look 138 = .ok (.iload_n 1, 1) := by decide +kernel
theorem dX5_look_139 : decode cX5_look 139 = .ok (.aload_n 0, 1) := by decide +kernel
theorem dX5_look_140 : decode cX5_look 140 = .ok (.getfield 125, 3) := by decide +kernel
theorem dX5_look_143 : decode cX5_look 143 = .ok (.if_icmp .lt 20, 3) := by decide +kernel
theorem dX5_look_146 : decode cX5_look 146 = .ok (.lload_n 2, 1) := by decide +kernel
theorem dX5_look_147 : decode cX5_look 147 = .ok (.aload_n 0, 1) := by decide +kernel
theorem dX5_look_148 : decode cX5_look 148 = .ok (.getfield 128, 3) := by decide +kernel
theorem dX5_look_151 : decode cX5_look 151 = .ok (.lmul, 1) := by decide +kernel
theorem dX5_look_152 : decode cX5_look 152 = .ok (.aload_n 0, 1) := by decide +kernel
theorem dX5_look_153 : decode cX5_look 153 = .ok (.getfield 132, 3) := by decide +kernel
theorem dX5_look_156 : decode cX5_look 156 = .ok (.lload 4, 2) := by decide +kernel
theorem dX5_look_158 : decode cX5_look 158 = .ok (.lmul, 1) := by decide +kernel
theorem dX5_look_159 : decode cX5_look 159 = .ok (.lcmp, 1) := by decide +kernel
theorem dX5_look_160 : decode cX5_look 160 = .ok (.ifCond .le 56, 3) := by decide +kernel
theorem dX5_look_163 : decode cX5_look 163 = .ok (.aload_n 0, 1) := by decide +kernel
theorem dX5_look_164 : decode cX5_look 164 = .ok (.iconst 1, 1) := by decide +kernel
theorem dX5_look_165 : decode cX5_look 165 = .ok (.putfield 122, 3) := by decide +kernel
theorem dX5_look_168 : decode cX5_look 168 = .ok (.aload_n 0, 1) := by decide +kernel
theorem dX5_look_169 : decode cX5_look 169 = .ok (.iload_n 1, 1) := by decide +kernel
theorem dX5_look_170 : decode cX5_look 170 = .ok (.putfield 125, 3) := by decide +kernel
theorem dX5_look_173 : decode cX5_look 173 = .ok (.aload_n 0, 1) := by decide +kernel
theorem dX5_look_174 : decode cX5_look 174 = .ok (.lload_n 2, 1) := by decide +kernel
theorem dX5_look_175 : decode cX5_look 175 = .ok (.putfield 132, 3) := by decide +kernel
theorem dX5_look_178 : decode cX5_look 178 = .ok (.aload_n 0, 1) := by decide +kernel
theorem dX5_look_179 : decode cX5_look 179 = .ok (.lload 4, 2) := by decide +kernel
theorem dX5_look_181 : decode cX5_look 181 = .ok (.putfield 128, 3) := by decide +kernel
theorem dX5_look_184 : decode cX5_look 184 = .ok (.iconst 0, 1) := by decide +kernel
theorem dX5_look_185 : decode cX5_look 185 = .ok (.istore 6, 2) := by decide +kernel
theorem dX5_look_187 : decode cX5_look 187 = .ok (.iload 6, 2) := by decide +kernel
theorem dX5_look_189 : decode cX5_look 189 = .ok (.aload_n 0, 1) := by decide +kernel
theorem dX5_look_190 : decode cX5_look 190 = .ok (.getfield 90, 3) := by decide +kernel
theorem dX5_look_193 : decode cX5_look 193 = .ok (.if_icmp .ge 23, 3) := by decide +kernel
theorem dX5_look_196 : decode cX5_look 196 = .ok (.aload_n 0, 1) := by decide +kernel
theorem dX5_look_197 : decode cX5_look 197 = .ok (.getfield 56, 3) := by decide +kernel
theorem dX5_look_200 : decode cX5_look 200 = .ok (.iload 6, 2) := by decide +kernel
theorem dX5_look_202 : decode cX5_look 202 = .ok (.aload_n 0, 1) := by decide +kernel
theorem dX5_look_203 : decode cX5_look 203 = .ok (.getfield 59, 3) := by decide +kernel
theorem dX5_look_206 : decode cX5_look 206 = .ok (.iload 6, 2) := by decide +kernel
theorem dX5_look_208 : decode cX5_look 208 = .ok (.iaload, 1) := by decide +kernel
theorem dX5_look_209 : decode cX5_look 209 = .ok (.iastore, 1) := by decide +kernel
theorem dX5_look_210 : decode cX5_look 210 = .ok (.iinc 6 1, 3) := by decide +kernel
theorem dX5_look_213 : decode cX5_look 213 = .ok (.goto (-26), 3) := by decide +kernel
theorem dX5_look_216 : decode cX5_look 216 = .ok (.return_, 1) := by decide +kernel
set_option maxRecDepth 20000 in
theorem ggX5_findBest_X5_lightOf : GoodIn wsX5_findBest wsX5_lightOf := goodIn_r _ [13, 14, 15, 16, 17, 18, 19, 44, 45, 46, 47, 48, 49, 50, 51, 52, 53, 54, 55, 56, 57, 58, 59, 60, 61, 62, 63, 64, 65, 66, 67, 68, 69, 70, 71, 72, 73, 74, 75, 76, 77, 78, 79] (by decide +kernel) (by decide +kernel)
set_option maxRecDepth 20000 in
theorem gX5_findBest_X5_lightOf : GoodIn wsX5_findBest (wsV RX5 114 RX5 yX5_lightOf wsX5_lightOf) := goodIn_app (goodIn_of _ (by decide +kernel)) ggX5_findBest_X5_lightOf
set_option maxRecDepth 20000 in
theorem ggX5_findBest_X5_firstOf : GoodIn wsX5_findBest wsX5_firstOf := goodIn_r _ [23, 24, 44, 45, 46, 47, 48, 49, 50, 51, 52, 53, 54, 55, 56, 57, 58, 59, 60, 61, 62, 63, 64, 65, 66, 67, 68, 69, 70, 71, 72, 73, 74, 75, 76, 77, 78, 79] (by decide +kernel) (by decide +kernel)
set_option maxRecDepth 20000 in
theorem gX5_findBest_X5_firstOf : GoodIn wsX5_findBest (wsV RX5 118 RX5 yX5_firstOf wsX5_firstOf) := goodIn_app (goodIn_of _ (by decide +kernel)) ggX5_findBest_X5_firstOf
set_option maxRecDepth 20000 in
theorem ggX5_findBest_X5_addUp : GoodIn wsX5_findBest wsX5_addUp := goodIn_r _ [28, 4, 8, 29, 30, 5, 7, 6, 44, 45, 46, 47, 48, 49, 50, 51, 52, 53, 54, 55, 56, 57, 58, 59, 60, 61, 62, 63, 64, 65, 66, 67, 68, 69, 70, 71, 72, 73, 74, 75, 76, 77, 78, 79] (by decide +kernel) (by decide +kernel)
set_option maxRecDepth 20000 in
theorem gX5_findBest_X5_addUp : GoodIn wsX5_findBest (wsV RX5 135 RX5 yX5_addUp wsX5_addUp) := goodIn_app (goodIn_of _ (by decide +kernel)) ggX5_findBest_X5_addUp
set_option maxRecDepth 20000 in
theorem ggX5_findBest_X5_look : GoodIn wsX5_findBest wsX5_look := goodIn_r _ [34, 29, 4, 2, 35, 5, 7, 36, 37, 38, 39, 8, 44, 45, 46, 47, 48, 49, 50, 51, 52, 53, 54, 55, 56, 57, 58, 59, 60, 61, 62, 63, 64, 65, 66, 67, 68, 69, 70, 71, 72, 73, 74, 75, 76, 77, 78, 79] (by decide +kernel) (by decide +kernel)
set_option maxRecDepth 20000 in
theorem gX5_findBest_X5_look : GoodIn wsX5_findBest (wsV RX5 139 RX5 yX5_look wsX5_look) := goodIn_app (goodIn_of _ (by decide +kernel)) ggX5_findBest_X5_look
set_option maxRecDepth 20000 in
theorem ggX5_findBest_X5_nextChoice : GoodIn wsX5_findBest wsX5_nextChoice := goodIn_r _ [43, 4, 24, 8, 3, 20, 21, 22, 12, 23, 44, 45, 46, 47, 48, 49, 50, 51, 52, 53, 54, 55, 56, 57, 58, 59, 60, 61, 62, 63, 64, 65, 66, 67, 68, 69, 70, 71, 72, 73, 74, 75, 76, 77, 78, 79] (by decide +kernel) (by decide +kernel)
set_option maxRecDepth 20000 in
theorem gX5_findBest_X5_nextChoice : GoodIn wsX5_findBest (wsV RX5 142 RX5 yX5_nextChoice wsX5_nextChoice) := goodIn_app (goodIn_of _ (by decide +kernel)) ggX5_findBest_X5_nextChoice
theorem dX5_findBest_0 : decode cX5_findBest 0 = .ok (.aload_n 0, 1) := by decide +kernel
theorem dX5_findBest_1 : decode cX5_findBest 1 = .ok (.getfield 96, 3) := by decide +kernel
theorem dX5_findBest_4 : decode cX5_findBest 4 = .ok (.ifCond .eq 4, 3) := by decide +kernel
theorem dX5_findBest_7 : decode cX5_findBest 7 = .ok (.return_, 1) := by decide +kernel
theorem dX5_findBest_8 : decode cX5_findBest 8 = .ok (.aload_n 0, 1) := by decide +kernel
theorem dX5_findBest_9 : decode cX5_findBest 9 = .ok (.iconst 1, 1) := by decide +kernel
theorem dX5_findBest_10 : decode cX5_findBest 10 = .ok (.putfield 96, 3) := by decide +kernel
theorem dX5_findBest_13 : decode cX5_findBest 13 = .ok (.aload_n 0, 1) := by decide +kernel
theorem dX5_findBest_14 : decode cX5_findBest 14 = .ok (.iconst 0, 1) := by decide +kernel
theorem dX5_findBest_15 : decode cX5_findBest 15 = .ok (.putfield 122, 3) := by decide +kernel
theorem dX5_findBest_18 : decode cX5_findBest 18 = .ok (.iconst 0, 1) := by decide +kernel
theorem dX5_findBest_19 : decode cX5_findBest 19 = .ok (.istore_n 1, 1) := by decide +kernel
theorem dX5_findBest_20 : decode cX5_findBest 20 = .ok (.iload_n 1, 1) := by decide +kernel
theorem dX5_findBest_21 : decode cX5_findBest 21 = .ok (.aload_n 0, 1) := by decide +kernel
theorem dX5_findBest_22 : decode cX5_findBest 22 = .ok (.getfield 83, 3) := by decide +kernel
theorem dX5_findBest_25 : decode cX5_findBest 25 = .ok (.if_icmp .ge 64, 3) := by decide +kernel
theorem dX5_findBest_28 : decode cX5_findBest 28 = .ok (.iconst 0, 1) := by decide +kernel
theorem dX5_findBest_29 : decode cX5_findBest 29 = .ok (.istore_n 2, 1) := by decide +kernel
theorem dX5_findBest_30 : decode cX5_findBest 30 = .ok (.iload_n 2, 1) := by decide +kernel
theorem dX5_findBest_31 : decode cX5_findBest 31 = .ok (.aload_n 0, 1) := by decide +kernel
theorem dX5_findBest_32 : decode cX5_findBest 32 = .ok (.getfield 90, 3) := by decide +kernel
theorem dX5_findBest_35 : decode cX5_findBest 35 = .ok (.if_icmp .ge 48, 3) := by decide +kernel
theorem dX5_findBest_38 : decode cX5_findBest 38 = .ok (.iconst 0, 1) := by decide +kernel
theorem dX5_findBest_39 : decode cX5_findBest 39 = .ok (.istore_n 3, 1) := by decide +kernel
theorem dX5_findBest_40 : decode cX5_findBest 40 = .ok (.iload_n 3, 1) := by decide +kernel
theorem dX5_findBest_41 : decode cX5_findBest 41 = .ok (.aload_n 0, 1) := by decide +kernel
theorem dX5_findBest_42 : decode cX5_findBest 42 = .ok (.getfield 93, 3) := by decide +kernel
theorem dX5_findBest_45 : decode cX5_findBest 45 = .ok (.if_icmp .ge 32, 3) := by decide +kernel
theorem dX5_findBest_48 : decode cX5_findBest 48 = .ok (.aload_n 0, 1) := by decide +kernel
theorem dX5_findBest_49 : decode cX5_findBest 49 = .ok (.getfield 68, 3) := by decide +kernel
theorem dX5_findBest_52 : decode cX5_findBest 52 = .ok (.bipush 112, 2) := by decide +kernel
theorem dX5_findBest_54 : decode cX5_findBest 54 = .ok (.iload_n 1, 1) := by decide +kernel
theorem dX5_findBest_55 : decode cX5_findBest 55 = .ok (.imul, 1) := by decide +kernel
theorem dX5_findBest_56 : decode cX5_findBest 56 = .ok (.bipush 16, 2) := by decide +kernel
theorem dX5_findBest_58 : decode cX5_findBest 58 = .ok (.iload_n 2, 1) := by decide +kernel
theorem dX5_findBest_59 : decode cX5_findBest 59 = .ok (.imul, 1) := by decide +kernel
theorem dX5_findBest_60 : decode cX5_findBest 60 = .ok (.iadd, 1) := by decide +kernel
theorem dX5_findBest_61 : decode cX5_findBest 61 = .ok (.iload_n 3, 1) := by decide +kernel
theorem dX5_findBest_62 : decode cX5_findBest 62 = .ok (.iadd, 1) := by decide +kernel
theorem dX5_findBest_63 : decode cX5_findBest 63 = .ok (.aload_n 0, 1) := by decide +kernel
theorem dX5_findBest_64 : decode cX5_findBest 64 = .ok (.iload_n 1, 1) := by decide +kernel
theorem dX5_findBest_65 : decode cX5_findBest 65 = .ok (.iload_n 2, 1) := by decide +kernel
theorem dX5_findBest_66 : decode cX5_findBest 66 = .ok (.iload_n 3, 1) := by decide +kernel
theorem dX5_findBest_67 : decode cX5_findBest 67 = .ok (.invokevirtual 114, 3) := by decide +kernel
theorem dX5_findBest_70 : decode cX5_findBest 70 = .ok (.iastore, 1) := by decide +kernel
theorem dX5_findBest_71 : decode cX5_findBest 71 = .ok (.iinc 3 1, 3) := by decide +kernel
theorem dX5_findBest_74 : decode cX5_findBest 74 = .ok (.goto (-34), 3) := by decide +kernel
theorem dX5_findBest_77 : decode cX5_findBest 77 = .ok (.iinc 2 1, 3) := by decide +kernel
theorem dX5_findBest_80 : decode cX5_findBest 80 = .ok (.goto (-50), 3) := by decide +kernel
theorem dX5_findBest_83 : decode cX5_findBest 83 = .ok (.iinc 1 1, 3) := by decide +kernel
theorem dX5_findBest_86 : decode cX5_findBest 86 = .ok (.goto (-66), 3) := by decide +kernel
theorem dX5_findBest_89 : decode cX5_findBest 89 = .ok (.iconst 0, 1) := by decide +kernel
theorem dX5_findBest_90 : decode cX5_findBest 90 = .ok (.istore_n 1, 1) := by decide +kernel
theorem dX5_findBest_91 : decode cX5_findBest 91 = .ok (.iload_n 1, 1) := by decide +kernel
theorem dX5_findBest_92 : decode cX5_findBest 92 = .ok (.bipush 16, 2) := by decide +kernel
theorem dX5_findBest_94 : decode cX5_findBest 94 = .ok (.if_icmp .ge 16, 3) := by decide +kernel
theorem dX5_findBest_97 : decode cX5_findBest 97 = .ok (.aload_n 0, 1) := by decide +kernel
theorem dX5_findBest_98 : decode cX5_findBest 98 = .ok (.getfield 62, 3) := by decide +kernel
theorem dX5_findBest_101 : decode cX5_findBest 101 = .ok (.iload_n 1, 1) := by decide +kernel
theorem dX5_findBest_102 : decode cX5_findBest 102 = .ok (.iconst 0, 1) := by decide +kernel
theorem dX5_findBest_103 : decode cX5_findBest 103 = .ok (.iastore, 1) := by decide +kernel
theorem dX5_findBest_104 : decode cX5_findBest 104 = .ok (.iinc 1 1, 3) := by decide +kernel
theorem dX5_findBest_107 : decode cX5_findBest 107 = .ok (.goto (-16), 3) := by decide +kernel
theorem dX5_findBest_110 : decode cX5_findBest 110 = .ok (.iconst 0, 1) := by decide +kernel
theorem dX5_findBest_111 : decode cX5_findBest 111 = .ok (.istore_n 1, 1) := by decide +kernel
theorem dX5_findBest_112 : decode cX5_findBest 112 = .ok (.iload_n 1, 1) := by decide +kernel
theorem dX5_findBest_113 : decode cX5_findBest 113 = .ok (.aload_n 0, 1) := by decide +kernel
theorem dX5_findBest_114 : decode cX5_findBest 114 = .ok (.getfield 90, 3) := by decide +kernel
theorem dX5_findBest_117 : decode cX5_findBest 117 = .ok (.if_icmp .ge 20, 3) := by decide +kernel
theorem dX5_findBest_120 : decode cX5_findBest 120 = .ok (.aload_n 0, 1) := by decide +kernel
theorem dX5_findBest_121 : decode cX5_findBest 121 = .ok (.getfield 59, 3) := by decide +kernel
theorem dX5_findBest_124 : decode cX5_findBest 124 = .ok (.iload_n 1, 1) := by decide +kernel
theorem dX5_findBest_125 : decode cX5_findBest 125 = .ok (.aload_n 0, 1) := by decide +kernel
theorem dX5_findBest_126 : decode cX5_findBest 126 = .ok (.iload_n 1, 1) := by decide +kernel
theorem dX5_findBest_127 : decode cX5_findBest 127 = .ok (.invokevirtual 118, 3) := by decide +kernel
theorem dX5_findBest_130 : decode cX5_findBest 130 = .ok (.iastore, 1) := by decide +kernel
theorem dX5_findBest_131 : decode cX5_findBest 131 = .ok (.iinc 1 1, 3) := by decide +kernel
theorem dX5_findBest_134 : decode cX5_findBest 134 = .ok (.goto (-22), 3) := by decide +kernel
theorem dX5_findBest_137 : decode cX5_findBest 137 = .ok (.iconst 0, 1) := by decide +kernel
theorem dX5_findBest_138 : decode cX5_findBest 138 = .ok (.istore_n 1, 1) := by decide +kernel
theorem dX5_findBest_139 : decode cX5_findBest 139 = .ok (.iload_n 1, 1) := by decide +kernel
theorem dX5_findBest_140 : decode cX5_findBest 140 = .ok (.ifCond .lt 20, 3) := by decide +kernel
theorem dX5_findBest_143 : decode cX5_findBest 143 = .ok (.aload_n 0, 1) := by decide +kernel
theorem dX5_findBest_144 : decode cX5_findBest 144 = .ok (.iload_n 1, 1) := by decide +kernel
theorem dX5_findBest_145 : decode cX5_findBest 145 = .ok (.invokevirtual 135, 3) := by decide +kernel
end
section
theorem dX5_findBest_148 : decode cX5_findBest 148 = .ok (.aload_n 0, 1) := by decide +kernel
theorem dX5_findBest_149 : decode cX5_findBest 149 = .ok (.invokevirtual 139, 3) := by decide +kernel
theorem dX5_findBest_152 : decode cX5_findBest 152 = .ok (.aload_n 0, 1) := by decide +kernel
theorem dX5_findBest_153 : decode cX5_findBest 153 = .ok (.invokevirtual 142, 3) := by decide +kernel
theorem dX5_findBest_156 : decode cX5_findBest 156 = .ok (.istore_n 1, 1) := by decide +kernel
theorem dX5_findBest_157 : decode cX5_findBest 157 = .ok (.goto (-18), 3) := by decide +kernel
theorem dX5_findBest_160 : decode cX5_findBest 160 = .ok (.return_, 1) := by decide +kernel
set_option maxRecDepth 20000 in
theorem ggX5_best_X5_findBest : GoodIn wsX5_best wsX5_findBest := goodIn_r _ [8, 9, 2, 10, 11, 12, 13, 14, 15, 16, 17, 18, 7, 19, 20, 21, 22, 23, 24, 25, 26, 27, 28, 29, 30, 31, 32, 33, 34, 35, 36, 37, 38, 39, 40, 3, 41, 42, 43, 44, 45, 46, 47, 48, 49, 50, 51, 52, 53, 54, 55, 56, 57, 58, 59, 60, 61, 62, 63, 64, 65, 66, 67, 68, 69, 70, 71, 72, 73, 74, 75, 76, 77, 78, 79, 80, 81, 82, 83, 84] (by decide +kernel) (by decide +kernel)
set_option maxRecDepth 20000 in
theorem gX5_best_X5_findBest : GoodIn wsX5_best (wsV RX5 146 RX5 yX5_findBest wsX5_findBest) := goodIn_app (goodIn_of _ (by decide +kernel)) ggX5_best_X5_findBest
theorem dX5_best_0 : decode cX5_best 0 = .ok (.aload_n 0, 1) := by decide +kernel
theorem dX5_best_1 : decode cX5_best 1 = .ok (.iconst 0, 1) := by decide +kernel
theorem dX5_best_2 : decode cX5_best 2 = .ok (.putfield 80, 3) := by decide +kernel
theorem dX5_best_5 : decode cX5_best 5 = .ok (.aload_n 0, 1) := by decide +kernel
theorem dX5_best_6 : decode cX5_best 6 = .ok (.invokevirtual 146, 3) := by decide +kernel
theorem dX5_best_9 : decode cX5_best 9 = .ok (.aload_n 0, 1) := by decide +kernel
theorem dX5_best_10 : decode cX5_best 10 = .ok (.getfield 122, 3) := by decide +kernel
theorem dX5_best_13 : decode cX5_best 13 = .ok (.ifCond .eq 10, 3) := by decide +kernel
theorem dX5_best_16 : decode cX5_best 16 = .ok (.aload_n 0, 1) := by decide +kernel
theorem dX5_best_17 : decode cX5_best 17 = .ok (.getfield 125, 3) := by decide +kernel
theorem dX5_best_20 : decode cX5_best 20 = .ok (.goto 5, 3) := by decide +kernel
theorem dX5_best_23 : decode cX5_best 23 = .ok (.bipush (-2), 2) := by decide +kernel
theorem dX5_best_25 : decode cX5_best 25 = .ok (.ireturn, 1) := by decide +kernel
set_option maxRecDepth 20000 in
theorem ggX5_lamp_X5_isPlace : GoodIn wsX5_lamp wsX5_isPlace := goodIn_r _ [8, 9, 10, 11, 7, 12, 56, 57, 58, 59, 60, 61, 62, 63, 64, 65, 66, 67, 68, 69, 70, 71, 72, 73, 74, 75, 76, 77, 78, 79, 80, 81, 82, 83, 84, 85, 86, 87, 88, 89, 90, 91] (by decide +kernel) (by decide +kernel)
set_option maxRecDepth 20000 in
theorem gX5_lamp_X5_isPlace : GoodIn wsX5_lamp (wsV RX5 104 RX5 yX5_isPlace wsX5_isPlace) := goodIn_app (goodIn_of _ (by decide +kernel)) ggX5_lamp_X5_isPlace
set_option maxRecDepth 20000 in
theorem ggX5_lamp_X5_findBest : GoodIn wsX5_lamp wsX5_findBest := goodIn_r _ [16, 17, 2, 18, 9, 19, 20, 21, 22, 23, 24, 25, 7, 26, 27, 28, 29, 30, 31, 32, 33, 34, 35, 36, 37, 38, 39, 40, 41, 42, 43, 44, 45, 46, 47, 48, 49, 50, 51, 3, 52, 53, 54, 55, 56, 57, 58, 59, 60, 61, 62, 63, 64, 65, 66, 67, 68, 69, 70, 71, 72, 73, 74, 75, 76, 77, 78, 79, 80, 81, 82, 83, 84, 85, 86, 87, 88, 89, 90, 91] (by decide +kernel) (by decide +kernel)
set_option maxRecDepth 20000 in
theorem gX5_lamp_X5_findBest : GoodIn wsX5_lamp (wsV RX5 146 RX5 yX5_findBest wsX5_findBest) := goodIn_app (goodIn_of _ (by decide +kernel)) ggX5_lamp_X5_findBest
theorem dX5_lamp_0 : decode cX5_lamp 0 = .ok (.aload_n 0, 1) := by decide +kernel
theorem dX5_lamp_1 : decode cX5_lamp 1 = .ok (.aload_n 0, 1) := by decide +kernel
theorem dX5_lamp_2 : decode cX5_lamp 2 = .ok (.iload_n 1, 1) := by decide +kernel
theorem dX5_lamp_3 : decode cX5_lamp 3 = .ok (.invokevirtual 104, 3) := by decide +kernel
theorem dX5_lamp_6 : decode cX5_lamp 6 = .ok (.ifCond .eq 7, 3) := by decide +kernel
theorem dX5_lamp_9 : decode cX5_lamp 9 = .ok (.iconst 0, 1) := by decide +kernel
theorem dX5_lamp_10 : decode cX5_lamp 10 = .ok (.goto 4, 3) := by decide +kernel
theorem dX5_lamp_13 : decode cX5_lamp 13 = .ok (.iconst 1, 1) := by decide +kernel
theorem dX5_lamp_14 : decode cX5_lamp 14 = .ok (.putfield 80, 3) := by decide +kernel
theorem dX5_lamp_17 : decode cX5_lamp 17 = .ok (.aload_n 0, 1) := by decide +kernel
theorem dX5_lamp_18 : decode cX5_lamp 18 = .ok (.getfield 80, 3) := by decide +kernel
theorem dX5_lamp_21 : decode cX5_lamp 21 = .ok (.ifCond .le 5, 3) := by decide +kernel
theorem dX5_lamp_24 : decode cX5_lamp 24 = .ok (.iconst 0, 1) := by decide +kernel
theorem dX5_lamp_25 : decode cX5_lamp 25 = .ok (.ireturn, 1) := by decide +kernel
theorem dX5_lamp_26 : decode cX5_lamp 26 = .ok (.aload_n 0, 1) := by decide +kernel
theorem dX5_lamp_27 : decode cX5_lamp 27 = .ok (.invokevirtual 146, 3) := by decide +kernel
theorem dX5_lamp_30 : decode cX5_lamp 30 = .ok (.aload_n 0, 1) := by decide +kernel
theorem dX5_lamp_31 : decode cX5_lamp 31 = .ok (.getfield 122, 3) := by decide +kernel
theorem dX5_lamp_34 : decode cX5_lamp 34 = .ok (.ifCond .eq 12, 3) := by decide +kernel
theorem dX5_lamp_37 : decode cX5_lamp 37 = .ok (.aload_n 0, 1) := by decide +kernel
theorem dX5_lamp_38 : decode cX5_lamp 38 = .ok (.getfield 56, 3) := by decide +kernel
theorem dX5_lamp_41 : decode cX5_lamp 41 = .ok (.iload_n 1, 1) := by decide +kernel
theorem dX5_lamp_42 : decode cX5_lamp 42 = .ok (.iaload, 1) := by decide +kernel
theorem dX5_lamp_43 : decode cX5_lamp 43 = .ok (.goto 5, 3) := by decide +kernel
theorem dX5_lamp_46 : decode cX5_lamp 46 = .ok (.bipush (-2), 2) := by decide +kernel
theorem dX5_lamp_48 : decode cX5_lamp 48 = .ok (.ireturn, 1) := by decide +kernel
set_option maxRecDepth 20000 in
theorem ggX5_level_X5_isPoint : GoodIn wsX5_level wsX5_isPoint := goodIn_r _ [9, 10, 11, 12, 8, 13, 56, 57, 58, 59, 60, 61, 62, 63, 64, 65, 66, 67, 68, 69, 70, 71, 72, 73, 74, 75, 76, 77, 78, 79, 80, 81, 82, 83, 84, 85, 86, 87, 88, 89, 90, 91] (by decide +kernel) (by decide +kernel)
set_option maxRecDepth 20000 in
theorem gX5_level_X5_isPoint : GoodIn wsX5_level (wsV RX5 111 RX5 yX5_isPoint wsX5_isPoint) := goodIn_app (goodIn_of _ (by decide +kernel)) ggX5_level_X5_isPoint
set_option maxRecDepth 20000 in
theorem ggX5_level_X5_findBest : GoodIn wsX5_level wsX5_findBest := goodIn_r _ [17, 18, 2, 19, 3, 10, 20, 21, 22, 23, 24, 25, 8, 26, 27, 28, 29, 30, 31, 32, 33, 34, 35, 36, 37, 38, 39, 40, 41, 42, 43, 44, 45, 46, 47, 48, 49, 50, 51, 4, 52, 53, 54, 55, 56, 57, 58, 59, 60, 61, 62, 63, 64, 65, 66, 67, 68, 69, 70, 71, 72, 73, 74, 75, 76, 77, 78, 79, 80, 81, 82, 83, 84, 85, 86, 87, 88, 89, 90, 91] (by decide +kernel) (by decide +kernel)
set_option maxRecDepth 20000 in
theorem gX5_level_X5_findBest : GoodIn wsX5_level (wsV RX5 146 RX5 yX5_findBest wsX5_findBest) := goodIn_app (goodIn_of _ (by decide +kernel)) ggX5_level_X5_findBest
set_option maxRecDepth 20000 in
theorem ggX5_level_X5_lightOf : GoodIn wsX5_level wsX5_lightOf := goodIn_r _ [26, 27, 28, 29, 30, 31, 32, 56, 57, 58, 59, 60, 61, 62, 63, 64, 65, 66, 67, 68, 69, 70, 71, 72, 73, 74, 75, 76, 77, 78, 79, 80, 81, 82, 83, 84, 85, 86, 87, 88, 89, 90, 91] (by decide +kernel) (by decide +kernel)
set_option maxRecDepth 20000 in
theorem gX5_level_X5_lightOf : GoodIn wsX5_level (wsV RX5 114 RX5 yX5_lightOf wsX5_lightOf) := goodIn_app (goodIn_of _ (by decide +kernel)) ggX5_level_X5_lightOf
theorem dX5_level_0 : decode cX5_level 0 = .ok (.aload_n 0, 1) := by decide +kernel
theorem dX5_level_1 : decode cX5_level 1 = .ok (.aload_n 0, 1) := by decide +kernel
theorem dX5_level_2 : decode cX5_level 2 = .ok (.iload_n 1, 1) := by decide +kernel
theorem dX5_level_3 : decode cX5_level 3 = .ok (.invokevirtual 111, 3) := by decide +kernel
theorem dX5_level_6 : decode cX5_level 6 = .ok (.ifCond .eq 7, 3) := by decide +kernel
theorem dX5_level_9 : decode cX5_level 9 = .ok (.iconst 0, 1) := by decide +kernel
theorem dX5_level_10 : decode cX5_level 10 = .ok (.goto 4, 3) := by decide +kernel
theorem dX5_level_13 : decode cX5_level 13 = .ok (.iconst 1, 1) := by decide +kernel
theorem dX5_level_14 : decode cX5_level 14 = .ok (.putfield 80, 3) := by decide +kernel
theorem dX5_level_17 : decode cX5_level 17 = .ok (.aload_n 0, 1) := by decide +kernel
theorem dX5_level_18 : decode cX5_level 18 = .ok (.getfield 80, 3) := by decide +kernel
theorem dX5_level_21 : decode cX5_level 21 = .ok (.ifCond .le 5, 3) := by decide +kernel
theorem dX5_level_24 : decode cX5_level 24 = .ok (.iconst 0, 1) := by decide +kernel
theorem dX5_level_25 : decode cX5_level 25 = .ok (.ireturn, 1) := by decide +kernel
theorem dX5_level_26 : decode cX5_level 26 = .ok (.aload_n 0, 1) := by decide +kernel
theorem dX5_level_27 : decode cX5_level 27 = .ok (.invokevirtual 146, 3) := by decide +kernel
theorem dX5_level_30 : decode cX5_level 30 = .ok (.aload_n 0, 1) := by decide +kernel
theorem dX5_level_31 : decode cX5_level 31 = .ok (.getfield 122, 3) := by decide +kernel
theorem dX5_level_34 : decode cX5_level 34 = .ok (.ifCond .ne 6, 3) := by decide +kernel
theorem dX5_level_37 : decode cX5_level 37 = .ok (.bipush (-2), 2) := by decide +kernel
theorem dX5_level_39 : decode cX5_level 39 = .ok (.ireturn, 1) := by decide +kernel
theorem dX5_level_40 : decode cX5_level 40 = .ok (.iconst 0, 1) := by decide +kernel
theorem dX5_level_41 : decode cX5_level 41 = .ok (.istore_n 2, 1) := by decide +kernel
theorem dX5_level_42 : decode cX5_level 42 = .ok (.iconst 0, 1) := by decide +kernel
theorem dX5_level_43 : decode cX5_level 43 = .ok (.istore_n 3, 1) := by decide +kernel
theorem dX5_level_44 : decode cX5_level 44 = .ok (.iload_n 3, 1) := by decide +kernel
theorem dX5_level_45 : decode cX5_level 45 = .ok (.aload_n 0, 1) := by decide +kernel
theorem dX5_level_46 : decode cX5_level 46 = .ok (.getfield 90, 3) := by decide +kernel
theorem dX5_level_49 : decode cX5_level 49 = .ok (.if_icmp .ge 37, 3) := by decide +kernel
theorem dX5_level_52 : decode cX5_level 52 = .ok (.iload_n 2, 1) := by decide +kernel
theorem dX5_level_53 : decode cX5_level 53 = .ok (.aload_n 0, 1) := by decide +kernel
theorem dX5_level_54 : decode cX5_level 54 = .ok (.getfield 56, 3) := by decide +kernel
theorem dX5_level_57 : decode cX5_level 57 = .ok (.iload_n 3, 1) := by decide +kernel
theorem dX5_level_58 : decode cX5_level 58 = .ok (.iaload, 1) := by decide +kernel
theorem dX5_level_59 : decode cX5_level 59 = .ok (.ifCond .ge 7, 3) := by decide +kernel
theorem dX5_level_62 : decode cX5_level 62 = .ok (.iconst 0, 1) := by decide +kernel
theorem dX5_level_63 : decode cX5_level 63 = .ok (.goto 15, 3) := by decide +kernel
theorem dX5_level_66 : decode cX5_level 66 = .ok (.aload_n 0, 1) := by decide +kernel
theorem dX5_level_67 : decode cX5_level 67 = .ok (.aload_n 0, 1) := by decide +kernel
theorem dX5_level_68 : decode cX5_level 68 = .ok (.getfield 56, 3) := by decide +kernel
theorem dX5_level_71 : decode cX5_level 71 = .ok (.iload_n 3, 1) := by decide +kernel
theorem dX5_level_72 : decode cX5_level 72 = .ok (.iaload, 1) := by decide +kernel
theorem dX5_level_73 : decode cX5_level 73 = .ok (.iload_n 3, 1) := by decide +kernel
theorem dX5_level_74 : decode cX5_level 74 = .ok (.iload_n 1, 1) := by decide +kernel
theorem dX5_level_75 : decode cX5_level 75 = .ok (.invokevirtual 114, 3) := by decide +kernel
theorem dX5_level_78 : decode cX5_level 78 = .ok (.iadd, 1) := by decide +kernel
theorem dX5_level_79 : decode cX5_level 79 = .ok (.istore_n 2, 1) := by decide +kernel
theorem dX5_level_80 : decode cX5_level 80 = .ok (.iinc 3 1, 3) := by decide +kernel
theorem dX5_level_83 : decode cX5_level 83 = .ok (.goto (-39), 3) := by decide +kernel
theorem dX5_level_86 : decode cX5_level 86 = .ok (.iload_n 2, 1) := by decide +kernel
theorem dX5_level_87 : decode cX5_level 87 = .ok (.ireturn, 1) := by decide +kernel
theorem dX5_common_0 : decode cX5_common 0 = .ok (.lload_n 0, 1) := by decide +kernel
theorem dX5_common_1 : decode cX5_common 1 = .ok (.lstore 4, 2) := by decide +kernel
theorem dX5_common_3 : decode cX5_common 3 = .ok (.lload_n 2, 1) := by decide +kernel
theorem dX5_common_4 : decode cX5_common 4 = .ok (.lstore 6, 2) := by decide +kernel
theorem dX5_common_6 : decode cX5_common 6 = .ok (.lload 6, 2) := by decide +kernel
theorem dX5_common_8 : decode cX5_common 8 = .ok (.lconst 0, 1) := by decide +kernel
theorem dX5_common_9 : decode cX5_common 9 = .ok (.lcmp, 1) := by decide +kernel
theorem dX5_common_10 : decode cX5_common 10 = .ok (.ifCond .le 21, 3) := by decide +kernel
theorem dX5_common_13 : decode cX5_common 13 = .ok (.lload 4, 2) := by decide +kernel
theorem dX5_common_15 : decode cX5_common 15 = .ok (.lload 6, 2) := by decide +kernel
theorem dX5_common_17 : decode cX5_common 17 = .ok (.lrem, 1) := by decide +kernel
theorem dX5_common_18 : decode cX5_common 18 = .ok (.lstore 8, 2) := by decide +kernel
theorem dX5_common_20 : decode cX5_common 20 = .ok (.lload 6, 2) := by decide +kernel
theorem dX5_common_22 : decode cX5_common 22 = .ok (.lstore 4, 2) := by decide +kernel
theorem dX5_common_24 : decode cX5_common 24 = .ok (.lload 8, 2) := by decide +kernel
theorem dX5_common_26 : decode cX5_common 26 = .ok (.lstore 6, 2) := by decide +kernel
theorem dX5_common_28 : decode cX5_common 28 = .ok (.goto (-22), 3) := by decide +kernel
theorem dX5_common_31 : decode cX5_common 31 = .ok (.lload 4, 2) := by decide +kernel
theorem dX5_common_33 : decode cX5_common 33 = .ok (.lreturn, 1) := by decide +kernel
set_option maxRecDepth 20000 in
theorem ggX5_even_X5_isIn : GoodIn wsX5_even wsX5_isIn := goodIn_r _ [9] (by decide +kernel) (by decide +kernel)
set_option maxRecDepth 20000 in
theorem gX5_even_X5_isIn : GoodIn wsX5_even (va_wsS RX5 86 yX5_isIn wsX5_isIn) := goodIn_app (goodIn_of _ (by decide +kernel)) ggX5_even_X5_isIn
set_option maxRecDepth 20000 in
theorem ggX5_even_X5_findBest : GoodIn wsX5_even wsX5_findBest := goodIn_r _ [13, 14, 2, 15, 16, 17, 18, 19, 20, 21, 22, 23, 8, 24, 25, 26, 27, 28, 29, 30, 31, 32, 33, 34, 35, 36, 37, 38, 39, 40, 41, 42, 43, 44, 45, 46, 47, 5, 4, 48, 49, 50, 51, 52, 56, 57, 58, 59, 60, 61, 62, 63, 64, 65, 66, 67, 68, 69, 70, 71, 72, 73, 74, 75, 76, 77, 78, 79, 80, 81, 82, 83, 84, 85, 86, 87, 88, 89, 90, 91] (by decide +kernel) (by decide +kernel)
set_option maxRecDepth 20000 in
theorem gX5_even_X5_findBest : GoodIn wsX5_even (wsV RX5 146 RX5 yX5_findBest wsX5_findBest) := goodIn_app (goodIn_of _ (by decide +kernel)) ggX5_even_X5_findBest
set_option maxRecDepth 20000 in
theorem ggX5_even_X5_common : GoodIn wsX5_even wsX5_common := goodIn_r _ [55] (by decide +kernel) (by decide +kernel)
set_option maxRecDepth 20000 in
theorem gX5_even_X5_common : GoodIn wsX5_even (va_wsS RX5 151 yX5_common wsX5_common) := goodIn_app (goodIn_of _ (by decide +kernel)) ggX5_even_X5_common
theorem dX5_even_0 : decode cX5_even 0 = .ok (.aload_n 0, 1) := by decide +kernel
theorem dX5_even_1 : decode cX5_even 1 = .ok (.iload_n 1, 1) := by decide +kernel
theorem dX5_even_2 : decode cX5_even 2 = .ok (.iconst 0, 1) := by decide +kernel
theorem dX5_even_3 : decode cX5_even 3 = .ok (.iconst 1, 1) := by decide +kernel
theorem dX5_even_4 : decode cX5_even 4 = .ok (.invokestatic 86, 3) := by decide +kernel
theorem dX5_even_7 : decode cX5_even 7 = .ok (.ifCond .eq 7, 3) := by decide +kernel
theorem dX5_even_10 : decode cX5_even 10 = .ok (.iconst 0, 1) := by decide +kernel
theorem dX5_even_11 : decode cX5_even 11 = .ok (.goto 4, 3) := by decide +kernel
theorem dX5_even_14 : decode cX5_even 14 = .ok (.iconst 1, 1) := by decide +kernel
theorem dX5_even_15 : decode cX5_even 15 = .ok (.putfield 80, 3) := by decide +kernel
theorem dX5_even_18 : decode cX5_even 18 = .ok (.aload_n 0, 1) := by decide +kernel
theorem dX5_even_19 : decode cX5_even 19 = .ok (.getfield 80, 3) := by decide +kernel
theorem dX5_even_22 : decode cX5_even 22 = .ok (.ifCond .le 5, 3) := by decide +kernel
theorem dX5_even_25 : decode cX5_even 25 = .ok (.lconst 0, 1) := by decide +kernel
theorem dX5_even_26 : decode cX5_even 26 = .ok (.lreturn, 1) := by decide +kernel
theorem dX5_even_27 : decode cX5_even 27 = .ok (.aload_n 0, 1) := by decide +kernel
theorem dX5_even_28 : decode cX5_even 28 = .ok (.invokevirtual 146, 3) := by decide +kernel
theorem dX5_even_31 : decode cX5_even 31 = .ok (.aload_n 0, 1) := by decide +kernel
theorem dX5_even_32 : decode cX5_even 32 = .ok (.getfield 122, 3) := by decide +kernel
theorem dX5_even_35 : decode cX5_even 35 = .ok (.ifCond .ne 7, 3) := by decide +kernel
theorem dX5_even_38 : decode cX5_even 38 = .ok (.ldc2_w 149, 3) := by decide +kernel
theorem dX5_even_41 : decode cX5_even 41 = .ok (.lreturn, 1) := by decide +kernel
theorem dX5_even_42 : decode cX5_even 42 = .ok (.aload_n 0, 1) := by decide +kernel
theorem dX5_even_43 : decode cX5_even 43 = .ok (.getfield 132, 3) := by decide +kernel
theorem dX5_even_46 : decode cX5_even 46 = .ok (.aload_n 0, 1) := by decide +kernel
theorem dX5_even_47 : decode cX5_even 47 = .ok (.getfield 128, 3) := by decide +kernel
theorem dX5_even_50 : decode cX5_even 50 = .ok (.invokestatic 151, 3) := by decide +kernel
theorem dX5_even_53 : decode cX5_even 53 = .ok (.lstore_n 2, 1) := by decide +kernel
theorem dX5_even_54 : decode cX5_even 54 = .ok (.aload_n 0, 1) := by decide +kernel
theorem dX5_even_55 : decode cX5_even 55 = .ok (.getfield 132, 3) := by decide +kernel
theorem dX5_even_58 : decode cX5_even 58 = .ok (.lconst 0, 1) := by decide +kernel
theorem dX5_even_59 : decode cX5_even 59 = .ok (.lcmp, 1) := by decide +kernel
theorem dX5_even_60 : decode cX5_even 60 = .ok (.ifCond .ne 8, 3) := by decide +kernel
theorem dX5_even_63 : decode cX5_even 63 = .ok (.iload_n 1, 1) := by decide +kernel
theorem dX5_even_64 : decode cX5_even 64 = .ok (.i2l, 1) := by decide +kernel
theorem dX5_even_65 : decode cX5_even 65 = .ok (.goto 20, 3) := by decide +kernel
theorem dX5_even_68 : decode cX5_even 68 = .ok (.iload_n 1, 1) := by decide +kernel
theorem dX5_even_69 : decode cX5_even 69 = .ok (.ifCond .ne 10, 3) := by decide +kernel
theorem dX5_even_72 : decode cX5_even 72 = .ok (.aload_n 0, 1) := by decide +kernel
theorem dX5_even_73 : decode cX5_even 73 = .ok (.getfield 132, 3) := by decide +kernel
theorem dX5_even_76 : decode cX5_even 76 = .ok (.goto 7, 3) := by decide +kernel
theorem dX5_even_79 : decode cX5_even 79 = .ok (.aload_n 0, 1) := by decide +kernel
theorem dX5_even_80 : decode cX5_even 80 = .ok (.getfield 128, 3) := by decide +kernel
theorem dX5_even_83 : decode cX5_even 83 = .ok (.lload_n 2, 1) := by decide +kernel
theorem dX5_even_84 : decode cX5_even 84 = .ok (.ldiv, 1) := by decide +kernel
theorem dX5_even_85 : decode cX5_even 85 = .ok (.lreturn, 1) := by decide +kernel
set_option maxRecDepth 20000 in
theorem ggX5_aim_X5_isPoint : GoodIn wsX5_aim wsX5_isPoint := goodIn_r _ [8, 9, 10, 11, 7, 12, 13, 14, 15, 16, 17, 18, 19, 20, 21, 22, 23, 24, 25, 26, 27, 28, 29, 30, 31, 32, 33, 34, 35, 36, 37, 38, 39, 40, 41, 42, 43, 44, 45, 46, 47, 48] (by decide +kernel) (by decide +kernel)
set_option maxRecDepth 20000 in
theorem gX5_aim_X5_isPoint : GoodIn wsX5_aim (wsV RX5 111 RX5 yX5_isPoint wsX5_isPoint) := goodIn_app (goodIn_of _ (by decide +kernel)) ggX5_aim_X5_isPoint
set_option maxRecDepth 20000 in
theorem ggX5_aim_X5_isIn : GoodIn wsX5_aim wsX5_isIn := goodIn_r _ [12] (by decide +kernel) (by decide +kernel)
set_option maxRecDepth 20000 in
theorem gX5_aim_X5_isIn : GoodIn wsX5_aim (va_wsS RX5 86 yX5_isIn wsX5_isIn) := goodIn_app (goodIn_of _ (by decide +kernel)) ggX5_aim_X5_isIn
theorem dX5_aim_0 : decode cX5_aim 0 = .ok (.aload_n 0, 1) := by decide +kernel
theorem dX5_aim_1 : decode cX5_aim 1 = .ok (.aload_n 0, 1) := by decide +kernel
theorem dX5_aim_2 : decode cX5_aim 2 = .ok (.iload_n 1, 1) := by decide +kernel
theorem dX5_aim_3 : decode cX5_aim 3 = .ok (.invokevirtual 111, 3) := by decide +kernel
theorem dX5_aim_6 : decode cX5_aim 6 = .ok (.ifCond .eq 17, 3) := by decide +kernel
theorem dX5_aim_9 : decode cX5_aim 9 = .ok (.iload_n 2, 1) := by decide +kernel
theorem dX5_aim_10 : decode cX5_aim 10 = .ok (.iconst 0, 1) := by decide +kernel
theorem dX5_aim_11 : decode cX5_aim 11 = .ok (.ldc 155, 2) := by decide +kernel
theorem dX5_aim_13 : decode cX5_aim 13 = .ok (.invokestatic 86, 3) := by decide +kernel
theorem dX5_aim_16 : decode cX5_aim 16 = .ok (.ifCond .eq 7, 3) := by decide +kernel
theorem dX5_aim_19 : decode cX5_aim 19 = .ok (.iconst 0, 1) := by decide +kernel
theorem dX5_aim_20 : decode cX5_aim 20 = .ok (.goto 4, 3) := by decide +kernel
theorem dX5_aim_23 : decode cX5_aim 23 = .ok (.iconst 1, 1) := by decide +kernel
theorem dX5_aim_24 : decode cX5_aim 24 = .ok (.putfield 80, 3) := by decide +kernel
theorem dX5_aim_27 : decode cX5_aim 27 = .ok (.aload_n 0, 1) := by decide +kernel
theorem dX5_aim_28 : decode cX5_aim 28 = .ok (.getfield 80, 3) := by decide +kernel
theorem dX5_aim_31 : decode cX5_aim 31 = .ok (.ifCond .le 5, 3) := by decide +kernel
theorem dX5_aim_34 : decode cX5_aim 34 = .ok (.iconst 0, 1) := by decide +kernel
theorem dX5_aim_35 : decode cX5_aim 35 = .ok (.ireturn, 1) := by decide +kernel
theorem dX5_aim_36 : decode cX5_aim 36 = .ok (.aload_n 0, 1) := by decide +kernel
theorem dX5_aim_37 : decode cX5_aim 37 = .ok (.getfield 43, 3) := by decide +kernel
theorem dX5_aim_40 : decode cX5_aim 40 = .ok (.iload_n 1, 1) := by decide +kernel
theorem dX5_aim_41 : decode cX5_aim 41 = .ok (.iaload, 1) := by decide +kernel
theorem dX5_aim_42 : decode cX5_aim 42 = .ok (.istore_n 3, 1) := by decide +kernel
theorem dX5_aim_43 : decode cX5_aim 43 = .ok (.aload_n 0, 1) := by decide +kernel
theorem dX5_aim_44 : decode cX5_aim 44 = .ok (.getfield 43, 3) := by decide +kernel
theorem dX5_aim_47 : decode cX5_aim 47 = .ok (.iload_n 1, 1) := by decide +kernel
theorem dX5_aim_48 : decode cX5_aim 48 = .ok (.iload_n 2, 1) := by decide +kernel
theorem dX5_aim_49 : decode cX5_aim 49 = .ok (.iastore, 1) := by decide +kernel
theorem dX5_aim_50 : decode cX5_aim 50 = .ok (.iload_n 3, 1) := by decide +kernel
theorem dX5_aim_51 : decode cX5_aim 51 = .ok (.ireturn, 1) := by decide +kernel
theorem dX5_hasLamp_0 : decode cX5_hasLamp 0 = .ok (.aload_n 0, 1) := by decide +kernel
theorem dX5_hasLamp_1 : decode cX5_hasLamp 1 = .ok (.getfield 122, 3) := by decide +kernel
theorem dX5_hasLamp_4 : decode cX5_hasLamp 4 = .ok (.ifCond .eq 16, 3) := by decide +kernel
theorem dX5_hasLamp_7 : decode cX5_hasLamp 7 = .ok (.aload_n 0, 1) := by decide +kernel
theorem dX5_hasLamp_8 : decode cX5_hasLamp 8 = .ok (.getfield 56, 3) := by decide +kernel
theorem dX5_hasLamp_11 : decode cX5_hasLamp 11 = .ok (.iload_n 1, 1) := by decide +kernel
theorem dX5_hasLamp_12 : decode cX5_hasLamp 12 = .ok (.iaload, 1) := by decide +kernel
theorem dX5_hasLamp_13 : decode cX5_hasLamp 13 = .ok (.ifCond .lt 7, 3) := by decide +kernel
theorem dX5_hasLamp_16 : decode cX5_hasLamp 16 = .ok (.iconst 1, 1) := by decide +kernel
theorem dX5_hasLamp_17 : decode cX5_hasLamp 17 = .ok (.goto 4, 3) := by decide +kernel
theorem dX5_hasLamp_20 : decode cX5_hasLamp 20 = .ok (.iconst 0, 1) := by decide +kernel
theorem dX5_hasLamp_21 : decode cX5_hasLamp 21 = .ok (.ireturn, 1) := by decide +kernel
set_option maxRecDepth 20000 in
theorem ggX5_missOf_X5_hasLamp : GoodIn wsX5_missOf wsX5_hasLamp := goodIn_r _ [10, 11, 4, 22, 23, 24, 25, 26, 27, 28, 29, 30, 31, 32, 33, 34, 35, 36, 37, 38, 39, 40, 41, 42, 43, 44, 45, 46, 47, 48, 49, 50, 51, 52, 53, 54, 55, 56, 57] (by decide +kernel) (by decide +kernel)
set_option maxRecDepth 20000 in
theorem gX5_missOf_X5_hasLamp : GoodIn wsX5_missOf (wsV RX5 158 RX5 yX5_hasLamp wsX5_hasLamp) := goodIn_app (goodIn_of _ (by decide +kernel)) ggX5_missOf_X5_hasLamp
set_option maxRecDepth 20000 in
theorem ggX5_missOf_X5_lightOf : GoodIn wsX5_missOf wsX5_lightOf := goodIn_r _ [15, 16, 17, 18, 19, 20, 21, 22, 23, 24, 25, 26, 27, 28, 29, 30, 31, 32, 33, 34, 35, 36, 37, 38, 39, 40, 41, 42, 43, 44, 45, 46, 47, 48, 49, 50, 51, 52, 53, 54, 55, 56, 57] (by decide +kernel) (by decide +kernel)
set_option maxRecDepth 20000 in
theorem gX5_missOf_X5_lightOf : GoodIn wsX5_missOf (wsV RX5 114 RX5 yX5_lightOf wsX5_lightOf) := goodIn_app (goodIn_of _ (by decide +kernel)) ggX5_missOf_X5_lightOf
theorem dX5_missOf_0 : decode cX5_missOf 0 = .ok (.ldc2_w 156, 3) := by decide +kernel
theorem dX5_missOf_3 : decode cX5_missOf 3 = .ok (.aload_n 0, 1) := by decide +kernel
theorem dX5_missOf_4 : decode cX5_missOf 4 = .ok (.getfield 43, 3) := by decide +kernel
theorem dX5_missOf_7 : decode cX5_missOf 7 = .ok (.iload_n 1, 1) := by decide +kernel
theorem dX5_missOf_8 : decode cX5_missOf 8 = .ok (.iaload, 1) := by decide +kernel
theorem dX5_missOf_9 : decode cX5_missOf 9 = .ok (.i2l, 1) := by decide +kernel
theorem dX5_missOf_10 : decode cX5_missOf 10 = .ok (.lmul, 1) := by decide +kernel
theorem dX5_missOf_11 : decode cX5_missOf 11 = .ok (.lstore_n 2, 1) := by decide +kernel
theorem dX5_missOf_12 : decode cX5_missOf 12 = .ok (.iconst 0, 1) := by decide +kernel
theorem dX5_missOf_13 : decode cX5_missOf 13 = .ok (.istore 4, 2) := by decide +kernel
theorem dX5_missOf_15 : decode cX5_missOf 15 = .ok (.iload 4, 2) := by decide +kernel
theorem dX5_missOf_17 : decode cX5_missOf 17 = .ok (.aload_n 0, 1) := by decide +kernel
theorem dX5_missOf_18 : decode cX5_missOf 18 = .ok (.getfield 90, 3) := by decide +kernel
theorem dX5_missOf_21 : decode cX5_missOf 21 = .ok (.if_icmp .ge 49, 3) := by decide +kernel
theorem dX5_missOf_24 : decode cX5_missOf 24 = .ok (.lload_n 2, 1) := by decide +kernel
theorem dX5_missOf_25 : decode cX5_missOf 25 = .ok (.aload_n 0, 1) := by decide +kernel
theorem dX5_missOf_26 : decode cX5_missOf 26 = .ok (.iload 4, 2) := by decide +kernel
theorem dX5_missOf_28 : decode cX5_missOf 28 = .ok (.invokevirtual 158, 3) := by decide +kernel
theorem dX5_missOf_31 : decode cX5_missOf 31 = .ok (.ifCond .eq 30, 3) := by decide +kernel
theorem dX5_missOf_34 : decode cX5_missOf 34 = .ok (.aload_n 0, 1) := by decide +kernel
theorem dX5_missOf_35 : decode cX5_missOf 35 = .ok (.aload_n 0, 1) := by decide +kernel
theorem dX5_missOf_36 : decode cX5_missOf 36 = .ok (.getfield 56, 3) := by decide +kernel
theorem dX5_missOf_39 : decode cX5_missOf 39 = .ok (.iload 4, 2) := by decide +kernel
theorem dX5_missOf_41 : decode cX5_missOf 41 = .ok (.iaload, 1) := by decide +kernel
theorem dX5_missOf_42 : decode cX5_missOf 42 = .ok (.iload 4, 2) := by decide +kernel
theorem dX5_missOf_44 : decode cX5_missOf 44 = .ok (.iload_n 1, 1) := by decide +kernel
theorem dX5_missOf_45 : decode cX5_missOf 45 = .ok (.invokevirtual 114, 3) := by decide +kernel
theorem dX5_missOf_48 : decode cX5_missOf 48 = .ok (.i2l, 1) := by decide +kernel
theorem dX5_missOf_49 : decode cX5_missOf 49 = .ok (.aload_n 0, 1) := by decide +kernel
theorem dX5_missOf_50 : decode cX5_missOf 50 = .ok (.getfield 71, 3) := by decide +kernel
theorem dX5_missOf_53 : decode cX5_missOf 53 = .ok (.iload 4, 2) := by decide +kernel
theorem dX5_missOf_55 : decode cX5_missOf 55 = .ok (.iaload, 1) := by decide +kernel
theorem dX5_missOf_56 : decode cX5_missOf 56 = .ok (.i2l, 1) := by decide +kernel
theorem dX5_missOf_57 : decode cX5_missOf 57 = .ok (.lmul, 1) := by decide +kernel
theorem dX5_missOf_58 : decode cX5_missOf 58 = .ok (.goto 4, 3) := by decide +kernel
theorem dX5_missOf_61 : decode cX5_missOf 61 = .ok (.lconst 0, 1) := by decide +kernel
theorem dX5_missOf_62 : decode cX5_missOf 62 = .ok (.lsub, 1) := by decide +kernel
theorem dX5_missOf_63 : decode cX5_missOf 63 = .ok (.lstore_n 2, 1) := by decide +kernel
theorem dX5_missOf_64 : decode cX5_missOf 64 = .ok (.iinc 4 1, 3) := by decide +kernel
theorem dX5_missOf_67 : decode cX5_missOf 67 = .ok (.goto (-52), 3) := by decide +kernel
theorem dX5_missOf_70 : decode cX5_missOf 70 = .ok (.lload_n 2, 1) := by decide +kernel
theorem dX5_missOf_71 : decode cX5_missOf 71 = .ok (.lreturn, 1) := by decide +kernel
set_option maxRecDepth 20000 in
theorem ggX5_dimOf_X5_lightOf : GoodIn wsX5_dimOf wsX5_lightOf := goodIn_r _ [9, 10, 11, 12, 13, 14, 15, 28, 29, 30, 31, 32, 33, 34, 35, 36, 37, 38, 39, 40, 41, 42, 43, 44, 45, 46, 47, 48, 49, 50, 51, 52, 53, 54, 55, 56, 57, 58, 59, 60, 61, 62, 63] (by decide +kernel) (by decide +kernel)
set_option maxRecDepth 20000 in
theorem gX5_dimOf_X5_lightOf : GoodIn wsX5_dimOf (wsV RX5 114 RX5 yX5_lightOf wsX5_lightOf) := goodIn_app (goodIn_of _ (by decide +kernel)) ggX5_dimOf_X5_lightOf
set_option maxRecDepth 20000 in
theorem ggX5_dimOf_X5_missOf : GoodIn wsX5_dimOf wsX5_missOf := goodIn_r _ [19, 20, 21, 22, 3, 1, 23, 24, 25, 8, 26, 27, 5, 6, 7, 9, 10, 11, 12, 13, 14, 15, 28, 29, 30, 31, 32, 33, 34, 35, 36, 37, 38, 39, 40, 41, 42, 43, 44, 45, 46, 47, 48, 49, 50, 51, 52, 53, 54, 55, 56, 57, 58, 59, 60, 61, 62, 63] (by decide +kernel) (by decide +kernel)
set_option maxRecDepth 20000 in
theorem gX5_dimOf_X5_missOf : GoodIn wsX5_dimOf (wsV RX5 161 RX5 yX5_missOf wsX5_missOf) := goodIn_app (goodIn_of _ (by decide +kernel)) ggX5_dimOf_X5_missOf
theorem dX5_dimOf_0 : decode cX5_dimOf 0 = .ok (.aload_n 0, 1) := by decide +kernel
theorem dX5_dimOf_1 : decode cX5_dimOf 1 = .ok (.getfield 71, 3) := by decide +kernel
theorem dX5_dimOf_4 : decode cX5_dimOf 4 = .ok (.iload_n 1, 1) := by decide +kernel
theorem dX5_dimOf_5 : decode cX5_dimOf 5 = .ok (.iconst 0, 1) := by decide +kernel
theorem dX5_dimOf_6 : decode cX5_dimOf 6 = .ok (.iastore, 1) := by decide +kernel
theorem dX5_dimOf_7 : decode cX5_dimOf 7 = .ok (.lconst 0, 1) := by decide +kernel
theorem dX5_dimOf_8 : decode cX5_dimOf 8 = .ok (.lstore_n 2, 1) := by decide +kernel
theorem dX5_dimOf_9 : decode cX5_dimOf 9 = .ok (.lconst 0, 1) := by decide +kernel
theorem dX5_dimOf_10 : decode cX5_dimOf 10 = .ok (.lstore 4, 2) := by decide +kernel
theorem dX5_dimOf_12 : decode cX5_dimOf 12 = .ok (.iconst 0, 1) := by decide +kernel
theorem dX5_dimOf_13 : decode cX5_dimOf 13 = .ok (.istore 6, 2) := by decide +kernel
theorem dX5_dimOf_15 : decode cX5_dimOf 15 = .ok (.iload 6, 2) := by decide +kernel
theorem dX5_dimOf_17 : decode cX5_dimOf 17 = .ok (.aload_n 0, 1) := by decide +kernel
theorem dX5_dimOf_18 : decode cX5_dimOf 18 = .ok (.getfield 93, 3) := by decide +kernel
theorem dX5_dimOf_21 : decode cX5_dimOf 21 = .ok (.if_icmp .ge 47, 3) := by decide +kernel
theorem dX5_dimOf_24 : decode cX5_dimOf 24 = .ok (.aload_n 0, 1) := by decide +kernel
theorem dX5_dimOf_25 : decode cX5_dimOf 25 = .ok (.aload_n 0, 1) := by decide +kernel
theorem dX5_dimOf_26 : decode cX5_dimOf 26 = .ok (.getfield 56, 3) := by decide +kernel
theorem dX5_dimOf_29 : decode cX5_dimOf 29 = .ok (.iload_n 1, 1) := by decide +kernel
theorem dX5_dimOf_30 : decode cX5_dimOf 30 = .ok (.iaload, 1) := by decide +kernel
theorem dX5_dimOf_31 : decode cX5_dimOf 31 = .ok (.iload_n 1, 1) := by decide +kernel
theorem dX5_dimOf_32 : decode cX5_dimOf 32 = .ok (.iload 6, 2) := by decide +kernel
theorem dX5_dimOf_34 : decode cX5_dimOf 34 = .ok (.invokevirtual 114, 3) := by decide +kernel
theorem dX5_dimOf_37 : decode cX5_dimOf 37 = .ok (.i2l, 1) := by decide +kernel
theorem dX5_dimOf_38 : decode cX5_dimOf 38 = .ok (.lstore 7, 2) := by decide +kernel
theorem dX5_dimOf_40 : decode cX5_dimOf 40 = .ok (.lload_n 2, 1) := by decide +kernel
theorem dX5_dimOf_41 : decode cX5_dimOf 41 = .ok (.lload 7, 2) := by decide +kernel
theorem dX5_dimOf_43 : decode cX5_dimOf 43 = .ok (.aload_n 0, 1) := by decide +kernel
theorem dX5_dimOf_44 : decode cX5_dimOf 44 = .ok (.iload 6, 2) := by decide +kernel
theorem dX5_dimOf_46 : decode cX5_dimOf 46 = .ok (.invokevirtual 161, 3) := by decide +kernel
theorem dX5_dimOf_49 : decode cX5_dimOf 49 = .ok (.lmul, 1) := by decide +kernel
theorem dX5_dimOf_50 : decode cX5_dimOf 50 = .ok (.ladd, 1) := by decide +kernel
theorem dX5_dimOf_51 : decode cX5_dimOf 51 = .ok (.lstore_n 2, 1) := by decide +kernel
theorem dX5_dimOf_52 : decode cX5_dimOf 52 = .ok (.lload 4, 2) := by decide +kernel
theorem dX5_dimOf_54 : decode cX5_dimOf 54 = .ok (.lload 7, 2) := by decide +kernel
theorem dX5_dimOf_56 : decode cX5_dimOf 56 = .ok (.lload 7, 2) := by decide +kernel
theorem dX5_dimOf_58 : decode cX5_dimOf 58 = .ok (.lmul, 1) := by decide +kernel
theorem dX5_dimOf_59 : decode cX5_dimOf 59 = .ok (.ladd, 1) := by decide +kernel
theorem dX5_dimOf_60 : decode cX5_dimOf 60 = .ok (.lstore 4, 2) := by decide +kernel
theorem dX5_dimOf_62 : decode cX5_dimOf 62 = .ok (.iinc 6 1, 3) := by decide +kernel
theorem dX5_dimOf_65 : decode cX5_dimOf 65 = .ok (.goto (-50), 3) := by decide +kernel
theorem dX5_dimOf_68 : decode cX5_dimOf 68 = .ok (.iconst 0, 1) := by decide +kernel
theorem dX5_dimOf_69 : decode cX5_dimOf 69 = .ok (.istore 6, 2) := by decide +kernel
theorem dX5_dimOf_71 : decode cX5_dimOf 71 = .ok (.iload 6, 2) := by decide +kernel
theorem dX5_dimOf_73 : decode cX5_dimOf 73 = .ok (.bipush 100, 2) := by decide +kernel
theorem dX5_dimOf_75 : decode cX5_dimOf 75 = .ok (.if_icmp .ge 32, 3) := by decide +kernel
theorem dX5_dimOf_78 : decode cX5_dimOf 78 = .ok (.ldc2_w 165, 3) := by decide +kernel
theorem dX5_dimOf_81 : decode cX5_dimOf 81 = .ok (.iload 6, 2) := by decide +kernel
theorem dX5_dimOf_83 : decode cX5_dimOf 83 = .ok (.i2l, 1) := by decide +kernel
theorem dX5_dimOf_84 : decode cX5_dimOf 84 = .ok (.lmul, 1) := by decide +kernel
theorem dX5_dimOf_85 : decode cX5_dimOf 85 = .ok (.lconst 1, 1) := by decide +kernel
theorem dX5_dimOf_86 : decode cX5_dimOf 86 = .ok (.ladd, 1) := by decide +kernel
theorem dX5_dimOf_87 : decode cX5_dimOf 87 = .ok (.lload 4, 2) := by decide +kernel
theorem dX5_dimOf_89 : decode cX5_dimOf 89 = .ok (.lmul, 1) := by decide +kernel
theorem dX5_dimOf_90 : decode cX5_dimOf 90 = .ok (.ldc2_w 165, 3) := by decide +kernel
theorem dX5_dimOf_93 : decode cX5_dimOf 93 = .ok (.lload_n 2, 1) := by decide +kernel
theorem dX5_dimOf_94 : decode cX5_dimOf 94 = .ok (.lmul, 1) := by decide +kernel
theorem dX5_dimOf_95 : decode cX5_dimOf 95 = .ok (.lsub, 1) := by decide +kernel
theorem dX5_dimOf_96 : decode cX5_dimOf 96 = .ok (.lconst 0, 1) := by decide +kernel
theorem dX5_dimOf_97 : decode cX5_dimOf 97 = .ok (.lcmp, 1) := by decide +kernel
theorem dX5_dimOf_98 : decode cX5_dimOf 98 = .ok (.ifCond .ge 9, 3) := by decide +kernel
theorem dX5_dimOf_101 : decode cX5_dimOf 101 = .ok (.iinc 6 1, 3) := by decide +kernel
theorem dX5_dimOf_104 : decode cX5_dimOf 104 = .ok (.goto (-33), 3) := by decide +kernel
theorem dX5_dimOf_107 : decode cX5_dimOf 107 = .ok (.iload 6, 2) := by decide +kernel
theorem dX5_dimOf_109 : decode cX5_dimOf 109 = .ok (.ireturn, 1) := by decide +kernel
set_option maxRecDepth 20000 in
theorem ggX5_sweep_X5_findBest : GoodIn wsX5_sweep wsX5_findBest := goodIn_r _ [7, 8, 9, 10, 2, 11, 12, 13, 14, 15, 16, 17, 6, 18, 19, 20, 21, 22, 23, 24, 25, 26, 27, 28, 29, 30, 31, 32, 33, 34, 35, 36, 37, 38, 39, 40, 41, 42, 43, 44, 45, 46, 47, 48, 64, 65, 66, 67, 68, 69, 70, 71, 72, 73, 74, 75, 76, 77, 78, 79, 80, 81, 82, 83, 84, 85, 86, 87, 88, 89, 90, 91, 92, 93, 94, 95, 96, 97, 98, 99] (by decide +kernel) (by decide +kernel)
set_option maxRecDepth 20000 in
theorem gX5_sweep_X5_findBest : GoodIn wsX5_sweep (wsV RX5 146 RX5 yX5_findBest wsX5_findBest) := goodIn_app (goodIn_of _ (by decide +kernel)) ggX5_sweep_X5_findBest
set_option maxRecDepth 20000 in
theorem ggX5_sweep_X5_hasLamp : GoodIn wsX5_sweep wsX5_hasLamp := goodIn_r _ [52, 9, 44, 64, 65, 66, 67, 68, 69, 70, 71, 72, 73, 74, 75, 76, 77, 78, 79, 80, 81, 82, 83, 84, 85, 86, 87, 88, 89, 90, 91, 92, 93, 94, 95, 96, 97, 98, 99] (by decide +kernel) (by decide +kernel)
set_option maxRecDepth 20000 in
theorem gX5_sweep_X5_hasLamp : GoodIn wsX5_sweep (wsV RX5 158 RX5 yX5_hasLamp wsX5_hasLamp) := goodIn_app (goodIn_of _ (by decide +kernel)) ggX5_sweep_X5_hasLamp
set_option maxRecDepth 20000 in
theorem ggX5_sweep_X5_dimOf : GoodIn wsX5_sweep wsX5_dimOf := goodIn_r _ [56, 1, 11, 44, 57, 15, 16, 17, 6, 18, 19, 20, 21, 22, 23, 24, 58, 59, 60, 61, 62, 63, 2, 49, 50, 51, 52, 9, 64, 65, 66, 67, 68, 69, 70, 71, 72, 73, 74, 75, 76, 77, 78, 79, 80, 81, 82, 83, 84, 85, 86, 87, 88, 89, 90, 91, 92, 93, 94, 95, 96, 97, 98, 99] (by decide +kernel) (by decide +kernel)
set_option maxRecDepth 20000 in
theorem gX5_sweep_X5_dimOf : GoodIn wsX5_sweep (wsV RX5 167 RX5 yX5_dimOf wsX5_dimOf) := goodIn_app (goodIn_of _ (by decide +kernel)) ggX5_sweep_X5_dimOf
theorem dX5_sweep_0 : decode cX5_sweep 0 = .ok (.aload_n 0, 1) := by decide +kernel
theorem dX5_sweep_1 : decode cX5_sweep 1 = .ok (.invokevirtual 146, 3) := by decide +kernel
theorem dX5_sweep_4 : decode cX5_sweep 4 = .ok (.iconst 0, 1) := by decide +kernel
theorem dX5_sweep_5 : decode cX5_sweep 5 = .ok (.istore_n 1, 1) := by decide +kernel
theorem dX5_sweep_6 : decode cX5_sweep 6 = .ok (.iconst 0, 1) := by decide +kernel
theorem dX5_sweep_7 : decode cX5_sweep 7 = .ok (.istore_n 2, 1) := by decide +kernel
theorem dX5_sweep_8 : decode cX5_sweep 8 = .ok (.iload_n 2, 1) := by decide +kernel
theorem dX5_sweep_9 : decode cX5_sweep 9 = .ok (.bipush 7, 2) := by decide +kernel
theorem dX5_sweep_11 : decode cX5_sweep 11 = .ok (.if_icmp .ge 42, 3) := by decide +kernel
theorem dX5_sweep_14 : decode cX5_sweep 14 = .ok (.aload_n 0, 1) := by decide +kernel
theorem dX5_sweep_15 : decode cX5_sweep 15 = .ok (.getfield 71, 3) := by decide +kernel
theorem dX5_sweep_18 : decode cX5_sweep 18 = .ok (.iload_n 2, 1) := by decide +kernel
theorem dX5_sweep_19 : decode cX5_sweep 19 = .ok (.iconst 0, 1) := by decide +kernel
theorem dX5_sweep_20 : decode cX5_sweep 20 = .ok (.iastore, 1) := by decide +kernel
theorem dX5_sweep_21 : decode cX5_sweep 21 = .ok (.iload_n 1, 1) := by decide +kernel
theorem dX5_sweep_22 : decode cX5_sweep 22 = .ok (.ifCond .ne 19, 3) := by decide +kernel
theorem dX5_sweep_25 : decode cX5_sweep 25 = .ok (.iload_n 2, 1) := by decide +kernel
theorem dX5_sweep_26 : decode cX5_sweep 26 = .ok (.aload_n 0, 1) := by decide +kernel
theorem dX5_sweep_27 : decode cX5_sweep 27 = .ok (.getfield 90, 3) := by decide +kernel
theorem dX5_sweep_30 : decode cX5_sweep 30 = .ok (.if_icmp .ge 15, 3) := by decide +kernel
theorem dX5_sweep_33 : decode cX5_sweep 33 = .ok (.aload_n 0, 1) := by decide +kernel
theorem dX5_sweep_34 : decode cX5_sweep 34 = .ok (.iload_n 2, 1) := by decide +kernel
theorem dX5_sweep_35 : decode cX5_sweep 35 = .ok (.invokevirtual 158, 3) := by decide +kernel
theorem dX5_sweep_38 : decode cX5_sweep 38 = .ok (.ifCond .eq 7, 3) := by decide +kernel
theorem dX5_sweep_41 : decode cX5_sweep 41 = .ok (.iconst 1, 1) := by decide +kernel
theorem dX5_sweep_42 : decode cX5_sweep 42 = .ok (.goto 4, 3) := by decide +kernel
theorem dX5_sweep_45 : decode cX5_sweep 45 = .ok (.iconst 0, 1) := by decide +kernel
theorem dX5_sweep_46 : decode cX5_sweep 46 = .ok (.istore_n 1, 1) := by decide +kernel
theorem dX5_sweep_47 : decode cX5_sweep 47 = .ok (.iinc 2 1, 3) := by decide +kernel
theorem dX5_sweep_50 : decode cX5_sweep 50 = .ok (.goto (-42), 3) := by decide +kernel
theorem dX5_sweep_53 : decode cX5_sweep 53 = .ok (.iconst 0, 1) := by decide +kernel
theorem dX5_sweep_54 : decode cX5_sweep 54 = .ok (.istore_n 2, 1) := by decide +kernel
theorem dX5_sweep_55 : decode cX5_sweep 55 = .ok (.iload_n 1, 1) := by decide +kernel
theorem dX5_sweep_56 : decode cX5_sweep 56 = .ok (.istore_n 3, 1) := by decide +kernel
theorem dX5_sweep_57 : decode cX5_sweep 57 = .ok (.iload_n 3, 1) := by decide +kernel
theorem dX5_sweep_58 : decode cX5_sweep 58 = .ok (.ifCond .eq 88, 3) := by decide +kernel
theorem dX5_sweep_61 : decode cX5_sweep 61 = .ok (.iload_n 2, 1) := by decide +kernel
theorem dX5_sweep_62 : decode cX5_sweep 62 = .ok (.bipush 20, 2) := by decide +kernel
theorem dX5_sweep_64 : decode cX5_sweep 64 = .ok (.if_icmp .ge 82, 3) := by decide +kernel
theorem dX5_sweep_67 : decode cX5_sweep 67 = .ok (.iconst 0, 1) := by decide +kernel
theorem dX5_sweep_68 : decode cX5_sweep 68 = .ok (.istore_n 3, 1) := by decide +kernel
theorem dX5_sweep_69 : decode cX5_sweep 69 = .ok (.iinc 2 1, 3) := by decide +kernel
theorem dX5_sweep_72 : decode cX5_sweep 72 = .ok (.iconst 0, 1) := by decide +kernel
theorem dX5_sweep_73 : decode cX5_sweep 73 = .ok (.istore 4, 2) := by decide +kernel
theorem dX5_sweep_75 : decode cX5_sweep 75 = .ok (.iload 4, 2) := by decide +kernel
theorem dX5_sweep_77 : decode cX5_sweep 77 = .ok (.aload_n 0, 1) := by decide +kernel
theorem dX5_sweep_78 : decode cX5_sweep 78 = .ok (.getfield 90, 3) := by decide +kernel
theorem dX5_sweep_81 : decode cX5_sweep 81 = .ok (.if_icmp .ge 62, 3) := by decide +kernel
theorem dX5_sweep_84 : decode cX5_sweep 84 = .ok (.aload_n 0, 1) := by decide +kernel
theorem dX5_sweep_85 : decode cX5_sweep 85 = .ok (.iload 4, 2) := by decide +kernel
theorem dX5_sweep_87 : decode cX5_sweep 87 = .ok (.invokevirtual 158, 3) := by decide +kernel
theorem dX5_sweep_90 : decode cX5_sweep 90 = .ok (.ifCond .eq 47, 3) := by decide +kernel
theorem dX5_sweep_93 : decode cX5_sweep 93 = .ok (.aload_n 0, 1) := by decide +kernel
theorem dX5_sweep_94 : decode cX5_sweep 94 = .ok (.getfield 71, 3) := by decide +kernel
theorem dX5_sweep_97 : decode cX5_sweep 97 = .ok (.iload 4, 2) := by decide +kernel
theorem dX5_sweep_99 : decode cX5_sweep 99 = .ok (.iaload, 1) := by decide +kernel
theorem dX5_sweep_100 : decode cX5_sweep 100 = .ok (.istore 5, 2) := by decide +kernel
theorem dX5_sweep_102 : decode cX5_sweep 102 = .ok (.aload_n 0, 1) := by decide +kernel
theorem dX5_sweep_103 : decode cX5_sweep 103 = .ok (.getfield 71, 3) := by decide +kernel
theorem dX5_sweep_106 : decode cX5_sweep 106 = .ok (.iload 4, 2) := by decide +kernel
theorem dX5_sweep_108 : decode cX5_sweep 108 = .ok (.aload_n 0, 1) := by decide +kernel
theorem dX5_sweep_109 : decode cX5_sweep 109 = .ok (.iload 4, 2) := by decide +kernel
theorem dX5_sweep_111 : decode cX5_sweep 111 = .ok (.invokevirtual 167, 3) := by decide +kernel
theorem dX5_sweep_114 : decode cX5_sweep 114 = .ok (.iastore, 1) := by decide +kernel
theorem dX5_sweep_115 : decode cX5_sweep 115 = .ok (.iload_n 3, 1) := by decide +kernel
theorem dX5_sweep_116 : decode cX5_sweep 116 = .ok (.ifCond .ne 15, 3) := by decide +kernel
theorem dX5_sweep_119 : decode cX5_sweep 119 = .ok (.aload_n 0, 1) := by decide +kernel
theorem dX5_sweep_120 : decode cX5_sweep 120 = .ok (.getfield 71, 3) := by decide +kernel
theorem dX5_sweep_123 : decode cX5_sweep 123 = .ok (.iload 4, 2) := by decide +kernel
theorem dX5_sweep_125 : decode cX5_sweep 125 = .ok (.iaload, 1) := by decide +kernel
theorem dX5_sweep_126 : decode cX5_sweep 126 = .ok (.iload 5, 2) := by decide +kernel
theorem dX5_sweep_128 : decode cX5_sweep 128 = .ok (.if_icmp .eq 7, 3) := by decide +kernel
theorem dX5_sweep_131 : decode cX5_sweep 131 = .ok (.iconst 1, 1) := by decide +kernel
theorem dX5_sweep_132 : decode cX5_sweep 132 = .ok (.goto 4, 3) := by decide +kernel
theorem dX5_sweep_135 : decode cX5_sweep 135 = .ok (.iconst 0, 1) := by decide +kernel
theorem dX5_sweep_136 : decode cX5_sweep 136 = .ok (.istore_n 3, 1) := by decide +kernel
theorem dX5_sweep_137 : decode cX5_sweep 137 = .ok (.iinc 4 1, 3) := by decide +kernel
theorem dX5_sweep_140 : decode cX5_sweep 140 = .ok (.goto (-65), 3) := by decide +kernel
theorem dX5_sweep_143 : decode cX5_sweep 143 = .ok (.goto (-86), 3) := by decide +kernel
theorem dX5_sweep_146 : decode cX5_sweep 146 = .ok (.iload_n 2, 1) := by decide +kernel
theorem dX5_sweep_147 : decode cX5_sweep 147 = .ok (.ireturn, 1) := by decide +kernel
set_option maxRecDepth 20000 in
theorem ggX5_scene_X5_sweep : GoodIn wsX5_scene wsX5_sweep := goodIn_r _ [6, 7, 8, 9, 10, 11, 5, 12, 13, 14, 15, 16, 17, 18, 19, 20, 21, 22, 23, 24, 25, 26, 27, 28, 29, 30, 31, 32, 33, 34, 35, 36, 37, 38, 39, 40, 41, 42, 43, 44, 45, 46, 47, 48, 49, 50, 51, 52, 53, 54, 55, 56, 57, 58, 59, 60, 61, 62, 63, 64, 65, 66, 67, 68, 69, 70, 71, 72, 73, 74, 75, 76, 77, 78, 79, 80, 81, 82, 83, 84, 85, 86, 87, 88, 89, 90, 91, 92, 93, 94, 95, 96, 97, 98, 99, 100, 101, 102, 103, 104] (by decide +kernel) (by decide +kernel)
set_option maxRecDepth 20000 in
theorem gX5_scene_X5_sweep : GoodIn wsX5_scene (wsV RX5 170 RX5 yX5_sweep wsX5_sweep) := goodIn_app (goodIn_of _ (by decide +kernel)) ggX5_scene_X5_sweep
theorem dX5_scene_0 : decode cX5_scene 0 = .ok (.aload_n 0, 1) := by decide +kernel
theorem dX5_scene_1 : decode cX5_scene 1 = .ok (.iconst 0, 1) := by decide +kernel
theorem dX5_scene_2 : decode cX5_scene 2 = .ok (.putfield 80, 3) := by decide +kernel
theorem dX5_scene_5 : decode cX5_scene 5 = .ok (.aload_n 0, 1) := by decide +kernel
theorem dX5_scene_6 : decode cX5_scene 6 = .ok (.invokevirtual 170, 3) := by decide +kernel
theorem dX5_scene_9 : decode cX5_scene 9 = .ok (.ireturn, 1) := by decide +kernel
set_option maxRecDepth 20000 in
theorem ggX5_dim_X5_isPlace : GoodIn wsX5_dim wsX5_isPlace := goodIn_r _ [7, 8, 9, 10, 6, 11, 76, 77, 78, 79, 80, 81, 82, 83, 84, 85, 86, 87, 88, 89, 90, 91, 92, 93, 94, 95, 96, 97, 98, 99, 100, 101, 102, 103, 104, 105, 106, 107, 108, 109, 110, 111] (by decide +kernel) (by decide +kernel)
set_option maxRecDepth 20000 in
theorem gX5_dim_X5_isPlace : GoodIn wsX5_dim (wsV RX5 104 RX5 yX5_isPlace wsX5_isPlace) := goodIn_app (goodIn_of _ (by decide +kernel)) ggX5_dim_X5_isPlace
set_option maxRecDepth 20000 in
theorem ggX5_dim_X5_sweep : GoodIn wsX5_dim wsX5_sweep := goodIn_r _ [15, 2, 8, 16, 17, 18, 6, 19, 20, 21, 22, 23, 24, 25, 26, 27, 28, 29, 30, 31, 32, 33, 34, 35, 36, 37, 38, 39, 40, 41, 42, 43, 44, 45, 46, 47, 48, 49, 50, 51, 52, 53, 54, 55, 56, 57, 58, 59, 60, 61, 62, 63, 64, 65, 66, 67, 68, 69, 70, 71, 72, 73, 74, 75, 76, 77, 78, 79, 80, 81, 82, 83, 84, 85, 86, 87, 88, 89, 90, 91, 92, 93, 94, 95, 96, 97, 98, 99, 100, 101, 102, 103, 104, 105, 106, 107, 108, 109, 110, 111] (by decide +kernel) (by decide +kernel)
set_option maxRecDepth 20000 in
theorem gX5_dim_X5_sweep : GoodIn wsX5_dim (wsV RX5 170 RX5 yX5_sweep wsX5_sweep) := goodIn_app (goodIn_of _ (by decide +kernel)) ggX5_dim_X5_sweep
set_option maxRecDepth 20000 in
theorem ggX5_dim_X5_hasLamp : GoodIn wsX5_dim wsX5_hasLamp := goodIn_r _ [64, 21, 56, 76, 77, 78, 79, 80, 81, 82, 83, 84, 85, 86, 87, 88, 89, 90, 91, 92, 93, 94, 95, 96, 97, 98, 99, 100, 101, 102, 103, 104, 105, 106, 107, 108, 109, 110, 111] (by decide +kernel) (by decide +kernel)
set_option maxRecDepth 20000 in
theorem gX5_dim_X5_hasLamp : GoodIn wsX5_dim (wsV RX5 158 RX5 yX5_hasLamp wsX5_hasLamp) := goodIn_app (goodIn_of _ (by decide +kernel)) ggX5_dim_X5_hasLamp
theorem dX5_dim_0 : decode cX5_dim 0 = .ok (.aload_n 0, 1) := by decide +kernel
theorem dX5_dim_1 : decode cX5_dim 1 = .ok (.aload_n 0, 1) := by decide +kernel
theorem dX5_dim_2 : decode cX5_dim 2 = .ok (.iload_n 1, 1) := by decide +kernel
theorem dX5_dim_3 : decode cX5_dim 3 = .ok (.invokevirtual 104, 3) := by decide +kernel
theorem dX5_dim_6 : decode cX5_dim 6 = .ok (.ifCond .eq 7, 3) := by decide +kernel
theorem dX5_dim_9 : decode cX5_dim 9 = .ok (.iconst 0, 1) := by decide +kernel
theorem dX5_dim_10 : decode cX5_dim 10 = .ok (.goto 4, 3) := by decide +kernel
theorem dX5_dim_13 : decode cX5_dim 13 = .ok (.iconst 1, 1) := by decide +kernel
theorem dX5_dim_14 : decode cX5_dim 14 = .ok (.putfield 80, 3) := by decide +kernel
theorem dX5_dim_17 : decode cX5_dim 17 = .ok (.aload_n 0, 1) := by decide +kernel
theorem dX5_dim_18 : decode cX5_dim 18 = .ok (.getfield 80, 3) := by decide +kernel
theorem dX5_dim_21 : decode cX5_dim 21 = .ok (.ifCond .le 5, 3) := by decide +kernel
theorem dX5_dim_24 : decode cX5_dim 24 = .ok (.iconst 0, 1) := by decide +kernel
theorem dX5_dim_25 : decode cX5_dim 25 = .ok (.ireturn, 1) := by decide +kernel
theorem dX5_dim_26 : decode cX5_dim 26 = .ok (.aload_n 0, 1) := by decide +kernel
theorem dX5_dim_27 : decode cX5_dim 27 = .ok (.invokevirtual 170, 3) := by decide +kernel
theorem dX5_dim_30 : decode cX5_dim 30 = .ok (.pop, 1) := by decide +kernel
theorem dX5_dim_31 : decode cX5_dim 31 = .ok (.aload_n 0, 1) := by decide +kernel
theorem dX5_dim_32 : decode cX5_dim 32 = .ok (.iload_n 1, 1) := by decide +kernel
theorem dX5_dim_33 : decode cX5_dim 33 = .ok (.invokevirtual 158, 3) := by decide +kernel
theorem dX5_dim_36 : decode cX5_dim 36 = .ok (.ifCond .eq 12, 3) := by decide +kernel
theorem dX5_dim_39 : decode cX5_dim 39 = .ok (.aload_n 0, 1) := by decide +kernel
theorem dX5_dim_40 : decode cX5_dim 40 = .ok (.getfield 71, 3) := by decide +kernel
theorem dX5_dim_43 : decode cX5_dim 43 = .ok (.iload_n 1, 1) := by decide +kernel
theorem dX5_dim_44 : decode cX5_dim 44 = .ok (.iaload, 1) := by decide +kernel
theorem dX5_dim_45 : decode cX5_dim 45 = .ok (.goto 4, 3) := by decide +kernel
theorem dX5_dim_48 : decode cX5_dim 48 = .ok (.iconst (-1), 1) := by decide +kernel
theorem dX5_dim_49 : decode cX5_dim 49 = .ok (.ireturn, 1) := by decide +kernel
set_option maxRecDepth 20000 in
theorem ggX5_miss_X5_isPoint : GoodIn wsX5_miss wsX5_isPoint := goodIn_r _ [6, 7, 8, 9, 5, 10, 76, 77, 78, 79, 80, 81, 82, 83, 84, 85, 86, 87, 88, 89, 90, 91, 92, 93, 94, 95, 96, 97, 98, 99, 100, 101, 102, 103, 104, 105, 106, 107, 108, 109, 110, 111] (by decide +kernel) (by decide +kernel)
set_option maxRecDepth 20000 in
theorem gX5_miss_X5_isPoint : GoodIn wsX5_miss (wsV RX5 111 RX5 yX5_isPoint wsX5_isPoint) := goodIn_app (goodIn_of _ (by decide +kernel)) ggX5_miss_X5_isPoint
set_option maxRecDepth 20000 in
theorem ggX5_miss_X5_sweep : GoodIn wsX5_miss wsX5_sweep := goodIn_r _ [14, 15, 16, 17, 18, 19, 5, 20, 21, 22, 23, 7, 24, 25, 26, 27, 28, 29, 30, 31, 32, 33, 34, 35, 36, 37, 38, 39, 40, 41, 42, 43, 44, 45, 46, 47, 48, 49, 50, 51, 52, 53, 54, 55, 56, 57, 58, 59, 60, 61, 62, 63, 64, 65, 66, 67, 68, 69, 70, 71, 72, 73, 74, 75, 76, 77, 78, 79, 80, 81, 82, 83, 84, 85, 86, 87, 88, 89, 90, 91, 92, 93, 94, 95, 96, 97, 98, 99, 100, 101, 102, 103, 104, 105, 106, 107, 108, 109, 110, 111] (by decide +kernel) (by decide +kernel)
set_option maxRecDepth 20000 in
theorem gX5_miss_X5_sweep : GoodIn wsX5_miss (wsV RX5 170 RX5 yX5_sweep wsX5_sweep) := goodIn_app (goodIn_of _ (by decide +kernel)) ggX5_miss_X5_sweep
set_option maxRecDepth 20000 in
theorem ggX5_miss_X5_missOf : GoodIn wsX5_miss wsX5_missOf := goodIn_r _ [73, 74, 75, 16, 56, 15, 61, 62, 63, 5, 64, 22, 27, 28, 29, 30, 31, 32, 33, 34, 35, 36, 76, 77, 78, 79, 80, 81, 82, 83, 84, 85, 86, 87, 88, 89, 90, 91, 92, 93, 94, 95, 96, 97, 98, 99, 100, 101, 102, 103, 104, 105, 106, 107, 108, 109, 110, 111] (by decide +kernel) (by decide +kernel)
set_option maxRecDepth 20000 in
theorem gX5_miss_X5_missOf : GoodIn wsX5_miss (wsV RX5 161 RX5 yX5_missOf wsX5_missOf) := goodIn_app (goodIn_of _ (by decide +kernel)) ggX5_miss_X5_missOf
theorem dX5_miss_0 : decode cX5_miss 0 = .ok (.aload_n 0, 1) := by decide +kernel
theorem dX5_miss_1 : decode cX5_miss 1 = .ok (.aload_n 0, 1) := by decide +kernel
theorem dX5_miss_2 : decode cX5_miss 2 = .ok (.iload_n 1, 1) := by decide +kernel
theorem dX5_miss_3 : decode cX5_miss 3 = .ok (.invokevirtual 111, 3) := by decide +kernel
theorem dX5_miss_6 : decode cX5_miss 6 = .ok (.ifCond .eq 7, 3) := by decide +kernel
theorem dX5_miss_9 : decode cX5_miss 9 = .ok (.iconst 0, 1) := by decide +kernel
theorem dX5_miss_10 : decode cX5_miss 10 = .ok (.goto 4, 3) := by decide +kernel
theorem dX5_miss_13 : decode cX5_miss 13 = .ok (.iconst 1, 1) := by decide +kernel
theorem dX5_miss_14 : decode cX5_miss 14 = .ok (.putfield 80, 3) := by decide +kernel
theorem dX5_miss_17 : decode cX5_miss 17 = .ok (.aload_n 0, 1) := by decide +kernel
theorem dX5_miss_18 : decode cX5_miss 18 = .ok (.getfield 80, 3) := by decide +kernel
theorem dX5_miss_21 : decode cX5_miss 21 = .ok (.ifCond .le 5, 3) := by decide +kernel
theorem dX5_miss_24 : decode cX5_miss 24 = .ok (.lconst 0, 1) := by decide +kernel
theorem dX5_miss_25 : decode cX5_miss 25 = .ok (.lreturn, 1) := by decide +kernel
theorem dX5_miss_26 : decode cX5_miss 26 = .ok (.aload_n 0, 1) := by decide +kernel
theorem dX5_miss_27 : decode cX5_miss 27 = .ok (.invokevirtual 170, 3) := by decide +kernel
theorem dX5_miss_30 : decode cX5_miss 30 = .ok (.pop, 1) := by decide +kernel
theorem dX5_miss_31 : decode cX5_miss 31 = .ok (.aload_n 0, 1) := by decide +kernel
theorem dX5_miss_32 : decode cX5_miss 32 = .ok (.iload_n 1, 1) := by decide +kernel
theorem dX5_miss_33 : decode cX5_miss 33 = .ok (.invokevirtual 161, 3) := by decide +kernel
theorem dX5_miss_36 : decode cX5_miss 36 = .ok (.lreturn, 1) := by decide +kernel
set_option maxRecDepth 20000 in
theorem ggX5_sensor_X5_isPlace : GoodIn wsX5_sensor wsX5_isPlace := goodIn_r _ [7, 8, 9, 10, 6, 11, 24, 25, 26, 27, 28, 29, 30, 31, 32, 33, 34, 35, 36, 37, 38, 39, 40, 41, 42, 43, 44, 45, 46, 47, 48, 49, 50, 51, 52, 53, 54, 55, 56, 57, 58, 59] (by decide +kernel) (by decide +kernel)
set_option maxRecDepth 20000 in
theorem gX5_sensor_X5_isPlace : GoodIn wsX5_sensor (wsV RX5 104 RX5 yX5_isPlace wsX5_isPlace) := goodIn_app (goodIn_of _ (by decide +kernel)) ggX5_sensor_X5_isPlace
set_option maxRecDepth 20000 in
theorem ggX5_sensor_X5_isPoint : GoodIn wsX5_sensor wsX5_isPoint := goodIn_r _ [15, 16, 9, 10, 6, 11, 24, 25, 26, 27, 28, 29, 30, 31, 32, 33, 34, 35, 36, 37, 38, 39, 40, 41, 42, 43, 44, 45, 46, 47, 48, 49, 50, 51, 52, 53, 54, 55, 56, 57, 58, 59] (by decide +kernel) (by decide +kernel)
set_option maxRecDepth 20000 in
theorem gX5_sensor_X5_isPoint : GoodIn wsX5_sensor (wsV RX5 111 RX5 yX5_isPoint wsX5_isPoint) := goodIn_app (goodIn_of _ (by decide +kernel)) ggX5_sensor_X5_isPoint
set_option maxRecDepth 20000 in
theorem ggX5_sensor_X5_renew : GoodIn wsX5_sensor wsX5_renew := goodIn_r _ [20, 21, 22, 23, 24, 25, 26, 27, 28, 29, 30, 31, 32, 33, 34, 35, 36, 37, 38, 39, 40, 41, 42, 43, 44, 45, 46, 47, 48, 49, 50, 51, 52, 53, 54, 55, 56, 57, 58, 59] (by decide +kernel) (by decide +kernel)
set_option maxRecDepth 20000 in
theorem gX5_sensor_X5_renew : GoodIn wsX5_sensor (wsV RX5 101 RX5 yX5_renew wsX5_renew) := goodIn_app (goodIn_of _ (by decide +kernel)) ggX5_sensor_X5_renew
theorem dX5_sensor_0 : decode cX5_sensor 0 = .ok (.aload_n 0, 1) := by decide +kernel
theorem dX5_sensor_1 : decode cX5_sensor 1 = .ok (.aload_n 0, 1) := by decide +kernel
theorem dX5_sensor_2 : decode cX5_sensor 2 = .ok (.iload_n 1, 1) := by decide +kernel
theorem dX5_sensor_3 : decode cX5_sensor 3 = .ok (.invokevirtual 104, 3) := by decide +kernel
theorem dX5_sensor_6 : decode cX5_sensor 6 = .ok (.ifCond .eq 20, 3) := by decide +kernel
theorem dX5_sensor_9 : decode cX5_sensor 9 = .ok (.aload_n 0, 1) := by decide +kernel
theorem dX5_sensor_10 : decode cX5_sensor 10 = .ok (.iload_n 2, 1) := by decide +kernel
theorem dX5_sensor_11 : decode cX5_sensor 11 = .ok (.invokevirtual 111, 3) := by decide +kernel
theorem dX5_sensor_14 : decode cX5_sensor 14 = .ok (.ifCond .ne 8, 3) := by decide +kernel
theorem dX5_sensor_17 : decode cX5_sensor 17 = .ok (.iload_n 2, 1) := by decide +kernel
theorem dX5_sensor_18 : decode cX5_sensor 18 = .ok (.iconst (-1), 1) := by decide +kernel
theorem dX5_sensor_19 : decode cX5_sensor 19 = .ok (.if_icmp .ne 7, 3) := by decide +kernel
theorem dX5_sensor_22 : decode cX5_sensor 22 = .ok (.iconst 0, 1) := by decide +kernel
theorem dX5_sensor_23 : decode cX5_sensor 23 = .ok (.goto 4, 3) := by decide +kernel
theorem dX5_sensor_26 : decode cX5_sensor 26 = .ok (.iconst 1, 1) := by decide +kernel
theorem dX5_sensor_27 : decode cX5_sensor 27 = .ok (.putfield 80, 3) := by decide +kernel
theorem dX5_sensor_30 : decode cX5_sensor 30 = .ok (.aload_n 0, 1) := by decide +kernel
theorem dX5_sensor_31 : decode cX5_sensor 31 = .ok (.getfield 80, 3) := by decide +kernel
theorem dX5_sensor_34 : decode cX5_sensor 34 = .ok (.ifCond .ne 14, 3) := by decide +kernel
theorem dX5_sensor_37 : decode cX5_sensor 37 = .ok (.aload_n 0, 1) := by decide +kernel
theorem dX5_sensor_38 : decode cX5_sensor 38 = .ok (.getfield 31, 3) := by decide +kernel
theorem dX5_sensor_41 : decode cX5_sensor 41 = .ok (.iload_n 1, 1) := by decide +kernel
theorem dX5_sensor_42 : decode cX5_sensor 42 = .ok (.iload_n 2, 1) := by decide +kernel
theorem dX5_sensor_43 : decode cX5_sensor 43 = .ok (.iastore, 1) := by decide +kernel
theorem dX5_sensor_44 : decode cX5_sensor 44 = .ok (.aload_n 0, 1) := by decide +kernel
theorem dX5_sensor_45 : decode cX5_sensor 45 = .ok (.invokevirtual 101, 3) := by decide +kernel
theorem dX5_sensor_48 : decode cX5_sensor 48 = .ok (.return_, 1) := by decide +kernel
set_option maxRecDepth 20000 in
theorem ggX5_daylight_X5_isPoint : GoodIn wsX5_daylight wsX5_isPoint := goodIn_r _ [8, 9, 10, 11, 7, 12, 13, 14, 15, 16, 17, 18, 19, 20, 21, 22, 23, 24, 25, 26, 27, 28, 29, 30, 31, 32, 33, 34, 35, 36, 37, 38, 39, 40, 41, 42, 43, 44, 45, 46, 47, 48] (by decide +kernel) (by decide +kernel)
set_option maxRecDepth 20000 in
theorem gX5_daylight_X5_isPoint : GoodIn wsX5_daylight (wsV RX5 111 RX5 yX5_isPoint wsX5_isPoint) := goodIn_app (goodIn_of _ (by decide +kernel)) ggX5_daylight_X5_isPoint
set_option maxRecDepth 20000 in
theorem ggX5_daylight_X5_isIn : GoodIn wsX5_daylight wsX5_isIn := goodIn_r _ [12] (by decide +kernel) (by decide +kernel)
set_option maxRecDepth 20000 in
theorem gX5_daylight_X5_isIn : GoodIn wsX5_daylight (va_wsS RX5 86 yX5_isIn wsX5_isIn) := goodIn_app (goodIn_of _ (by decide +kernel)) ggX5_daylight_X5_isIn
theorem dX5_daylight_0 : decode cX5_daylight 0 = .ok (.aload_n 0, 1) := by decide +kernel
theorem dX5_daylight_1 : decode cX5_daylight 1 = .ok (.aload_n 0, 1) := by decide +kernel
theorem dX5_daylight_2 : decode cX5_daylight 2 = .ok (.iload_n 1, 1) := by decide +kernel
theorem dX5_daylight_3 : decode cX5_daylight 3 = .ok (.invokevirtual 111, 3) := by decide +kernel
theorem dX5_daylight_6 : decode cX5_daylight 6 = .ok (.ifCond .eq 17, 3) := by decide +kernel
theorem dX5_daylight_9 : decode cX5_daylight 9 = .ok (.iload_n 2, 1) := by decide +kernel
theorem dX5_daylight_10 : decode cX5_daylight 10 = .ok (.iconst 0, 1) := by decide +kernel
theorem dX5_daylight_11 : decode cX5_daylight 11 = .ok (.ldc 100, 2) := by decide +kernel
theorem dX5_daylight_13 : decode cX5_daylight 13 = .ok (.invokestatic 86, 3) := by decide +kernel
theorem dX5_daylight_16 : decode cX5_daylight 16 = .ok (.ifCond .eq 7, 3) := by decide +kernel
theorem dX5_daylight_19 : decode cX5_daylight 19 = .ok (.iconst 0, 1) := by decide +kernel
theorem dX5_daylight_20 : decode cX5_daylight 20 = .ok (.goto 4, 3) := by decide +kernel
theorem dX5_daylight_23 : decode cX5_daylight 23 = .ok (.iconst 1, 1) := by decide +kernel
theorem dX5_daylight_24 : decode cX5_daylight 24 = .ok (.putfield 80, 3) := by decide +kernel
theorem dX5_daylight_27 : decode cX5_daylight 27 = .ok (.aload_n 0, 1) := by decide +kernel
theorem dX5_daylight_28 : decode cX5_daylight 28 = .ok (.getfield 80, 3) := by decide +kernel
theorem dX5_daylight_31 : decode cX5_daylight 31 = .ok (.ifCond .le 5, 3) := by decide +kernel
theorem dX5_daylight_34 : decode cX5_daylight 34 = .ok (.iconst 0, 1) := by decide +kernel
theorem dX5_daylight_35 : decode cX5_daylight 35 = .ok (.ireturn, 1) := by decide +kernel
theorem dX5_daylight_36 : decode cX5_daylight 36 = .ok (.aload_n 0, 1) := by decide +kernel
theorem dX5_daylight_37 : decode cX5_daylight 37 = .ok (.getfield 46, 3) := by decide +kernel
theorem dX5_daylight_40 : decode cX5_daylight 40 = .ok (.iload_n 1, 1) := by decide +kernel
theorem dX5_daylight_41 : decode cX5_daylight 41 = .ok (.iaload, 1) := by decide +kernel
theorem dX5_daylight_42 : decode cX5_daylight 42 = .ok (.istore_n 3, 1) := by decide +kernel
theorem dX5_daylight_43 : decode cX5_daylight 43 = .ok (.aload_n 0, 1) := by decide +kernel
theorem dX5_daylight_44 : decode cX5_daylight 44 = .ok (.getfield 46, 3) := by decide +kernel
theorem dX5_daylight_47 : decode cX5_daylight 47 = .ok (.iload_n 1, 1) := by decide +kernel
theorem dX5_daylight_48 : decode cX5_daylight 48 = .ok (.iload_n 2, 1) := by decide +kernel
theorem dX5_daylight_49 : decode cX5_daylight 49 = .ok (.iastore, 1) := by decide +kernel
theorem dX5_daylight_50 : decode cX5_daylight 50 = .ok (.iload_n 3, 1) := by decide +kernel
theorem dX5_daylight_51 : decode cX5_daylight 51 = .ok (.ireturn, 1) := by decide +kernel
set_option maxRecDepth 20000 in
theorem ggX5_step_X5_isIn : GoodIn wsX5_step wsX5_isIn := goodIn_r _ [6] (by decide +kernel) (by decide +kernel)
set_option maxRecDepth 20000 in
theorem gX5_step_X5_isIn : GoodIn wsX5_step (va_wsS RX5 86 yX5_isIn wsX5_isIn) := goodIn_app (goodIn_of _ (by decide +kernel)) ggX5_step_X5_isIn
theorem dX5_step_0 : decode cX5_step 0 = .ok (.aload_n 0, 1) := by decide +kernel
theorem dX5_step_1 : decode cX5_step 1 = .ok (.iload_n 1, 1) := by decide +kernel
theorem dX5_step_2 : decode cX5_step 2 = .ok (.iconst 1, 1) := by decide +kernel
theorem dX5_step_3 : decode cX5_step 3 = .ok (.bipush 100, 2) := by decide +kernel
theorem dX5_step_5 : decode cX5_step 5 = .ok (.invokestatic 86, 3) := by decide +kernel
theorem dX5_step_8 : decode cX5_step 8 = .ok (.ifCond .eq 7, 3) := by decide +kernel
theorem dX5_step_11 : decode cX5_step 11 = .ok (.iconst 0, 1) := by decide +kernel
theorem dX5_step_12 : decode cX5_step 12 = .ok (.goto 4, 3) := by decide +kernel
theorem dX5_step_15 : decode cX5_step 15 = .ok (.iconst 1, 1) := by decide +kernel
theorem dX5_step_16 : decode cX5_step 16 = .ok (.putfield 80, 3) := by decide +kernel
theorem dX5_step_19 : decode cX5_step 19 = .ok (.aload_n 0, 1) := by decide +kernel
theorem dX5_step_20 : decode cX5_step 20 = .ok (.getfield 80, 3) := by decide +kernel
theorem dX5_step_23 : decode cX5_step 23 = .ok (.ifCond .le 5, 3) := by decide +kernel
theorem dX5_step_26 : decode cX5_step 26 = .ok (.iconst 0, 1) := by decide +kernel
theorem dX5_step_27 : decode cX5_step 27 = .ok (.ireturn, 1) := by decide +kernel
theorem dX5_step_28 : decode cX5_step 28 = .ok (.aload_n 0, 1) := by decide +kernel
theorem dX5_step_29 : decode cX5_step 29 = .ok (.getfield 53, 3) := by decide +kernel
theorem dX5_step_32 : decode cX5_step 32 = .ok (.istore_n 2, 1) := by decide +kernel
theorem dX5_step_33 : decode cX5_step 33 = .ok (.aload_n 0, 1) := by decide +kernel
theorem dX5_step_34 : decode cX5_step 34 = .ok (.iload_n 1, 1) := by decide +kernel
theorem dX5_step_35 : decode cX5_step 35 = .ok (.putfield 53, 3) := by decide +kernel
theorem dX5_step_38 : decode cX5_step 38 = .ok (.iload_n 2, 1) := by decide +kernel
theorem dX5_step_39 : decode cX5_step 39 = .ok (.ireturn, 1) := by decide +kernel
set_option maxRecDepth 20000 in
theorem ggX5_needOf_X5_lightOf : GoodIn wsX5_needOf wsX5_lightOf := goodIn_r _ [10, 11, 12, 13, 14, 15, 16, 17, 18, 19, 20, 21, 22, 23, 24, 25, 26, 27, 28, 29, 30, 31, 32, 33, 34, 35, 36, 37, 38, 39, 40, 41, 42, 43, 44, 45, 46, 47, 48, 49, 50, 51, 52] (by decide +kernel) (by decide +kernel)
set_option maxRecDepth 20000 in
theorem gX5_needOf_X5_lightOf : GoodIn wsX5_needOf (wsV RX5 114 RX5 yX5_lightOf wsX5_lightOf) := goodIn_app (goodIn_of _ (by decide +kernel)) ggX5_needOf_X5_lightOf
theorem dX5_needOf_0 : decode cX5_needOf 0 = .ok (.aload_n 0, 1) := by decide +kernel
theorem dX5_needOf_1 : decode cX5_needOf 1 = .ok (.getfield 31, 3) := by decide +kernel
theorem dX5_needOf_4 : decode cX5_needOf 4 = .ok (.iload_n 1, 1) := by decide +kernel
theorem dX5_needOf_5 : decode cX5_needOf 5 = .ok (.iaload, 1) := by decide +kernel
theorem dX5_needOf_6 : decode cX5_needOf 6 = .ok (.istore_n 2, 1) := by decide +kernel
theorem dX5_needOf_7 : decode cX5_needOf 7 = .ok (.iload_n 2, 1) := by decide +kernel
theorem dX5_needOf_8 : decode cX5_needOf 8 = .ok (.ifCond .ge 6, 3) := by decide +kernel
theorem dX5_needOf_11 : decode cX5_needOf 11 = .ok (.bipush 100, 2) := by decide +kernel
theorem dX5_needOf_13 : decode cX5_needOf 13 = .ok (.ireturn, 1) := by decide +kernel
theorem dX5_needOf_14 : decode cX5_needOf 14 = .ok (.aload_n 0, 1) := by decide +kernel
theorem dX5_needOf_15 : decode cX5_needOf 15 = .ok (.aload_n 0, 1) := by decide +kernel
theorem dX5_needOf_16 : decode cX5_needOf 16 = .ok (.getfield 56, 3) := by decide +kernel
theorem dX5_needOf_19 : decode cX5_needOf 19 = .ok (.iload_n 1, 1) := by decide +kernel
theorem dX5_needOf_20 : decode cX5_needOf 20 = .ok (.iaload, 1) := by decide +kernel
theorem dX5_needOf_21 : decode cX5_needOf 21 = .ok (.iload_n 1, 1) := by decide +kernel
theorem dX5_needOf_22 : decode cX5_needOf 22 = .ok (.iload_n 2, 1) := by decide +kernel
theorem dX5_needOf_23 : decode cX5_needOf 23 = .ok (.invokevirtual 114, 3) := by decide +kernel
theorem dX5_needOf_26 : decode cX5_needOf 26 = .ok (.i2l, 1) := by decide +kernel
theorem dX5_needOf_27 : decode cX5_needOf 27 = .ok (.lstore_n 3, 1) := by decide +kernel
theorem dX5_needOf_28 : decode cX5_needOf 28 = .ok (.iconst 0, 1) := by decide +kernel
theorem dX5_needOf_29 : decode cX5_needOf 29 = .ok (.istore 5, 2) := by decide +kernel
theorem dX5_needOf_31 : decode cX5_needOf 31 = .ok (.iload 5, 2) := by decide +kernel
theorem dX5_needOf_33 : decode cX5_needOf 33 = .ok (.bipush 100, 2) := by decide +kernel
theorem dX5_needOf_35 : decode cX5_needOf 35 = .ok (.if_icmp .ge 37, 3) := by decide +kernel
theorem dX5_needOf_38 : decode cX5_needOf 38 = .ok (.aload_n 0, 1) := by decide +kernel
theorem dX5_needOf_39 : decode cX5_needOf 39 = .ok (.getfield 46, 3) := by decide +kernel
theorem dX5_needOf_42 : decode cX5_needOf 42 = .ok (.iload_n 2, 1) := by decide +kernel
theorem dX5_needOf_43 : decode cX5_needOf 43 = .ok (.iaload, 1) := by decide +kernel
theorem dX5_needOf_44 : decode cX5_needOf 44 = .ok (.i2l, 1) := by decide +kernel
theorem dX5_needOf_45 : decode cX5_needOf 45 = .ok (.lload_n 3, 1) := by decide +kernel
theorem dX5_needOf_46 : decode cX5_needOf 46 = .ok (.iload 5, 2) := by decide +kernel
theorem dX5_needOf_48 : decode cX5_needOf 48 = .ok (.i2l, 1) := by decide +kernel
theorem dX5_needOf_49 : decode cX5_needOf 49 = .ok (.lmul, 1) := by decide +kernel
theorem dX5_needOf_50 : decode cX5_needOf 50 = .ok (.ldc2_w 156, 3) := by decide +kernel
theorem dX5_needOf_53 : decode cX5_needOf 53 = .ok (.ldiv, 1) := by decide +kernel
theorem dX5_needOf_54 : decode cX5_needOf 54 = .ok (.ladd, 1) := by decide +kernel
theorem dX5_needOf_55 : decode cX5_needOf 55 = .ok (.aload_n 0, 1) := by decide +kernel
theorem dX5_needOf_56 : decode cX5_needOf 56 = .ok (.getfield 40, 3) := by decide +kernel
theorem dX5_needOf_59 : decode cX5_needOf 59 = .ok (.iload_n 2, 1) := by decide +kernel
theorem dX5_needOf_60 : decode cX5_needOf 60 = .ok (.iaload, 1) := by decide +kernel
theorem dX5_needOf_61 : decode cX5_needOf 61 = .ok (.i2l, 1) := by decide +kernel
theorem dX5_needOf_62 : decode cX5_needOf 62 = .ok (.lcmp, 1) := by decide +kernel
theorem dX5_needOf_63 : decode cX5_needOf 63 = .ok (.ifCond .ge 9, 3) := by decide +kernel
theorem dX5_needOf_66 : decode cX5_needOf 66 = .ok (.iinc 5 1, 3) := by decide +kernel
theorem dX5_needOf_69 : decode cX5_needOf 69 = .ok (.goto (-38), 3) := by decide +kernel
theorem dX5_needOf_72 : decode cX5_needOf 72 = .ok (.iload 5, 2) := by decide +kernel
theorem dX5_needOf_74 : decode cX5_needOf 74 = .ok (.ireturn, 1) := by decide +kernel
theorem dX5_minute_0 : decode cX5_minute 0 = .ok (.aload_n 0, 1) := by decide +kernel
theorem dX5_minute_1 : decode cX5_minute 1 = .ok (.getfield 56, 3) := by decide +kernel
theorem dX5_minute_4 : decode cX5_minute 4 = .ok (.iload_n 1, 1) := by decide +kernel
theorem dX5_minute_5 : decode cX5_minute 5 = .ok (.iaload, 1) := by decide +kernel
theorem dX5_minute_6 : decode cX5_minute 6 = .ok (.istore_n 3, 1) := by decide +kernel
theorem dX5_minute_7 : decode cX5_minute 7 = .ok (.iload_n 2, 1) := by decide +kernel
theorem dX5_minute_8 : decode cX5_minute 8 = .ok (.aload_n 0, 1) := by decide +kernel
theorem dX5_minute_9 : decode cX5_minute 9 = .ok (.getfield 74, 3) := by decide +kernel
theorem dX5_minute_12 : decode cX5_minute 12 = .ok (.iload_n 1, 1) := by decide +kernel
theorem dX5_minute_13 : decode cX5_minute 13 = .ok (.iaload, 1) := by decide +kernel
theorem dX5_minute_14 : decode cX5_minute 14 = .ok (.isub, 1) := by decide +kernel
theorem dX5_minute_15 : decode cX5_minute 15 = .ok (.istore 4, 2) := by decide +kernel
theorem dX5_minute_17 : decode cX5_minute 17 = .ok (.aload_n 0, 1) := by decide +kernel
theorem dX5_minute_18 : decode cX5_minute 18 = .ok (.getfield 74, 3) := by decide +kernel
theorem dX5_minute_21 : decode cX5_minute 21 = .ok (.iload_n 1, 1) := by decide +kernel
theorem dX5_minute_22 : decode cX5_minute 22 = .ok (.dup2, 1) := by decide +kernel
theorem dX5_minute_23 : decode cX5_minute 23 = .ok (.iaload, 1) := by decide +kernel
theorem dX5_minute_24 : decode cX5_minute 24 = .ok (.iload 4, 2) := by decide +kernel
theorem dX5_minute_26 : decode cX5_minute 26 = .ok (.aload_n 0, 1) := by decide +kernel
theorem dX5_minute_27 : decode cX5_minute 27 = .ok (.getfield 53, 3) := by decide +kernel
theorem dX5_minute_30 : decode cX5_minute 30 = .ok (.if_icmp .le 10, 3) := by decide +kernel
theorem dX5_minute_33 : decode cX5_minute 33 = .ok (.aload_n 0, 1) := by decide +kernel
theorem dX5_minute_34 : decode cX5_minute 34 = .ok (.getfield 53, 3) := by decide +kernel
theorem dX5_minute_37 : decode cX5_minute 37 = .ok (.goto 23, 3) := by decide +kernel
theorem dX5_minute_40 : decode cX5_minute 40 = .ok (.iload 4, 2) := by decide +kernel
theorem dX5_minute_42 : decode cX5_minute 42 = .ok (.aload_n 0, 1) := by decide +kernel
theorem dX5_minute_43 : decode cX5_minute 43 = .ok (.getfield 53, 3) := by decide +kernel
theorem dX5_minute_46 : decode cX5_minute 46 = .ok (.ineg, 1) := by decide +kernel
theorem dX5_minute_47 : decode cX5_minute 47 = .ok (.if_icmp .ge 11, 3) := by decide +kernel
theorem dX5_minute_50 : decode cX5_minute 50 = .ok (.aload_n 0, 1) := by decide +kernel
theorem dX5_minute_51 : decode cX5_minute 51 = .ok (.getfield 53, 3) := by decide +kernel
theorem dX5_minute_54 : decode cX5_minute 54 = .ok (.ineg, 1) := by decide +kernel
theorem dX5_minute_55 : decode cX5_minute 55 = .ok (.goto 5, 3) := by decide +kernel
theorem dX5_minute_58 : decode cX5_minute 58 = .ok (.iload 4, 2) := by decide +kernel
theorem dX5_minute_60 : decode cX5_minute 60 = .ok (.iadd, 1) := by decide +kernel
theorem dX5_minute_61 : decode cX5_minute 61 = .ok (.iastore, 1) := by decide +kernel
theorem dX5_minute_62 : decode cX5_minute 62 = .ok (.aload_n 0, 1) := by decide +kernel
theorem dX5_minute_63 : decode cX5_minute 63 = .ok (.getfield 74, 3) := by decide +kernel
theorem dX5_minute_66 : decode cX5_minute 66 = .ok (.iload_n 1, 1) := by decide +kernel
theorem dX5_minute_67 : decode cX5_minute 67 = .ok (.iaload, 1) := by decide +kernel
theorem dX5_minute_68 : decode cX5_minute 68 = .ok (.ifCond .le 64, 3) := by decide +kernel
theorem dX5_minute_71 : decode cX5_minute 71 = .ok (.aload_n 0, 1) := by decide +kernel
theorem dX5_minute_72 : decode cX5_minute 72 = .ok (.getfield 77, 3) := by decide +kernel
theorem dX5_minute_75 : decode cX5_minute 75 = .ok (.iload_n 1, 1) := by decide +kernel
theorem dX5_minute_76 : decode cX5_minute 76 = .ok (.iaload, 1) := by decide +kernel
theorem dX5_minute_77 : decode cX5_minute 77 = .ok (.bipush 60, 2) := by decide +kernel
theorem dX5_minute_79 : decode cX5_minute 79 = .ok (.aload_n 0, 1) := by decide +kernel
theorem dX5_minute_80 : decode cX5_minute 80 = .ok (.getfield 16, 3) := by decide +kernel
theorem dX5_minute_83 : decode cX5_minute 83 = .ok (.iload_n 3, 1) := by decide +kernel
theorem dX5_minute_84 : decode cX5_minute 84 = .ok (.iaload, 1) := by decide +kernel
theorem dX5_minute_85 : decode cX5_minute 85 = .ok (.imul, 1) := by decide +kernel
theorem dX5_minute_86 : decode cX5_minute 86 = .ok (.if_icmp .ne 36, 3) := by decide +kernel
theorem dX5_minute_89 : decode cX5_minute 89 = .ok (.aload_n 0, 1) := by decide +kernel
theorem dX5_minute_90 : decode cX5_minute 90 = .ok (.getfield 77, 3) := by decide +kernel
theorem dX5_minute_93 : decode cX5_minute 93 = .ok (.iload_n 1, 1) := by decide +kernel
theorem dX5_minute_94 : decode cX5_minute 94 = .ok (.iconst 0, 1) := by decide +kernel
theorem dX5_minute_95 : decode cX5_minute 95 = .ok (.iastore, 1) := by decide +kernel
theorem dX5_minute_96 : decode cX5_minute 96 = .ok (.aload_n 0, 1) := by decide +kernel
theorem dX5_minute_97 : decode cX5_minute 97 = .ok (.dup, 1) := by decide +kernel
theorem dX5_minute_98 : decode cX5_minute 98 = .ok (.getfield 173, 3) := by decide +kernel
end
section
theorem dX5_minute_101 : decode cX5_minute 101 = .ok (.aload_n 0, 1) := by decide +kernel
theorem dX5_minute_102 : decode cX5_minute 102 = .ok (.getfield 19, 3) := by decide +kernel
theorem dX5_minute_105 : decode cX5_minute 105 = .ok (.iload_n 3, 1) := by decide +kernel
theorem dX5_minute_106 : decode cX5_minute 106 = .ok (.iaload, 1) := by decide +kernel
theorem dX5_minute_107 : decode cX5_minute 107 = .ok (.i2l, 1) := by decide +kernel
theorem dX5_minute_108 : decode cX5_minute 108 = .ok (.ladd, 1) := by decide +kernel
theorem dX5_minute_109 : decode cX5_minute 109 = .ok (.putfield 173, 3) := by decide +kernel
theorem dX5_minute_112 : decode cX5_minute 112 = .ok (.aload_n 0, 1) := by decide +kernel
theorem dX5_minute_113 : decode cX5_minute 113 = .ok (.dup, 1) := by decide +kernel
theorem dX5_minute_114 : decode cX5_minute 114 = .ok (.getfield 176, 3) := by decide +kernel
theorem dX5_minute_117 : decode cX5_minute 117 = .ok (.lconst 1, 1) := by decide +kernel
theorem dX5_minute_118 : decode cX5_minute 118 = .ok (.ladd, 1) := by decide +kernel
theorem dX5_minute_119 : decode cX5_minute 119 = .ok (.putfield 176, 3) := by decide +kernel
theorem dX5_minute_122 : decode cX5_minute 122 = .ok (.aload_n 0, 1) := by decide +kernel
theorem dX5_minute_123 : decode cX5_minute 123 = .ok (.getfield 77, 3) := by decide +kernel
theorem dX5_minute_126 : decode cX5_minute 126 = .ok (.iload_n 1, 1) := by decide +kernel
theorem dX5_minute_127 : decode cX5_minute 127 = .ok (.dup2, 1) := by decide +kernel
theorem dX5_minute_128 : decode cX5_minute 128 = .ok (.iaload, 1) := by decide +kernel
theorem dX5_minute_129 : decode cX5_minute 129 = .ok (.iconst 1, 1) := by decide +kernel
theorem dX5_minute_130 : decode cX5_minute 130 = .ok (.iadd, 1) := by decide +kernel
theorem dX5_minute_131 : decode cX5_minute 131 = .ok (.iastore, 1) := by decide +kernel
theorem dX5_minute_132 : decode cX5_minute 132 = .ok (.aload_n 0, 1) := by decide +kernel
theorem dX5_minute_133 : decode cX5_minute 133 = .ok (.dup, 1) := by decide +kernel
theorem dX5_minute_134 : decode cX5_minute 134 = .ok (.getfield 179, 3) := by decide +kernel
theorem dX5_minute_137 : decode cX5_minute 137 = .ok (.aload_n 0, 1) := by decide +kernel
theorem dX5_minute_138 : decode cX5_minute 138 = .ok (.getfield 74, 3) := by decide +kernel
theorem dX5_minute_141 : decode cX5_minute 141 = .ok (.iload_n 1, 1) := by decide +kernel
theorem dX5_minute_142 : decode cX5_minute 142 = .ok (.iaload, 1) := by decide +kernel
theorem dX5_minute_143 : decode cX5_minute 143 = .ok (.i2l, 1) := by decide +kernel
theorem dX5_minute_144 : decode cX5_minute 144 = .ok (.aload_n 0, 1) := by decide +kernel
theorem dX5_minute_145 : decode cX5_minute 145 = .ok (.getfield 13, 3) := by decide +kernel
theorem dX5_minute_148 : decode cX5_minute 148 = .ok (.iload_n 3, 1) := by decide +kernel
theorem dX5_minute_149 : decode cX5_minute 149 = .ok (.iaload, 1) := by decide +kernel
theorem dX5_minute_150 : decode cX5_minute 150 = .ok (.i2l, 1) := by decide +kernel
theorem dX5_minute_151 : decode cX5_minute 151 = .ok (.lmul, 1) := by decide +kernel
theorem dX5_minute_152 : decode cX5_minute 152 = .ok (.ladd, 1) := by decide +kernel
theorem dX5_minute_153 : decode cX5_minute 153 = .ok (.putfield 179, 3) := by decide +kernel
theorem dX5_minute_156 : decode cX5_minute 156 = .ok (.return_, 1) := by decide +kernel
set_option maxRecDepth 20000 in
theorem ggX5_run_X5_isIn : GoodIn wsX5_run wsX5_isIn := goodIn_r _ [8] (by decide +kernel) (by decide +kernel)
set_option maxRecDepth 20000 in
theorem gX5_run_X5_isIn : GoodIn wsX5_run (va_wsS RX5 86 yX5_isIn wsX5_isIn) := goodIn_app (goodIn_of _ (by decide +kernel)) ggX5_run_X5_isIn
set_option maxRecDepth 20000 in
theorem ggX5_run_X5_findBest : GoodIn wsX5_run wsX5_findBest := goodIn_r _ [12, 13, 14, 15, 4, 16, 17, 18, 19, 20, 21, 22, 7, 23, 24, 25, 26, 27, 28, 29, 30, 31, 32, 33, 34, 35, 36, 37, 38, 39, 40, 41, 42, 43, 44, 45, 46, 47, 48, 49, 50, 51, 52, 53, 77, 78, 79, 80, 81, 82, 83, 84, 85, 86, 87, 88, 89, 90, 91, 92, 93, 94, 95, 96, 97, 98, 99, 100, 101, 102, 103, 104, 105, 106, 107, 108, 109, 110, 111, 112] (by decide +kernel) (by decide +kernel)
set_option maxRecDepth 20000 in
theorem gX5_run_X5_findBest : GoodIn wsX5_run (wsV RX5 146 RX5 yX5_findBest wsX5_findBest) := goodIn_app (goodIn_of _ (by decide +kernel)) ggX5_run_X5_findBest
set_option maxRecDepth 20000 in
theorem ggX5_run_X5_hasLamp : GoodIn wsX5_run wsX5_hasLamp := goodIn_r _ [57, 14, 49, 77, 78, 79, 80, 81, 82, 83, 84, 85, 86, 87, 88, 89, 90, 91, 92, 93, 94, 95, 96, 97, 98, 99, 100, 101, 102, 103, 104, 105, 106, 107, 108, 109, 110, 111, 112] (by decide +kernel) (by decide +kernel)
set_option maxRecDepth 20000 in
theorem gX5_run_X5_hasLamp : GoodIn wsX5_run (wsV RX5 158 RX5 yX5_hasLamp wsX5_hasLamp) := goodIn_app (goodIn_of _ (by decide +kernel)) ggX5_run_X5_hasLamp
set_option maxRecDepth 20000 in
theorem ggX5_run_X5_needOf : GoodIn wsX5_run wsX5_needOf := goodIn_r _ [61, 62, 49, 63, 64, 46, 20, 21, 22, 7, 23, 24, 25, 26, 27, 28, 29, 77, 78, 79, 80, 81, 82, 83, 84, 85, 86, 87, 88, 89, 90, 91, 92, 93, 94, 95, 96, 97, 98, 99, 100, 101, 102, 103, 104, 105, 106, 107, 108, 109, 110, 111, 112] (by decide +kernel) (by decide +kernel)
set_option maxRecDepth 20000 in
theorem gX5_run_X5_needOf : GoodIn wsX5_run (wsV RX5 185 RX5 yX5_needOf wsX5_needOf) := goodIn_app (goodIn_of _ (by decide +kernel)) ggX5_run_X5_needOf
set_option maxRecDepth 20000 in
theorem ggX5_run_X5_minute : GoodIn wsX5_run wsX5_minute := goodIn_r _ [68, 49, 69, 70, 71, 72, 73, 74, 75, 76, 40, 77, 78, 79, 80, 81, 82, 83, 84, 85, 86, 87, 88, 89, 90, 91, 92, 93, 94, 95, 96, 97, 98, 99, 100, 101, 102, 103, 104, 105, 106, 107, 108, 109, 110, 111, 112] (by decide +kernel) (by decide +kernel)
set_option maxRecDepth 20000 in
theorem gX5_run_X5_minute : GoodIn wsX5_run (wsV RX5 188 RX5 yX5_minute wsX5_minute) := goodIn_app (goodIn_of _ (by decide +kernel)) ggX5_run_X5_minute
theorem dX5_run_0 : decode cX5_run 0 = .ok (.aload_n 0, 1) := by decide +kernel
theorem dX5_run_1 : decode cX5_run 1 = .ok (.iload_n 1, 1) := by decide +kernel
theorem dX5_run_2 : decode cX5_run 2 = .ok (.iconst 1, 1) := by decide +kernel
theorem dX5_run_3 : decode cX5_run 3 = .ok (.sipush 10000, 3) := by decide +kernel
theorem dX5_run_6 : decode cX5_run 6 = .ok (.invokestatic 86, 3) := by decide +kernel
theorem dX5_run_9 : decode cX5_run 9 = .ok (.ifCond .ne 7, 3) := by decide +kernel
theorem dX5_run_12 : decode cX5_run 12 = .ok (.iconst 1, 1) := by decide +kernel
theorem dX5_run_13 : decode cX5_run 13 = .ok (.goto 19, 3) := by decide +kernel
theorem dX5_run_16 : decode cX5_run 16 = .ok (.aload_n 0, 1) := by decide +kernel
theorem dX5_run_17 : decode cX5_run 17 = .ok (.getfield 182, 3) := by decide +kernel
theorem dX5_run_20 : decode cX5_run 20 = .ok (.iload_n 1, 1) := by decide +kernel
theorem dX5_run_21 : decode cX5_run 21 = .ok (.iadd, 1) := by decide +kernel
theorem dX5_run_22 : decode cX5_run 22 = .ok (.ldc 155, 2) := by decide +kernel
theorem dX5_run_24 : decode cX5_run 24 = .ok (.if_icmp .le 7, 3) := by decide +kernel
theorem dX5_run_27 : decode cX5_run 27 = .ok (.iconst 2, 1) := by decide +kernel
theorem dX5_run_28 : decode cX5_run 28 = .ok (.goto 4, 3) := by decide +kernel
theorem dX5_run_31 : decode cX5_run 31 = .ok (.iconst 0, 1) := by decide +kernel
theorem dX5_run_32 : decode cX5_run 32 = .ok (.putfield 80, 3) := by decide +kernel
theorem dX5_run_35 : decode cX5_run 35 = .ok (.aload_n 0, 1) := by decide +kernel
theorem dX5_run_36 : decode cX5_run 36 = .ok (.getfield 80, 3) := by decide +kernel
theorem dX5_run_39 : decode cX5_run 39 = .ok (.ifCond .le 5, 3) := by decide +kernel
theorem dX5_run_42 : decode cX5_run 42 = .ok (.iconst 0, 1) := by decide +kernel
theorem dX5_run_43 : decode cX5_run 43 = .ok (.ireturn, 1) := by decide +kernel
theorem dX5_run_44 : decode cX5_run 44 = .ok (.aload_n 0, 1) := by decide +kernel
theorem dX5_run_45 : decode cX5_run 45 = .ok (.invokevirtual 146, 3) := by decide +kernel
theorem dX5_run_48 : decode cX5_run 48 = .ok (.iconst 0, 1) := by decide +kernel
theorem dX5_run_49 : decode cX5_run 49 = .ok (.istore_n 2, 1) := by decide +kernel
theorem dX5_run_50 : decode cX5_run 50 = .ok (.iload_n 2, 1) := by decide +kernel
theorem dX5_run_51 : decode cX5_run 51 = .ok (.aload_n 0, 1) := by decide +kernel
theorem dX5_run_52 : decode cX5_run 52 = .ok (.getfield 90, 3) := by decide +kernel
theorem dX5_run_55 : decode cX5_run 55 = .ok (.if_icmp .ge 44, 3) := by decide +kernel
theorem dX5_run_58 : decode cX5_run 58 = .ok (.aload_n 0, 1) := by decide +kernel
theorem dX5_run_59 : decode cX5_run 59 = .ok (.iload_n 2, 1) := by decide +kernel
theorem dX5_run_60 : decode cX5_run 60 = .ok (.invokevirtual 158, 3) := by decide +kernel
theorem dX5_run_63 : decode cX5_run 63 = .ok (.ifCond .eq 30, 3) := by decide +kernel
theorem dX5_run_66 : decode cX5_run 66 = .ok (.aload_n 0, 1) := by decide +kernel
theorem dX5_run_67 : decode cX5_run 67 = .ok (.iload_n 2, 1) := by decide +kernel
theorem dX5_run_68 : decode cX5_run 68 = .ok (.invokevirtual 185, 3) := by decide +kernel
theorem dX5_run_71 : decode cX5_run 71 = .ok (.istore_n 3, 1) := by decide +kernel
theorem dX5_run_72 : decode cX5_run 72 = .ok (.iconst 0, 1) := by decide +kernel
theorem dX5_run_73 : decode cX5_run 73 = .ok (.istore 4, 2) := by decide +kernel
theorem dX5_run_75 : decode cX5_run 75 = .ok (.iload 4, 2) := by decide +kernel
theorem dX5_run_77 : decode cX5_run 77 = .ok (.iload_n 1, 1) := by decide +kernel
theorem dX5_run_78 : decode cX5_run 78 = .ok (.if_icmp .ge 15, 3) := by decide +kernel
theorem dX5_run_81 : decode cX5_run 81 = .ok (.aload_n 0, 1) := by decide +kernel
theorem dX5_run_82 : decode cX5_run 82 = .ok (.iload_n 2, 1) := by decide +kernel
theorem dX5_run_83 : decode cX5_run 83 = .ok (.iload_n 3, 1) := by decide +kernel
theorem dX5_run_84 : decode cX5_run 84 = .ok (.invokevirtual 188, 3) := by decide +kernel
theorem dX5_run_87 : decode cX5_run 87 = .ok (.iinc 4 1, 3) := by decide +kernel
theorem dX5_run_90 : decode cX5_run 90 = .ok (.goto (-15), 3) := by decide +kernel
theorem dX5_run_93 : decode cX5_run 93 = .ok (.iinc 2 1, 3) := by decide +kernel
theorem dX5_run_96 : decode cX5_run 96 = .ok (.goto (-46), 3) := by decide +kernel
theorem dX5_run_99 : decode cX5_run 99 = .ok (.aload_n 0, 1) := by decide +kernel
theorem dX5_run_100 : decode cX5_run 100 = .ok (.dup, 1) := by decide +kernel
theorem dX5_run_101 : decode cX5_run 101 = .ok (.getfield 182, 3) := by decide +kernel
theorem dX5_run_104 : decode cX5_run 104 = .ok (.iload_n 1, 1) := by decide +kernel
theorem dX5_run_105 : decode cX5_run 105 = .ok (.iadd, 1) := by decide +kernel
theorem dX5_run_106 : decode cX5_run 106 = .ok (.putfield 182, 3) := by decide +kernel
theorem dX5_run_109 : decode cX5_run 109 = .ok (.aload_n 0, 1) := by decide +kernel
theorem dX5_run_110 : decode cX5_run 110 = .ok (.getfield 182, 3) := by decide +kernel
theorem dX5_run_113 : decode cX5_run 113 = .ok (.ireturn, 1) := by decide +kernel
set_option maxRecDepth 20000 in
theorem ggX5_own_X5_isPlace : GoodIn wsX5_own wsX5_isPlace := goodIn_r _ [8, 9, 10, 11, 7, 12, 62, 63, 64, 65, 66, 67, 68, 69, 70, 71, 72, 73, 74, 75, 76, 77, 78, 79, 80, 81, 82, 83, 84, 85, 86, 87, 88, 89, 90, 91, 92, 93, 94, 95, 96, 97] (by decide +kernel) (by decide +kernel)
set_option maxRecDepth 20000 in
theorem gX5_own_X5_isPlace : GoodIn wsX5_own (wsV RX5 104 RX5 yX5_isPlace wsX5_isPlace) := goodIn_app (goodIn_of _ (by decide +kernel)) ggX5_own_X5_isPlace
set_option maxRecDepth 20000 in
theorem ggX5_own_X5_isIn : GoodIn wsX5_own wsX5_isIn := goodIn_r _ [12] (by decide +kernel) (by decide +kernel)
set_option maxRecDepth 20000 in
theorem gX5_own_X5_isIn : GoodIn wsX5_own (va_wsS RX5 86 yX5_isIn wsX5_isIn) := goodIn_app (goodIn_of _ (by decide +kernel)) ggX5_own_X5_isIn
set_option maxRecDepth 20000 in
theorem ggX5_own_X5_findBest : GoodIn wsX5_own wsX5_findBest := goodIn_r _ [16, 17, 18, 19, 9, 20, 21, 22, 23, 24, 25, 26, 7, 27, 28, 29, 30, 31, 32, 33, 34, 35, 36, 37, 38, 39, 40, 41, 42, 43, 44, 45, 46, 47, 48, 49, 50, 51, 52, 53, 54, 55, 56, 57, 62, 63, 64, 65, 66, 67, 68, 69, 70, 71, 72, 73, 74, 75, 76, 77, 78, 79, 80, 81, 82, 83, 84, 85, 86, 87, 88, 89, 90, 91, 92, 93, 94, 95, 96, 97] (by decide +kernel) (by decide +kernel)
set_option maxRecDepth 20000 in
theorem gX5_own_X5_findBest : GoodIn wsX5_own (wsV RX5 146 RX5 yX5_findBest wsX5_findBest) := goodIn_app (goodIn_of _ (by decide +kernel)) ggX5_own_X5_findBest
set_option maxRecDepth 20000 in
theorem ggX5_own_X5_hasLamp : GoodIn wsX5_own wsX5_hasLamp := goodIn_r _ [61, 18, 53, 62, 63, 64, 65, 66, 67, 68, 69, 70, 71, 72, 73, 74, 75, 76, 77, 78, 79, 80, 81, 82, 83, 84, 85, 86, 87, 88, 89, 90, 91, 92, 93, 94, 95, 96, 97] (by decide +kernel) (by decide +kernel)
set_option maxRecDepth 20000 in
theorem gX5_own_X5_hasLamp : GoodIn wsX5_own (wsV RX5 158 RX5 yX5_hasLamp wsX5_hasLamp) := goodIn_app (goodIn_of _ (by decide +kernel)) ggX5_own_X5_hasLamp
theorem dX5_own_0 : decode cX5_own 0 = .ok (.aload_n 0, 1) := by decide +kernel
theorem dX5_own_1 : decode cX5_own 1 = .ok (.aload_n 0, 1) := by decide +kernel
theorem dX5_own_2 : decode cX5_own 2 = .ok (.iload_n 1, 1) := by decide +kernel
theorem dX5_own_3 : decode cX5_own 3 = .ok (.invokevirtual 104, 3) := by decide +kernel
theorem dX5_own_6 : decode cX5_own 6 = .ok (.ifCond .eq 16, 3) := by decide +kernel
theorem dX5_own_9 : decode cX5_own 9 = .ok (.iload_n 2, 1) := by decide +kernel
theorem dX5_own_10 : decode cX5_own 10 = .ok (.iconst 0, 1) := by decide +kernel
theorem dX5_own_11 : decode cX5_own 11 = .ok (.iconst 1, 1) := by decide +kernel
theorem dX5_own_12 : decode cX5_own 12 = .ok (.invokestatic 86, 3) := by decide +kernel
theorem dX5_own_15 : decode cX5_own 15 = .ok (.ifCond .eq 7, 3) := by decide +kernel
theorem dX5_own_18 : decode cX5_own 18 = .ok (.iconst 0, 1) := by decide +kernel
theorem dX5_own_19 : decode cX5_own 19 = .ok (.goto 4, 3) := by decide +kernel
theorem dX5_own_22 : decode cX5_own 22 = .ok (.iconst 1, 1) := by decide +kernel
theorem dX5_own_23 : decode cX5_own 23 = .ok (.putfield 80, 3) := by decide +kernel
theorem dX5_own_26 : decode cX5_own 26 = .ok (.aload_n 0, 1) := by decide +kernel
theorem dX5_own_27 : decode cX5_own 27 = .ok (.getfield 80, 3) := by decide +kernel
theorem dX5_own_30 : decode cX5_own 30 = .ok (.ifCond .le 5, 3) := by decide +kernel
theorem dX5_own_33 : decode cX5_own 33 = .ok (.iconst 0, 1) := by decide +kernel
theorem dX5_own_34 : decode cX5_own 34 = .ok (.ireturn, 1) := by decide +kernel
theorem dX5_own_35 : decode cX5_own 35 = .ok (.aload_n 0, 1) := by decide +kernel
theorem dX5_own_36 : decode cX5_own 36 = .ok (.invokevirtual 146, 3) := by decide +kernel
theorem dX5_own_39 : decode cX5_own 39 = .ok (.aload_n 0, 1) := by decide +kernel
theorem dX5_own_40 : decode cX5_own 40 = .ok (.iload_n 1, 1) := by decide +kernel
theorem dX5_own_41 : decode cX5_own 41 = .ok (.invokevirtual 158, 3) := by decide +kernel
theorem dX5_own_44 : decode cX5_own 44 = .ok (.ifCond .ne 7, 3) := by decide +kernel
theorem dX5_own_47 : decode cX5_own 47 = .ok (.iconst (-1), 1) := by decide +kernel
theorem dX5_own_48 : decode cX5_own 48 = .ok (.goto 22, 3) := by decide +kernel
theorem dX5_own_51 : decode cX5_own 51 = .ok (.iload_n 2, 1) := by decide +kernel
theorem dX5_own_52 : decode cX5_own 52 = .ok (.ifCond .ne 12, 3) := by decide +kernel
theorem dX5_own_55 : decode cX5_own 55 = .ok (.aload_n 0, 1) := by decide +kernel
theorem dX5_own_56 : decode cX5_own 56 = .ok (.getfield 74, 3) := by decide +kernel
theorem dX5_own_59 : decode cX5_own 59 = .ok (.iload_n 1, 1) := by decide +kernel
theorem dX5_own_60 : decode cX5_own 60 = .ok (.iaload, 1) := by decide +kernel
theorem dX5_own_61 : decode cX5_own 61 = .ok (.goto 9, 3) := by decide +kernel
theorem dX5_own_64 : decode cX5_own 64 = .ok (.aload_n 0, 1) := by decide +kernel
theorem dX5_own_65 : decode cX5_own 65 = .ok (.getfield 77, 3) := by decide +kernel
theorem dX5_own_68 : decode cX5_own 68 = .ok (.iload_n 1, 1) := by decide +kernel
theorem dX5_own_69 : decode cX5_own 69 = .ok (.iaload, 1) := by decide +kernel
theorem dX5_own_70 : decode cX5_own 70 = .ok (.ireturn, 1) := by decide +kernel
set_option maxRecDepth 20000 in
theorem ggX5_used_X5_isIn : GoodIn wsX5_used wsX5_isIn := goodIn_r _ [8] (by decide +kernel) (by decide +kernel)
set_option maxRecDepth 20000 in
theorem gX5_used_X5_isIn : GoodIn wsX5_used (va_wsS RX5 86 yX5_isIn wsX5_isIn) := goodIn_app (goodIn_of _ (by decide +kernel)) ggX5_used_X5_isIn
theorem dX5_used_0 : decode cX5_used 0 = .ok (.aload_n 0, 1) := by decide +kernel
theorem dX5_used_1 : decode cX5_used 1 = .ok (.iload_n 1, 1) := by decide +kernel
theorem dX5_used_2 : decode cX5_used 2 = .ok (.iconst 0, 1) := by decide +kernel
theorem dX5_used_3 : decode cX5_used 3 = .ok (.iconst 2, 1) := by decide +kernel
theorem dX5_used_4 : decode cX5_used 4 = .ok (.invokestatic 86, 3) := by decide +kernel
theorem dX5_used_7 : decode cX5_used 7 = .ok (.ifCond .eq 7, 3) := by decide +kernel
theorem dX5_used_10 : decode cX5_used 10 = .ok (.iconst 0, 1) := by decide +kernel
theorem dX5_used_11 : decode cX5_used 11 = .ok (.goto 4, 3) := by decide +kernel
theorem dX5_used_14 : decode cX5_used 14 = .ok (.iconst 1, 1) := by decide +kernel
theorem dX5_used_15 : decode cX5_used 15 = .ok (.putfield 80, 3) := by decide +kernel
theorem dX5_used_18 : decode cX5_used 18 = .ok (.aload_n 0, 1) := by decide +kernel
theorem dX5_used_19 : decode cX5_used 19 = .ok (.getfield 80, 3) := by decide +kernel
theorem dX5_used_22 : decode cX5_used 22 = .ok (.ifCond .le 7, 3) := by decide +kernel
theorem dX5_used_25 : decode cX5_used 25 = .ok (.lconst 0, 1) := by decide +kernel
theorem dX5_used_26 : decode cX5_used 26 = .ok (.goto 30, 3) := by decide +kernel
theorem dX5_used_29 : decode cX5_used 29 = .ok (.iload_n 1, 1) := by decide +kernel
theorem dX5_used_30 : decode cX5_used 30 = .ok (.ifCond .ne 10, 3) := by decide +kernel
theorem dX5_used_33 : decode cX5_used 33 = .ok (.aload_n 0, 1) := by decide +kernel
theorem dX5_used_34 : decode cX5_used 34 = .ok (.getfield 179, 3) := by decide +kernel
theorem dX5_used_37 : decode cX5_used 37 = .ok (.goto 19, 3) := by decide +kernel
theorem dX5_used_40 : decode cX5_used 40 = .ok (.iload_n 1, 1) := by decide +kernel
theorem dX5_used_41 : decode cX5_used 41 = .ok (.iconst 1, 1) := by decide +kernel
theorem dX5_used_42 : decode cX5_used 42 = .ok (.if_icmp .ne 10, 3) := by decide +kernel
theorem dX5_used_45 : decode cX5_used 45 = .ok (.aload_n 0, 1) := by decide +kernel
theorem dX5_used_46 : decode cX5_used 46 = .ok (.getfield 173, 3) := by decide +kernel
theorem dX5_used_49 : decode cX5_used 49 = .ok (.goto 7, 3) := by decide +kernel
theorem dX5_used_52 : decode cX5_used 52 = .ok (.aload_n 0, 1) := by decide +kernel
theorem dX5_used_53 : decode cX5_used 53 = .ok (.getfield 176, 3) := by decide +kernel
theorem dX5_used_56 : decode cX5_used 56 = .ok (.lreturn, 1) := by decide +kernel
theorem dJ9_max_7cf53_0 : decode cJ9_max_7cf53 0 = .ok (.iload_n 0, 1) := by decide +kernel
theorem dJ9_max_7cf53_1 : decode cJ9_max_7cf53 1 = .ok (.iload_n 1, 1) := by decide +kernel
theorem dJ9_max_7cf53_2 : decode cJ9_max_7cf53 2 = .ok (.if_icmp .lt 7, 3) := by decide +kernel
theorem dJ9_max_7cf53_5 : decode cJ9_max_7cf53 5 = .ok (.iload_n 0, 1) := by decide +kernel
theorem dJ9_max_7cf53_6 : decode cJ9_max_7cf53 6 = .ok (.goto 4, 3) := by decide +kernel
theorem dJ9_max_7cf53_9 : decode cJ9_max_7cf53 9 = .ok (.iload_n 1, 1) := by decide +kernel
theorem dJ9_max_7cf53_10 : decode cJ9_max_7cf53 10 = .ok (.ireturn, 1) := by decide +kernel
theorem dJ9_max_f86c9_0 : decode cJ9_max_f86c9 0 = .ok (.lload_n 0, 1) := by decide +kernel
theorem dJ9_max_f86c9_1 : decode cJ9_max_f86c9 1 = .ok (.lload_n 2, 1) := by decide +kernel
theorem dJ9_max_f86c9_2 : decode cJ9_max_f86c9 2 = .ok (.lcmp, 1) := by decide +kernel
theorem dJ9_max_f86c9_3 : decode cJ9_max_f86c9 3 = .ok (.ifCond .lt 7, 3) := by decide +kernel
theorem dJ9_max_f86c9_6 : decode cJ9_max_f86c9 6 = .ok (.lload_n 0, 1) := by decide +kernel
theorem dJ9_max_f86c9_7 : decode cJ9_max_f86c9 7 = .ok (.goto 4, 3) := by decide +kernel
theorem dJ9_max_f86c9_10 : decode cJ9_max_f86c9 10 = .ok (.lload_n 2, 1) := by decide +kernel
theorem dJ9_max_f86c9_11 : decode cJ9_max_f86c9 11 = .ok (.lreturn, 1) := by decide +kernel
theorem dJ9_min_7cf53_0 : decode cJ9_min_7cf53 0 = .ok (.iload_n 0, 1) := by decide +kernel
theorem dJ9_min_7cf53_1 : decode cJ9_min_7cf53 1 = .ok (.iload_n 1, 1) := by decide +kernel
theorem dJ9_min_7cf53_2 : decode cJ9_min_7cf53 2 = .ok (.if_icmp .gt 7, 3) := by decide +kernel
theorem dJ9_min_7cf53_5 : decode cJ9_min_7cf53 5 = .ok (.iload_n 0, 1) := by decide +kernel
theorem dJ9_min_7cf53_6 : decode cJ9_min_7cf53 6 = .ok (.goto 4, 3) := by decide +kernel
theorem dJ9_min_7cf53_9 : decode cJ9_min_7cf53 9 = .ok (.iload_n 1, 1) := by decide +kernel
theorem dJ9_min_7cf53_10 : decode cJ9_min_7cf53 10 = .ok (.ireturn, 1) := by decide +kernel
theorem dJ9_min_f86c9_0 : decode cJ9_min_f86c9 0 = .ok (.lload_n 0, 1) := by decide +kernel
theorem dJ9_min_f86c9_1 : decode cJ9_min_f86c9 1 = .ok (.lload_n 2, 1) := by decide +kernel
theorem dJ9_min_f86c9_2 : decode cJ9_min_f86c9 2 = .ok (.lcmp, 1) := by decide +kernel
theorem dJ9_min_f86c9_3 : decode cJ9_min_f86c9 3 = .ok (.ifCond .gt 7, 3) := by decide +kernel
theorem dJ9_min_f86c9_6 : decode cJ9_min_f86c9 6 = .ok (.lload_n 0, 1) := by decide +kernel
theorem dJ9_min_f86c9_7 : decode cJ9_min_f86c9 7 = .ok (.goto 4, 3) := by decide +kernel
theorem dJ9_min_f86c9_10 : decode cJ9_min_f86c9 10 = .ok (.lload_n 2, 1) := by decide +kernel
theorem dJ9_min_f86c9_11 : decode cJ9_min_f86c9 11 = .ok (.lreturn, 1) := by decide +kernel
theorem dJ7_fill_53178_0 : decode cJ7_fill_53178 0 = .ok (.iconst 0, 1) := by decide +kernel
theorem dJ7_fill_53178_1 : decode cJ7_fill_53178 1 = .ok (.istore_n 2, 1) := by decide +kernel
theorem dJ7_fill_53178_2 : decode cJ7_fill_53178 2 = .ok (.aload_n 0, 1) := by decide +kernel
theorem dJ7_fill_53178_3 : decode cJ7_fill_53178 3 = .ok (.arraylength, 1) := by decide +kernel
theorem dJ7_fill_53178_4 : decode cJ7_fill_53178 4 = .ok (.istore_n 3, 1) := by decide +kernel
theorem dJ7_fill_53178_5 : decode cJ7_fill_53178 5 = .ok (.iload_n 2, 1) := by decide +kernel
theorem dJ7_fill_53178_6 : decode cJ7_fill_53178 6 = .ok (.iload_n 3, 1) := by decide +kernel
theorem dJ7_fill_53178_7 : decode cJ7_fill_53178 7 = .ok (.if_icmp .ge 13, 3) := by decide +kernel
theorem dJ7_fill_53178_10 : decode cJ7_fill_53178 10 = .ok (.aload_n 0, 1) := by decide +kernel
theorem dJ7_fill_53178_11 : decode cJ7_fill_53178 11 = .ok (.iload_n 2, 1) := by decide +kernel
theorem dJ7_fill_53178_12 : decode cJ7_fill_53178 12 = .ok (.iload_n 1, 1) := by decide +kernel
theorem dJ7_fill_53178_13 : decode cJ7_fill_53178 13 = .ok (.iastore, 1) := by decide +kernel
theorem dJ7_fill_53178_14 : decode cJ7_fill_53178 14 = .ok (.iinc 2 1, 3) := by decide +kernel
theorem dJ7_fill_53178_17 : decode cJ7_fill_53178 17 = .ok (.goto (-12), 3) := by decide +kernel
theorem dJ7_fill_53178_20 : decode cJ7_fill_53178 20 = .ok (.return_, 1) := by decide +kernel
set_option maxRecDepth 20000 in
theorem ggL_kind_X4_kind : GoodIn wsL_kind wsX4_kind := goodIn_ca (goodIn_ca (goodIn_r _ [7, 8, 9, 10, 11, 12, 6, 13, 14, 15, 16, 17, 18, 19, 20, 21, 22, 23, 24, 25, 26, 27, 28, 29, 30, 31, 32, 33, 34, 35, 36, 37, 38, 39, 40, 41, 42, 43, 44, 45, 46, 47, 48, 49, 50, 51, 52, 53, 54, 55, 56, 57, 58, 59, 60, 61, 62, 63, 64, 65, 66, 67, 68, 69, 70, 71, 72, 73, 74, 75, 76, 77, 78, 79, 80, 81, 82, 83, 84, 85, 86, 87, 88, 89, 90, 91, 92, 93, 94, 95, 96, 97, 98] (by decide +kernel) (by decide +kernel)) (goodIn_sub (fun _ h => List.mem_cons_of_mem _ (List.mem_append_left _ (List.mem_append_right _ h))) (by decide +kernel))) (goodIn_sub (fun _ h => List.mem_cons_of_mem _ (List.mem_append_right _ h)) (by decide +kernel))
set_option maxRecDepth 20000 in
theorem gL_kind_X4_kind : GoodIn wsL_kind (wsV RL 7 RX4 yX4_kind wsX4_kind) := goodIn_app (goodIn_of _ (by decide +kernel)) ggL_kind_X4_kind
theorem dL_kind_0 : decode cL_kind 0 = .ok (.aload 5, 2) := by decide +kernel
theorem dL_kind_2 : decode cL_kind 2 = .ok (.iconst 0, 1) := by decide +kernel
theorem dL_kind_3 : decode cL_kind 3 = .ok (.aload_n 0, 1) := by decide +kernel
theorem dL_kind_4 : decode cL_kind 4 = .ok (.iload_n 1, 1) := by decide +kernel
theorem dL_kind_5 : decode cL_kind 5 = .ok (.iload_n 2, 1) := by decide +kernel
theorem dL_kind_6 : decode cL_kind 6 = .ok (.iload_n 3, 1) := by decide +kernel
theorem dL_kind_7 : decode cL_kind 7 = .ok (.iload 4, 2) := by decide +kernel
theorem dL_kind_9 : decode cL_kind 9 = .ok (.invokevirtual 7, 3) := by decide +kernel
theorem dL_kind_12 : decode cL_kind 12 = .ok (.i2l, 1) := by decide +kernel
theorem dL_kind_13 : decode cL_kind 13 = .ok (.lastore, 1) := by decide +kernel
theorem dL_kind_14 : decode cL_kind 14 = .ok (.goto 11, 3) := by decide +kernel
theorem dL_kind_17 : decode cL_kind 17 = .ok (.astore 6, 2) := by decide +kernel
theorem dL_kind_19 : decode cL_kind 19 = .ok (.iconst 1, 1) := by decide +kernel
theorem dL_kind_20 : decode cL_kind 20 = .ok (.ireturn, 1) := by decide +kernel
theorem dL_kind_21 : decode cL_kind 21 = .ok (.astore 6, 2) := by decide +kernel
theorem dL_kind_23 : decode cL_kind 23 = .ok (.iconst 2, 1) := by decide +kernel
theorem dL_kind_24 : decode cL_kind 24 = .ok (.ireturn, 1) := by decide +kernel
theorem dL_kind_25 : decode cL_kind 25 = .ok (.iconst 0, 1) := by decide +kernel
theorem dL_kind_26 : decode cL_kind 26 = .ok (.ireturn, 1) := by decide +kernel
set_option maxRecDepth 20000 in
theorem ggL_place_X4_place : GoodIn wsL_place wsX4_place := goodIn_ca (goodIn_ca (goodIn_r _ [7, 8, 9, 10, 11, 6, 12, 13, 14, 15, 16, 17, 18, 19, 20, 21, 22, 23, 24, 25, 26, 27, 28, 29, 30, 31, 32, 33, 34, 35, 36, 37, 38, 39, 40, 41, 42, 43, 44, 45, 46, 47, 48, 49, 50, 51, 52, 53, 54, 55, 56, 57, 58, 59, 60, 61, 62, 63, 64, 65, 66, 67, 68, 69, 70, 71, 72, 73, 74, 75, 76, 77, 78, 79, 80, 81, 82, 83, 84, 85, 86, 87, 88, 89, 90, 91, 92, 93, 94, 95] (by decide +kernel) (by decide +kernel)) (goodIn_sub (fun _ h => List.mem_cons_of_mem _ (List.mem_append_left _ (List.mem_append_right _ h))) (by decide +kernel))) (goodIn_sub (fun _ h => List.mem_cons_of_mem _ (List.mem_append_right _ h)) (by decide +kernel))
set_option maxRecDepth 20000 in
theorem gL_place_X4_place : GoodIn wsL_place (wsV RL 17 RX4 yX4_place wsX4_place) := goodIn_app (goodIn_of _ (by decide +kernel)) ggL_place_X4_place
theorem dL_place_0 : decode cL_place 0 = .ok (.aload_n 3, 1) := by decide +kernel
theorem dL_place_1 : decode cL_place 1 = .ok (.iconst 0, 1) := by decide +kernel
theorem dL_place_2 : decode cL_place 2 = .ok (.aload_n 0, 1) := by decide +kernel
theorem dL_place_3 : decode cL_place 3 = .ok (.iload_n 1, 1) := by decide +kernel
theorem dL_place_4 : decode cL_place 4 = .ok (.iload_n 2, 1) := by decide +kernel
theorem dL_place_5 : decode cL_place 5 = .ok (.invokevirtual 17, 3) := by decide +kernel
theorem dL_place_8 : decode cL_place 8 = .ok (.i2l, 1) := by decide +kernel
theorem dL_place_9 : decode cL_place 9 = .ok (.lastore, 1) := by decide +kernel
theorem dL_place_10 : decode cL_place 10 = .ok (.goto 11, 3) := by decide +kernel
theorem dL_place_13 : decode cL_place 13 = .ok (.astore 4, 2) := by decide +kernel
theorem dL_place_15 : decode cL_place 15 = .ok (.iconst 1, 1) := by decide +kernel
theorem dL_place_16 : decode cL_place 16 = .ok (.ireturn, 1) := by decide +kernel
theorem dL_place_17 : decode cL_place 17 = .ok (.astore 4, 2) := by decide +kernel
theorem dL_place_19 : decode cL_place 19 = .ok (.iconst 2, 1) := by decide +kernel
theorem dL_place_20 : decode cL_place 20 = .ok (.ireturn, 1) := by decide +kernel
theorem dL_place_21 : decode cL_place 21 = .ok (.iconst 0, 1) := by decide +kernel
theorem dL_place_22 : decode cL_place 22 = .ok (.ireturn, 1) := by decide +kernel
set_option maxRecDepth 20000 in
theorem ggL_point_X4_point : GoodIn wsL_point wsX4_point := goodIn_ca (goodIn_ca (goodIn_r _ [7, 8, 9, 10, 11, 12, 6, 13, 14, 15, 16, 17, 18, 19, 20, 21, 22, 23, 24, 25, 26, 27, 28, 29, 30, 31, 32, 33, 34, 35, 36, 37, 38, 39, 40, 41, 42, 43, 44, 45, 46, 47, 48, 49, 50, 51, 52, 53, 54, 55, 56, 57, 58, 59, 60, 61, 62, 63, 64, 65, 66, 67, 68, 69, 70, 71, 72, 73, 74, 75, 76, 77, 78, 79, 80, 81, 82, 83, 84, 85, 86, 87, 88, 89, 90, 91, 92, 93, 94, 95, 96, 97] (by decide +kernel) (by decide +kernel)) (goodIn_sub (fun _ h => List.mem_cons_of_mem _ (List.mem_append_left _ (List.mem_append_right _ h))) (by decide +kernel))) (goodIn_sub (fun _ h => List.mem_cons_of_mem _ (List.mem_append_right _ h)) (by decide +kernel))
set_option maxRecDepth 20000 in
theorem gL_point_X4_point : GoodIn wsL_point (wsV RL 21 RX4 yX4_point wsX4_point) := goodIn_app (goodIn_of _ (by decide +kernel)) ggL_point_X4_point
theorem dL_point_0 : decode cL_point 0 = .ok (.aload 4, 2) := by decide +kernel
theorem dL_point_2 : decode cL_point 2 = .ok (.iconst 0, 1) := by decide +kernel
theorem dL_point_3 : decode cL_point 3 = .ok (.aload_n 0, 1) := by decide +kernel
theorem dL_point_4 : decode cL_point 4 = .ok (.iload_n 1, 1) := by decide +kernel
theorem dL_point_5 : decode cL_point 5 = .ok (.iload_n 2, 1) := by decide +kernel
theorem dL_point_6 : decode cL_point 6 = .ok (.iload_n 3, 1) := by decide +kernel
theorem dL_point_7 : decode cL_point 7 = .ok (.invokevirtual 21, 3) := by decide +kernel
theorem dL_point_10 : decode cL_point 10 = .ok (.i2l, 1) := by decide +kernel
theorem dL_point_11 : decode cL_point 11 = .ok (.lastore, 1) := by decide +kernel
theorem dL_point_12 : decode cL_point 12 = .ok (.goto 11, 3) := by decide +kernel
theorem dL_point_15 : decode cL_point 15 = .ok (.astore 5, 2) := by decide +kernel
theorem dL_point_17 : decode cL_point 17 = .ok (.iconst 1, 1) := by decide +kernel
theorem dL_point_18 : decode cL_point 18 = .ok (.ireturn, 1) := by decide +kernel
theorem dL_point_19 : decode cL_point 19 = .ok (.astore 5, 2) := by decide +kernel
theorem dL_point_21 : decode cL_point 21 = .ok (.iconst 2, 1) := by decide +kernel
theorem dL_point_22 : decode cL_point 22 = .ok (.ireturn, 1) := by decide +kernel
theorem dL_point_23 : decode cL_point 23 = .ok (.iconst 0, 1) := by decide +kernel
theorem dL_point_24 : decode cL_point 24 = .ok (.ireturn, 1) := by decide +kernel
set_option maxRecDepth 20000 in
theorem ggL_height_X4_height : GoodIn wsL_height wsX4_height := goodIn_ca (goodIn_r _ [6, 7, 8, 9, 10, 5, 11, 12, 13, 14, 15, 16, 17, 18, 19, 20, 21, 22, 23, 24, 25, 26, 27, 28, 29, 30, 31, 32, 33, 34, 35, 36, 37, 38, 39, 40, 41, 42, 43, 44, 45, 46, 47, 48, 49, 50, 51, 52, 53, 54, 55, 56, 57, 58, 59, 60, 61, 62, 63, 64, 65, 66, 67, 68, 69, 70, 71, 72, 73, 74, 75, 76, 77, 78, 79, 80, 81] (by decide +kernel) (by decide +kernel)) (goodIn_sub (fun _ h => List.mem_cons_of_mem _ (List.mem_append_right _ h)) (by decide +kernel))
set_option maxRecDepth 20000 in
theorem gL_height_X4_height : GoodIn wsL_height (wsV RL 25 RX4 yX4_height wsX4_height) := goodIn_app (goodIn_of _ (by decide +kernel)) ggL_height_X4_height
theorem dL_height_0 : decode cL_height 0 = .ok (.aload_n 2, 1) := by decide +kernel
theorem dL_height_1 : decode cL_height 1 = .ok (.iconst 0, 1) := by decide +kernel
theorem dL_height_2 : decode cL_height 2 = .ok (.aload_n 0, 1) := by decide +kernel
theorem dL_height_3 : decode cL_height 3 = .ok (.iload_n 1, 1) := by decide +kernel
theorem dL_height_4 : decode cL_height 4 = .ok (.invokevirtual 25, 3) := by decide +kernel
theorem dL_height_7 : decode cL_height 7 = .ok (.i2l, 1) := by decide +kernel
theorem dL_height_8 : decode cL_height 8 = .ok (.lastore, 1) := by decide +kernel
theorem dL_height_9 : decode cL_height 9 = .ok (.goto 6, 3) := by decide +kernel
theorem dL_height_12 : decode cL_height 12 = .ok (.astore_n 3, 1) := by decide +kernel
theorem dL_height_13 : decode cL_height 13 = .ok (.iconst 1, 1) := by decide +kernel
theorem dL_height_14 : decode cL_height 14 = .ok (.ireturn, 1) := by decide +kernel
theorem dL_height_15 : decode cL_height 15 = .ok (.iconst 0, 1) := by decide +kernel
theorem dL_height_16 : decode cL_height 16 = .ok (.ireturn, 1) := by decide +kernel
set_option maxRecDepth 20000 in
theorem ggL_hold_X4_hold : GoodIn wsL_hold wsX4_hold := goodIn_ca (goodIn_r _ [6, 7, 8, 9, 10, 11, 12, 5, 13, 14, 15, 16, 17, 18, 19, 20, 21, 22, 23, 24, 25, 26, 27, 28, 29, 30, 31, 32, 33, 34, 35, 36, 37, 38, 39, 40, 41, 42, 43, 44, 45, 46, 47, 48, 49, 50, 51, 52, 53, 54, 55, 56, 57, 58, 59, 60, 61, 62, 63, 64, 65, 66, 67, 68, 69, 70, 71, 72, 73, 74, 75, 76, 77, 78, 79, 80, 81, 82, 83, 84, 85, 86, 87] (by decide +kernel) (by decide +kernel)) (goodIn_sub (fun _ h => List.mem_cons_of_mem _ (List.mem_append_right _ h)) (by decide +kernel))
set_option maxRecDepth 20000 in
theorem gL_hold_X4_hold : GoodIn wsL_hold (wsV RL 29 RX4 yX4_hold wsX4_hold) := goodIn_app (goodIn_of _ (by decide +kernel)) ggL_hold_X4_hold
theorem dL_hold_0 : decode cL_hold 0 = .ok (.aload_n 0, 1) := by decide +kernel
theorem dL_hold_1 : decode cL_hold 1 = .ok (.iload_n 1, 1) := by decide +kernel
theorem dL_hold_2 : decode cL_hold 2 = .ok (.iload_n 2, 1) := by decide +kernel
theorem dL_hold_3 : decode cL_hold 3 = .ok (.invokevirtual 29, 3) := by decide +kernel
theorem dL_hold_6 : decode cL_hold 6 = .ok (.goto 6, 3) := by decide +kernel
theorem dL_hold_9 : decode cL_hold 9 = .ok (.astore_n 3, 1) := by decide +kernel
theorem dL_hold_10 : decode cL_hold 10 = .ok (.iconst 1, 1) := by decide +kernel
theorem dL_hold_11 : decode cL_hold 11 = .ok (.ireturn, 1) := by decide +kernel
theorem dL_hold_12 : decode cL_hold 12 = .ok (.iconst 0, 1) := by decide +kernel
theorem dL_hold_13 : decode cL_hold 13 = .ok (.ireturn, 1) := by decide +kernel
set_option maxRecDepth 20000 in
theorem ggL_light_X4_light : GoodIn wsL_light wsX4_light := goodIn_ca (goodIn_r _ [6, 7, 8, 9, 10, 5, 11, 12, 13, 14, 15, 16, 17, 18, 19, 20, 21, 22, 23, 24, 25, 26, 27, 28, 29, 30, 31, 32, 33, 34, 35, 36, 37, 38, 39, 40, 41, 42, 43, 44, 45, 46, 47, 48, 49, 50, 51, 52, 53, 54, 55] (by decide +kernel) (by decide +kernel)) (goodIn_sub (fun _ h => List.mem_cons_of_mem _ (List.mem_append_right _ h)) (by decide +kernel))
set_option maxRecDepth 20000 in
theorem gL_light_X4_light : GoodIn wsL_light (wsV RL 33 RX4 yX4_light wsX4_light) := goodIn_app (goodIn_of _ (by decide +kernel)) ggL_light_X4_light
theorem dL_light_0 : decode cL_light 0 = .ok (.aload 4, 2) := by decide +kernel
theorem dL_light_2 : decode cL_light 2 = .ok (.iconst 0, 1) := by decide +kernel
theorem dL_light_3 : decode cL_light 3 = .ok (.aload_n 0, 1) := by decide +kernel
theorem dL_light_4 : decode cL_light 4 = .ok (.iload_n 1, 1) := by decide +kernel
theorem dL_light_5 : decode cL_light 5 = .ok (.iload_n 2, 1) := by decide +kernel
theorem dL_light_6 : decode cL_light 6 = .ok (.iload_n 3, 1) := by decide +kernel
theorem dL_light_7 : decode cL_light 7 = .ok (.invokevirtual 33, 3) := by decide +kernel
theorem dL_light_10 : decode cL_light 10 = .ok (.i2l, 1) := by decide +kernel
theorem dL_light_11 : decode cL_light 11 = .ok (.lastore, 1) := by decide +kernel
theorem dL_light_12 : decode cL_light 12 = .ok (.goto 7, 3) := by decide +kernel
theorem dL_light_15 : decode cL_light 15 = .ok (.astore 5, 2) := by decide +kernel
theorem dL_light_17 : decode cL_light 17 = .ok (.iconst 1, 1) := by decide +kernel
theorem dL_light_18 : decode cL_light 18 = .ok (.ireturn, 1) := by decide +kernel
theorem dL_light_19 : decode cL_light 19 = .ok (.iconst 0, 1) := by decide +kernel
theorem dL_light_20 : decode cL_light 20 = .ok (.ireturn, 1) := by decide +kernel
set_option maxRecDepth 20000 in
theorem ggL_lamp_X4_lamp : GoodIn wsL_lamp wsX4_lamp := goodIn_ca (goodIn_r _ [6, 7, 8, 9, 10, 11, 12, 5, 13, 14, 15, 16, 17, 18, 19, 20, 21, 22, 23, 24, 25, 26, 27, 28, 29, 30, 31, 32, 33, 34, 35, 36, 37, 38, 39, 40, 41, 42, 43, 44, 45, 46, 47, 48, 49, 50, 51, 52, 53, 54, 55, 56, 57, 58, 59, 60, 61, 62, 63, 64, 65, 66, 67, 68, 69, 70, 71, 72, 73, 74, 75, 76, 77, 78, 79, 80, 81, 82, 83, 84, 85, 86, 87, 88, 89, 90, 91, 92, 93, 94, 95, 96, 97, 98, 99, 100, 101, 102, 103, 104, 105, 106, 107, 108, 109, 110, 111, 112, 113, 114, 115, 116, 117, 118, 119, 120, 121, 122, 123, 124, 125, 126, 127, 128, 129, 130, 131, 132, 133, 134, 135, 136, 137, 138, 139, 140, 141, 142, 143, 144] (by decide +kernel) (by decide +kernel)) (goodIn_sub (fun _ h => List.mem_cons_of_mem _ (List.mem_append_right _ h)) (by decide +kernel))
set_option maxRecDepth 20000 in
theorem gL_lamp_X4_lamp : GoodIn wsL_lamp (wsV RL 36 RX4 yX4_lamp wsX4_lamp) := goodIn_app (goodIn_of _ (by decide +kernel)) ggL_lamp_X4_lamp
theorem dL_lamp_0 : decode cL_lamp 0 = .ok (.aload_n 2, 1) := by decide +kernel
theorem dL_lamp_1 : decode cL_lamp 1 = .ok (.iconst 0, 1) := by decide +kernel
theorem dL_lamp_2 : decode cL_lamp 2 = .ok (.aload_n 0, 1) := by decide +kernel
theorem dL_lamp_3 : decode cL_lamp 3 = .ok (.iload_n 1, 1) := by decide +kernel
theorem dL_lamp_4 : decode cL_lamp 4 = .ok (.invokevirtual 36, 3) := by decide +kernel
theorem dL_lamp_7 : decode cL_lamp 7 = .ok (.i2l, 1) := by decide +kernel
theorem dL_lamp_8 : decode cL_lamp 8 = .ok (.lastore, 1) := by decide +kernel
theorem dL_lamp_9 : decode cL_lamp 9 = .ok (.goto 6, 3) := by decide +kernel
theorem dL_lamp_12 : decode cL_lamp 12 = .ok (.astore_n 3, 1) := by decide +kernel
theorem dL_lamp_13 : decode cL_lamp 13 = .ok (.iconst 1, 1) := by decide +kernel
theorem dL_lamp_14 : decode cL_lamp 14 = .ok (.ireturn, 1) := by decide +kernel
theorem dL_lamp_15 : decode cL_lamp 15 = .ok (.iconst 0, 1) := by decide +kernel
theorem dL_lamp_16 : decode cL_lamp 16 = .ok (.ireturn, 1) := by decide +kernel
set_option maxRecDepth 20000 in
theorem ggL_level_X4_level : GoodIn wsL_level wsX4_level := goodIn_ca (goodIn_r _ [6, 7, 8, 9, 10, 11, 12, 5, 13, 14, 15, 16, 17, 18, 19, 20, 21, 22, 23, 24, 25, 26, 27, 28, 29, 30, 31, 32, 33, 34, 35, 36, 37, 38, 39, 40, 41, 42, 43, 44, 45, 46, 47, 48, 49, 50, 51, 52, 53, 54, 55, 56, 57, 58, 59, 60, 61, 62, 63, 64, 65, 66, 67, 68, 69, 70, 71, 72, 73, 74, 75, 76, 77, 78, 79, 80, 81, 82, 83, 84, 85, 86, 87, 88, 89, 90, 91, 92, 93, 94, 95, 96, 97, 98, 99, 100, 101, 102, 103, 104, 105, 106, 107, 108, 109, 110, 111, 112, 113, 114, 115, 116, 117, 118, 119, 120, 121, 122, 123, 124, 125, 126, 127, 128, 129, 130, 131, 132, 133, 134, 135, 136, 137, 138, 139, 140, 141, 142, 143, 144] (by decide +kernel) (by decide +kernel)) (goodIn_sub (fun _ h => List.mem_cons_of_mem _ (List.mem_append_right _ h)) (by decide +kernel))
set_option maxRecDepth 20000 in
theorem gL_level_X4_level : GoodIn wsL_level (wsV RL 39 RX4 yX4_level wsX4_level) := goodIn_app (goodIn_of _ (by decide +kernel)) ggL_level_X4_level
theorem dL_level_0 : decode cL_level 0 = .ok (.aload_n 2, 1) := by decide +kernel
theorem dL_level_1 : decode cL_level 1 = .ok (.iconst 0, 1) := by decide +kernel
theorem dL_level_2 : decode cL_level 2 = .ok (.aload_n 0, 1) := by decide +kernel
theorem dL_level_3 : decode cL_level 3 = .ok (.iload_n 1, 1) := by decide +kernel
theorem dL_level_4 : decode cL_level 4 = .ok (.invokevirtual 39, 3) := by decide +kernel
theorem dL_level_7 : decode cL_level 7 = .ok (.i2l, 1) := by decide +kernel
theorem dL_level_8 : decode cL_level 8 = .ok (.lastore, 1) := by decide +kernel
theorem dL_level_9 : decode cL_level 9 = .ok (.goto 6, 3) := by decide +kernel
theorem dL_level_12 : decode cL_level 12 = .ok (.astore_n 3, 1) := by decide +kernel
theorem dL_level_13 : decode cL_level 13 = .ok (.iconst 1, 1) := by decide +kernel
theorem dL_level_14 : decode cL_level 14 = .ok (.ireturn, 1) := by decide +kernel
theorem dL_level_15 : decode cL_level 15 = .ok (.iconst 0, 1) := by decide +kernel
theorem dL_level_16 : decode cL_level 16 = .ok (.ireturn, 1) := by decide +kernel
set_option maxRecDepth 20000 in
theorem ggL_even_X4_even : GoodIn wsL_even wsX4_even := goodIn_ca (goodIn_r _ [6, 7, 8, 9, 10, 11, 5, 12, 13, 14, 15, 16, 17, 18, 19, 20, 21, 22, 23, 24, 25, 26, 27, 28, 29, 30, 31, 32, 33, 34, 35, 36, 37, 38, 39, 40, 41, 42, 43, 44, 45, 46, 47, 48, 49, 50, 51, 52, 53, 54, 55, 56, 57, 58, 59, 60, 61, 62, 63, 64, 65, 66, 67, 68, 69, 70, 71, 72, 73, 74, 75, 76, 77, 78, 79, 80, 81, 82, 83, 84, 85, 86, 87, 88, 89, 90, 91, 92, 93, 94, 95, 96, 97, 98, 99, 100, 101, 102, 103, 104, 105, 106, 107, 108, 109, 110, 111, 112, 113, 114, 115, 116, 117, 118, 119, 120, 121, 122, 123, 124, 125, 126, 127, 128, 129, 130, 131, 132, 133, 134, 135, 136, 137, 138, 139, 140, 141, 142, 143, 144, 145, 146, 147, 148, 149] (by decide +kernel) (by decide +kernel)) (goodIn_sub (fun _ h => List.mem_cons_of_mem _ (List.mem_append_right _ h)) (by decide +kernel))
set_option maxRecDepth 20000 in
theorem gL_even_X4_even : GoodIn wsL_even (wsV RL 42 RX4 yX4_even wsX4_even) := goodIn_app (goodIn_of _ (by decide +kernel)) ggL_even_X4_even
theorem dL_even_0 : decode cL_even 0 = .ok (.aload_n 2, 1) := by decide +kernel
theorem dL_even_1 : decode cL_even 1 = .ok (.iconst 0, 1) := by decide +kernel
theorem dL_even_2 : decode cL_even 2 = .ok (.aload_n 0, 1) := by decide +kernel
theorem dL_even_3 : decode cL_even 3 = .ok (.iload_n 1, 1) := by decide +kernel
theorem dL_even_4 : decode cL_even 4 = .ok (.invokevirtual 42, 3) := by decide +kernel
theorem dL_even_7 : decode cL_even 7 = .ok (.lastore, 1) := by decide +kernel
theorem dL_even_8 : decode cL_even 8 = .ok (.goto 6, 3) := by decide +kernel
theorem dL_even_11 : decode cL_even 11 = .ok (.astore_n 3, 1) := by decide +kernel
theorem dL_even_12 : decode cL_even 12 = .ok (.iconst 1, 1) := by decide +kernel
theorem dL_even_13 : decode cL_even 13 = .ok (.ireturn, 1) := by decide +kernel
theorem dL_even_14 : decode cL_even 14 = .ok (.iconst 0, 1) := by decide +kernel
theorem dL_even_15 : decode cL_even 15 = .ok (.ireturn, 1) := by decide +kernel
set_option maxRecDepth 20000 in
theorem ggL_aim_X4_aim : GoodIn wsL_aim wsX4_aim := goodIn_ca (goodIn_r _ [6, 7, 8, 9, 10, 11, 5, 12, 13, 14, 15, 16, 17, 18, 19, 20, 21, 22, 23, 24, 25, 26, 27, 28, 29, 30, 31, 32, 33, 34, 35, 36, 37, 38, 39, 40, 41, 42, 43, 44, 45, 46, 47, 48, 49, 50, 51] (by decide +kernel) (by decide +kernel)) (goodIn_sub (fun _ h => List.mem_cons_of_mem _ (List.mem_append_right _ h)) (by decide +kernel))
set_option maxRecDepth 20000 in
theorem gL_aim_X4_aim : GoodIn wsL_aim (wsV RL 46 RX4 yX4_aim wsX4_aim) := goodIn_app (goodIn_of _ (by decide +kernel)) ggL_aim_X4_aim
theorem dL_aim_0 : decode cL_aim 0 = .ok (.aload_n 3, 1) := by decide +kernel
theorem dL_aim_1 : decode cL_aim 1 = .ok (.iconst 0, 1) := by decide +kernel
theorem dL_aim_2 : decode cL_aim 2 = .ok (.aload_n 0, 1) := by decide +kernel
theorem dL_aim_3 : decode cL_aim 3 = .ok (.iload_n 1, 1) := by decide +kernel
theorem dL_aim_4 : decode cL_aim 4 = .ok (.iload_n 2, 1) := by decide +kernel
theorem dL_aim_5 : decode cL_aim 5 = .ok (.invokevirtual 46, 3) := by decide +kernel
theorem dL_aim_8 : decode cL_aim 8 = .ok (.i2l, 1) := by decide +kernel
theorem dL_aim_9 : decode cL_aim 9 = .ok (.lastore, 1) := by decide +kernel
theorem dL_aim_10 : decode cL_aim 10 = .ok (.goto 7, 3) := by decide +kernel
theorem dL_aim_13 : decode cL_aim 13 = .ok (.astore 4, 2) := by decide +kernel
theorem dL_aim_15 : decode cL_aim 15 = .ok (.iconst 1, 1) := by decide +kernel
theorem dL_aim_16 : decode cL_aim 16 = .ok (.ireturn, 1) := by decide +kernel
theorem dL_aim_17 : decode cL_aim 17 = .ok (.iconst 0, 1) := by decide +kernel
theorem dL_aim_18 : decode cL_aim 18 = .ok (.ireturn, 1) := by decide +kernel
set_option maxRecDepth 20000 in
theorem ggL_dim_X4_dim : GoodIn wsL_dim wsX4_dim := goodIn_ca (goodIn_r _ [6, 7, 8, 9, 10, 11, 12, 13, 5, 14, 15, 16, 17, 18, 19, 20, 21, 22, 23, 24, 25, 26, 27, 28, 29, 30, 31, 32, 33, 34, 35, 36, 37, 38, 39, 40, 41, 42, 43, 44, 45, 46, 47, 48, 49, 50, 51, 52, 53, 54, 55, 56, 57, 58, 59, 60, 61, 62, 63, 64, 65, 66, 67, 68, 69, 70, 71, 72, 73, 74, 75, 76, 77, 78, 79, 80, 81, 82, 83, 84, 85, 86, 87, 88, 89, 90, 91, 92, 93, 94, 95, 96, 97, 98, 99, 100, 101, 102, 103, 104, 105, 106, 107, 108, 109, 110, 111, 112, 113, 114, 115, 116, 117, 118, 119, 120, 121, 122, 123, 124, 125, 126, 127, 128, 129, 130, 131, 132, 133, 134, 135, 136, 137, 138, 139, 140, 141, 142, 143, 144, 145, 146, 147, 148, 149, 150, 151, 152, 153, 154, 155, 156, 157, 158, 159, 160, 161, 162, 163, 164, 165, 166, 167, 168, 169, 170, 171, 172, 173, 174, 175, 176, 177, 178, 179, 180, 181, 182, 183, 184, 185, 186, 187, 188, 189, 190, 191, 192, 193, 194, 195] (by decide +kernel) (by decide +kernel)) (goodIn_sub (fun _ h => List.mem_cons_of_mem _ (List.mem_append_right _ h)) (by decide +kernel))
set_option maxRecDepth 20000 in
theorem gL_dim_X4_dim : GoodIn wsL_dim (wsV RL 49 RX4 yX4_dim wsX4_dim) := goodIn_app (goodIn_of _ (by decide +kernel)) ggL_dim_X4_dim
theorem dL_dim_0 : decode cL_dim 0 = .ok (.aload_n 2, 1) := by decide +kernel
theorem dL_dim_1 : decode cL_dim 1 = .ok (.iconst 0, 1) := by decide +kernel
theorem dL_dim_2 : decode cL_dim 2 = .ok (.aload_n 0, 1) := by decide +kernel
theorem dL_dim_3 : decode cL_dim 3 = .ok (.iload_n 1, 1) := by decide +kernel
theorem dL_dim_4 : decode cL_dim 4 = .ok (.invokevirtual 49, 3) := by decide +kernel
theorem dL_dim_7 : decode cL_dim 7 = .ok (.i2l, 1) := by decide +kernel
theorem dL_dim_8 : decode cL_dim 8 = .ok (.lastore, 1) := by decide +kernel
theorem dL_dim_9 : decode cL_dim 9 = .ok (.goto 6, 3) := by decide +kernel
theorem dL_dim_12 : decode cL_dim 12 = .ok (.astore_n 3, 1) := by decide +kernel
theorem dL_dim_13 : decode cL_dim 13 = .ok (.iconst 1, 1) := by decide +kernel
theorem dL_dim_14 : decode cL_dim 14 = .ok (.ireturn, 1) := by decide +kernel
theorem dL_dim_15 : decode cL_dim 15 = .ok (.iconst 0, 1) := by decide +kernel
theorem dL_dim_16 : decode cL_dim 16 = .ok (.ireturn, 1) := by decide +kernel
set_option maxRecDepth 20000 in
theorem ggL_miss_X4_miss : GoodIn wsL_miss wsX4_miss := goodIn_ca (goodIn_r _ [6, 7, 8, 9, 10, 11, 5, 12, 13, 14, 15, 16, 17, 18, 19, 20, 21, 22, 23, 24, 25, 26, 27, 28, 29, 30, 31, 32, 33, 34, 35, 36, 37, 38, 39, 40, 41, 42, 43, 44, 45, 46, 47, 48, 49, 50, 51, 52, 53, 54, 55, 56, 57, 58, 59, 60, 61, 62, 63, 64, 65, 66, 67, 68, 69, 70, 71, 72, 73, 74, 75, 76, 77, 78, 79, 80, 81, 82, 83, 84, 85, 86, 87, 88, 89, 90, 91, 92, 93, 94, 95, 96, 97, 98, 99, 100, 101, 102, 103, 104, 105, 106, 107, 108, 109, 110, 111, 112, 113, 114, 115, 116, 117, 118, 119, 120, 121, 122, 123, 124, 125, 126, 127, 128, 129, 130, 131, 132, 133, 134, 135, 136, 137, 138, 139, 140, 141, 142, 143, 144, 145, 146, 147, 148, 149, 150, 151, 152, 153, 154, 155, 156, 157, 158, 159, 160, 161, 162, 163, 164, 165, 166, 167, 168, 169, 170, 171, 172, 173, 174, 175, 176, 177, 178, 179, 180, 181, 182, 183, 184, 185, 186, 187, 188, 189, 190, 191, 192, 193, 194] (by decide +kernel) (by decide +kernel)) (goodIn_sub (fun _ h => List.mem_cons_of_mem _ (List.mem_append_right _ h)) (by decide +kernel))
set_option maxRecDepth 20000 in
theorem gL_miss_X4_miss : GoodIn wsL_miss (wsV RL 52 RX4 yX4_miss wsX4_miss) := goodIn_app (goodIn_of _ (by decide +kernel)) ggL_miss_X4_miss
theorem dL_miss_0 : decode cL_miss 0 = .ok (.aload_n 2, 1) := by decide +kernel
theorem dL_miss_1 : decode cL_miss 1 = .ok (.iconst 0, 1) := by decide +kernel
theorem dL_miss_2 : decode cL_miss 2 = .ok (.aload_n 0, 1) := by decide +kernel
theorem dL_miss_3 : decode cL_miss 3 = .ok (.iload_n 1, 1) := by decide +kernel
theorem dL_miss_4 : decode cL_miss 4 = .ok (.invokevirtual 52, 3) := by decide +kernel
theorem dL_miss_7 : decode cL_miss 7 = .ok (.lastore, 1) := by decide +kernel
theorem dL_miss_8 : decode cL_miss 8 = .ok (.goto 6, 3) := by decide +kernel
theorem dL_miss_11 : decode cL_miss 11 = .ok (.astore_n 3, 1) := by decide +kernel
theorem dL_miss_12 : decode cL_miss 12 = .ok (.iconst 1, 1) := by decide +kernel
theorem dL_miss_13 : decode cL_miss 13 = .ok (.ireturn, 1) := by decide +kernel
theorem dL_miss_14 : decode cL_miss 14 = .ok (.iconst 0, 1) := by decide +kernel
theorem dL_miss_15 : decode cL_miss 15 = .ok (.ireturn, 1) := by decide +kernel
set_option maxRecDepth 20000 in
theorem ggL_sensor_X4_sensor : GoodIn wsL_sensor wsX4_sensor := goodIn_ca (goodIn_r _ [6, 7, 8, 9, 10, 11, 12, 13, 5, 14, 15, 16, 17, 18, 19, 20, 21, 22, 23, 24, 25, 26, 27, 28, 29, 30, 31, 32, 33, 34, 35, 36, 37, 38, 39, 40, 41, 42, 43, 44, 45, 46, 47, 48, 49, 50, 51, 52, 53, 54, 55, 56, 57, 58, 59, 60, 61, 62, 63, 64, 65, 66, 67, 68, 69, 70, 71, 72, 73, 74, 75, 76, 77, 78, 79, 80, 81, 82, 83, 84, 85, 86, 87] (by decide +kernel) (by decide +kernel)) (goodIn_sub (fun _ h => List.mem_cons_of_mem _ (List.mem_append_right _ h)) (by decide +kernel))
set_option maxRecDepth 20000 in
theorem gL_sensor_X4_sensor : GoodIn wsL_sensor (wsV RL 55 RX4 yX4_sensor wsX4_sensor) := goodIn_app (goodIn_of _ (by decide +kernel)) ggL_sensor_X4_sensor
theorem dL_sensor_0 : decode cL_sensor 0 = .ok (.aload_n 0, 1) := by decide +kernel
theorem dL_sensor_1 : decode cL_sensor 1 = .ok (.iload_n 1, 1) := by decide +kernel
theorem dL_sensor_2 : decode cL_sensor 2 = .ok (.iload_n 2, 1) := by decide +kernel
theorem dL_sensor_3 : decode cL_sensor 3 = .ok (.invokevirtual 55, 3) := by decide +kernel
theorem dL_sensor_6 : decode cL_sensor 6 = .ok (.goto 6, 3) := by decide +kernel
theorem dL_sensor_9 : decode cL_sensor 9 = .ok (.astore_n 3, 1) := by decide +kernel
theorem dL_sensor_10 : decode cL_sensor 10 = .ok (.iconst 1, 1) := by decide +kernel
theorem dL_sensor_11 : decode cL_sensor 11 = .ok (.ireturn, 1) := by decide +kernel
theorem dL_sensor_12 : decode cL_sensor 12 = .ok (.iconst 0, 1) := by decide +kernel
theorem dL_sensor_13 : decode cL_sensor 13 = .ok (.ireturn, 1) := by decide +kernel
set_option maxRecDepth 20000 in
theorem ggL_daylight_X4_daylight : GoodIn wsL_daylight wsX4_daylight := goodIn_ca (goodIn_r _ [6, 7, 8, 9, 10, 11, 12, 5, 13, 14, 15, 16, 17, 18, 19, 20, 21, 22, 23, 24, 25, 26, 27, 28, 29, 30, 31, 32, 33, 34, 35, 36, 37, 38, 39, 40, 41, 42, 43, 44, 45, 46, 47, 48, 49] (by decide +kernel) (by decide +kernel)) (goodIn_sub (fun _ h => List.mem_cons_of_mem _ (List.mem_append_right _ h)) (by decide +kernel))
set_option maxRecDepth 20000 in
theorem gL_daylight_X4_daylight : GoodIn wsL_daylight (wsV RL 58 RX4 yX4_daylight wsX4_daylight) := goodIn_app (goodIn_of _ (by decide +kernel)) ggL_daylight_X4_daylight
theorem dL_daylight_0 : decode cL_daylight 0 = .ok (.aload_n 3, 1) := by decide +kernel
theorem dL_daylight_1 : decode cL_daylight 1 = .ok (.iconst 0, 1) := by decide +kernel
theorem dL_daylight_2 : decode cL_daylight 2 = .ok (.aload_n 0, 1) := by decide +kernel
theorem dL_daylight_3 : decode cL_daylight 3 = .ok (.iload_n 1, 1) := by decide +kernel
theorem dL_daylight_4 : decode cL_daylight 4 = .ok (.iload_n 2, 1) := by decide +kernel
theorem dL_daylight_5 : decode cL_daylight 5 = .ok (.invokevirtual 58, 3) := by decide +kernel
theorem dL_daylight_8 : decode cL_daylight 8 = .ok (.i2l, 1) := by decide +kernel
theorem dL_daylight_9 : decode cL_daylight 9 = .ok (.lastore, 1) := by decide +kernel
theorem dL_daylight_10 : decode cL_daylight 10 = .ok (.goto 7, 3) := by decide +kernel
theorem dL_daylight_13 : decode cL_daylight 13 = .ok (.astore 4, 2) := by decide +kernel
theorem dL_daylight_15 : decode cL_daylight 15 = .ok (.iconst 1, 1) := by decide +kernel
theorem dL_daylight_16 : decode cL_daylight 16 = .ok (.ireturn, 1) := by decide +kernel
theorem dL_daylight_17 : decode cL_daylight 17 = .ok (.iconst 0, 1) := by decide +kernel
theorem dL_daylight_18 : decode cL_daylight 18 = .ok (.ireturn, 1) := by decide +kernel
set_option maxRecDepth 20000 in
theorem ggL_step_X4_step : GoodIn wsL_step wsX4_step := goodIn_ca (goodIn_r _ [6, 7, 8, 9, 10, 5, 11, 12, 13, 14, 15, 16, 17, 18, 19, 20, 21, 22, 23, 24, 25, 26, 27, 28] (by decide +kernel) (by decide +kernel)) (goodIn_sub (fun _ h => List.mem_cons_of_mem _ (List.mem_append_right _ h)) (by decide +kernel))
set_option maxRecDepth 20000 in
theorem gL_step_X4_step : GoodIn wsL_step (wsV RL 61 RX4 yX4_step wsX4_step) := goodIn_app (goodIn_of _ (by decide +kernel)) ggL_step_X4_step
theorem dL_step_0 : decode cL_step 0 = .ok (.aload_n 2, 1) := by decide +kernel
theorem dL_step_1 : decode cL_step 1 = .ok (.iconst 0, 1) := by decide +kernel
theorem dL_step_2 : decode cL_step 2 = .ok (.aload_n 0, 1) := by decide +kernel
theorem dL_step_3 : decode cL_step 3 = .ok (.iload_n 1, 1) := by decide +kernel
theorem dL_step_4 : decode cL_step 4 = .ok (.invokevirtual 61, 3) := by decide +kernel
theorem dL_step_7 : decode cL_step 7 = .ok (.i2l, 1) := by decide +kernel
theorem dL_step_8 : decode cL_step 8 = .ok (.lastore, 1) := by decide +kernel
theorem dL_step_9 : decode cL_step 9 = .ok (.goto 6, 3) := by decide +kernel
theorem dL_step_12 : decode cL_step 12 = .ok (.astore_n 3, 1) := by decide +kernel
theorem dL_step_13 : decode cL_step 13 = .ok (.iconst 1, 1) := by decide +kernel
theorem dL_step_14 : decode cL_step 14 = .ok (.ireturn, 1) := by decide +kernel
theorem dL_step_15 : decode cL_step 15 = .ok (.iconst 0, 1) := by decide +kernel
theorem dL_step_16 : decode cL_step 16 = .ok (.ireturn, 1) := by decide +kernel
set_option maxRecDepth 20000 in
theorem ggL_run_X4_run : GoodIn wsL_run wsX4_run := goodIn_ca (goodIn_ca (goodIn_r _ [7, 8, 9, 10, 11, 12, 13, 14, 15, 6, 16, 17, 18, 19, 20, 21, 22, 23, 24, 25, 26, 27, 28, 29, 30, 31, 32, 33, 34, 35, 36, 37, 38, 39, 40, 41, 42, 43, 44, 45, 46, 47, 48, 49, 50, 51, 52, 53, 54, 55, 56, 57, 58, 59, 60, 61, 62, 63, 64, 65, 66, 67, 68, 69, 70, 71, 72, 73, 74, 75, 76, 77, 78, 79, 80, 81, 82, 83, 84, 85, 86, 87, 88, 89, 90, 91, 92, 93, 94, 95, 96, 97, 98, 99, 100, 101, 102, 103, 104, 105, 106, 107, 108, 109, 110, 111, 112, 113, 114, 115, 116, 117, 118, 119, 120, 121, 122, 123, 124, 125, 126, 127, 128, 129, 130, 131, 132, 133, 134, 135, 136, 137, 138, 139, 140, 141, 142, 143, 144, 145, 146, 147, 148, 149, 150, 151, 152, 153, 154, 155, 156, 157, 158, 159, 160, 161, 162, 163, 164, 165, 166, 167, 168, 169, 170, 171, 172, 173, 174, 175, 176, 177, 178, 179, 180, 181, 182, 183, 184, 185, 186, 187, 188, 189, 190, 191, 192, 193, 194, 195, 196, 197, 198, 199, 200, 201] (by decide +kernel) (by decide +kernel)) (goodIn_sub (fun _ h => List.mem_cons_of_mem _ (List.mem_append_left _ (List.mem_append_right _ h))) (by decide +kernel))) (goodIn_sub (fun _ h => List.mem_cons_of_mem _ (List.mem_append_right _ h)) (by decide +kernel))
set_option maxRecDepth 20000 in
theorem gL_run_X4_run : GoodIn wsL_run (wsV RL 64 RX4 yX4_run wsX4_run) := goodIn_app (goodIn_of _ (by decide +kernel)) ggL_run_X4_run
theorem dL_run_0 : decode cL_run 0 = .ok (.aload_n 2, 1) := by decide +kernel
theorem dL_run_1 : decode cL_run 1 = .ok (.iconst 0, 1) := by decide +kernel
theorem dL_run_2 : decode cL_run 2 = .ok (.aload_n 0, 1) := by decide +kernel
theorem dL_run_3 : decode cL_run 3 = .ok (.iload_n 1, 1) := by decide +kernel
theorem dL_run_4 : decode cL_run 4 = .ok (.invokevirtual 64, 3) := by decide +kernel
theorem dL_run_7 : decode cL_run 7 = .ok (.i2l, 1) := by decide +kernel
theorem dL_run_8 : decode cL_run 8 = .ok (.lastore, 1) := by decide +kernel
theorem dL_run_9 : decode cL_run 9 = .ok (.goto 9, 3) := by decide +kernel
theorem dL_run_12 : decode cL_run 12 = .ok (.astore_n 3, 1) := by decide +kernel
theorem dL_run_13 : decode cL_run 13 = .ok (.iconst 1, 1) := by decide +kernel
theorem dL_run_14 : decode cL_run 14 = .ok (.ireturn, 1) := by decide +kernel
theorem dL_run_15 : decode cL_run 15 = .ok (.astore_n 3, 1) := by decide +kernel
theorem dL_run_16 : decode cL_run 16 = .ok (.iconst 2, 1) := by decide +kernel
theorem dL_run_17 : decode cL_run 17 = .ok (.ireturn, 1) := by decide +kernel
theorem dL_run_18 : decode cL_run 18 = .ok (.iconst 0, 1) := by decide +kernel
theorem dL_run_19 : decode cL_run 19 = .ok (.ireturn, 1) := by decide +kernel
set_option maxRecDepth 20000 in
theorem ggL_own_X4_own : GoodIn wsL_own wsX4_own := goodIn_ca (goodIn_r _ [6, 7, 8, 9, 10, 11, 12, 13, 14, 5, 15, 16, 17, 18, 19, 20, 21, 22, 23, 24, 25, 26, 27, 28, 29, 30, 31, 32, 33, 34, 35, 36, 37, 38, 39, 40, 41, 42, 43, 44, 45, 46, 47, 48, 49, 50, 51, 52, 53, 54, 55, 56, 57, 58, 59, 60, 61, 62, 63, 64, 65, 66, 67, 68, 69, 70, 71, 72, 73, 74, 75, 76, 77, 78, 79, 80, 81, 82, 83, 84, 85, 86, 87, 88, 89, 90, 91, 92, 93, 94, 95, 96, 97, 98, 99, 100, 101, 102, 103, 104, 105, 106, 107, 108, 109, 110, 111, 112, 113, 114, 115, 116, 117, 118, 119, 120, 121, 122, 123, 124, 125, 126, 127, 128, 129, 130, 131, 132, 133, 134, 135, 136, 137, 138, 139, 140, 141, 142, 143, 144, 145, 146, 147, 148, 149, 150, 151, 152, 153, 154, 155, 156, 157] (by decide +kernel) (by decide +kernel)) (goodIn_sub (fun _ h => List.mem_cons_of_mem _ (List.mem_append_right _ h)) (by decide +kernel))
set_option maxRecDepth 20000 in
theorem gL_own_X4_own : GoodIn wsL_own (wsV RL 67 RX4 yX4_own wsX4_own) := goodIn_app (goodIn_of _ (by decide +kernel)) ggL_own_X4_own
theorem dL_own_0 : decode cL_own 0 = .ok (.aload_n 3, 1) := by decide +kernel
theorem dL_own_1 : decode cL_own 1 = .ok (.iconst 0, 1) := by decide +kernel
theorem dL_own_2 : decode cL_own 2 = .ok (.aload_n 0, 1) := by decide +kernel
theorem dL_own_3 : decode cL_own 3 = .ok (.iload_n 1, 1) := by decide +kernel
theorem dL_own_4 : decode cL_own 4 = .ok (.iload_n 2, 1) := by decide +kernel
theorem dL_own_5 : decode cL_own 5 = .ok (.invokevirtual 67, 3) := by decide +kernel
theorem dL_own_8 : decode cL_own 8 = .ok (.i2l, 1) := by decide +kernel
theorem dL_own_9 : decode cL_own 9 = .ok (.lastore, 1) := by decide +kernel
theorem dL_own_10 : decode cL_own 10 = .ok (.goto 7, 3) := by decide +kernel
theorem dL_own_13 : decode cL_own 13 = .ok (.astore 4, 2) := by decide +kernel
theorem dL_own_15 : decode cL_own 15 = .ok (.iconst 1, 1) := by decide +kernel
theorem dL_own_16 : decode cL_own 16 = .ok (.ireturn, 1) := by decide +kernel
theorem dL_own_17 : decode cL_own 17 = .ok (.iconst 0, 1) := by decide +kernel
theorem dL_own_18 : decode cL_own 18 = .ok (.ireturn, 1) := by decide +kernel
set_option maxRecDepth 20000 in
theorem ggL_used_X4_used : GoodIn wsL_used wsX4_used := goodIn_ca (goodIn_r _ [6, 7, 8, 9, 10, 11, 12, 5, 13, 14, 15, 16, 17, 18, 19, 20, 21, 22, 23, 24, 25, 26, 27, 28, 29, 30] (by decide +kernel) (by decide +kernel)) (goodIn_sub (fun _ h => List.mem_cons_of_mem _ (List.mem_append_right _ h)) (by decide +kernel))
set_option maxRecDepth 20000 in
theorem gL_used_X4_used : GoodIn wsL_used (wsV RL 70 RX4 yX4_used wsX4_used) := goodIn_app (goodIn_of _ (by decide +kernel)) ggL_used_X4_used
theorem dL_used_0 : decode cL_used 0 = .ok (.aload_n 2, 1) := by decide +kernel
theorem dL_used_1 : decode cL_used 1 = .ok (.iconst 0, 1) := by decide +kernel
theorem dL_used_2 : decode cL_used 2 = .ok (.aload_n 0, 1) := by decide +kernel
theorem dL_used_3 : decode cL_used 3 = .ok (.iload_n 1, 1) := by decide +kernel
theorem dL_used_4 : decode cL_used 4 = .ok (.invokevirtual 70, 3) := by decide +kernel
theorem dL_used_7 : decode cL_used 7 = .ok (.lastore, 1) := by decide +kernel
theorem dL_used_8 : decode cL_used 8 = .ok (.goto 6, 3) := by decide +kernel
theorem dL_used_11 : decode cL_used 11 = .ok (.astore_n 3, 1) := by decide +kernel
theorem dL_used_12 : decode cL_used 12 = .ok (.iconst 1, 1) := by decide +kernel
theorem dL_used_13 : decode cL_used 13 = .ok (.ireturn, 1) := by decide +kernel
theorem dL_used_14 : decode cL_used 14 = .ok (.iconst 0, 1) := by decide +kernel
theorem dL_used_15 : decode cL_used 15 = .ok (.ireturn, 1) := by decide +kernel
set_option maxRecDepth 20000 in
theorem ggL_law_X4_init : GoodIn wsL_law wsX4_init := goodIn_r _ [9, 10, 11, 12, 13, 14, 15, 16, 17, 18, 19, 20, 21, 22, 23, 24, 25, 26, 27, 28, 29, 30, 31, 32, 33, 34, 35, 36, 37, 38, 39, 40, 41, 42, 43, 44, 45, 46, 47, 48, 49, 50, 51, 52, 53, 54, 55, 56, 57, 58, 59, 60, 61, 6, 62, 63, 64, 65, 66, 67, 68, 69, 70, 71, 72, 73, 74, 75, 687, 688, 689, 690, 691, 692, 693, 694, 695, 696, 697, 698, 699, 700, 701, 702, 703, 704, 705, 706, 707, 708, 709, 710, 711, 712, 647, 648, 649, 650, 713, 714, 715, 716, 717, 718, 719, 720, 721, 722, 723, 724, 725, 726, 727, 728, 729, 730] (by decide +kernel) (by decide +kernel)
set_option maxRecDepth 20000 in
theorem gL_law_X4_init : GoodIn wsL_law (wsX4_init) := ggL_law_X4_init
set_option maxRecDepth 20000 in
theorem ggL_law_X5_init : GoodIn wsL_law wsX5_init := goodIn_r _ [78, 79, 11, 12, 33, 80, 81, 82, 83, 84, 85, 86, 87, 88, 89, 90, 91, 92, 93, 94, 95, 96, 97, 98, 99, 100, 101, 102, 651, 652, 653, 654, 655, 656, 657, 658, 659, 660, 661, 662, 663, 664, 665, 666, 667, 668, 669, 670, 671, 672, 673, 674, 675, 676, 677, 678, 679, 680, 681, 682, 683, 684, 685, 686] (by decide +kernel) (by decide +kernel)
set_option maxRecDepth 20000 in
theorem gL_law_X5_init : GoodIn wsL_law (wsX5_init) := ggL_law_X5_init
set_option maxRecDepth 20000 in
theorem ggL_law_L_kind : GoodIn wsL_law wsL_kind := goodIn_ca (goodIn_ca (goodIn_r _ [106, 107, 108, 109, 110, 111, 2, 112, 113, 19, 114, 115, 116, 117, 118, 119, 120, 121, 122, 123, 124, 125, 126, 127, 15, 128, 129, 34, 35, 36, 37, 130, 131, 132, 133, 20, 134, 24, 135, 28, 136, 137, 138, 27, 139, 71, 72, 140, 141, 142, 143, 647, 648, 649, 650, 687, 688, 689, 690, 691, 692, 693, 694, 695, 696, 697, 698, 699, 700, 701, 702, 703, 704, 705, 706, 707, 708, 709, 710, 711, 712, 713, 714, 715, 716, 717, 718, 719, 720, 721, 722, 723, 724, 725, 726, 727, 728, 729, 730] (by decide +kernel) (by decide +kernel)) (goodIn_sub (fun _ h => List.mem_append_left _ (List.mem_append_right _ h)) (by decide +kernel))) (goodIn_sub (fun _ h => List.mem_append_right _ h) (by decide +kernel))
set_option maxRecDepth 20000 in
theorem gL_law_L_kind : GoodIn wsL_law (va_wsS RL 77 yL_kind wsL_kind) := goodIn_app (goodIn_of _ (by decide +kernel)) ggL_law_L_kind
set_option maxRecDepth 20000 in
theorem ggL_law_X5_kind : GoodIn wsL_law wsX5_kind := goodIn_r _ [147, 148, 149, 150, 80, 81, 82, 83, 151, 152, 5, 153, 154, 155, 156, 157, 158, 101, 102, 651, 652, 653, 654, 655, 656, 657, 658, 659, 660, 661, 662, 663, 664, 665, 666, 667, 668, 669, 670, 671, 672, 673, 674, 675, 676, 677, 678, 679, 680, 681, 682, 683, 684, 685, 686] (by decide +kernel) (by decide +kernel)
set_option maxRecDepth 20000 in
theorem gL_law_X5_kind : GoodIn wsL_law (wsV RL 82 RX5 yX5_kind wsX5_kind) := goodIn_app (goodIn_of _ (by decide +kernel)) ggL_law_X5_kind
set_option maxRecDepth 20000 in
theorem ggL_law_X5_thrown : GoodIn wsL_law wsX5_thrown := goodIn_r _ [162, 150, 651, 652, 653, 654, 655, 656, 657, 658, 659, 660, 661, 662, 663, 664, 665, 666, 667, 668, 669, 670, 671, 672, 673, 674, 675, 676, 677, 678, 679, 680, 681, 682, 683, 684, 685, 686] (by decide +kernel) (by decide +kernel)
set_option maxRecDepth 20000 in
theorem gL_law_X5_thrown : GoodIn wsL_law (wsV RL 83 RX5 yX5_thrown wsX5_thrown) := goodIn_app (goodIn_of _ (by decide +kernel)) ggL_law_X5_thrown
set_option maxRecDepth 20000 in
theorem ggL_law_L_place : GoodIn wsL_law wsL_place := goodIn_ca (goodIn_ca (goodIn_r _ [165, 107, 108, 166, 167, 168, 2, 169, 19, 170, 115, 116, 117, 118, 119, 120, 121, 122, 123, 124, 171, 172, 173, 15, 174, 175, 38, 39, 130, 131, 132, 133, 20, 134, 24, 135, 28, 136, 137, 138, 27, 139, 71, 72, 140, 141, 142, 143, 647, 648, 649, 650, 687, 688, 689, 690, 691, 692, 693, 694, 695, 696, 697, 698, 699, 700, 701, 702, 703, 704, 705, 706, 707, 708, 709, 710, 711, 712, 713, 714, 715, 716, 717, 718, 719, 720, 721, 722, 723, 724, 725, 726, 727, 728, 729, 730] (by decide +kernel) (by decide +kernel)) (goodIn_sub (fun _ h => List.mem_append_left _ (List.mem_append_right _ h)) (by decide +kernel))) (goodIn_sub (fun _ h => List.mem_append_right _ h) (by decide +kernel))
set_option maxRecDepth 20000 in
theorem gL_law_L_place : GoodIn wsL_law (va_wsS RL 87 yL_place wsL_place) := goodIn_app (goodIn_of _ (by decide +kernel)) ggL_law_L_place
set_option maxRecDepth 20000 in
theorem ggL_law_X5_place : GoodIn wsL_law wsX5_place := goodIn_r _ [179, 180, 150, 84, 85, 86, 87, 151, 152, 5, 153, 154, 155, 156, 157, 158, 101, 102, 651, 652, 653, 654, 655, 656, 657, 658, 659, 660, 661, 662, 663, 664, 665, 666, 667, 668, 669, 670, 671, 672, 673, 674, 675, 676, 677, 678, 679, 680, 681, 682, 683, 684, 685, 686] (by decide +kernel) (by decide +kernel)
set_option maxRecDepth 20000 in
theorem gL_law_X5_place : GoodIn wsL_law (wsV RL 90 RX5 yX5_place wsX5_place) := goodIn_app (goodIn_of _ (by decide +kernel)) ggL_law_X5_place
set_option maxRecDepth 20000 in
theorem ggL_law_L_point : GoodIn wsL_law wsL_point := goodIn_ca (goodIn_ca (goodIn_r _ [183, 107, 108, 184, 185, 186, 2, 187, 113, 19, 188, 115, 116, 117, 118, 119, 120, 121, 122, 123, 124, 189, 190, 191, 15, 192, 193, 41, 42, 43, 130, 131, 132, 133, 20, 134, 24, 135, 28, 136, 137, 138, 27, 139, 71, 72, 140, 141, 142, 143, 647, 648, 649, 650, 687, 688, 689, 690, 691, 692, 693, 694, 695, 696, 697, 698, 699, 700, 701, 702, 703, 704, 705, 706, 707, 708, 709, 710, 711, 712, 713, 714, 715, 716, 717, 718, 719, 720, 721, 722, 723, 724, 725, 726, 727, 728, 729, 730] (by decide +kernel) (by decide +kernel)) (goodIn_sub (fun _ h => List.mem_append_left _ (List.mem_append_right _ h)) (by decide +kernel))) (goodIn_sub (fun _ h => List.mem_append_right _ h) (by decide +kernel))
set_option maxRecDepth 20000 in
theorem gL_law_L_point : GoodIn wsL_law (va_wsS RL 91 yL_point wsL_point) := goodIn_app (goodIn_of _ (by decide +kernel)) ggL_law_L_point
set_option maxRecDepth 20000 in
theorem ggL_law_X5_point : GoodIn wsL_law wsX5_point := goodIn_r _ [197, 148, 198, 150, 88, 89, 90, 151, 152, 5, 153, 154, 155, 156, 157, 158, 101, 102, 651, 652, 653, 654, 655, 656, 657, 658, 659, 660, 661, 662, 663, 664, 665, 666, 667, 668, 669, 670, 671, 672, 673, 674, 675, 676, 677, 678, 679, 680, 681, 682, 683, 684, 685, 686] (by decide +kernel) (by decide +kernel)
set_option maxRecDepth 20000 in
theorem gL_law_X5_point : GoodIn wsL_law (wsV RL 94 RX5 yX5_point wsX5_point) := goodIn_app (goodIn_of _ (by decide +kernel)) ggL_law_X5_point
set_option maxRecDepth 20000 in
theorem ggL_law_L_height : GoodIn wsL_law wsL_height := goodIn_ca (goodIn_r _ [201, 107, 202, 203, 204, 2, 205, 19, 206, 115, 116, 117, 118, 119, 130, 131, 132, 133, 20, 134, 24, 135, 28, 136, 137, 138, 27, 139, 71, 72, 140, 141, 142, 143, 647, 648, 649, 650, 687, 688, 689, 690, 691, 692, 693, 694, 695, 696, 697, 698, 699, 700, 701, 702, 703, 704, 705, 706, 707, 708, 709, 710, 711, 712, 713, 714, 715, 716, 717, 718, 719, 720, 721, 722, 723, 724, 725, 726, 727, 728, 729, 730] (by decide +kernel) (by decide +kernel)) (goodIn_sub (fun _ h => List.mem_append_left _ (List.mem_append_right _ h)) (by decide +kernel))
set_option maxRecDepth 20000 in
theorem gL_law_L_height : GoodIn wsL_law (va_wsS RL 95 yL_height wsL_height) := goodIn_app (goodIn_of _ (by decide +kernel)) ggL_law_L_height
set_option maxRecDepth 20000 in
theorem ggL_law_X5_height : GoodIn wsL_law wsX5_height := goodIn_r _ [210, 150, 93, 151, 152, 5, 153, 154, 155, 156, 157, 158, 101, 102, 651, 652, 653, 654, 655, 656, 657, 658, 659, 660, 661, 662, 663, 664, 665, 666, 667, 668, 669, 670, 671, 672, 673, 674, 675, 676, 677, 678, 679, 680, 681, 682, 683, 684, 685, 686] (by decide +kernel) (by decide +kernel)
set_option maxRecDepth 20000 in
theorem gL_law_X5_height : GoodIn wsL_law (wsV RL 98 RX5 yX5_height wsX5_height) := goodIn_app (goodIn_of _ (by decide +kernel)) ggL_law_X5_height
set_option maxRecDepth 20000 in
theorem ggL_law_L_hold : GoodIn wsL_law wsL_hold := goodIn_ca (goodIn_r _ [213, 107, 214, 215, 216, 2, 217, 19, 114, 218, 219, 220, 221, 222, 170, 115, 116, 117, 118, 119, 130, 131, 132, 133, 20, 134, 24, 135, 28, 136, 137, 138, 27, 139, 71, 72, 140, 141, 142, 143, 647, 648, 649, 650, 687, 688, 689, 690, 691, 692, 693, 694, 695, 696, 697, 698, 699, 700, 701, 702, 703, 704, 705, 706, 707, 708, 709, 710, 711, 712, 713, 714, 715, 716, 717, 718, 719, 720, 721, 722, 723, 724, 725, 726, 727, 728, 729, 730] (by decide +kernel) (by decide +kernel)) (goodIn_sub (fun _ h => List.mem_append_left _ (List.mem_append_right _ h)) (by decide +kernel))
set_option maxRecDepth 20000 in
theorem gL_law_L_hold : GoodIn wsL_law (va_wsS RL 99 yL_hold wsL_hold) := goodIn_app (goodIn_of _ (by decide +kernel)) ggL_law_L_hold
set_option maxRecDepth 20000 in
theorem ggL_law_X5_hold : GoodIn wsL_law wsX5_hold := goodIn_r _ [226, 150, 86, 227, 228, 229, 5, 230, 180, 151, 152, 153, 231, 232, 233, 234, 149, 154, 155, 156, 157, 158, 101, 102, 651, 652, 653, 654, 655, 656, 657, 658, 659, 660, 661, 662, 663, 664, 665, 666, 667, 668, 669, 670, 671, 672, 673, 674, 675, 676, 677, 678, 679, 680, 681, 682, 683, 684, 685, 686] (by decide +kernel) (by decide +kernel)
set_option maxRecDepth 20000 in
theorem gL_law_X5_hold : GoodIn wsL_law (wsV RL 102 RX5 yX5_hold wsX5_hold) := goodIn_app (goodIn_of _ (by decide +kernel)) ggL_law_X5_hold
set_option maxRecDepth 20000 in
theorem ggL_law_L_light : GoodIn wsL_law wsL_light := goodIn_ca (goodIn_r _ [237, 107, 238, 239, 240, 2, 241, 19, 114, 115, 116, 117, 118, 119, 219, 220, 221, 222, 170, 242, 243, 244, 245, 188, 246, 247, 248, 15, 249, 38, 41, 39, 42, 250, 34, 44, 251, 252, 647, 648, 649, 650, 687, 688, 689, 690, 691, 692, 693, 694, 695, 696, 697, 698, 699, 700] (by decide +kernel) (by decide +kernel)) (goodIn_sub (fun _ h => List.mem_append_left _ (List.mem_append_right _ h)) (by decide +kernel))
set_option maxRecDepth 20000 in
theorem gL_law_L_light : GoodIn wsL_law (va_wsS RL 103 yL_light wsL_light) := goodIn_app (goodIn_of _ (by decide +kernel)) ggL_law_L_light
set_option maxRecDepth 20000 in
theorem ggL_law_X5_light : GoodIn wsL_law wsX5_light := goodIn_r _ [256, 150, 231, 232, 233, 5, 234, 149, 151, 152, 153, 227, 228, 229, 230, 180, 257, 258, 259, 260, 198, 261, 262, 263, 264, 84, 88, 85, 89, 80, 93, 651, 652, 653, 654, 655, 656, 657, 658, 659, 660, 661, 662, 663, 664, 665, 666, 667, 668, 669, 670, 671, 672, 673, 674, 675, 676, 677, 678, 679, 680, 681, 682, 683, 684, 685, 686] (by decide +kernel) (by decide +kernel)
set_option maxRecDepth 20000 in
theorem gL_law_X5_light : GoodIn wsL_law (wsV RL 105 RX5 yX5_light wsX5_light) := goodIn_app (goodIn_of _ (by decide +kernel)) ggL_law_X5_light
set_option maxRecDepth 20000 in
theorem ggL_law_X4_best : GoodIn wsL_law wsX4_best := goodIn_r _ [268, 20, 269, 270, 271, 272, 273, 18, 274, 275, 276, 53, 277, 141, 142, 143, 278, 279, 280, 281, 55, 282, 283, 284, 49, 285, 286, 287, 288, 247, 248, 15, 249, 38, 41, 39, 42, 250, 34, 44, 251, 2, 252, 289, 290, 291, 292, 50, 293, 294, 295, 296, 297, 298, 299, 300, 301, 302, 303, 304, 40, 305, 306, 307, 308, 51, 309, 310, 311, 312, 313, 314, 52, 315, 316, 317, 318, 319, 320, 321, 322, 323, 324, 325, 326, 327, 328, 329, 330, 54, 331, 332, 333, 334, 35, 335, 336, 337, 338, 647, 648, 649, 650, 701, 702, 703, 704, 705, 706, 707, 708, 709, 710, 711, 712, 687, 688, 689, 690, 691, 692, 693, 694, 695, 696, 697, 698, 699, 700] (by decide +kernel) (by decide +kernel)
set_option maxRecDepth 20000 in
theorem gL_law_X4_best : GoodIn wsL_law (wsV RL 106 RX4 yX4_best wsX4_best) := goodIn_app (goodIn_of _ (by decide +kernel)) ggL_law_X4_best
set_option maxRecDepth 20000 in
theorem ggL_law_X5_best : GoodIn wsL_law wsX5_best := goodIn_r _ [342, 150, 343, 344, 345, 346, 347, 5, 348, 158, 149, 180, 198, 99, 97, 96, 261, 262, 263, 264, 84, 88, 85, 89, 80, 93, 349, 350, 351, 352, 86, 353, 354, 355, 356, 98, 81, 357, 358, 359, 360, 90, 361, 362, 95, 363, 364, 365, 366, 651, 652, 653, 654, 655, 656, 657, 658, 659, 660, 661, 662, 663, 664, 665, 666, 667, 668, 669, 670, 671, 672, 673, 674, 675, 676, 677, 678, 679, 680, 681, 682, 683, 684, 685, 686] (by decide +kernel) (by decide +kernel)
set_option maxRecDepth 20000 in
theorem gL_law_X5_best : GoodIn wsL_law (wsV RL 109 RX5 yX5_best wsX5_best) := goodIn_app (goodIn_of _ (by decide +kernel)) ggL_law_X5_best
set_option maxRecDepth 20000 in
theorem ggL_law_L_lamp : GoodIn wsL_law wsL_lamp := goodIn_ca (goodIn_r _ [369, 107, 370, 371, 372, 2, 373, 20, 269, 374, 219, 220, 221, 222, 19, 170, 115, 116, 117, 118, 119, 271, 272, 273, 18, 274, 275, 276, 53, 277, 141, 142, 143, 278, 279, 280, 281, 55, 282, 283, 284, 49, 285, 286, 287, 288, 247, 248, 15, 249, 38, 41, 39, 42, 250, 34, 44, 251, 252, 289, 290, 291, 292, 50, 293, 294, 295, 296, 297, 298, 299, 300, 301, 302, 303, 304, 40, 305, 306, 307, 308, 51, 309, 310, 311, 312, 313, 314, 52, 315, 316, 317, 318, 319, 320, 321, 322, 323, 324, 325, 326, 327, 328, 329, 330, 54, 331, 332, 333, 334, 35, 335, 336, 337, 338, 647, 648, 649, 650, 701, 702, 703, 704, 705, 706, 707, 708, 709, 710, 711, 712, 687, 688, 689, 690, 691, 692, 693, 694, 695, 696, 697, 698, 699, 700] (by decide +kernel) (by decide +kernel)) (goodIn_sub (fun _ h => List.mem_append_left _ (List.mem_append_right _ h)) (by decide +kernel))
set_option maxRecDepth 20000 in
theorem gL_law_L_lamp : GoodIn wsL_law (va_wsS RL 110 yL_lamp wsL_lamp) := goodIn_app (goodIn_of _ (by decide +kernel)) ggL_law_L_lamp
set_option maxRecDepth 20000 in
theorem ggL_law_X5_lamp : GoodIn wsL_law wsX5_lamp := goodIn_r _ [378, 150, 343, 95, 227, 228, 229, 5, 230, 180, 151, 152, 153, 345, 346, 347, 348, 158, 149, 198, 99, 97, 96, 261, 262, 263, 264, 84, 88, 85, 89, 80, 93, 349, 350, 351, 352, 86, 353, 354, 355, 356, 98, 81, 357, 358, 359, 360, 344, 90, 361, 362, 363, 364, 365, 366, 651, 652, 653, 654, 655, 656, 657, 658, 659, 660, 661, 662, 663, 664, 665, 666, 667, 668, 669, 670, 671, 672, 673, 674, 675, 676, 677, 678, 679, 680, 681, 682, 683, 684, 685, 686] (by decide +kernel) (by decide +kernel)
set_option maxRecDepth 20000 in
theorem gL_law_X5_lamp : GoodIn wsL_law (wsV RL 112 RX5 yX5_lamp wsX5_lamp) := goodIn_app (goodIn_of _ (by decide +kernel)) ggL_law_X5_lamp
set_option maxRecDepth 20000 in
theorem ggL_law_L_level : GoodIn wsL_law wsL_level := goodIn_ca (goodIn_r _ [381, 107, 382, 383, 384, 2, 385, 20, 269, 386, 242, 243, 244, 245, 19, 188, 115, 116, 117, 118, 119, 271, 272, 273, 18, 274, 275, 276, 53, 277, 141, 142, 143, 278, 279, 280, 281, 55, 282, 283, 284, 49, 285, 286, 287, 288, 247, 248, 15, 249, 38, 41, 39, 42, 250, 34, 44, 251, 252, 289, 290, 291, 292, 50, 293, 294, 295, 296, 297, 298, 299, 300, 301, 302, 303, 304, 40, 305, 306, 307, 308, 51, 309, 310, 311, 312, 313, 314, 52, 315, 316, 317, 318, 319, 320, 321, 322, 323, 324, 325, 326, 327, 328, 329, 330, 54, 331, 332, 333, 334, 35, 335, 336, 337, 338, 647, 648, 649, 650, 701, 702, 703, 704, 705, 706, 707, 708, 709, 710, 711, 712, 687, 688, 689, 690, 691, 692, 693, 694, 695, 696, 697, 698, 699, 700] (by decide +kernel) (by decide +kernel)) (goodIn_sub (fun _ h => List.mem_append_left _ (List.mem_append_right _ h)) (by decide +kernel))
set_option maxRecDepth 20000 in
theorem gL_law_L_level : GoodIn wsL_law (va_wsS RL 113 yL_level wsL_level) := goodIn_app (goodIn_of _ (by decide +kernel)) ggL_law_L_level
set_option maxRecDepth 20000 in
theorem ggL_law_X5_level : GoodIn wsL_law wsX5_level := goodIn_r _ [390, 150, 343, 180, 95, 257, 258, 259, 5, 260, 198, 151, 152, 153, 345, 346, 347, 348, 158, 149, 99, 97, 96, 261, 262, 263, 264, 84, 88, 85, 89, 80, 93, 349, 350, 351, 352, 86, 353, 354, 355, 356, 98, 81, 357, 358, 359, 360, 344, 90, 361, 362, 363, 364, 365, 366, 651, 652, 653, 654, 655, 656, 657, 658, 659, 660, 661, 662, 663, 664, 665, 666, 667, 668, 669, 670, 671, 672, 673, 674, 675, 676, 677, 678, 679, 680, 681, 682, 683, 684, 685, 686] (by decide +kernel) (by decide +kernel)
set_option maxRecDepth 20000 in
theorem gL_law_X5_level : GoodIn wsL_law (wsV RL 115 RX5 yX5_level wsX5_level) := goodIn_app (goodIn_of _ (by decide +kernel)) ggL_law_X5_level
set_option maxRecDepth 20000 in
theorem ggL_law_L_even : GoodIn wsL_law wsL_even := goodIn_ca (goodIn_r _ [393, 107, 394, 395, 396, 2, 397, 20, 269, 398, 115, 116, 117, 118, 119, 271, 272, 273, 18, 274, 275, 276, 53, 277, 141, 142, 143, 278, 279, 280, 281, 55, 282, 283, 284, 49, 285, 286, 287, 288, 247, 248, 15, 249, 38, 41, 39, 42, 250, 34, 44, 251, 252, 289, 290, 291, 292, 50, 293, 294, 295, 296, 297, 298, 299, 300, 301, 302, 303, 304, 40, 305, 306, 307, 308, 51, 309, 310, 311, 312, 313, 314, 52, 315, 316, 317, 318, 319, 320, 321, 322, 323, 324, 325, 326, 327, 328, 329, 330, 54, 331, 332, 333, 334, 35, 335, 336, 337, 338, 399, 400, 401, 402, 403, 404, 405, 406, 407, 408, 409, 647, 648, 649, 650, 701, 702, 703, 704, 705, 706, 707, 708, 709, 710, 711, 712, 687, 688, 689, 690, 691, 692, 693, 694, 695, 696, 697, 698, 699, 700] (by decide +kernel) (by decide +kernel)) (goodIn_sub (fun _ h => List.mem_append_left _ (List.mem_append_right _ h)) (by decide +kernel))
set_option maxRecDepth 20000 in
theorem gL_law_L_even : GoodIn wsL_law (va_wsS RL 116 yL_even wsL_even) := goodIn_app (goodIn_of _ (by decide +kernel)) ggL_law_L_even
set_option maxRecDepth 20000 in
theorem ggL_law_X5_even : GoodIn wsL_law wsX5_even := goodIn_r _ [413, 150, 343, 414, 362, 361, 151, 152, 5, 153, 345, 346, 347, 348, 158, 149, 180, 198, 99, 97, 96, 261, 262, 263, 264, 84, 88, 85, 89, 80, 93, 349, 350, 351, 352, 86, 353, 354, 355, 356, 98, 81, 357, 358, 359, 360, 344, 90, 95, 363, 364, 365, 366, 415, 416, 417, 651, 652, 653, 654, 655, 656, 657, 658, 659, 660, 661, 662, 663, 664, 665, 666, 667, 668, 669, 670, 671, 672, 673, 674, 675, 676, 677, 678, 679, 680, 681, 682, 683, 684, 685, 686] (by decide +kernel) (by decide +kernel)
set_option maxRecDepth 20000 in
theorem gL_law_X5_even : GoodIn wsL_law (wsV RL 118 RX5 yX5_even wsX5_even) := goodIn_app (goodIn_of _ (by decide +kernel)) ggL_law_X5_even
set_option maxRecDepth 20000 in
theorem ggL_law_L_aim : GoodIn wsL_law wsL_aim := goodIn_ca (goodIn_r _ [420, 107, 421, 422, 423, 2, 424, 425, 24, 242, 243, 244, 245, 19, 188, 115, 116, 117, 118, 119, 426, 427, 428, 23, 429, 60, 430, 647, 648, 649, 650, 687, 688, 689, 690, 691, 692, 693, 694, 695, 696, 697, 698, 699, 700, 713, 714, 715, 716, 717, 718, 719] (by decide +kernel) (by decide +kernel)) (goodIn_sub (fun _ h => List.mem_append_left _ (List.mem_append_right _ h)) (by decide +kernel))
set_option maxRecDepth 20000 in
theorem gL_law_L_aim : GoodIn wsL_law (va_wsS RL 119 yL_aim wsL_aim) := goodIn_app (goodIn_of _ (by decide +kernel)) ggL_law_L_aim
set_option maxRecDepth 20000 in
theorem ggL_law_X5_aim : GoodIn wsL_law wsX5_aim := goodIn_r _ [434, 435, 150, 91, 257, 258, 259, 5, 260, 198, 151, 152, 153, 651, 652, 653, 654, 655, 656, 657, 658, 659, 660, 661, 662, 663, 664, 665, 666, 667, 668, 669, 670, 671, 672, 673, 674, 675, 676, 677, 678, 679, 680, 681, 682, 683, 684, 685, 686] (by decide +kernel) (by decide +kernel)
set_option maxRecDepth 20000 in
theorem gL_law_X5_aim : GoodIn wsL_law (wsV RL 121 RX5 yX5_aim wsX5_aim) := goodIn_app (goodIn_of _ (by decide +kernel)) ggL_law_X5_aim
set_option maxRecDepth 20000 in
theorem ggL_law_X4_scene : GoodIn wsL_law wsX4_scene := goodIn_r _ [439, 24, 440, 441, 442, 443, 2, 444, 20, 271, 272, 273, 18, 274, 275, 276, 53, 277, 141, 142, 143, 278, 279, 280, 281, 55, 282, 283, 284, 49, 285, 286, 287, 288, 247, 248, 15, 249, 38, 41, 39, 42, 250, 34, 44, 251, 252, 289, 290, 291, 292, 50, 293, 294, 295, 296, 297, 298, 299, 300, 301, 302, 303, 304, 40, 305, 306, 307, 308, 51, 309, 310, 311, 312, 313, 314, 52, 315, 316, 317, 318, 319, 320, 321, 322, 323, 324, 325, 326, 327, 328, 329, 330, 54, 331, 332, 333, 334, 35, 335, 336, 337, 338, 445, 446, 447, 23, 448, 430, 61, 63, 449, 62, 450, 60, 451, 64, 452, 453, 454, 455, 456, 457, 458, 459, 460, 461, 462, 463, 464, 465, 466, 467, 468, 469, 470, 471, 472, 473, 474, 475, 476, 647, 648, 649, 650, 713, 714, 715, 716, 717, 718, 719, 701, 702, 703, 704, 705, 706, 707, 708, 709, 710, 711, 712, 687, 688, 689, 690, 691, 692, 693, 694, 695, 696, 697, 698, 699, 700] (by decide +kernel) (by decide +kernel)
set_option maxRecDepth 20000 in
theorem gL_law_X4_scene : GoodIn wsL_law (wsV RL 122 RX4 yX4_scene wsX4_scene) := goodIn_app (goodIn_of _ (by decide +kernel)) ggL_law_X4_scene
set_option maxRecDepth 20000 in
theorem ggL_law_X5_scene : GoodIn wsL_law wsX5_scene := goodIn_r _ [480, 150, 481, 482, 483, 5, 484, 100, 180, 345, 346, 347, 348, 158, 343, 149, 198, 99, 97, 96, 261, 262, 263, 264, 84, 88, 85, 89, 80, 93, 349, 350, 351, 352, 86, 353, 354, 355, 356, 98, 81, 357, 358, 359, 360, 344, 90, 361, 362, 95, 363, 364, 365, 366, 485, 486, 487, 488, 489, 490, 491, 492, 493, 494, 495, 496, 497, 498, 91, 651, 652, 653, 654, 655, 656, 657, 658, 659, 660, 661, 662, 663, 664, 665, 666, 667, 668, 669, 670, 671, 672, 673, 674, 675, 676, 677, 678, 679, 680, 681, 682, 683, 684, 685, 686] (by decide +kernel) (by decide +kernel)
set_option maxRecDepth 20000 in
theorem gL_law_X5_scene : GoodIn wsL_law (wsV RL 125 RX5 yX5_scene wsX5_scene) := goodIn_app (goodIn_of _ (by decide +kernel)) ggL_law_X5_scene
set_option maxRecDepth 20000 in
theorem ggL_law_L_dim : GoodIn wsL_law wsL_dim := goodIn_ca (goodIn_r _ [501, 107, 502, 503, 504, 2, 505, 20, 374, 24, 506, 219, 220, 221, 222, 19, 170, 115, 116, 117, 118, 119, 441, 442, 443, 444, 271, 272, 273, 18, 274, 275, 276, 53, 277, 141, 142, 143, 278, 279, 280, 281, 55, 282, 283, 284, 49, 285, 286, 287, 288, 247, 248, 15, 249, 38, 41, 39, 42, 250, 34, 44, 251, 252, 289, 290, 291, 292, 50, 293, 294, 295, 296, 297, 298, 299, 300, 301, 302, 303, 304, 40, 305, 306, 307, 308, 51, 309, 310, 311, 312, 313, 314, 52, 315, 316, 317, 318, 319, 320, 321, 322, 323, 324, 325, 326, 327, 328, 329, 330, 54, 331, 332, 333, 334, 35, 335, 336, 337, 338, 445, 446, 447, 23, 448, 430, 61, 63, 449, 62, 450, 60, 451, 64, 452, 453, 454, 455, 456, 457, 458, 459, 460, 461, 462, 463, 464, 465, 466, 467, 468, 469, 470, 471, 472, 473, 474, 475, 476, 647, 648, 649, 650, 701, 702, 703, 704, 705, 706, 707, 708, 709, 710, 711, 712, 713, 714, 715, 716, 717, 718, 719, 687, 688, 689, 690, 691, 692, 693, 694, 695, 696, 697, 698, 699, 700] (by decide +kernel) (by decide +kernel)) (goodIn_sub (fun _ h => List.mem_append_left _ (List.mem_append_right _ h)) (by decide +kernel))
set_option maxRecDepth 20000 in
theorem gL_law_L_dim : GoodIn wsL_law (va_wsS RL 126 yL_dim wsL_dim) := goodIn_app (goodIn_of _ (by decide +kernel)) ggL_law_L_dim
set_option maxRecDepth 20000 in
theorem ggL_law_X5_dim : GoodIn wsL_law wsX5_dim := goodIn_r _ [510, 150, 100, 227, 228, 229, 5, 230, 180, 151, 152, 153, 481, 482, 483, 484, 345, 346, 347, 348, 158, 343, 149, 198, 99, 97, 96, 261, 262, 263, 264, 84, 88, 85, 89, 80, 93, 349, 350, 351, 352, 86, 353, 354, 355, 356, 98, 81, 357, 358, 359, 360, 344, 90, 361, 362, 95, 363, 364, 365, 366, 485, 486, 487, 488, 489, 490, 491, 492, 493, 494, 495, 496, 497, 498, 91, 651, 652, 653, 654, 655, 656, 657, 658, 659, 660, 661, 662, 663, 664, 665, 666, 667, 668, 669, 670, 671, 672, 673, 674, 675, 676, 677, 678, 679, 680, 681, 682, 683, 684, 685, 686] (by decide +kernel) (by decide +kernel)
set_option maxRecDepth 20000 in
theorem gL_law_X5_dim : GoodIn wsL_law (wsV RL 128 RX5 yX5_dim wsX5_dim) := goodIn_app (goodIn_of _ (by decide +kernel)) ggL_law_X5_dim
set_option maxRecDepth 20000 in
theorem ggL_law_L_miss : GoodIn wsL_law wsL_miss := goodIn_ca (goodIn_r _ [513, 107, 514, 515, 516, 2, 517, 24, 518, 242, 243, 244, 245, 19, 188, 115, 116, 117, 118, 119, 441, 442, 443, 444, 20, 271, 272, 273, 18, 274, 275, 276, 53, 277, 141, 142, 143, 278, 279, 280, 281, 55, 282, 283, 284, 49, 285, 286, 287, 288, 247, 248, 15, 249, 38, 41, 39, 42, 250, 34, 44, 251, 252, 289, 290, 291, 292, 50, 293, 294, 295, 296, 297, 298, 299, 300, 301, 302, 303, 304, 40, 305, 306, 307, 308, 51, 309, 310, 311, 312, 313, 314, 52, 315, 316, 317, 318, 319, 320, 321, 322, 323, 324, 325, 326, 327, 328, 329, 330, 54, 331, 332, 333, 334, 35, 335, 336, 337, 338, 445, 446, 447, 23, 448, 430, 61, 63, 449, 62, 450, 60, 451, 64, 452, 453, 454, 455, 456, 457, 458, 459, 460, 461, 462, 463, 464, 465, 466, 467, 468, 469, 470, 471, 472, 473, 474, 475, 476, 647, 648, 649, 650, 713, 714, 715, 716, 717, 718, 719, 687, 688, 689, 690, 691, 692, 693, 694, 695, 696, 697, 698, 699, 700, 701, 702, 703, 704, 705, 706, 707, 708, 709, 710, 711, 712] (by decide +kernel) (by decide +kernel)) (goodIn_sub (fun _ h => List.mem_append_left _ (List.mem_append_right _ h)) (by decide +kernel))
set_option maxRecDepth 20000 in
theorem gL_law_L_miss : GoodIn wsL_law (va_wsS RL 129 yL_miss wsL_miss) := goodIn_app (goodIn_of _ (by decide +kernel)) ggL_law_L_miss
set_option maxRecDepth 20000 in
theorem ggL_law_X5_miss : GoodIn wsL_law wsX5_miss := goodIn_r _ [522, 150, 257, 258, 259, 5, 260, 198, 151, 152, 153, 481, 482, 483, 484, 100, 180, 345, 346, 347, 348, 158, 343, 149, 99, 97, 96, 261, 262, 263, 264, 84, 88, 85, 89, 80, 93, 349, 350, 351, 352, 86, 353, 354, 355, 356, 98, 81, 357, 358, 359, 360, 344, 90, 361, 362, 95, 363, 364, 365, 366, 485, 486, 487, 488, 489, 490, 491, 492, 493, 494, 495, 496, 497, 498, 91, 651, 652, 653, 654, 655, 656, 657, 658, 659, 660, 661, 662, 663, 664, 665, 666, 667, 668, 669, 670, 671, 672, 673, 674, 675, 676, 677, 678, 679, 680, 681, 682, 683, 684, 685, 686] (by decide +kernel) (by decide +kernel)
set_option maxRecDepth 20000 in
theorem gL_law_X5_miss : GoodIn wsL_law (wsV RL 131 RX5 yX5_miss wsX5_miss) := goodIn_app (goodIn_of _ (by decide +kernel)) ggL_law_X5_miss
set_option maxRecDepth 20000 in
theorem ggL_law_L_sensor : GoodIn wsL_law wsL_sensor := goodIn_ca (goodIn_r _ [525, 107, 526, 527, 528, 2, 529, 19, 188, 28, 530, 219, 220, 221, 222, 170, 115, 116, 117, 118, 119, 130, 131, 132, 133, 20, 134, 24, 135, 136, 137, 138, 27, 139, 71, 72, 140, 141, 142, 143, 647, 648, 649, 650, 687, 688, 689, 690, 691, 692, 693, 694, 695, 696, 697, 698, 699, 700, 720, 721, 722, 723, 724, 725, 726, 727, 728, 729, 730, 701, 702, 703, 704, 705, 706, 707, 708, 709, 710, 711, 712, 713, 714, 715, 716, 717, 718, 719] (by decide +kernel) (by decide +kernel)) (goodIn_sub (fun _ h => List.mem_append_left _ (List.mem_append_right _ h)) (by decide +kernel))
set_option maxRecDepth 20000 in
theorem gL_law_L_sensor : GoodIn wsL_law (va_wsS RL 132 yL_sensor wsL_sensor) := goodIn_app (goodIn_of _ (by decide +kernel)) ggL_law_L_sensor
set_option maxRecDepth 20000 in
theorem ggL_law_X5_sensor : GoodIn wsL_law wsX5_sensor := goodIn_r _ [534, 150, 87, 227, 228, 229, 5, 230, 180, 151, 152, 153, 257, 258, 259, 260, 198, 154, 155, 156, 157, 158, 101, 102, 651, 652, 653, 654, 655, 656, 657, 658, 659, 660, 661, 662, 663, 664, 665, 666, 667, 668, 669, 670, 671, 672, 673, 674, 675, 676, 677, 678, 679, 680, 681, 682, 683, 684, 685, 686] (by decide +kernel) (by decide +kernel)
set_option maxRecDepth 20000 in
theorem gL_law_X5_sensor : GoodIn wsL_law (wsV RL 134 RX5 yX5_sensor wsX5_sensor) := goodIn_app (goodIn_of _ (by decide +kernel)) ggL_law_X5_sensor
set_option maxRecDepth 20000 in
theorem ggL_law_L_daylight : GoodIn wsL_law wsL_daylight := goodIn_ca (goodIn_r _ [537, 107, 538, 539, 540, 2, 541, 113, 28, 542, 242, 243, 244, 245, 19, 188, 115, 116, 117, 118, 119, 647, 648, 649, 650, 720, 721, 722, 723, 724, 725, 726, 727, 728, 729, 730, 687, 688, 689, 690, 691, 692, 693, 694, 695, 696, 697, 698, 699, 700] (by decide +kernel) (by decide +kernel)) (goodIn_sub (fun _ h => List.mem_append_left _ (List.mem_append_right _ h)) (by decide +kernel))
set_option maxRecDepth 20000 in
theorem gL_law_L_daylight : GoodIn wsL_law (va_wsS RL 135 yL_daylight wsL_daylight) := goodIn_app (goodIn_of _ (by decide +kernel)) ggL_law_L_daylight
set_option maxRecDepth 20000 in
theorem ggL_law_X5_daylight : GoodIn wsL_law wsX5_daylight := goodIn_r _ [546, 148, 150, 92, 257, 258, 259, 5, 260, 198, 151, 152, 153, 651, 652, 653, 654, 655, 656, 657, 658, 659, 660, 661, 662, 663, 664, 665, 666, 667, 668, 669, 670, 671, 672, 673, 674, 675, 676, 677, 678, 679, 680, 681, 682, 683, 684, 685, 686] (by decide +kernel) (by decide +kernel)
set_option maxRecDepth 20000 in
theorem gL_law_X5_daylight : GoodIn wsL_law (wsV RL 137 RX5 yX5_daylight wsX5_daylight) := goodIn_app (goodIn_of _ (by decide +kernel)) ggL_law_X5_daylight
set_option maxRecDepth 20000 in
theorem ggL_law_L_step : GoodIn wsL_law wsL_step := goodIn_ca (goodIn_r _ [549, 107, 550, 551, 552, 2, 553, 28, 554, 115, 116, 117, 118, 119, 647, 648, 649, 650, 720, 721, 722, 723, 724, 725, 726, 727, 728, 729, 730] (by decide +kernel) (by decide +kernel)) (goodIn_sub (fun _ h => List.mem_append_left _ (List.mem_append_right _ h)) (by decide +kernel))
set_option maxRecDepth 20000 in
theorem gL_law_L_step : GoodIn wsL_law (va_wsS RL 138 yL_step wsL_step) := goodIn_app (goodIn_of _ (by decide +kernel)) ggL_law_L_step
set_option maxRecDepth 20000 in
theorem ggL_law_X5_step : GoodIn wsL_law wsX5_step := goodIn_r _ [558, 150, 94, 151, 152, 5, 153, 651, 652, 653, 654, 655, 656, 657, 658, 659, 660, 661, 662, 663, 664, 665, 666, 667, 668, 669, 670, 671, 672, 673, 674, 675, 676, 677, 678, 679, 680, 681, 682, 683, 684, 685, 686] (by decide +kernel) (by decide +kernel)
set_option maxRecDepth 20000 in
theorem gL_law_X5_step : GoodIn wsL_law (wsV RL 140 RX5 yX5_step wsX5_step) := goodIn_app (goodIn_of _ (by decide +kernel)) ggL_law_X5_step
set_option maxRecDepth 20000 in
theorem ggL_law_L_run : GoodIn wsL_law wsL_run := goodIn_ca (goodIn_ca (goodIn_r _ [561, 107, 108, 562, 563, 564, 2, 565, 123, 124, 28, 566, 425, 20, 115, 116, 117, 118, 119, 271, 272, 273, 18, 274, 275, 276, 53, 277, 141, 142, 143, 278, 279, 280, 281, 55, 282, 283, 284, 49, 285, 286, 287, 288, 247, 248, 15, 249, 38, 41, 39, 42, 250, 34, 44, 251, 252, 289, 290, 291, 292, 50, 293, 294, 295, 296, 297, 298, 299, 300, 301, 302, 303, 304, 40, 305, 306, 307, 308, 51, 309, 310, 311, 312, 313, 314, 52, 315, 316, 317, 318, 319, 320, 321, 322, 323, 324, 325, 326, 327, 328, 329, 330, 54, 331, 332, 333, 334, 35, 335, 336, 337, 338, 567, 568, 569, 27, 570, 74, 571, 75, 572, 573, 574, 575, 576, 577, 71, 578, 579, 580, 581, 69, 582, 70, 583, 584, 585, 470, 471, 472, 586, 587, 588, 589, 73, 590, 591, 592, 593, 594, 595, 596, 597, 598, 599, 600, 72, 601, 602, 603, 647, 648, 649, 650, 720, 721, 722, 723, 724, 725, 726, 727, 728, 729, 730, 701, 702, 703, 704, 705, 706, 707, 708, 709, 710, 711, 712, 687, 688, 689, 690, 691, 692, 693, 694, 695, 696, 697, 698, 699, 700] (by decide +kernel) (by decide +kernel)) (goodIn_sub (fun _ h => List.mem_append_right _ h) (by decide +kernel))) (goodIn_sub (fun _ h => List.mem_append_left _ (List.mem_append_right _ h)) (by decide +kernel))
set_option maxRecDepth 20000 in
theorem gL_law_L_run : GoodIn wsL_law (va_wsS RL 141 yL_run wsL_run) := goodIn_app (goodIn_of _ (by decide +kernel)) ggL_law_L_run
set_option maxRecDepth 20000 in
theorem ggL_law_X5_run : GoodIn wsL_law wsX5_run := goodIn_r _ [607, 608, 435, 150, 180, 151, 152, 5, 153, 345, 346, 347, 348, 158, 343, 149, 198, 99, 97, 96, 261, 262, 263, 264, 84, 88, 85, 89, 80, 93, 349, 350, 351, 352, 86, 353, 354, 355, 356, 98, 81, 357, 358, 359, 360, 344, 90, 361, 362, 95, 363, 364, 365, 366, 485, 486, 487, 488, 609, 610, 611, 612, 87, 92, 498, 613, 614, 615, 616, 101, 94, 102, 82, 617, 83, 618, 619, 651, 652, 653, 654, 655, 656, 657, 658, 659, 660, 661, 662, 663, 664, 665, 666, 667, 668, 669, 670, 671, 672, 673, 674, 675, 676, 677, 678, 679, 680, 681, 682, 683, 684, 685, 686] (by decide +kernel) (by decide +kernel)
set_option maxRecDepth 20000 in
theorem gL_law_X5_run : GoodIn wsL_law (wsV RL 143 RX5 yX5_run wsX5_run) := goodIn_app (goodIn_of _ (by decide +kernel)) ggL_law_X5_run
set_option maxRecDepth 20000 in
theorem ggL_law_L_own : GoodIn wsL_law wsL_own := goodIn_ca (goodIn_r _ [622, 107, 623, 624, 625, 2, 626, 20, 374, 28, 627, 628, 219, 220, 221, 222, 19, 170, 115, 116, 117, 118, 119, 271, 272, 273, 18, 274, 275, 276, 53, 277, 141, 142, 143, 278, 279, 280, 281, 55, 282, 283, 284, 49, 285, 286, 287, 288, 247, 248, 15, 249, 38, 41, 39, 42, 250, 34, 44, 251, 252, 289, 290, 291, 292, 50, 293, 294, 295, 296, 297, 298, 299, 300, 301, 302, 303, 304, 40, 305, 306, 307, 308, 51, 309, 310, 311, 312, 313, 314, 52, 315, 316, 317, 318, 319, 320, 321, 322, 323, 324, 325, 326, 327, 328, 329, 330, 54, 331, 332, 333, 334, 35, 335, 336, 337, 338, 647, 648, 649, 650, 701, 702, 703, 704, 705, 706, 707, 708, 709, 710, 711, 712, 720, 721, 722, 723, 724, 725, 726, 727, 728, 729, 730, 687, 688, 689, 690, 691, 692, 693, 694, 695, 696, 697, 698, 699, 700] (by decide +kernel) (by decide +kernel)) (goodIn_sub (fun _ h => List.mem_append_left _ (List.mem_append_right _ h)) (by decide +kernel))
set_option maxRecDepth 20000 in
theorem gL_law_L_own : GoodIn wsL_law (va_wsS RL 144 yL_own wsL_own) := goodIn_app (goodIn_of _ (by decide +kernel)) ggL_law_L_own
set_option maxRecDepth 20000 in
theorem ggL_law_X5_own : GoodIn wsL_law wsX5_own := goodIn_r _ [632, 150, 101, 102, 227, 228, 229, 5, 230, 180, 151, 152, 153, 345, 346, 347, 348, 158, 343, 149, 198, 99, 97, 96, 261, 262, 263, 264, 84, 88, 85, 89, 80, 93, 349, 350, 351, 352, 86, 353, 354, 355, 356, 98, 81, 357, 358, 359, 360, 344, 90, 361, 362, 95, 363, 364, 365, 366, 485, 486, 487, 488, 651, 652, 653, 654, 655, 656, 657, 658, 659, 660, 661, 662, 663, 664, 665, 666, 667, 668, 669, 670, 671, 672, 673, 674, 675, 676, 677, 678, 679, 680, 681, 682, 683, 684, 685, 686] (by decide +kernel) (by decide +kernel)
set_option maxRecDepth 20000 in
theorem gL_law_X5_own : GoodIn wsL_law (wsV RL 146 RX5 yX5_own wsX5_own) := goodIn_app (goodIn_of _ (by decide +kernel)) ggL_law_X5_own
set_option maxRecDepth 20000 in
theorem ggL_law_L_used : GoodIn wsL_law wsL_used := goodIn_ca (goodIn_r _ [635, 107, 636, 637, 638, 2, 639, 28, 640, 641, 642, 115, 116, 117, 118, 119, 647, 648, 649, 650, 720, 721, 722, 723, 724, 725, 726, 727, 728, 729, 730] (by decide +kernel) (by decide +kernel)) (goodIn_sub (fun _ h => List.mem_append_left _ (List.mem_append_right _ h)) (by decide +kernel))
set_option maxRecDepth 20000 in
theorem gL_law_L_used : GoodIn wsL_law (va_wsS RL 147 yL_used wsL_used) := goodIn_app (goodIn_of _ (by decide +kernel)) ggL_law_L_used
set_option maxRecDepth 20000 in
theorem ggL_law_X5_used : GoodIn wsL_law wsX5_used := goodIn_r _ [646, 150, 619, 617, 618, 151, 152, 5, 153, 651, 652, 653, 654, 655, 656, 657, 658, 659, 660, 661, 662, 663, 664, 665, 666, 667, 668, 669, 670, 671, 672, 673, 674, 675, 676, 677, 678, 679, 680, 681, 682, 683, 684, 685, 686] (by decide +kernel) (by decide +kernel)
set_option maxRecDepth 20000 in
theorem gL_law_X5_used : GoodIn wsL_law (wsV RL 149 RX5 yX5_used wsX5_used) := goodIn_app (goodIn_of _ (by decide +kernel)) ggL_law_X5_used
theorem dL_law_0 : decode cL_law 0 = .ok (.new 8, 3) := by decide +kernel
theorem dL_law_3 : decode cL_law 3 = .ok (.dup, 1) := by decide +kernel
theorem dL_law_4 : decode cL_law 4 = .ok (.invokespecial 73, 3) := by decide +kernel
theorem dL_law_7 : decode cL_law 7 = .ok (.astore_n 1, 1) := by decide +kernel
theorem dL_law_8 : decode cL_law 8 = .ok (.new 74, 3) := by decide +kernel
theorem dL_law_11 : decode cL_law 11 = .ok (.dup, 1) := by decide +kernel
theorem dL_law_12 : decode cL_law 12 = .ok (.invokespecial 76, 3) := by decide +kernel
theorem dL_law_15 : decode cL_law 15 = .ok (.astore_n 2, 1) := by decide +kernel
theorem dL_law_16 : decode cL_law 16 = .ok (.iconst 1, 1) := by decide +kernel
theorem dL_law_17 : decode cL_law 17 = .ok (.newarray .long, 2) := by decide +kernel
theorem dL_law_19 : decode cL_law 19 = .ok (.astore_n 3, 1) := by decide +kernel
theorem dL_law_20 : decode cL_law 20 = .ok (.iconst 0, 1) := by decide +kernel
theorem dL_law_21 : decode cL_law 21 = .ok (.istore 4, 2) := by decide +kernel
theorem dL_law_23 : decode cL_law 23 = .ok (.iload 4, 2) := by decide +kernel
theorem dL_law_25 : decode cL_law 25 = .ok (.aload_n 0, 1) := by decide +kernel
theorem dL_law_26 : decode cL_law 26 = .ok (.arraylength, 1) := by decide +kernel
theorem dL_law_27 : decode cL_law 27 = .ok (.iconst 5, 1) := by decide +kernel
theorem dL_law_28 : decode cL_law 28 = .ok (.isub, 1) := by decide +kernel
theorem dL_law_29 : decode cL_law 29 = .ok (.if_icmp .gt 1256, 3) := by decide +kernel
theorem dL_law_32 : decode cL_law 32 = .ok (.aload_n 0, 1) := by decide +kernel
theorem dL_law_33 : decode cL_law 33 = .ok (.iload 4, 2) := by decide +kernel
theorem dL_law_35 : decode cL_law 35 = .ok (.iaload, 1) := by decide +kernel
theorem dL_law_36 : decode cL_law 36 = .ok (.bipush 31, 2) := by decide +kernel
theorem dL_law_38 : decode cL_law 38 = .ok (.iand, 1) := by decide +kernel
theorem dL_law_39 : decode cL_law 39 = .ok (.tableswitch 1240 0 19 #[93, 185, 253, 333, 389, 437, 517, 530, 586, 642, 697, 765, 778, 834, 889, 937, 1005, 1061, 1117, 1185], 93) := by decide +kernel
theorem dL_law_132 : decode cL_law 132 = .ok (.aload_n 1, 1) := by decide +kernel
theorem dL_law_133 : decode cL_law 133 = .ok (.aload_n 0, 1) := by decide +kernel
theorem dL_law_134 : decode cL_law 134 = .ok (.iload 4, 2) := by decide +kernel
theorem dL_law_136 : decode cL_law 136 = .ok (.iconst 1, 1) := by decide +kernel
theorem dL_law_137 : decode cL_law 137 = .ok (.iadd, 1) := by decide +kernel
theorem dL_law_138 : decode cL_law 138 = .ok (.iaload, 1) := by decide +kernel
theorem dL_law_139 : decode cL_law 139 = .ok (.aload_n 0, 1) := by decide +kernel
theorem dL_law_140 : decode cL_law 140 = .ok (.iload 4, 2) := by decide +kernel
theorem dL_law_142 : decode cL_law 142 = .ok (.iconst 2, 1) := by decide +kernel
theorem dL_law_143 : decode cL_law 143 = .ok (.iadd, 1) := by decide +kernel
theorem dL_law_144 : decode cL_law 144 = .ok (.iaload, 1) := by decide +kernel
theorem dL_law_145 : decode cL_law 145 = .ok (.aload_n 0, 1) := by decide +kernel
theorem dL_law_146 : decode cL_law 146 = .ok (.iload 4, 2) := by decide +kernel
theorem dL_law_148 : decode cL_law 148 = .ok (.iconst 3, 1) := by decide +kernel
theorem dL_law_149 : decode cL_law 149 = .ok (.iadd, 1) := by decide +kernel
theorem dL_law_150 : decode cL_law 150 = .ok (.iaload, 1) := by decide +kernel
theorem dL_law_151 : decode cL_law 151 = .ok (.aload_n 0, 1) := by decide +kernel
theorem dL_law_152 : decode cL_law 152 = .ok (.iload 4, 2) := by decide +kernel
theorem dL_law_154 : decode cL_law 154 = .ok (.iconst 4, 1) := by decide +kernel
theorem dL_law_155 : decode cL_law 155 = .ok (.iadd, 1) := by decide +kernel
theorem dL_law_156 : decode cL_law 156 = .ok (.iaload, 1) := by decide +kernel
theorem dL_law_157 : decode cL_law 157 = .ok (.aload_n 3, 1) := by decide +kernel
theorem dL_law_158 : decode cL_law 158 = .ok (.invokestatic 77, 3) := by decide +kernel
theorem dL_law_161 : decode cL_law 161 = .ok (.istore 5, 2) := by decide +kernel
theorem dL_law_163 : decode cL_law 163 = .ok (.aload_n 2, 1) := by decide +kernel
theorem dL_law_164 : decode cL_law 164 = .ok (.aload_n 0, 1) := by decide +kernel
theorem dL_law_165 : decode cL_law 165 = .ok (.iload 4, 2) := by decide +kernel
theorem dL_law_167 : decode cL_law 167 = .ok (.iconst 1, 1) := by decide +kernel
theorem dL_law_168 : decode cL_law 168 = .ok (.iadd, 1) := by decide +kernel
theorem dL_law_169 : decode cL_law 169 = .ok (.iaload, 1) := by decide +kernel
theorem dL_law_170 : decode cL_law 170 = .ok (.aload_n 0, 1) := by decide +kernel
theorem dL_law_171 : decode cL_law 171 = .ok (.iload 4, 2) := by decide +kernel
theorem dL_law_173 : decode cL_law 173 = .ok (.iconst 2, 1) := by decide +kernel
theorem dL_law_174 : decode cL_law 174 = .ok (.iadd, 1) := by decide +kernel
theorem dL_law_175 : decode cL_law 175 = .ok (.iaload, 1) := by decide +kernel
theorem dL_law_176 : decode cL_law 176 = .ok (.aload_n 0, 1) := by decide +kernel
theorem dL_law_177 : decode cL_law 177 = .ok (.iload 4, 2) := by decide +kernel
theorem dL_law_179 : decode cL_law 179 = .ok (.iconst 3, 1) := by decide +kernel
theorem dL_law_180 : decode cL_law 180 = .ok (.iadd, 1) := by decide +kernel
theorem dL_law_181 : decode cL_law 181 = .ok (.iaload, 1) := by decide +kernel
theorem dL_law_182 : decode cL_law 182 = .ok (.aload_n 0, 1) := by decide +kernel
theorem dL_law_183 : decode cL_law 183 = .ok (.iload 4, 2) := by decide +kernel
theorem dL_law_185 : decode cL_law 185 = .ok (.iconst 4, 1) := by decide +kernel
theorem dL_law_186 : decode cL_law 186 = .ok (.iadd, 1) := by decide +kernel
theorem dL_law_187 : decode cL_law 187 = .ok (.iaload, 1) := by decide +kernel
theorem dL_law_188 : decode cL_law 188 = .ok (.invokevirtual 82, 3) := by decide +kernel
theorem dL_law_191 : decode cL_law 191 = .ok (.istore 6, 2) := by decide +kernel
theorem dL_law_193 : decode cL_law 193 = .ok (.aload_n 2, 1) := by decide +kernel
theorem dL_law_194 : decode cL_law 194 = .ok (.invokevirtual 83, 3) := by decide +kernel
theorem dL_law_197 : decode cL_law 197 = .ok (.iload 5, 2) := by decide +kernel
theorem dL_law_199 : decode cL_law 199 = .ok (.if_icmp .eq 5, 3) := by decide +kernel
theorem dL_law_202 : decode cL_law 202 = .ok (.iconst 0, 1) := by decide +kernel
theorem dL_law_203 : decode cL_law 203 = .ok (.ireturn, 1) := by decide +kernel
theorem dL_law_204 : decode cL_law 204 = .ok (.iload 5, 2) := by decide +kernel
theorem dL_law_206 : decode cL_law 206 = .ok (.ifCond .ne 15, 3) := by decide +kernel
theorem dL_law_209 : decode cL_law 209 = .ok (.aload_n 3, 1) := by decide +kernel
theorem dL_law_210 : decode cL_law 210 = .ok (.iconst 0, 1) := by decide +kernel
theorem dL_law_211 : decode cL_law 211 = .ok (.laload, 1) := by decide +kernel
theorem dL_law_212 : decode cL_law 212 = .ok (.iload 6, 2) := by decide +kernel
theorem dL_law_214 : decode cL_law 214 = .ok (.i2l, 1) := by decide +kernel
theorem dL_law_215 : decode cL_law 215 = .ok (.lcmp, 1) := by decide +kernel
theorem dL_law_216 : decode cL_law 216 = .ok (.ifCond .eq 5, 3) := by decide +kernel
theorem dL_law_219 : decode cL_law 219 = .ok (.iconst 0, 1) := by decide +kernel
theorem dL_law_220 : decode cL_law 220 = .ok (.ireturn, 1) := by decide +kernel
theorem dL_law_221 : decode cL_law 221 = .ok (.goto 1058, 3) := by decide +kernel
theorem dL_law_224 : decode cL_law 224 = .ok (.aload_n 1, 1) := by decide +kernel
theorem dL_law_225 : decode cL_law 225 = .ok (.aload_n 0, 1) := by decide +kernel
theorem dL_law_226 : decode cL_law 226 = .ok (.iload 4, 2) := by decide +kernel
theorem dL_law_228 : decode cL_law 228 = .ok (.iconst 1, 1) := by decide +kernel
theorem dL_law_229 : decode cL_law 229 = .ok (.iadd, 1) := by decide +kernel
theorem dL_law_230 : decode cL_law 230 = .ok (.iaload, 1) := by decide +kernel
theorem dL_law_231 : decode cL_law 231 = .ok (.aload_n 0, 1) := by decide +kernel
theorem dL_law_232 : decode cL_law 232 = .ok (.iload 4, 2) := by decide +kernel
end
section
theorem dL_law_234 : decode cL_law 234 = .ok (.iconst 2, 1) := by decide +kernel
theorem dL_law_235 : decode cL_law 235 = .ok (.iadd, 1) := by decide +kernel
theorem dL_law_236 : decode cL_law 236 = .ok (.iaload, 1) := by decide +kernel
theorem dL_law_237 : decode cL_law 237 = .ok (.aload_n 3, 1) := by decide +kernel
theorem dL_law_238 : decode cL_law 238 = .ok (.invokestatic 87, 3) := by decide +kernel
theorem dL_law_241 : decode cL_law 241 = .ok (.istore 5, 2) := by decide +kernel
theorem dL_law_243 : decode cL_law 243 = .ok (.aload_n 2, 1) := by decide +kernel
theorem dL_law_244 : decode cL_law 244 = .ok (.aload_n 0, 1) := by decide +kernel
theorem dL_law_245 : decode cL_law 245 = .ok (.iload 4, 2) := by decide +kernel
theorem dL_law_247 : decode cL_law 247 = .ok (.iconst 1, 1) := by decide +kernel
theorem dL_law_248 : decode cL_law 248 = .ok (.iadd, 1) := by decide +kernel
theorem dL_law_249 : decode cL_law 249 = .ok (.iaload, 1) := by decide +kernel
theorem dL_law_250 : decode cL_law 250 = .ok (.aload_n 0, 1) := by decide +kernel
theorem dL_law_251 : decode cL_law 251 = .ok (.iload 4, 2) := by decide +kernel
theorem dL_law_253 : decode cL_law 253 = .ok (.iconst 2, 1) := by decide +kernel
theorem dL_law_254 : decode cL_law 254 = .ok (.iadd, 1) := by decide +kernel
theorem dL_law_255 : decode cL_law 255 = .ok (.iaload, 1) := by decide +kernel
theorem dL_law_256 : decode cL_law 256 = .ok (.invokevirtual 90, 3) := by decide +kernel
theorem dL_law_259 : decode cL_law 259 = .ok (.istore 6, 2) := by decide +kernel
theorem dL_law_261 : decode cL_law 261 = .ok (.aload_n 2, 1) := by decide +kernel
theorem dL_law_262 : decode cL_law 262 = .ok (.invokevirtual 83, 3) := by decide +kernel
theorem dL_law_265 : decode cL_law 265 = .ok (.iload 5, 2) := by decide +kernel
theorem dL_law_267 : decode cL_law 267 = .ok (.if_icmp .eq 5, 3) := by decide +kernel
theorem dL_law_270 : decode cL_law 270 = .ok (.iconst 0, 1) := by decide +kernel
theorem dL_law_271 : decode cL_law 271 = .ok (.ireturn, 1) := by decide +kernel
theorem dL_law_272 : decode cL_law 272 = .ok (.iload 5, 2) := by decide +kernel
theorem dL_law_274 : decode cL_law 274 = .ok (.ifCond .ne 15, 3) := by decide +kernel
theorem dL_law_277 : decode cL_law 277 = .ok (.aload_n 3, 1) := by decide +kernel
theorem dL_law_278 : decode cL_law 278 = .ok (.iconst 0, 1) := by decide +kernel
theorem dL_law_279 : decode cL_law 279 = .ok (.laload, 1) := by decide +kernel
theorem dL_law_280 : decode cL_law 280 = .ok (.iload 6, 2) := by decide +kernel
theorem dL_law_282 : decode cL_law 282 = .ok (.i2l, 1) := by decide +kernel
theorem dL_law_283 : decode cL_law 283 = .ok (.lcmp, 1) := by decide +kernel
theorem dL_law_284 : decode cL_law 284 = .ok (.ifCond .eq 5, 3) := by decide +kernel
theorem dL_law_287 : decode cL_law 287 = .ok (.iconst 0, 1) := by decide +kernel
theorem dL_law_288 : decode cL_law 288 = .ok (.ireturn, 1) := by decide +kernel
theorem dL_law_289 : decode cL_law 289 = .ok (.goto 990, 3) := by decide +kernel
theorem dL_law_292 : decode cL_law 292 = .ok (.aload_n 1, 1) := by decide +kernel
theorem dL_law_293 : decode cL_law 293 = .ok (.aload_n 0, 1) := by decide +kernel
theorem dL_law_294 : decode cL_law 294 = .ok (.iload 4, 2) := by decide +kernel
theorem dL_law_296 : decode cL_law 296 = .ok (.iconst 1, 1) := by decide +kernel
theorem dL_law_297 : decode cL_law 297 = .ok (.iadd, 1) := by decide +kernel
theorem dL_law_298 : decode cL_law 298 = .ok (.iaload, 1) := by decide +kernel
theorem dL_law_299 : decode cL_law 299 = .ok (.aload_n 0, 1) := by decide +kernel
theorem dL_law_300 : decode cL_law 300 = .ok (.iload 4, 2) := by decide +kernel
theorem dL_law_302 : decode cL_law 302 = .ok (.iconst 2, 1) := by decide +kernel
theorem dL_law_303 : decode cL_law 303 = .ok (.iadd, 1) := by decide +kernel
theorem dL_law_304 : decode cL_law 304 = .ok (.iaload, 1) := by decide +kernel
theorem dL_law_305 : decode cL_law 305 = .ok (.aload_n 0, 1) := by decide +kernel
theorem dL_law_306 : decode cL_law 306 = .ok (.iload 4, 2) := by decide +kernel
theorem dL_law_308 : decode cL_law 308 = .ok (.iconst 3, 1) := by decide +kernel
theorem dL_law_309 : decode cL_law 309 = .ok (.iadd, 1) := by decide +kernel
theorem dL_law_310 : decode cL_law 310 = .ok (.iaload, 1) := by decide +kernel
theorem dL_law_311 : decode cL_law 311 = .ok (.aload_n 3, 1) := by decide +kernel
theorem dL_law_312 : decode cL_law 312 = .ok (.invokestatic 91, 3) := by decide +kernel
theorem dL_law_315 : decode cL_law 315 = .ok (.istore 5, 2) := by decide +kernel
theorem dL_law_317 : decode cL_law 317 = .ok (.aload_n 2, 1) := by decide +kernel
theorem dL_law_318 : decode cL_law 318 = .ok (.aload_n 0, 1) := by decide +kernel
theorem dL_law_319 : decode cL_law 319 = .ok (.iload 4, 2) := by decide +kernel
theorem dL_law_321 : decode cL_law 321 = .ok (.iconst 1, 1) := by decide +kernel
theorem dL_law_322 : decode cL_law 322 = .ok (.iadd, 1) := by decide +kernel
theorem dL_law_323 : decode cL_law 323 = .ok (.iaload, 1) := by decide +kernel
theorem dL_law_324 : decode cL_law 324 = .ok (.aload_n 0, 1) := by decide +kernel
theorem dL_law_325 : decode cL_law 325 = .ok (.iload 4, 2) := by decide +kernel
theorem dL_law_327 : decode cL_law 327 = .ok (.iconst 2, 1) := by decide +kernel
theorem dL_law_328 : decode cL_law 328 = .ok (.iadd, 1) := by decide +kernel
theorem dL_law_329 : decode cL_law 329 = .ok (.iaload, 1) := by decide +kernel
theorem dL_law_330 : decode cL_law 330 = .ok (.aload_n 0, 1) := by decide +kernel
theorem dL_law_331 : decode cL_law 331 = .ok (.iload 4, 2) := by decide +kernel
theorem dL_law_333 : decode cL_law 333 = .ok (.iconst 3, 1) := by decide +kernel
theorem dL_law_334 : decode cL_law 334 = .ok (.iadd, 1) := by decide +kernel
theorem dL_law_335 : decode cL_law 335 = .ok (.iaload, 1) := by decide +kernel
theorem dL_law_336 : decode cL_law 336 = .ok (.invokevirtual 94, 3) := by decide +kernel
theorem dL_law_339 : decode cL_law 339 = .ok (.istore 6, 2) := by decide +kernel
theorem dL_law_341 : decode cL_law 341 = .ok (.aload_n 2, 1) := by decide +kernel
theorem dL_law_342 : decode cL_law 342 = .ok (.invokevirtual 83, 3) := by decide +kernel
theorem dL_law_345 : decode cL_law 345 = .ok (.iload 5, 2) := by decide +kernel
theorem dL_law_347 : decode cL_law 347 = .ok (.if_icmp .eq 5, 3) := by decide +kernel
theorem dL_law_350 : decode cL_law 350 = .ok (.iconst 0, 1) := by decide +kernel
theorem dL_law_351 : decode cL_law 351 = .ok (.ireturn, 1) := by decide +kernel
theorem dL_law_352 : decode cL_law 352 = .ok (.iload 5, 2) := by decide +kernel
theorem dL_law_354 : decode cL_law 354 = .ok (.ifCond .ne 15, 3) := by decide +kernel
theorem dL_law_357 : decode cL_law 357 = .ok (.aload_n 3, 1) := by decide +kernel
theorem dL_law_358 : decode cL_law 358 = .ok (.iconst 0, 1) := by decide +kernel
theorem dL_law_359 : decode cL_law 359 = .ok (.laload, 1) := by decide +kernel
theorem dL_law_360 : decode cL_law 360 = .ok (.iload 6, 2) := by decide +kernel
theorem dL_law_362 : decode cL_law 362 = .ok (.i2l, 1) := by decide +kernel
theorem dL_law_363 : decode cL_law 363 = .ok (.lcmp, 1) := by decide +kernel
theorem dL_law_364 : decode cL_law 364 = .ok (.ifCond .eq 5, 3) := by decide +kernel
theorem dL_law_367 : decode cL_law 367 = .ok (.iconst 0, 1) := by decide +kernel
theorem dL_law_368 : decode cL_law 368 = .ok (.ireturn, 1) := by decide +kernel
theorem dL_law_369 : decode cL_law 369 = .ok (.goto 910, 3) := by decide +kernel
theorem dL_law_372 : decode cL_law 372 = .ok (.aload_n 1, 1) := by decide +kernel
theorem dL_law_373 : decode cL_law 373 = .ok (.aload_n 0, 1) := by decide +kernel
theorem dL_law_374 : decode cL_law 374 = .ok (.iload 4, 2) := by decide +kernel
theorem dL_law_376 : decode cL_law 376 = .ok (.iconst 1, 1) := by decide +kernel
theorem dL_law_377 : decode cL_law 377 = .ok (.iadd, 1) := by decide +kernel
theorem dL_law_378 : decode cL_law 378 = .ok (.iaload, 1) := by decide +kernel
theorem dL_law_379 : decode cL_law 379 = .ok (.aload_n 3, 1) := by decide +kernel
theorem dL_law_380 : decode cL_law 380 = .ok (.invokestatic 95, 3) := by decide +kernel
theorem dL_law_383 : decode cL_law 383 = .ok (.istore 5, 2) := by decide +kernel
theorem dL_law_385 : decode cL_law 385 = .ok (.aload_n 2, 1) := by decide +kernel
theorem dL_law_386 : decode cL_law 386 = .ok (.aload_n 0, 1) := by decide +kernel
theorem dL_law_387 : decode cL_law 387 = .ok (.iload 4, 2) := by decide +kernel
theorem dL_law_389 : decode cL_law 389 = .ok (.iconst 1, 1) := by decide +kernel
theorem dL_law_390 : decode cL_law 390 = .ok (.iadd, 1) := by decide +kernel
theorem dL_law_391 : decode cL_law 391 = .ok (.iaload, 1) := by decide +kernel
theorem dL_law_392 : decode cL_law 392 = .ok (.invokevirtual 98, 3) := by decide +kernel
theorem dL_law_395 : decode cL_law 395 = .ok (.istore 6, 2) := by decide +kernel
theorem dL_law_397 : decode cL_law 397 = .ok (.aload_n 2, 1) := by decide +kernel
theorem dL_law_398 : decode cL_law 398 = .ok (.invokevirtual 83, 3) := by decide +kernel
theorem dL_law_401 : decode cL_law 401 = .ok (.iload 5, 2) := by decide +kernel
theorem dL_law_403 : decode cL_law 403 = .ok (.if_icmp .eq 5, 3) := by decide +kernel
theorem dL_law_406 : decode cL_law 406 = .ok (.iconst 0, 1) := by decide +kernel
theorem dL_law_407 : decode cL_law 407 = .ok (.ireturn, 1) := by decide +kernel
theorem dL_law_408 : decode cL_law 408 = .ok (.iload 5, 2) := by decide +kernel
theorem dL_law_410 : decode cL_law 410 = .ok (.ifCond .ne 15, 3) := by decide +kernel
theorem dL_law_413 : decode cL_law 413 = .ok (.aload_n 3, 1) := by decide +kernel
theorem dL_law_414 : decode cL_law 414 = .ok (.iconst 0, 1) := by decide +kernel
theorem dL_law_415 : decode cL_law 415 = .ok (.laload, 1) := by decide +kernel
theorem dL_law_416 : decode cL_law 416 = .ok (.iload 6, 2) := by decide +kernel
theorem dL_law_418 : decode cL_law 418 = .ok (.i2l, 1) := by decide +kernel
theorem dL_law_419 : decode cL_law 419 = .ok (.lcmp, 1) := by decide +kernel
theorem dL_law_420 : decode cL_law 420 = .ok (.ifCond .eq 5, 3) := by decide +kernel
theorem dL_law_423 : decode cL_law 423 = .ok (.iconst 0, 1) := by decide +kernel
theorem dL_law_424 : decode cL_law 424 = .ok (.ireturn, 1) := by decide +kernel
theorem dL_law_425 : decode cL_law 425 = .ok (.goto 854, 3) := by decide +kernel
theorem dL_law_428 : decode cL_law 428 = .ok (.aload_n 1, 1) := by decide +kernel
theorem dL_law_429 : decode cL_law 429 = .ok (.aload_n 0, 1) := by decide +kernel
theorem dL_law_430 : decode cL_law 430 = .ok (.iload 4, 2) := by decide +kernel
theorem dL_law_432 : decode cL_law 432 = .ok (.iconst 1, 1) := by decide +kernel
theorem dL_law_433 : decode cL_law 433 = .ok (.iadd, 1) := by decide +kernel
theorem dL_law_434 : decode cL_law 434 = .ok (.iaload, 1) := by decide +kernel
theorem dL_law_435 : decode cL_law 435 = .ok (.aload_n 0, 1) := by decide +kernel
theorem dL_law_436 : decode cL_law 436 = .ok (.iload 4, 2) := by decide +kernel
theorem dL_law_438 : decode cL_law 438 = .ok (.iconst 2, 1) := by decide +kernel
theorem dL_law_439 : decode cL_law 439 = .ok (.iadd, 1) := by decide +kernel
theorem dL_law_440 : decode cL_law 440 = .ok (.iaload, 1) := by decide +kernel
theorem dL_law_441 : decode cL_law 441 = .ok (.invokestatic 99, 3) := by decide +kernel
theorem dL_law_444 : decode cL_law 444 = .ok (.istore 5, 2) := by decide +kernel
theorem dL_law_446 : decode cL_law 446 = .ok (.aload_n 2, 1) := by decide +kernel
theorem dL_law_447 : decode cL_law 447 = .ok (.aload_n 0, 1) := by decide +kernel
theorem dL_law_448 : decode cL_law 448 = .ok (.iload 4, 2) := by decide +kernel
theorem dL_law_450 : decode cL_law 450 = .ok (.iconst 1, 1) := by decide +kernel
theorem dL_law_451 : decode cL_law 451 = .ok (.iadd, 1) := by decide +kernel
theorem dL_law_452 : decode cL_law 452 = .ok (.iaload, 1) := by decide +kernel
theorem dL_law_453 : decode cL_law 453 = .ok (.aload_n 0, 1) := by decide +kernel
theorem dL_law_454 : decode cL_law 454 = .ok (.iload 4, 2) := by decide +kernel
theorem dL_law_456 : decode cL_law 456 = .ok (.iconst 2, 1) := by decide +kernel
theorem dL_law_457 : decode cL_law 457 = .ok (.iadd, 1) := by decide +kernel
theorem dL_law_458 : decode cL_law 458 = .ok (.iaload, 1) := by decide +kernel
theorem dL_law_459 : decode cL_law 459 = .ok (.invokevirtual 102, 3) := by decide +kernel
theorem dL_law_462 : decode cL_law 462 = .ok (.aload_n 2, 1) := by decide +kernel
theorem dL_law_463 : decode cL_law 463 = .ok (.invokevirtual 83, 3) := by decide +kernel
theorem dL_law_466 : decode cL_law 466 = .ok (.iload 5, 2) := by decide +kernel
theorem dL_law_468 : decode cL_law 468 = .ok (.if_icmp .eq 5, 3) := by decide +kernel
theorem dL_law_471 : decode cL_law 471 = .ok (.iconst 0, 1) := by decide +kernel
theorem dL_law_472 : decode cL_law 472 = .ok (.ireturn, 1) := by decide +kernel
theorem dL_law_473 : decode cL_law 473 = .ok (.goto 806, 3) := by decide +kernel
theorem dL_law_476 : decode cL_law 476 = .ok (.aload_n 1, 1) := by decide +kernel
theorem dL_law_477 : decode cL_law 477 = .ok (.aload_n 0, 1) := by decide +kernel
theorem dL_law_478 : decode cL_law 478 = .ok (.iload 4, 2) := by decide +kernel
theorem dL_law_480 : decode cL_law 480 = .ok (.iconst 1, 1) := by decide +kernel
theorem dL_law_481 : decode cL_law 481 = .ok (.iadd, 1) := by decide +kernel
theorem dL_law_482 : decode cL_law 482 = .ok (.iaload, 1) := by decide +kernel
theorem dL_law_483 : decode cL_law 483 = .ok (.aload_n 0, 1) := by decide +kernel
theorem dL_law_484 : decode cL_law 484 = .ok (.iload 4, 2) := by decide +kernel
theorem dL_law_486 : decode cL_law 486 = .ok (.iconst 2, 1) := by decide +kernel
theorem dL_law_487 : decode cL_law 487 = .ok (.iadd, 1) := by decide +kernel
theorem dL_law_488 : decode cL_law 488 = .ok (.iaload, 1) := by decide +kernel
theorem dL_law_489 : decode cL_law 489 = .ok (.aload_n 0, 1) := by decide +kernel
theorem dL_law_490 : decode cL_law 490 = .ok (.iload 4, 2) := by decide +kernel
theorem dL_law_492 : decode cL_law 492 = .ok (.iconst 3, 1) := by decide +kernel
theorem dL_law_493 : decode cL_law 493 = .ok (.iadd, 1) := by decide +kernel
theorem dL_law_494 : decode cL_law 494 = .ok (.iaload, 1) := by decide +kernel
theorem dL_law_495 : decode cL_law 495 = .ok (.aload_n 3, 1) := by decide +kernel
theorem dL_law_496 : decode cL_law 496 = .ok (.invokestatic 103, 3) := by decide +kernel
theorem dL_law_499 : decode cL_law 499 = .ok (.istore 5, 2) := by decide +kernel
theorem dL_law_501 : decode cL_law 501 = .ok (.aload_n 2, 1) := by decide +kernel
theorem dL_law_502 : decode cL_law 502 = .ok (.aload_n 0, 1) := by decide +kernel
theorem dL_law_503 : decode cL_law 503 = .ok (.iload 4, 2) := by decide +kernel
theorem dL_law_505 : decode cL_law 505 = .ok (.iconst 1, 1) := by decide +kernel
theorem dL_law_506 : decode cL_law 506 = .ok (.iadd, 1) := by decide +kernel
theorem dL_law_507 : decode cL_law 507 = .ok (.iaload, 1) := by decide +kernel
theorem dL_law_508 : decode cL_law 508 = .ok (.aload_n 0, 1) := by decide +kernel
theorem dL_law_509 : decode cL_law 509 = .ok (.iload 4, 2) := by decide +kernel
theorem dL_law_511 : decode cL_law 511 = .ok (.iconst 2, 1) := by decide +kernel
theorem dL_law_512 : decode cL_law 512 = .ok (.iadd, 1) := by decide +kernel
theorem dL_law_513 : decode cL_law 513 = .ok (.iaload, 1) := by decide +kernel
theorem dL_law_514 : decode cL_law 514 = .ok (.aload_n 0, 1) := by decide +kernel
theorem dL_law_515 : decode cL_law 515 = .ok (.iload 4, 2) := by decide +kernel
theorem dL_law_517 : decode cL_law 517 = .ok (.iconst 3, 1) := by decide +kernel
theorem dL_law_518 : decode cL_law 518 = .ok (.iadd, 1) := by decide +kernel
theorem dL_law_519 : decode cL_law 519 = .ok (.iaload, 1) := by decide +kernel
theorem dL_law_520 : decode cL_law 520 = .ok (.invokevirtual 105, 3) := by decide +kernel
theorem dL_law_523 : decode cL_law 523 = .ok (.istore 6, 2) := by decide +kernel
theorem dL_law_525 : decode cL_law 525 = .ok (.aload_n 2, 1) := by decide +kernel
theorem dL_law_526 : decode cL_law 526 = .ok (.invokevirtual 83, 3) := by decide +kernel
theorem dL_law_529 : decode cL_law 529 = .ok (.iload 5, 2) := by decide +kernel
theorem dL_law_531 : decode cL_law 531 = .ok (.if_icmp .eq 5, 3) := by decide +kernel
theorem dL_law_534 : decode cL_law 534 = .ok (.iconst 0, 1) := by decide +kernel
theorem dL_law_535 : decode cL_law 535 = .ok (.ireturn, 1) := by decide +kernel
theorem dL_law_536 : decode cL_law 536 = .ok (.iload 5, 2) := by decide +kernel
theorem dL_law_538 : decode cL_law 538 = .ok (.ifCond .ne 15, 3) := by decide +kernel
theorem dL_law_541 : decode cL_law 541 = .ok (.aload_n 3, 1) := by decide +kernel
theorem dL_law_542 : decode cL_law 542 = .ok (.iconst 0, 1) := by decide +kernel
theorem dL_law_543 : decode cL_law 543 = .ok (.laload, 1) := by decide +kernel
theorem dL_law_544 : decode cL_law 544 = .ok (.iload 6, 2) := by decide +kernel
theorem dL_law_546 : decode cL_law 546 = .ok (.i2l, 1) := by decide +kernel
theorem dL_law_547 : decode cL_law 547 = .ok (.lcmp, 1) := by decide +kernel
theorem dL_law_548 : decode cL_law 548 = .ok (.ifCond .eq 5, 3) := by decide +kernel
theorem dL_law_551 : decode cL_law 551 = .ok (.iconst 0, 1) := by decide +kernel
theorem dL_law_552 : decode cL_law 552 = .ok (.ireturn, 1) := by decide +kernel
theorem dL_law_553 : decode cL_law 553 = .ok (.goto 726, 3) := by decide +kernel
theorem dL_law_556 : decode cL_law 556 = .ok (.aload_n 1, 1) := by decide +kernel
theorem dL_law_557 : decode cL_law 557 = .ok (.invokevirtual 106, 3) := by decide +kernel
theorem dL_law_560 : decode cL_law 560 = .ok (.aload_n 2, 1) := by decide +kernel
theorem dL_law_561 : decode cL_law 561 = .ok (.invokevirtual 109, 3) := by decide +kernel
theorem dL_law_564 : decode cL_law 564 = .ok (.if_icmp .eq 715, 3) := by decide +kernel
theorem dL_law_567 : decode cL_law 567 = .ok (.iconst 0, 1) := by decide +kernel
theorem dL_law_568 : decode cL_law 568 = .ok (.ireturn, 1) := by decide +kernel
theorem dL_law_569 : decode cL_law 569 = .ok (.aload_n 1, 1) := by decide +kernel
theorem dL_law_570 : decode cL_law 570 = .ok (.aload_n 0, 1) := by decide +kernel
theorem dL_law_571 : decode cL_law 571 = .ok (.iload 4, 2) := by decide +kernel
theorem dL_law_573 : decode cL_law 573 = .ok (.iconst 1, 1) := by decide +kernel
theorem dL_law_574 : decode cL_law 574 = .ok (.iadd, 1) := by decide +kernel
theorem dL_law_575 : decode cL_law 575 = .ok (.iaload, 1) := by decide +kernel
theorem dL_law_576 : decode cL_law 576 = .ok (.aload_n 3, 1) := by decide +kernel
theorem dL_law_577 : decode cL_law 577 = .ok (.invokestatic 110, 3) := by decide +kernel
theorem dL_law_580 : decode cL_law 580 = .ok (.istore 5, 2) := by decide +kernel
theorem dL_law_582 : decode cL_law 582 = .ok (.aload_n 2, 1) := by decide +kernel
theorem dL_law_583 : decode cL_law 583 = .ok (.aload_n 0, 1) := by decide +kernel
theorem dL_law_584 : decode cL_law 584 = .ok (.iload 4, 2) := by decide +kernel
theorem dL_law_586 : decode cL_law 586 = .ok (.iconst 1, 1) := by decide +kernel
theorem dL_law_587 : decode cL_law 587 = .ok (.iadd, 1) := by decide +kernel
theorem dL_law_588 : decode cL_law 588 = .ok (.iaload, 1) := by decide +kernel
theorem dL_law_589 : decode cL_law 589 = .ok (.invokevirtual 112, 3) := by decide +kernel
theorem dL_law_592 : decode cL_law 592 = .ok (.istore 6, 2) := by decide +kernel
theorem dL_law_594 : decode cL_law 594 = .ok (.aload_n 2, 1) := by decide +kernel
theorem dL_law_595 : decode cL_law 595 = .ok (.invokevirtual 83, 3) := by decide +kernel
theorem dL_law_598 : decode cL_law 598 = .ok (.iload 5, 2) := by decide +kernel
theorem dL_law_600 : decode cL_law 600 = .ok (.if_icmp .eq 5, 3) := by decide +kernel
theorem dL_law_603 : decode cL_law 603 = .ok (.iconst 0, 1) := by decide +kernel
theorem dL_law_604 : decode cL_law 604 = .ok (.ireturn, 1) := by decide +kernel
theorem dL_law_605 : decode cL_law 605 = .ok (.iload 5, 2) := by decide +kernel
theorem dL_law_607 : decode cL_law 607 = .ok (.ifCond .ne 15, 3) := by decide +kernel
theorem dL_law_610 : decode cL_law 610 = .ok (.aload_n 3, 1) := by decide +kernel
theorem dL_law_611 : decode cL_law 611 = .ok (.iconst 0, 1) := by decide +kernel
theorem dL_law_612 : decode cL_law 612 = .ok (.laload, 1) := by decide +kernel
theorem dL_law_613 : decode cL_law 613 = .ok (.iload 6, 2) := by decide +kernel
theorem dL_law_615 : decode cL_law 615 = .ok (.i2l, 1) := by decide +kernel
theorem dL_law_616 : decode cL_law 616 = .ok (.lcmp, 1) := by decide +kernel
theorem dL_law_617 : decode cL_law 617 = .ok (.ifCond .eq 5, 3) := by decide +kernel
theorem dL_law_620 : decode cL_law 620 = .ok (.iconst 0, 1) := by decide +kernel
theorem dL_law_621 : decode cL_law 621 = .ok (.ireturn, 1) := by decide +kernel
theorem dL_law_622 : decode cL_law 622 = .ok (.goto 657, 3) := by decide +kernel
theorem dL_law_625 : decode cL_law 625 = .ok (.aload_n 1, 1) := by decide +kernel
theorem dL_law_626 : decode cL_law 626 = .ok (.aload_n 0, 1) := by decide +kernel
theorem dL_law_627 : decode cL_law 627 = .ok (.iload 4, 2) := by decide +kernel
theorem dL_law_629 : decode cL_law 629 = .ok (.iconst 1, 1) := by decide +kernel
theorem dL_law_630 : decode cL_law 630 = .ok (.iadd, 1) := by decide +kernel
theorem dL_law_631 : decode cL_law 631 = .ok (.iaload, 1) := by decide +kernel
theorem dL_law_632 : decode cL_law 632 = .ok (.aload_n 3, 1) := by decide +kernel
theorem dL_law_633 : decode cL_law 633 = .ok (.invokestatic 113, 3) := by decide +kernel
theorem dL_law_636 : decode cL_law 636 = .ok (.istore 5, 2) := by decide +kernel
theorem dL_law_638 : decode cL_law 638 = .ok (.aload_n 2, 1) := by decide +kernel
theorem dL_law_639 : decode cL_law 639 = .ok (.aload_n 0, 1) := by decide +kernel
theorem dL_law_640 : decode cL_law 640 = .ok (.iload 4, 2) := by decide +kernel
theorem dL_law_642 : decode cL_law 642 = .ok (.iconst 1, 1) := by decide +kernel
theorem dL_law_643 : decode cL_law 643 = .ok (.iadd, 1) := by decide +kernel
theorem dL_law_644 : decode cL_law 644 = .ok (.iaload, 1) := by decide +kernel
theorem dL_law_645 : decode cL_law 645 = .ok (.invokevirtual 115, 3) := by decide +kernel
theorem dL_law_648 : decode cL_law 648 = .ok (.istore 6, 2) := by decide +kernel
theorem dL_law_650 : decode cL_law 650 = .ok (.aload_n 2, 1) := by decide +kernel
theorem dL_law_651 : decode cL_law 651 = .ok (.invokevirtual 83, 3) := by decide +kernel
theorem dL_law_654 : decode cL_law 654 = .ok (.iload 5, 2) := by decide +kernel
theorem dL_law_656 : decode cL_law 656 = .ok (.if_icmp .eq 5, 3) := by decide +kernel
theorem dL_law_659 : decode cL_law 659 = .ok (.iconst 0, 1) := by decide +kernel
theorem dL_law_660 : decode cL_law 660 = .ok (.ireturn, 1) := by decide +kernel
theorem dL_law_661 : decode cL_law 661 = .ok (.iload 5, 2) := by decide +kernel
theorem dL_law_663 : decode cL_law 663 = .ok (.ifCond .ne 15, 3) := by decide +kernel
theorem dL_law_666 : decode cL_law 666 = .ok (.aload_n 3, 1) := by decide +kernel
theorem dL_law_667 : decode cL_law 667 = .ok (.iconst 0, 1) := by decide +kernel
theorem dL_law_668 : decode cL_law 668 = .ok (.laload, 1) := by decide +kernel
theorem dL_law_669 : decode cL_law 669 = .ok (.iload 6, 2) := by decide +kernel
theorem dL_law_671 : decode cL_law 671 = .ok (.i2l, 1) := by decide +kernel
theorem dL_law_672 : decode cL_law 672 = .ok (.lcmp, 1) := by decide +kernel
theorem dL_law_673 : decode cL_law 673 = .ok (.ifCond .eq 5, 3) := by decide +kernel
theorem dL_law_676 : decode cL_law 676 = .ok (.iconst 0, 1) := by decide +kernel
theorem dL_law_677 : decode cL_law 677 = .ok (.ireturn, 1) := by decide +kernel
theorem dL_law_678 : decode cL_law 678 = .ok (.goto 601, 3) := by decide +kernel
theorem dL_law_681 : decode cL_law 681 = .ok (.aload_n 1, 1) := by decide +kernel
theorem dL_law_682 : decode cL_law 682 = .ok (.aload_n 0, 1) := by decide +kernel
theorem dL_law_683 : decode cL_law 683 = .ok (.iload 4, 2) := by decide +kernel
theorem dL_law_685 : decode cL_law 685 = .ok (.iconst 1, 1) := by decide +kernel
theorem dL_law_686 : decode cL_law 686 = .ok (.iadd, 1) := by decide +kernel
theorem dL_law_687 : decode cL_law 687 = .ok (.iaload, 1) := by decide +kernel
theorem dL_law_688 : decode cL_law 688 = .ok (.aload_n 3, 1) := by decide +kernel
theorem dL_law_689 : decode cL_law 689 = .ok (.invokestatic 116, 3) := by decide +kernel
theorem dL_law_692 : decode cL_law 692 = .ok (.istore 5, 2) := by decide +kernel
theorem dL_law_694 : decode cL_law 694 = .ok (.aload_n 2, 1) := by decide +kernel
theorem dL_law_695 : decode cL_law 695 = .ok (.aload_n 0, 1) := by decide +kernel
theorem dL_law_696 : decode cL_law 696 = .ok (.iload 4, 2) := by decide +kernel
theorem dL_law_698 : decode cL_law 698 = .ok (.iconst 1, 1) := by decide +kernel
theorem dL_law_699 : decode cL_law 699 = .ok (.iadd, 1) := by decide +kernel
theorem dL_law_700 : decode cL_law 700 = .ok (.iaload, 1) := by decide +kernel
theorem dL_law_701 : decode cL_law 701 = .ok (.invokevirtual 118, 3) := by decide +kernel
theorem dL_law_704 : decode cL_law 704 = .ok (.lstore 6, 2) := by decide +kernel
theorem dL_law_706 : decode cL_law 706 = .ok (.aload_n 2, 1) := by decide +kernel
theorem dL_law_707 : decode cL_law 707 = .ok (.invokevirtual 83, 3) := by decide +kernel
theorem dL_law_710 : decode cL_law 710 = .ok (.iload 5, 2) := by decide +kernel
theorem dL_law_712 : decode cL_law 712 = .ok (.if_icmp .eq 5, 3) := by decide +kernel
theorem dL_law_715 : decode cL_law 715 = .ok (.iconst 0, 1) := by decide +kernel
theorem dL_law_716 : decode cL_law 716 = .ok (.ireturn, 1) := by decide +kernel
theorem dL_law_717 : decode cL_law 717 = .ok (.iload 5, 2) := by decide +kernel
theorem dL_law_719 : decode cL_law 719 = .ok (.ifCond .ne 14, 3) := by decide +kernel
theorem dL_law_722 : decode cL_law 722 = .ok (.aload_n 3, 1) := by decide +kernel
theorem dL_law_723 : decode cL_law 723 = .ok (.iconst 0, 1) := by decide +kernel
theorem dL_law_724 : decode cL_law 724 = .ok (.laload, 1) := by decide +kernel
theorem dL_law_725 : decode cL_law 725 = .ok (.lload 6, 2) := by decide +kernel
theorem dL_law_727 : decode cL_law 727 = .ok (.lcmp, 1) := by decide +kernel
theorem dL_law_728 : decode cL_law 728 = .ok (.ifCond .eq 5, 3) := by decide +kernel
theorem dL_law_731 : decode cL_law 731 = .ok (.iconst 0, 1) := by decide +kernel
theorem dL_law_732 : decode cL_law 732 = .ok (.ireturn, 1) := by decide +kernel
theorem dL_law_733 : decode cL_law 733 = .ok (.goto 546, 3) := by decide +kernel
theorem dL_law_736 : decode cL_law 736 = .ok (.aload_n 1, 1) := by decide +kernel
theorem dL_law_737 : decode cL_law 737 = .ok (.aload_n 0, 1) := by decide +kernel
theorem dL_law_738 : decode cL_law 738 = .ok (.iload 4, 2) := by decide +kernel
theorem dL_law_740 : decode cL_law 740 = .ok (.iconst 1, 1) := by decide +kernel
theorem dL_law_741 : decode cL_law 741 = .ok (.iadd, 1) := by decide +kernel
theorem dL_law_742 : decode cL_law 742 = .ok (.iaload, 1) := by decide +kernel
theorem dL_law_743 : decode cL_law 743 = .ok (.aload_n 0, 1) := by decide +kernel
theorem dL_law_744 : decode cL_law 744 = .ok (.iload 4, 2) := by decide +kernel
theorem dL_law_746 : decode cL_law 746 = .ok (.iconst 2, 1) := by decide +kernel
theorem dL_law_747 : decode cL_law 747 = .ok (.iadd, 1) := by decide +kernel
theorem dL_law_748 : decode cL_law 748 = .ok (.iaload, 1) := by decide +kernel
theorem dL_law_749 : decode cL_law 749 = .ok (.aload_n 3, 1) := by decide +kernel
theorem dL_law_750 : decode cL_law 750 = .ok (.invokestatic 119, 3) := by decide +kernel
theorem dL_law_753 : decode cL_law 753 = .ok (.istore 5, 2) := by decide +kernel
theorem dL_law_755 : decode cL_law 755 = .ok (.aload_n 2, 1) := by decide +kernel
theorem dL_law_756 : decode cL_law 756 = .ok (.aload_n 0, 1) := by decide +kernel
theorem dL_law_757 : decode cL_law 757 = .ok (.iload 4, 2) := by decide +kernel
theorem dL_law_759 : decode cL_law 759 = .ok (.iconst 1, 1) := by decide +kernel
theorem dL_law_760 : decode cL_law 760 = .ok (.iadd, 1) := by decide +kernel
theorem dL_law_761 : decode cL_law 761 = .ok (.iaload, 1) := by decide +kernel
theorem dL_law_762 : decode cL_law 762 = .ok (.aload_n 0, 1) := by decide +kernel
theorem dL_law_763 : decode cL_law 763 = .ok (.iload 4, 2) := by decide +kernel
theorem dL_law_765 : decode cL_law 765 = .ok (.iconst 2, 1) := by decide +kernel
theorem dL_law_766 : decode cL_law 766 = .ok (.iadd, 1) := by decide +kernel
theorem dL_law_767 : decode cL_law 767 = .ok (.iaload, 1) := by decide +kernel
theorem dL_law_768 : decode cL_law 768 = .ok (.invokevirtual 121, 3) := by decide +kernel
theorem dL_law_771 : decode cL_law 771 = .ok (.istore 6, 2) := by decide +kernel
theorem dL_law_773 : decode cL_law 773 = .ok (.aload_n 2, 1) := by decide +kernel
theorem dL_law_774 : decode cL_law 774 = .ok (.invokevirtual 83, 3) := by decide +kernel
theorem dL_law_777 : decode cL_law 777 = .ok (.iload 5, 2) := by decide +kernel
theorem dL_law_779 : decode cL_law 779 = .ok (.if_icmp .eq 5, 3) := by decide +kernel
theorem dL_law_782 : decode cL_law 782 = .ok (.iconst 0, 1) := by decide +kernel
theorem dL_law_783 : decode cL_law 783 = .ok (.ireturn, 1) := by decide +kernel
theorem dL_law_784 : decode cL_law 784 = .ok (.iload 5, 2) := by decide +kernel
theorem dL_law_786 : decode cL_law 786 = .ok (.ifCond .ne 15, 3) := by decide +kernel
theorem dL_law_789 : decode cL_law 789 = .ok (.aload_n 3, 1) := by decide +kernel
theorem dL_law_790 : decode cL_law 790 = .ok (.iconst 0, 1) := by decide +kernel
theorem dL_law_791 : decode cL_law 791 = .ok (.laload, 1) := by decide +kernel
theorem dL_law_792 : decode cL_law 792 = .ok (.iload 6, 2) := by decide +kernel
theorem dL_law_794 : decode cL_law 794 = .ok (.i2l, 1) := by decide +kernel
theorem dL_law_795 : decode cL_law 795 = .ok (.lcmp, 1) := by decide +kernel
theorem dL_law_796 : decode cL_law 796 = .ok (.ifCond .eq 5, 3) := by decide +kernel
theorem dL_law_799 : decode cL_law 799 = .ok (.iconst 0, 1) := by decide +kernel
theorem dL_law_800 : decode cL_law 800 = .ok (.ireturn, 1) := by decide +kernel
theorem dL_law_801 : decode cL_law 801 = .ok (.goto 478, 3) := by decide +kernel
theorem dL_law_804 : decode cL_law 804 = .ok (.aload_n 1, 1) := by decide +kernel
theorem dL_law_805 : decode cL_law 805 = .ok (.invokevirtual 122, 3) := by decide +kernel
theorem dL_law_808 : decode cL_law 808 = .ok (.aload_n 2, 1) := by decide +kernel
theorem dL_law_809 : decode cL_law 809 = .ok (.invokevirtual 125, 3) := by decide +kernel
theorem dL_law_812 : decode cL_law 812 = .ok (.if_icmp .eq 467, 3) := by decide +kernel
theorem dL_law_815 : decode cL_law 815 = .ok (.iconst 0, 1) := by decide +kernel
theorem dL_law_816 : decode cL_law 816 = .ok (.ireturn, 1) := by decide +kernel
theorem dL_law_817 : decode cL_law 817 = .ok (.aload_n 1, 1) := by decide +kernel
theorem dL_law_818 : decode cL_law 818 = .ok (.aload_n 0, 1) := by decide +kernel
theorem dL_law_819 : decode cL_law 819 = .ok (.iload 4, 2) := by decide +kernel
theorem dL_law_821 : decode cL_law 821 = .ok (.iconst 1, 1) := by decide +kernel
theorem dL_law_822 : decode cL_law 822 = .ok (.iadd, 1) := by decide +kernel
theorem dL_law_823 : decode cL_law 823 = .ok (.iaload, 1) := by decide +kernel
theorem dL_law_824 : decode cL_law 824 = .ok (.aload_n 3, 1) := by decide +kernel
theorem dL_law_825 : decode cL_law 825 = .ok (.invokestatic 126, 3) := by decide +kernel
theorem dL_law_828 : decode cL_law 828 = .ok (.istore 5, 2) := by decide +kernel
theorem dL_law_830 : decode cL_law 830 = .ok (.aload_n 2, 1) := by decide +kernel
theorem dL_law_831 : decode cL_law 831 = .ok (.aload_n 0, 1) := by decide +kernel
theorem dL_law_832 : decode cL_law 832 = .ok (.iload 4, 2) := by decide +kernel
theorem dL_law_834 : decode cL_law 834 = .ok (.iconst 1, 1) := by decide +kernel
theorem dL_law_835 : decode cL_law 835 = .ok (.iadd, 1) := by decide +kernel
theorem dL_law_836 : decode cL_law 836 = .ok (.iaload, 1) := by decide +kernel
theorem dL_law_837 : decode cL_law 837 = .ok (.invokevirtual 128, 3) := by decide +kernel
theorem dL_law_840 : decode cL_law 840 = .ok (.istore 6, 2) := by decide +kernel
theorem dL_law_842 : decode cL_law 842 = .ok (.aload_n 2, 1) := by decide +kernel
theorem dL_law_843 : decode cL_law 843 = .ok (.invokevirtual 83, 3) := by decide +kernel
theorem dL_law_846 : decode cL_law 846 = .ok (.iload 5, 2) := by decide +kernel
theorem dL_law_848 : decode cL_law 848 = .ok (.if_icmp .eq 5, 3) := by decide +kernel
theorem dL_law_851 : decode cL_law 851 = .ok (.iconst 0, 1) := by decide +kernel
theorem dL_law_852 : decode cL_law 852 = .ok (.ireturn, 1) := by decide +kernel
theorem dL_law_853 : decode cL_law 853 = .ok (.iload 5, 2) := by decide +kernel
theorem dL_law_855 : decode cL_law 855 = .ok (.ifCond .ne 15, 3) := by decide +kernel
theorem dL_law_858 : decode cL_law 858 = .ok (.aload_n 3, 1) := by decide +kernel
theorem dL_law_859 : decode cL_law 859 = .ok (.iconst 0, 1) := by decide +kernel
theorem dL_law_860 : decode cL_law 860 = .ok (.laload, 1) := by decide +kernel
theorem dL_law_861 : decode cL_law 861 = .ok (.iload 6, 2) := by decide +kernel
theorem dL_law_863 : decode cL_law 863 = .ok (.i2l, 1) := by decide +kernel
theorem dL_law_864 : decode cL_law 864 = .ok (.lcmp, 1) := by decide +kernel
theorem dL_law_865 : decode cL_law 865 = .ok (.ifCond .eq 5, 3) := by decide +kernel
theorem dL_law_868 : decode cL_law 868 = .ok (.iconst 0, 1) := by decide +kernel
theorem dL_law_869 : decode cL_law 869 = .ok (.ireturn, 1) := by decide +kernel
theorem dL_law_870 : decode cL_law 870 = .ok (.goto 409, 3) := by decide +kernel
theorem dL_law_873 : decode cL_law 873 = .ok (.aload_n 1, 1) := by decide +kernel
theorem dL_law_874 : decode cL_law 874 = .ok (.aload_n 0, 1) := by decide +kernel
theorem dL_law_875 : decode cL_law 875 = .ok (.iload 4, 2) := by decide +kernel
theorem dL_law_877 : decode cL_law 877 = .ok (.iconst 1, 1) := by decide +kernel
theorem dL_law_878 : decode cL_law 878 = .ok (.iadd, 1) := by decide +kernel
theorem dL_law_879 : decode cL_law 879 = .ok (.iaload, 1) := by decide +kernel
theorem dL_law_880 : decode cL_law 880 = .ok (.aload_n 3, 1) := by decide +kernel
theorem dL_law_881 : decode cL_law 881 = .ok (.invokestatic 129, 3) := by decide +kernel
theorem dL_law_884 : decode cL_law 884 = .ok (.istore 5, 2) := by decide +kernel
theorem dL_law_886 : decode cL_law 886 = .ok (.aload_n 2, 1) := by decide +kernel
theorem dL_law_887 : decode cL_law 887 = .ok (.aload_n 0, 1) := by decide +kernel
theorem dL_law_888 : decode cL_law 888 = .ok (.iload 4, 2) := by decide +kernel
theorem dL_law_890 : decode cL_law 890 = .ok (.iconst 1, 1) := by decide +kernel
theorem dL_law_891 : decode cL_law 891 = .ok (.iadd, 1) := by decide +kernel
theorem dL_law_892 : decode cL_law 892 = .ok (.iaload, 1) := by decide +kernel
theorem dL_law_893 : decode cL_law 893 = .ok (.invokevirtual 131, 3) := by decide +kernel
theorem dL_law_896 : decode cL_law 896 = .ok (.lstore 6, 2) := by decide +kernel
theorem dL_law_898 : decode cL_law 898 = .ok (.aload_n 2, 1) := by decide +kernel
theorem dL_law_899 : decode cL_law 899 = .ok (.invokevirtual 83, 3) := by decide +kernel
theorem dL_law_902 : decode cL_law 902 = .ok (.iload 5, 2) := by decide +kernel
theorem dL_law_904 : decode cL_law 904 = .ok (.if_icmp .eq 5, 3) := by decide +kernel
theorem dL_law_907 : decode cL_law 907 = .ok (.iconst 0, 1) := by decide +kernel
theorem dL_law_908 : decode cL_law 908 = .ok (.ireturn, 1) := by decide +kernel
theorem dL_law_909 : decode cL_law 909 = .ok (.iload 5, 2) := by decide +kernel
theorem dL_law_911 : decode cL_law 911 = .ok (.ifCond .ne 14, 3) := by decide +kernel
theorem dL_law_914 : decode cL_law 914 = .ok (.aload_n 3, 1) := by decide +kernel
theorem dL_law_915 : decode cL_law 915 = .ok (.iconst 0, 1) := by decide +kernel
theorem dL_law_916 : decode cL_law 916 = .ok (.laload, 1) := by decide +kernel
theorem dL_law_917 : decode cL_law 917 = .ok (.lload 6, 2) := by decide +kernel
theorem dL_law_919 : decode cL_law 919 = .ok (.lcmp, 1) := by decide +kernel
theorem dL_law_920 : decode cL_law 920 = .ok (.ifCond .eq 5, 3) := by decide +kernel
theorem dL_law_923 : decode cL_law 923 = .ok (.iconst 0, 1) := by decide +kernel
theorem dL_law_924 : decode cL_law 924 = .ok (.ireturn, 1) := by decide +kernel
theorem dL_law_925 : decode cL_law 925 = .ok (.goto 354, 3) := by decide +kernel
theorem dL_law_928 : decode cL_law 928 = .ok (.aload_n 1, 1) := by decide +kernel
theorem dL_law_929 : decode cL_law 929 = .ok (.aload_n 0, 1) := by decide +kernel
theorem dL_law_930 : decode cL_law 930 = .ok (.iload 4, 2) := by decide +kernel
theorem dL_law_932 : decode cL_law 932 = .ok (.iconst 1, 1) := by decide +kernel
theorem dL_law_933 : decode cL_law 933 = .ok (.iadd, 1) := by decide +kernel
theorem dL_law_934 : decode cL_law 934 = .ok (.iaload, 1) := by decide +kernel
theorem dL_law_935 : decode cL_law 935 = .ok (.aload_n 0, 1) := by decide +kernel
theorem dL_law_936 : decode cL_law 936 = .ok (.iload 4, 2) := by decide +kernel
theorem dL_law_938 : decode cL_law 938 = .ok (.iconst 2, 1) := by decide +kernel
theorem dL_law_939 : decode cL_law 939 = .ok (.iadd, 1) := by decide +kernel
theorem dL_law_940 : decode cL_law 940 = .ok (.iaload, 1) := by decide +kernel
theorem dL_law_941 : decode cL_law 941 = .ok (.invokestatic 132, 3) := by decide +kernel
theorem dL_law_944 : decode cL_law 944 = .ok (.istore 5, 2) := by decide +kernel
theorem dL_law_946 : decode cL_law 946 = .ok (.aload_n 2, 1) := by decide +kernel
theorem dL_law_947 : decode cL_law 947 = .ok (.aload_n 0, 1) := by decide +kernel
theorem dL_law_948 : decode cL_law 948 = .ok (.iload 4, 2) := by decide +kernel
theorem dL_law_950 : decode cL_law 950 = .ok (.iconst 1, 1) := by decide +kernel
theorem dL_law_951 : decode cL_law 951 = .ok (.iadd, 1) := by decide +kernel
theorem dL_law_952 : decode cL_law 952 = .ok (.iaload, 1) := by decide +kernel
theorem dL_law_953 : decode cL_law 953 = .ok (.aload_n 0, 1) := by decide +kernel
theorem dL_law_954 : decode cL_law 954 = .ok (.iload 4, 2) := by decide +kernel
theorem dL_law_956 : decode cL_law 956 = .ok (.iconst 2, 1) := by decide +kernel
theorem dL_law_957 : decode cL_law 957 = .ok (.iadd, 1) := by decide +kernel
theorem dL_law_958 : decode cL_law 958 = .ok (.iaload, 1) := by decide +kernel
theorem dL_law_959 : decode cL_law 959 = .ok (.invokevirtual 134, 3) := by decide +kernel
theorem dL_law_962 : decode cL_law 962 = .ok (.aload_n 2, 1) := by decide +kernel
theorem dL_law_963 : decode cL_law 963 = .ok (.invokevirtual 83, 3) := by decide +kernel
theorem dL_law_966 : decode cL_law 966 = .ok (.iload 5, 2) := by decide +kernel
theorem dL_law_968 : decode cL_law 968 = .ok (.if_icmp .eq 5, 3) := by decide +kernel
theorem dL_law_971 : decode cL_law 971 = .ok (.iconst 0, 1) := by decide +kernel
theorem dL_law_972 : decode cL_law 972 = .ok (.ireturn, 1) := by decide +kernel
theorem dL_law_973 : decode cL_law 973 = .ok (.goto 306, 3) := by decide +kernel
theorem dL_law_976 : decode cL_law 976 = .ok (.aload_n 1, 1) := by decide +kernel
theorem dL_law_977 : decode cL_law 977 = .ok (.aload_n 0, 1) := by decide +kernel
theorem dL_law_978 : decode cL_law 978 = .ok (.iload 4, 2) := by decide +kernel
theorem dL_law_980 : decode cL_law 980 = .ok (.iconst 1, 1) := by decide +kernel
theorem dL_law_981 : decode cL_law 981 = .ok (.iadd, 1) := by decide +kernel
theorem dL_law_982 : decode cL_law 982 = .ok (.iaload, 1) := by decide +kernel
theorem dL_law_983 : decode cL_law 983 = .ok (.aload_n 0, 1) := by decide +kernel
theorem dL_law_984 : decode cL_law 984 = .ok (.iload 4, 2) := by decide +kernel
theorem dL_law_986 : decode cL_law 986 = .ok (.iconst 2, 1) := by decide +kernel
theorem dL_law_987 : decode cL_law 987 = .ok (.iadd, 1) := by decide +kernel
theorem dL_law_988 : decode cL_law 988 = .ok (.iaload, 1) := by decide +kernel
theorem dL_law_989 : decode cL_law 989 = .ok (.aload_n 3, 1) := by decide +kernel
theorem dL_law_990 : decode cL_law 990 = .ok (.invokestatic 135, 3) := by decide +kernel
theorem dL_law_993 : decode cL_law 993 = .ok (.istore 5, 2) := by decide +kernel
theorem dL_law_995 : decode cL_law 995 = .ok (.aload_n 2, 1) := by decide +kernel
theorem dL_law_996 : decode cL_law 996 = .ok (.aload_n 0, 1) := by decide +kernel
theorem dL_law_997 : decode cL_law 997 = .ok (.iload 4, 2) := by decide +kernel
theorem dL_law_999 : decode cL_law 999 = .ok (.iconst 1, 1) := by decide +kernel
theorem dL_law_1000 : decode cL_law 1000 = .ok (.iadd, 1) := by decide +kernel
theorem dL_law_1001 : decode cL_law 1001 = .ok (.iaload, 1) := by decide +kernel
theorem dL_law_1002 : decode cL_law 1002 = .ok (.aload_n 0, 1) := by decide +kernel
theorem dL_law_1003 : decode cL_law 1003 = .ok (.iload 4, 2) := by decide +kernel
theorem dL_law_1005 : decode cL_law 1005 = .ok (.iconst 2, 1) := by decide +kernel
theorem dL_law_1006 : decode cL_law 1006 = .ok (.iadd, 1) := by decide +kernel
theorem dL_law_1007 : decode cL_law 1007 = .ok (.iaload, 1) := by decide +kernel
theorem dL_law_1008 : decode cL_law 1008 = .ok (.invokevirtual 137, 3) := by decide +kernel
theorem dL_law_1011 : decode cL_law 1011 = .ok (.istore 6, 2) := by decide +kernel
theorem dL_law_1013 : decode cL_law 1013 = .ok (.aload_n 2, 1) := by decide +kernel
theorem dL_law_1014 : decode cL_law 1014 = .ok (.invokevirtual 83, 3) := by decide +kernel
theorem dL_law_1017 : decode cL_law 1017 = .ok (.iload 5, 2) := by decide +kernel
theorem dL_law_1019 : decode cL_law 1019 = .ok (.if_icmp .eq 5, 3) := by decide +kernel
theorem dL_law_1022 : decode cL_law 1022 = .ok (.iconst 0, 1) := by decide +kernel
theorem dL_law_1023 : decode cL_law 1023 = .ok (.ireturn, 1) := by decide +kernel
theorem dL_law_1024 : decode cL_law 1024 = .ok (.iload 5, 2) := by decide +kernel
theorem dL_law_1026 : decode cL_law 1026 = .ok (.ifCond .ne 15, 3) := by decide +kernel
theorem dL_law_1029 : decode cL_law 1029 = .ok (.aload_n 3, 1) := by decide +kernel
theorem dL_law_1030 : decode cL_law 1030 = .ok (.iconst 0, 1) := by decide +kernel
theorem dL_law_1031 : decode cL_law 1031 = .ok (.laload, 1) := by decide +kernel
theorem dL_law_1032 : decode cL_law 1032 = .ok (.iload 6, 2) := by decide +kernel
theorem dL_law_1034 : decode cL_law 1034 = .ok (.i2l, 1) := by decide +kernel
theorem dL_law_1035 : decode cL_law 1035 = .ok (.lcmp, 1) := by decide +kernel
theorem dL_law_1036 : decode cL_law 1036 = .ok (.ifCond .eq 5, 3) := by decide +kernel
theorem dL_law_1039 : decode cL_law 1039 = .ok (.iconst 0, 1) := by decide +kernel
theorem dL_law_1040 : decode cL_law 1040 = .ok (.ireturn, 1) := by decide +kernel
theorem dL_law_1041 : decode cL_law 1041 = .ok (.goto 238, 3) := by decide +kernel
theorem dL_law_1044 : decode cL_law 1044 = .ok (.aload_n 1, 1) := by decide +kernel
theorem dL_law_1045 : decode cL_law 1045 = .ok (.aload_n 0, 1) := by decide +kernel
theorem dL_law_1046 : decode cL_law 1046 = .ok (.iload 4, 2) := by decide +kernel
theorem dL_law_1048 : decode cL_law 1048 = .ok (.iconst 1, 1) := by decide +kernel
theorem dL_law_1049 : decode cL_law 1049 = .ok (.iadd, 1) := by decide +kernel
theorem dL_law_1050 : decode cL_law 1050 = .ok (.iaload, 1) := by decide +kernel
theorem dL_law_1051 : decode cL_law 1051 = .ok (.aload_n 3, 1) := by decide +kernel
theorem dL_law_1052 : decode cL_law 1052 = .ok (.invokestatic 138, 3) := by decide +kernel
theorem dL_law_1055 : decode cL_law 1055 = .ok (.istore 5, 2) := by decide +kernel
theorem dL_law_1057 : decode cL_law 1057 = .ok (.aload_n 2, 1) := by decide +kernel
theorem dL_law_1058 : decode cL_law 1058 = .ok (.aload_n 0, 1) := by decide +kernel
theorem dL_law_1059 : decode cL_law 1059 = .ok (.iload 4, 2) := by decide +kernel
theorem dL_law_1061 : decode cL_law 1061 = .ok (.iconst 1, 1) := by decide +kernel
theorem dL_law_1062 : decode cL_law 1062 = .ok (.iadd, 1) := by decide +kernel
theorem dL_law_1063 : decode cL_law 1063 = .ok (.iaload, 1) := by decide +kernel
theorem dL_law_1064 : decode cL_law 1064 = .ok (.invokevirtual 140, 3) := by decide +kernel
theorem dL_law_1067 : decode cL_law 1067 = .ok (.istore 6, 2) := by decide +kernel
theorem dL_law_1069 : decode cL_law 1069 = .ok (.aload_n 2, 1) := by decide +kernel
theorem dL_law_1070 : decode cL_law 1070 = .ok (.invokevirtual 83, 3) := by decide +kernel
theorem dL_law_1073 : decode cL_law 1073 = .ok (.iload 5, 2) := by decide +kernel
theorem dL_law_1075 : decode cL_law 1075 = .ok (.if_icmp .eq 5, 3) := by decide +kernel
theorem dL_law_1078 : decode cL_law 1078 = .ok (.iconst 0, 1) := by decide +kernel
theorem dL_law_1079 : decode cL_law 1079 = .ok (.ireturn, 1) := by decide +kernel
theorem dL_law_1080 : decode cL_law 1080 = .ok (.iload 5, 2) := by decide +kernel
theorem dL_law_1082 : decode cL_law 1082 = .ok (.ifCond .ne 15, 3) := by decide +kernel
theorem dL_law_1085 : decode cL_law 1085 = .ok (.aload_n 3, 1) := by decide +kernel
theorem dL_law_1086 : decode cL_law 1086 = .ok (.iconst 0, 1) := by decide +kernel
theorem dL_law_1087 : decode cL_law 1087 = .ok (.laload, 1) := by decide +kernel
theorem dL_law_1088 : decode cL_law 1088 = .ok (.iload 6, 2) := by decide +kernel
theorem dL_law_1090 : decode cL_law 1090 = .ok (.i2l, 1) := by decide +kernel
theorem dL_law_1091 : decode cL_law 1091 = .ok (.lcmp, 1) := by decide +kernel
theorem dL_law_1092 : decode cL_law 1092 = .ok (.ifCond .eq 5, 3) := by decide +kernel
theorem dL_law_1095 : decode cL_law 1095 = .ok (.iconst 0, 1) := by decide +kernel
theorem dL_law_1096 : decode cL_law 1096 = .ok (.ireturn, 1) := by decide +kernel
theorem dL_law_1097 : decode cL_law 1097 = .ok (.goto 182, 3) := by decide +kernel
theorem dL_law_1100 : decode cL_law 1100 = .ok (.aload_n 1, 1) := by decide +kernel
theorem dL_law_1101 : decode cL_law 1101 = .ok (.aload_n 0, 1) := by decide +kernel
theorem dL_law_1102 : decode cL_law 1102 = .ok (.iload 4, 2) := by decide +kernel
theorem dL_law_1104 : decode cL_law 1104 = .ok (.iconst 1, 1) := by decide +kernel
theorem dL_law_1105 : decode cL_law 1105 = .ok (.iadd, 1) := by decide +kernel
theorem dL_law_1106 : decode cL_law 1106 = .ok (.iaload, 1) := by decide +kernel
theorem dL_law_1107 : decode cL_law 1107 = .ok (.aload_n 3, 1) := by decide +kernel
theorem dL_law_1108 : decode cL_law 1108 = .ok (.invokestatic 141, 3) := by decide +kernel
theorem dL_law_1111 : decode cL_law 1111 = .ok (.istore 5, 2) := by decide +kernel
theorem dL_law_1113 : decode cL_law 1113 = .ok (.aload_n 2, 1) := by decide +kernel
theorem dL_law_1114 : decode cL_law 1114 = .ok (.aload_n 0, 1) := by decide +kernel
theorem dL_law_1115 : decode cL_law 1115 = .ok (.iload 4, 2) := by decide +kernel
theorem dL_law_1117 : decode cL_law 1117 = .ok (.iconst 1, 1) := by decide +kernel
theorem dL_law_1118 : decode cL_law 1118 = .ok (.iadd, 1) := by decide +kernel
theorem dL_law_1119 : decode cL_law 1119 = .ok (.iaload, 1) := by decide +kernel
theorem dL_law_1120 : decode cL_law 1120 = .ok (.invokevirtual 143, 3) := by decide +kernel
theorem dL_law_1123 : decode cL_law 1123 = .ok (.istore 6, 2) := by decide +kernel
theorem dL_law_1125 : decode cL_law 1125 = .ok (.aload_n 2, 1) := by decide +kernel
theorem dL_law_1126 : decode cL_law 1126 = .ok (.invokevirtual 83, 3) := by decide +kernel
theorem dL_law_1129 : decode cL_law 1129 = .ok (.iload 5, 2) := by decide +kernel
theorem dL_law_1131 : decode cL_law 1131 = .ok (.if_icmp .eq 5, 3) := by decide +kernel
theorem dL_law_1134 : decode cL_law 1134 = .ok (.iconst 0, 1) := by decide +kernel
theorem dL_law_1135 : decode cL_law 1135 = .ok (.ireturn, 1) := by decide +kernel
theorem dL_law_1136 : decode cL_law 1136 = .ok (.iload 5, 2) := by decide +kernel
theorem dL_law_1138 : decode cL_law 1138 = .ok (.ifCond .ne 15, 3) := by decide +kernel
theorem dL_law_1141 : decode cL_law 1141 = .ok (.aload_n 3, 1) := by decide +kernel
theorem dL_law_1142 : decode cL_law 1142 = .ok (.iconst 0, 1) := by decide +kernel
theorem dL_law_1143 : decode cL_law 1143 = .ok (.laload, 1) := by decide +kernel
theorem dL_law_1144 : decode cL_law 1144 = .ok (.iload 6, 2) := by decide +kernel
theorem dL_law_1146 : decode cL_law 1146 = .ok (.i2l, 1) := by decide +kernel
theorem dL_law_1147 : decode cL_law 1147 = .ok (.lcmp, 1) := by decide +kernel
theorem dL_law_1148 : decode cL_law 1148 = .ok (.ifCond .eq 5, 3) := by decide +kernel
theorem dL_law_1151 : decode cL_law 1151 = .ok (.iconst 0, 1) := by decide +kernel
theorem dL_law_1152 : decode cL_law 1152 = .ok (.ireturn, 1) := by decide +kernel
theorem dL_law_1153 : decode cL_law 1153 = .ok (.goto 126, 3) := by decide +kernel
theorem dL_law_1156 : decode cL_law 1156 = .ok (.aload_n 1, 1) := by decide +kernel
theorem dL_law_1157 : decode cL_law 1157 = .ok (.aload_n 0, 1) := by decide +kernel
theorem dL_law_1158 : decode cL_law 1158 = .ok (.iload 4, 2) := by decide +kernel
theorem dL_law_1160 : decode cL_law 1160 = .ok (.iconst 1, 1) := by decide +kernel
theorem dL_law_1161 : decode cL_law 1161 = .ok (.iadd, 1) := by decide +kernel
theorem dL_law_1162 : decode cL_law 1162 = .ok (.iaload, 1) := by decide +kernel
theorem dL_law_1163 : decode cL_law 1163 = .ok (.aload_n 0, 1) := by decide +kernel
theorem dL_law_1164 : decode cL_law 1164 = .ok (.iload 4, 2) := by decide +kernel
theorem dL_law_1166 : decode cL_law 1166 = .ok (.iconst 2, 1) := by decide +kernel
theorem dL_law_1167 : decode cL_law 1167 = .ok (.iadd, 1) := by decide +kernel
theorem dL_law_1168 : decode cL_law 1168 = .ok (.iaload, 1) := by decide +kernel
theorem dL_law_1169 : decode cL_law 1169 = .ok (.aload_n 3, 1) := by decide +kernel
theorem dL_law_1170 : decode cL_law 1170 = .ok (.invokestatic 144, 3) := by decide +kernel
theorem dL_law_1173 : decode cL_law 1173 = .ok (.istore 5, 2) := by decide +kernel
theorem dL_law_1175 : decode cL_law 1175 = .ok (.aload_n 2, 1) := by decide +kernel
theorem dL_law_1176 : decode cL_law 1176 = .ok (.aload_n 0, 1) := by decide +kernel
theorem dL_law_1177 : decode cL_law 1177 = .ok (.iload 4, 2) := by decide +kernel
theorem dL_law_1179 : decode cL_law 1179 = .ok (.iconst 1, 1) := by decide +kernel
theorem dL_law_1180 : decode cL_law 1180 = .ok (.iadd, 1) := by decide +kernel
theorem dL_law_1181 : decode cL_law 1181 = .ok (.iaload, 1) := by decide +kernel
theorem dL_law_1182 : decode cL_law 1182 = .ok (.aload_n 0, 1) := by decide +kernel
theorem dL_law_1183 : decode cL_law 1183 = .ok (.iload 4, 2) := by decide +kernel
theorem dL_law_1185 : decode cL_law 1185 = .ok (.iconst 2, 1) := by decide +kernel
theorem dL_law_1186 : decode cL_law 1186 = .ok (.iadd, 1) := by decide +kernel
theorem dL_law_1187 : decode cL_law 1187 = .ok (.iaload, 1) := by decide +kernel
theorem dL_law_1188 : decode cL_law 1188 = .ok (.invokevirtual 146, 3) := by decide +kernel
theorem dL_law_1191 : decode cL_law 1191 = .ok (.istore 6, 2) := by decide +kernel
theorem dL_law_1193 : decode cL_law 1193 = .ok (.aload_n 2, 1) := by decide +kernel
theorem dL_law_1194 : decode cL_law 1194 = .ok (.invokevirtual 83, 3) := by decide +kernel
theorem dL_law_1197 : decode cL_law 1197 = .ok (.iload 5, 2) := by decide +kernel
theorem dL_law_1199 : decode cL_law 1199 = .ok (.if_icmp .eq 5, 3) := by decide +kernel
theorem dL_law_1202 : decode cL_law 1202 = .ok (.iconst 0, 1) := by decide +kernel
theorem dL_law_1203 : decode cL_law 1203 = .ok (.ireturn, 1) := by decide +kernel
theorem dL_law_1204 : decode cL_law 1204 = .ok (.iload 5, 2) := by decide +kernel
theorem dL_law_1206 : decode cL_law 1206 = .ok (.ifCond .ne 15, 3) := by decide +kernel
theorem dL_law_1209 : decode cL_law 1209 = .ok (.aload_n 3, 1) := by decide +kernel
theorem dL_law_1210 : decode cL_law 1210 = .ok (.iconst 0, 1) := by decide +kernel
theorem dL_law_1211 : decode cL_law 1211 = .ok (.laload, 1) := by decide +kernel
theorem dL_law_1212 : decode cL_law 1212 = .ok (.iload 6, 2) := by decide +kernel
theorem dL_law_1214 : decode cL_law 1214 = .ok (.i2l, 1) := by decide +kernel
theorem dL_law_1215 : decode cL_law 1215 = .ok (.lcmp, 1) := by decide +kernel
theorem dL_law_1216 : decode cL_law 1216 = .ok (.ifCond .eq 5, 3) := by decide +kernel
theorem dL_law_1219 : decode cL_law 1219 = .ok (.iconst 0, 1) := by decide +kernel
theorem dL_law_1220 : decode cL_law 1220 = .ok (.ireturn, 1) := by decide +kernel
theorem dL_law_1221 : decode cL_law 1221 = .ok (.goto 58, 3) := by decide +kernel
theorem dL_law_1224 : decode cL_law 1224 = .ok (.aload_n 1, 1) := by decide +kernel
theorem dL_law_1225 : decode cL_law 1225 = .ok (.aload_n 0, 1) := by decide +kernel
theorem dL_law_1226 : decode cL_law 1226 = .ok (.iload 4, 2) := by decide +kernel
theorem dL_law_1228 : decode cL_law 1228 = .ok (.iconst 1, 1) := by decide +kernel
theorem dL_law_1229 : decode cL_law 1229 = .ok (.iadd, 1) := by decide +kernel
theorem dL_law_1230 : decode cL_law 1230 = .ok (.iaload, 1) := by decide +kernel
theorem dL_law_1231 : decode cL_law 1231 = .ok (.aload_n 3, 1) := by decide +kernel
theorem dL_law_1232 : decode cL_law 1232 = .ok (.invokestatic 147, 3) := by decide +kernel
theorem dL_law_1235 : decode cL_law 1235 = .ok (.istore 5, 2) := by decide +kernel
theorem dL_law_1237 : decode cL_law 1237 = .ok (.aload_n 2, 1) := by decide +kernel
theorem dL_law_1238 : decode cL_law 1238 = .ok (.aload_n 0, 1) := by decide +kernel
theorem dL_law_1239 : decode cL_law 1239 = .ok (.iload 4, 2) := by decide +kernel
theorem dL_law_1241 : decode cL_law 1241 = .ok (.iconst 1, 1) := by decide +kernel
theorem dL_law_1242 : decode cL_law 1242 = .ok (.iadd, 1) := by decide +kernel
theorem dL_law_1243 : decode cL_law 1243 = .ok (.iaload, 1) := by decide +kernel
theorem dL_law_1244 : decode cL_law 1244 = .ok (.invokevirtual 149, 3) := by decide +kernel
theorem dL_law_1247 : decode cL_law 1247 = .ok (.lstore 6, 2) := by decide +kernel
theorem dL_law_1249 : decode cL_law 1249 = .ok (.aload_n 2, 1) := by decide +kernel
theorem dL_law_1250 : decode cL_law 1250 = .ok (.invokevirtual 83, 3) := by decide +kernel
theorem dL_law_1253 : decode cL_law 1253 = .ok (.iload 5, 2) := by decide +kernel
theorem dL_law_1255 : decode cL_law 1255 = .ok (.if_icmp .eq 5, 3) := by decide +kernel
theorem dL_law_1258 : decode cL_law 1258 = .ok (.iconst 0, 1) := by decide +kernel
theorem dL_law_1259 : decode cL_law 1259 = .ok (.ireturn, 1) := by decide +kernel
theorem dL_law_1260 : decode cL_law 1260 = .ok (.iload 5, 2) := by decide +kernel
theorem dL_law_1262 : decode cL_law 1262 = .ok (.ifCond .ne 14, 3) := by decide +kernel
theorem dL_law_1265 : decode cL_law 1265 = .ok (.aload_n 3, 1) := by decide +kernel
theorem dL_law_1266 : decode cL_law 1266 = .ok (.iconst 0, 1) := by decide +kernel
theorem dL_law_1267 : decode cL_law 1267 = .ok (.laload, 1) := by decide +kernel
theorem dL_law_1268 : decode cL_law 1268 = .ok (.lload 6, 2) := by decide +kernel
theorem dL_law_1270 : decode cL_law 1270 = .ok (.lcmp, 1) := by decide +kernel
theorem dL_law_1271 : decode cL_law 1271 = .ok (.ifCond .eq 5, 3) := by decide +kernel
theorem dL_law_1274 : decode cL_law 1274 = .ok (.iconst 0, 1) := by decide +kernel
theorem dL_law_1275 : decode cL_law 1275 = .ok (.ireturn, 1) := by decide +kernel
theorem dL_law_1276 : decode cL_law 1276 = .ok (.goto 3, 3) := by decide +kernel
theorem dL_law_1279 : decode cL_law 1279 = .ok (.iinc 4 5, 3) := by decide +kernel
theorem dL_law_1282 : decode cL_law 1282 = .ok (.goto (-1259), 3) := by decide +kernel
theorem dL_law_1285 : decode cL_law 1285 = .ok (.iconst 1, 1) := by decide +kernel
theorem dL_law_1286 : decode cL_law 1286 = .ok (.ireturn, 1) := by decide +kernel
abbrev vwCl : List vw_C := [(RX0, TX0, 12), (RX1, TX1, 11), (RX2, TX2, 14), (RX3, TX3, 7), (RX4, TX4, 4), (RX5, TX5, 36)]
end
section
theorem zz_last : True := trivial
end

section
-- ===== PART A: goes FIRST, ahead of the names: the tables' words, and 'selects' of the private methods out of them =====
/-- a private method of a class that the tables say can be made, by its rows of tables_1 -/
def lw_okq (q : MethodName × Nat) : Prop := (q.1.cls ≠ "java/lang/invoke/MethodHandle" ∧ q.1.cls ≠ "java/lang/invoke/VarHandle") ∧ Cond.instantiable q.1.cls q.2 ∈ tables_1 ∧ Cond.privateMethod q.1 ∈ tables_1 ∧ Cond.instanceMethod q.1 ∈ tables_1
theorem lw_p0 : lw_okq (⟨"java/lang/Throwable", "fillInStackTrace", "(I)Ljava/lang/Throwable;"⟩, 6) := ⟨⟨by decide +kernel, by decide +kernel⟩, List.mem_of_getElem? (i := 228) (by decide +kernel), List.mem_of_getElem? (i := 226) (by decide +kernel), List.mem_of_getElem? (i := 227) (by decide +kernel)⟩
theorem lw_p1 : lw_okq (⟨"java/util/ArrayList", "add", "(Ljava/lang/Object;[Ljava/lang/Object;I)V"⟩, 3) := ⟨⟨by decide +kernel, by decide +kernel⟩, List.mem_of_getElem? (i := 32) (by decide +kernel), List.mem_of_getElem? (i := 333) (by decide +kernel), List.mem_of_getElem? (i := 334) (by decide +kernel)⟩
theorem lw_p2 : lw_okq (⟨"java/util/ArrayList", "grow", "()[Ljava/lang/Object;"⟩, 3) := ⟨⟨by decide +kernel, by decide +kernel⟩, List.mem_of_getElem? (i := 32) (by decide +kernel), List.mem_of_getElem? (i := 337) (by decide +kernel), List.mem_of_getElem? (i := 338) (by decide +kernel)⟩
theorem lw_p3 : lw_okq (⟨"java/util/ArrayList", "grow", "(I)[Ljava/lang/Object;"⟩, 3) := ⟨⟨by decide +kernel, by decide +kernel⟩, List.mem_of_getElem? (i := 32) (by decide +kernel), List.mem_of_getElem? (i := 341) (by decide +kernel), List.mem_of_getElem? (i := 342) (by decide +kernel)⟩
theorem lw_p4 : lw_okq (⟨"VendingRounds$Roads", "leastBy", "(III)I"⟩, 2) := ⟨⟨by decide +kernel, by decide +kernel⟩, List.mem_of_getElem? (i := 58) (by decide +kernel), List.mem_of_getElem? (i := 405) (by decide +kernel), List.mem_of_getElem? (i := 406) (by decide +kernel)⟩
theorem lw_p5 : lw_okq (⟨"VendingRounds", "isNoPlace", "(I)Z"⟩, 11) := ⟨⟨by decide +kernel, by decide +kernel⟩, List.mem_of_getElem? (i := 24) (by decide +kernel), List.mem_of_getElem? (i := 417) (by decide +kernel), List.mem_of_getElem? (i := 418) (by decide +kernel)⟩
theorem lw_p6 : lw_okq (⟨"VendingRounds", "isNoMachine", "(I)Z"⟩, 11) := ⟨⟨by decide +kernel, by decide +kernel⟩, List.mem_of_getElem? (i := 24) (by decide +kernel), List.mem_of_getElem? (i := 421) (by decide +kernel), List.mem_of_getElem? (i := 422) (by decide +kernel)⟩
theorem lw_p7 : lw_okq (⟨"VendingRounds", "slotAt", "(II)LVendingRounds$Slot;"⟩, 11) := ⟨⟨by decide +kernel, by decide +kernel⟩, List.mem_of_getElem? (i := 24) (by decide +kernel), List.mem_of_getElem? (i := 454) (by decide +kernel), List.mem_of_getElem? (i := 455) (by decide +kernel)⟩
theorem lw_p8 : lw_okq (⟨"VendingRounds", "machineAt", "(I)LVendingRounds$Machine;"⟩, 11) := ⟨⟨by decide +kernel, by decide +kernel⟩, List.mem_of_getElem? (i := 24) (by decide +kernel), List.mem_of_getElem? (i := 458) (by decide +kernel), List.mem_of_getElem? (i := 459) (by decide +kernel)⟩
theorem lw_p9 : lw_okq (⟨"VendingRounds", "sellEverywhere", "()I"⟩, 11) := ⟨⟨by decide +kernel, by decide +kernel⟩, List.mem_of_getElem? (i := 24) (by decide +kernel), List.mem_of_getElem? (i := 527) (by decide +kernel), List.mem_of_getElem? (i := 528) (by decide +kernel)⟩
theorem lw_p10 : lw_okq (⟨"VendingRounds$Machine", "sellFrom", "(LVendingRounds$Slot;)I"⟩, 4) := ⟨⟨by decide +kernel, by decide +kernel⟩, List.mem_of_getElem? (i := 273) (by decide +kernel), List.mem_of_getElem? (i := 535) (by decide +kernel), List.mem_of_getElem? (i := 536) (by decide +kernel)⟩
theorem lw_p11 : lw_okq (⟨"VendingRounds", "changePrices", "()V"⟩, 11) := ⟨⟨by decide +kernel, by decide +kernel⟩, List.mem_of_getElem? (i := 24) (by decide +kernel), List.mem_of_getElem? (i := 539) (by decide +kernel), List.mem_of_getElem? (i := 540) (by decide +kernel)⟩
theorem lw_p12 : lw_okq (⟨"java/util/ArrayList", "fastRemove", "([Ljava/lang/Object;I)V"⟩, 3) := ⟨⟨by decide +kernel, by decide +kernel⟩, List.mem_of_getElem? (i := 32) (by decide +kernel), List.mem_of_getElem? (i := 547) (by decide +kernel), List.mem_of_getElem? (i := 548) (by decide +kernel)⟩
theorem lw_p13 : lw_okq (⟨"VendingRounds", "requireSet", "(I)V"⟩, 11) := ⟨⟨by decide +kernel, by decide +kernel⟩, List.mem_of_getElem? (i := 24) (by decide +kernel), List.mem_of_getElem? (i := 559) (by decide +kernel), List.mem_of_getElem? (i := 560) (by decide +kernel)⟩
theorem lw_p14 : lw_okq (⟨"VendingRounds", "survey", "()V"⟩, 11) := ⟨⟨by decide +kernel, by decide +kernel⟩, List.mem_of_getElem? (i := 24) (by decide +kernel), List.mem_of_getElem? (i := 588) (by decide +kernel), List.mem_of_getElem? (i := 589) (by decide +kernel)⟩
theorem lw_p15 : lw_okq (⟨"VendingRounds", "roundTime", "(I)I"⟩, 11) := ⟨⟨by decide +kernel, by decide +kernel⟩, List.mem_of_getElem? (i := 24) (by decide +kernel), List.mem_of_getElem? (i := 598) (by decide +kernel), List.mem_of_getElem? (i := 599) (by decide +kernel)⟩
def lw_privs_1 : List (MethodName × Nat) := [(⟨"java/lang/Throwable", "fillInStackTrace", "(I)Ljava/lang/Throwable;"⟩, 6), (⟨"java/util/ArrayList", "add", "(Ljava/lang/Object;[Ljava/lang/Object;I)V"⟩, 3), (⟨"java/util/ArrayList", "grow", "()[Ljava/lang/Object;"⟩, 3), (⟨"java/util/ArrayList", "grow", "(I)[Ljava/lang/Object;"⟩, 3), (⟨"VendingRounds$Roads", "leastBy", "(III)I"⟩, 2), (⟨"VendingRounds", "isNoPlace", "(I)Z"⟩, 11), (⟨"VendingRounds", "isNoMachine", "(I)Z"⟩, 11), (⟨"VendingRounds", "slotAt", "(II)LVendingRounds$Slot;"⟩, 11), (⟨"VendingRounds", "machineAt", "(I)LVendingRounds$Machine;"⟩, 11), (⟨"VendingRounds", "sellEverywhere", "()I"⟩, 11), (⟨"VendingRounds$Machine", "sellFrom", "(LVendingRounds$Slot;)I"⟩, 4), (⟨"VendingRounds", "changePrices", "()V"⟩, 11), (⟨"java/util/ArrayList", "fastRemove", "([Ljava/lang/Object;I)V"⟩, 3), (⟨"VendingRounds", "requireSet", "(I)V"⟩, 11), (⟨"VendingRounds", "survey", "()V"⟩, 11), (⟨"VendingRounds", "roundTime", "(I)I"⟩, 11)]
theorem lw_r1 : ∀ q ∈ lw_privs_1, lw_okq q := List.forall_mem_cons.mpr ⟨lw_p0, List.forall_mem_cons.mpr ⟨lw_p1, List.forall_mem_cons.mpr ⟨lw_p2, List.forall_mem_cons.mpr ⟨lw_p3, List.forall_mem_cons.mpr ⟨lw_p4, List.forall_mem_cons.mpr ⟨lw_p5, List.forall_mem_cons.mpr ⟨lw_p6, List.forall_mem_cons.mpr ⟨lw_p7, List.forall_mem_cons.mpr ⟨lw_p8, List.forall_mem_cons.mpr ⟨lw_p9, List.forall_mem_cons.mpr ⟨lw_p10, List.forall_mem_cons.mpr ⟨lw_p11, List.forall_mem_cons.mpr ⟨lw_p12, List.forall_mem_cons.mpr ⟨lw_p13, List.forall_mem_cons.mpr ⟨lw_p14, List.forall_mem_cons.mpr ⟨lw_p15, fun _ h => absurd h List.not_mem_nil⟩⟩⟩⟩⟩⟩⟩⟩⟩⟩⟩⟩⟩⟩⟩⟩
theorem lw_p16 : lw_okq (⟨"VendingRounds", "serve", "(LVendingRounds$Machine;I)I"⟩, 11) := ⟨⟨by decide +kernel, by decide +kernel⟩, List.mem_of_getElem? (i := 24) (by decide +kernel), List.mem_of_getElem? (i := 625) (by decide +kernel), List.mem_of_getElem? (i := 626) (by decide +kernel)⟩
theorem lw_p17 : lw_okq (⟨"VendingRoundsModel", "fail", "(I)I"⟩, 17) := ⟨⟨by decide +kernel, by decide +kernel⟩, List.mem_of_getElem? (i := 646) (by decide +kernel), List.mem_of_getElem? (i := 717) (by decide +kernel), List.mem_of_getElem? (i := 718) (by decide +kernel)⟩
theorem lw_p18 : lw_okq (⟨"VendingRoundsModel", "way", "(II)I"⟩, 17) := ⟨⟨by decide +kernel, by decide +kernel⟩, List.mem_of_getElem? (i := 646) (by decide +kernel), List.mem_of_getElem? (i := 725) (by decide +kernel), List.mem_of_getElem? (i := 726) (by decide +kernel)⟩
theorem lw_p19 : lw_okq (⟨"VendingRoundsModel", "isSlot", "(II)Z"⟩, 17) := ⟨⟨by decide +kernel, by decide +kernel⟩, List.mem_of_getElem? (i := 646) (by decide +kernel), List.mem_of_getElem? (i := 733) (by decide +kernel), List.mem_of_getElem? (i := 734) (by decide +kernel)⟩
theorem lw_p20 : lw_okq (⟨"VendingRoundsModel", "isMachine", "(I)Z"⟩, 17) := ⟨⟨by decide +kernel, by decide +kernel⟩, List.mem_of_getElem? (i := 646) (by decide +kernel), List.mem_of_getElem? (i := 737) (by decide +kernel), List.mem_of_getElem? (i := 738) (by decide +kernel)⟩
theorem lw_p21 : lw_okq (⟨"VendingRoundsModel", "slotOf", "(II)I"⟩, 17) := ⟨⟨by decide +kernel, by decide +kernel⟩, List.mem_of_getElem? (i := 646) (by decide +kernel), List.mem_of_getElem? (i := 754) (by decide +kernel), List.mem_of_getElem? (i := 755) (by decide +kernel)⟩
theorem lw_p22 : lw_okq (⟨"VendingRoundsModel", "told", "(II)I"⟩, 17) := ⟨⟨by decide +kernel, by decide +kernel⟩, List.mem_of_getElem? (i := 646) (by decide +kernel), List.mem_of_getElem? (i := 762) (by decide +kernel), List.mem_of_getElem? (i := 763) (by decide +kernel)⟩
theorem lw_p23 : lw_okq (⟨"VendingRoundsModel", "lacks", "(I)I"⟩, 17) := ⟨⟨by decide +kernel, by decide +kernel⟩, List.mem_of_getElem? (i := 646) (by decide +kernel), List.mem_of_getElem? (i := 766) (by decide +kernel), List.mem_of_getElem? (i := 767) (by decide +kernel)⟩
theorem lw_p24 : lw_okq (⟨"VendingRoundsModel", "gain", "(I)I"⟩, 17) := ⟨⟨by decide +kernel, by decide +kernel⟩, List.mem_of_getElem? (i := 646) (by decide +kernel), List.mem_of_getElem? (i := 770) (by decide +kernel), List.mem_of_getElem? (i := 771) (by decide +kernel)⟩
theorem lw_p25 : lw_okq (⟨"VendingRoundsModel", "sell", "(I)Z"⟩, 17) := ⟨⟨by decide +kernel, by decide +kernel⟩, List.mem_of_getElem? (i := 646) (by decide +kernel), List.mem_of_getElem? (i := 782) (by decide +kernel), List.mem_of_getElem? (i := 783) (by decide +kernel)⟩
theorem lw_p26 : lw_okq (⟨"VendingRoundsModel", "change", "()V"⟩, 17) := ⟨⟨by decide +kernel, by decide +kernel⟩, List.mem_of_getElem? (i := 646) (by decide +kernel), List.mem_of_getElem? (i := 786) (by decide +kernel), List.mem_of_getElem? (i := 787) (by decide +kernel)⟩
theorem lw_p27 : lw_okq (⟨"VendingRoundsModel", "areMachines", "(I)Z"⟩, 17) := ⟨⟨by decide +kernel, by decide +kernel⟩, List.mem_of_getElem? (i := 646) (by decide +kernel), List.mem_of_getElem? (i := 802) (by decide +kernel), List.mem_of_getElem? (i := 803) (by decide +kernel)⟩
theorem lw_p28 : lw_okq (⟨"VendingRoundsModel", "tabulate", "(I)V"⟩, 17) := ⟨⟨by decide +kernel, by decide +kernel⟩, List.mem_of_getElem? (i := 646) (by decide +kernel), List.mem_of_getElem? (i := 806) (by decide +kernel), List.mem_of_getElem? (i := 807) (by decide +kernel)⟩
theorem lw_p29 : lw_okq (⟨"VendingRoundsModel", "restOf", "(II)I"⟩, 17) := ⟨⟨by decide +kernel, by decide +kernel⟩, List.mem_of_getElem? (i := 646) (by decide +kernel), List.mem_of_getElem? (i := 814) (by decide +kernel), List.mem_of_getElem? (i := 815) (by decide +kernel)⟩
theorem lw_p30 : lw_okq (⟨"VendingRoundsModel", "nextOf", "(II)I"⟩, 17) := ⟨⟨by decide +kernel, by decide +kernel⟩, List.mem_of_getElem? (i := 646) (by decide +kernel), List.mem_of_getElem? (i := 823) (by decide +kernel), List.mem_of_getElem? (i := 824) (by decide +kernel)⟩
theorem lw_p31 : lw_okq (⟨"VendingRoundsModel", "minutesOf", "(I)I"⟩, 17) := ⟨⟨by decide +kernel, by decide +kernel⟩, List.mem_of_getElem? (i := 646) (by decide +kernel), List.mem_of_getElem? (i := 831) (by decide +kernel), List.mem_of_getElem? (i := 832) (by decide +kernel)⟩
def lw_privs_2 : List (MethodName × Nat) := [(⟨"VendingRounds", "serve", "(LVendingRounds$Machine;I)I"⟩, 11), (⟨"VendingRoundsModel", "fail", "(I)I"⟩, 17), (⟨"VendingRoundsModel", "way", "(II)I"⟩, 17), (⟨"VendingRoundsModel", "isSlot", "(II)Z"⟩, 17), (⟨"VendingRoundsModel", "isMachine", "(I)Z"⟩, 17), (⟨"VendingRoundsModel", "slotOf", "(II)I"⟩, 17), (⟨"VendingRoundsModel", "told", "(II)I"⟩, 17), (⟨"VendingRoundsModel", "lacks", "(I)I"⟩, 17), (⟨"VendingRoundsModel", "gain", "(I)I"⟩, 17), (⟨"VendingRoundsModel", "sell", "(I)Z"⟩, 17), (⟨"VendingRoundsModel", "change", "()V"⟩, 17), (⟨"VendingRoundsModel", "areMachines", "(I)Z"⟩, 17), (⟨"VendingRoundsModel", "tabulate", "(I)V"⟩, 17), (⟨"VendingRoundsModel", "restOf", "(II)I"⟩, 17), (⟨"VendingRoundsModel", "nextOf", "(II)I"⟩, 17), (⟨"VendingRoundsModel", "minutesOf", "(I)I"⟩, 17)]
theorem lw_r2 : ∀ q ∈ lw_privs_2, lw_okq q := List.forall_mem_cons.mpr ⟨lw_p16, List.forall_mem_cons.mpr ⟨lw_p17, List.forall_mem_cons.mpr ⟨lw_p18, List.forall_mem_cons.mpr ⟨lw_p19, List.forall_mem_cons.mpr ⟨lw_p20, List.forall_mem_cons.mpr ⟨lw_p21, List.forall_mem_cons.mpr ⟨lw_p22, List.forall_mem_cons.mpr ⟨lw_p23, List.forall_mem_cons.mpr ⟨lw_p24, List.forall_mem_cons.mpr ⟨lw_p25, List.forall_mem_cons.mpr ⟨lw_p26, List.forall_mem_cons.mpr ⟨lw_p27, List.forall_mem_cons.mpr ⟨lw_p28, List.forall_mem_cons.mpr ⟨lw_p29, List.forall_mem_cons.mpr ⟨lw_p30, List.forall_mem_cons.mpr ⟨lw_p31, fun _ h => absurd h List.not_mem_nil⟩⟩⟩⟩⟩⟩⟩⟩⟩⟩⟩⟩⟩⟩⟩⟩
def lw_privs : List (MethodName × Nat) := lw_privs_1 ++ (lw_privs_2)
def lw_tbl : List Cond := k2_sels lw_privs ++ tables_1
theorem lw_privs_ok : ∀ q ∈ lw_privs, lw_okq q := by
  show ∀ q ∈ lw_privs_1 ++ (lw_privs_2), lw_okq q
  exact List.forall_mem_append.mpr ⟨lw_r1, lw_r2⟩
/-- the streams that the claim lets the run draw from -/
abbrev lw_cs : List Choice := [Jvm.Choice.named "NaN.bits"]
theorem lw_bits : nanBits ∈ lw_cs := by first | decide | exact List.mem_cons_self | simp [lw_cs, nanBits]
-- ===== end of PART A; then your names; then what follows =====
end
section
/-! ===== BEGIN words of one list among another's, by their places ===== -/
theorem goodIn_r {big : List Cond} (ws : List Cond) (ps : List Nat) (hp : ws = ps.filterMap (fun i => big[i]?)) (h : ws.all goodWord = true) : GoodIn big ws := by
  intro w hw
  have h1 := List.all_eq_true.mp h w hw
  rw [hp] at hw
  obtain ⟨i, -, hi⟩ := List.mem_filterMap.mp hw
  have hm : w ∈ big := by first | exact List.mem_of_getElem? hi | exact List.getElem?_mem hi
  exact ⟨hm, good_of_word h1⟩
theorem goodIn_app {big a b : List Cond} (ha : GoodIn big a) (hb : GoodIn big b) : GoodIn big (a ++ b) := fun w h => (List.mem_append.mp h).elim (ha w) (hb w)
theorem goodIn_ca {big a b : List Cond} {c : Cond} (ha : GoodIn big (c :: a)) (hb : GoodIn big b) : GoodIn big (c :: (a ++ b)) := fun w h => (List.mem_cons.mp h).elim (fun e => ha w (List.mem_cons.mpr (Or.inl e))) (fun h => (List.mem_append.mp h).elim (fun h => ha w (List.mem_cons.mpr (Or.inr h))) (hb w))
theorem goodIn_sub {big ws : List Cond} (hm : ∀ w ∈ ws, w ∈ big) (h : ws.all goodWord = true) : GoodIn big ws := fun w hw => ⟨hm w hw, good_of_word (List.all_eq_true.mp h w hw)⟩
/-! ===== END ===== -/

/-! ===== BEGIN exceptions that leave a method, and their catching by the caller (launches without stack traces) ===== -/
section VXA
/-! The laws vx_back, vx_callV, vx_callS, vx_callSW, vx_throw0, vx_throwS follow proofs of the library, with one case more: JvmDerived/Free/Laws.lean (Back.of_free), Shelf42/LK1.lean (callV, callS), Shelf/KitTraced.lean (throwNew0V, throwNewS). -/
/-- where a method has thrown q: the class by its name, the cell, what was written, the world -/
def vx_T (XC : String → State → State → Prop) (st : State) (q : Addr) (t : State) (mc ms : Nat) (free : Addr → Prop) : Prop :=
  ∃ (E : String) (ce : Cell) (L : List Loc), XC E st t ∧ t.heap[q]? = some ce ∧ ce.vm = .none ∧ st.vm.findClass E = some ce.cls ∧ st.WarmedH t.vm ∧ st.sameButNew ({ t with vm := st.vm } : State) L mc ms ∧ ∀ z ∈ L, free z.base
def vx_Q (Qc : Array Value → State → Outcome → State → Prop) (XC : String → State → State → Prop) (mc ms : Nat) (free : Addr → Prop) : Array Value → State → Outcome → State → Prop := fun a st o t =>
  (Qc a st o t ∧ ∃ L, FrameEnd st o t L mc ms ∧ ∀ q ∈ L, free q.base) ∨ ∃ q, o = .threw q ∧ vx_T XC st q t mc ms free
/-- a callee that returns or throws -/
def vx_Met (l : Launch) (y : MethodName) (ws : List Cond) (rm : Room) (Pc : Array Value → State → Prop) (Qc : Array Value → State → Outcome → State → Prop) (XC : String → State → State → Prop) (mc ms : Nat) (free : Addr → Prop) : Prop :=
  MetFree l y (headSpec ws rm) Pc (fun _ _ _ _ _ => True) (vx_Q Qc XC mc ms free)
def vx_Post (XC : String → State → State → Prop) (mc ms : Nat) (free : Addr → Prop) : Pt → Array Value → Addr → Pt → Prop := fun A a q B =>
  ∃ (g : JFrame) (mk : MethodId) (t : State) (L : List Loc) (E : String) (ce : Cell), B.U.heap = t.heap ∧ B.U.vm = t.vm ∧ XC E (A.U.calling g mk a) t ∧ t.heap[q]? = some ce ∧ ce.vm = .none ∧ A.U.vm.findClass E = some ce.cls ∧ B.locs = A.locs ++ L ∧ (∀ z ∈ L, free z.base) ∧ B.cells = A.cells + mc ∧ B.slots = A.slots + ms
def vx_Back (l : Launch) (R : Room) (p : Program) (e : Env) (below : List Frame) (s : State) (sargs : Array Value) (y : MethodName) (len W9 : Nat)
    (Pre : Pt → Array Value → Prop) (Post : Pt → Array Value → Option Value → Pt → Prop) (PostX : Pt → Array Value → Addr → Pt → Prop) : Prop :=
  ∀ (m : MethodId) (meth : Method) (c : Code) (A : Pt) (g : JFrame) (ig : Instr) (mk : MethodId) (a : Array Value),
    Stand p l e R s m sargs below meth c A.U A.locs A.cells A.slots → g.method = m → g.locals.size = c.maxLocals → decode c.code g.pc = .ok (ig, len) →
    2 * g.monitorRoom + (g.stack.map fun v => v.category).sum ≤ W9 → A.U.methodNamed? y = some mk → Pre A a →
    (∃ (v : Option Value) (B : Pt), Stand p l e R s m sargs below meth c B.U B.locs B.cells B.slots ∧ Post A a v B ∧
      Steps p.tables e below (doInvoke e (A.U.setTop g) [] mk a).1 (B.U.setTop { g with pc := g.pc + len, stack := v.toList ++ g.stack })) ∨
    (∃ (q : Addr) (B : Pt), Stand p l e R s m sargs below meth c B.U B.locs B.cells B.slots ∧ PostX A a q B ∧
      Steps p.tables e below (doInvoke e (A.U.setTop g) [] mk a).1 ((B.U.setTop g).pushFrame (.throwing q)))
section Payer
variable {l : Launch} {R : Room} {p : Program} {e : Env} {below : List Frame} {s : State} {sargs : Array Value} {y : MethodName} {len W9 : Nat}
theorem vx_back {ws : List Cond} {rm : Room} {Pc : Array Value → State → Prop} {Qc : Array Value → State → Outcome → State → Prop} {XC : String → State → State → Prop} {mc ms : Nat} {free : Addr → Prop} {bytes : ByteArray} {maxL : Nat} {ret : Option FieldType}
    (hM : vx_Met l y ws rm Pc Qc XC mc ms free) (hblind : FrameBlind Pc) (hrc : rm.cells = mc) (hrs : rm.slots = ms)
    (hframes : rm.frames + 1 ≤ R.frames) (hlocals : W9 + (maxL + 11) + rm.locals ≤ R.locals)
    (hws : ∀ w ∈ ws, ∀ a' U, s.WarmedH U.vm → w.before a' U = true) (hcode : Cond.code y bytes maxL ret ∈ ws) (hinit : ∀ a' U, s.WarmedH U.vm → (Cond.initialized y.cls).before a' U = true) :
    vx_Back l R p e below s sargs y len W9 (PreOf R mc ms Pc) (PostOf Qc mc ms free) (vx_Post XC mc ms free) := by
  intro m meth c A g ig mk a X hg hsize hdg hW hn hp
  have h1 : (headSpec ws rm).pre.before a A.U = true := atoms_intro fun w hw => hws w hw _ _ X.warmed
  have h2 : (Cond.code y bytes maxL ret).before a A.U = true := hws _ hcode _ _ X.warmed
  have h3 : (Cond.initialized y.cls).before a A.U = true := hinit _ _ X.warmed
  have h4 : A.cells + (headSpec ws rm).room.cells ≤ R.cells := by rw [show (headSpec ws rm).room.cells = mc from hrc]; exact hp.1
  have h5 : A.slots + (headSpec ws rm).room.slots ≤ R.slots := by rw [show (headSpec ws rm).room.slots = ms from hrs]; exact hp.2.1
  have hPc : Pc a (A.U.calling g mk a) := hblind _ _ _ _ hp.2.2
  obtain ⟨U, Ls, c0, s0⟩ := A
  dsimp only [Pt.U, Pt.locs, Pt.cells, Pt.slots] at h1 h2 h3 h4 h5 X hn hPc ⊢
  obtain ⟨methY, cY, hmY, hcY, -, hlY, -, -, -, -⟩ := Cond.code_spec hn h2
  obtain ⟨kY, hkY, -⟩ := className_of_methodNamed hn
  have hinitY : kY.init = .initialized := Cond.initialized_spec (findClass_of_methodNamed hn) hkY h3
  have h : At U g.method c below := by rw [hg]; exact X.here
  have hlocals9 : W9 + (maxL + 11) + (headSpec ws rm).room.locals ≤ R.locals := hlocals
  have happ : (headSpec ws rm).appliesLoose y e.platform (U.calling g mk a) = true :=
    Spec.appliesLoose_calling (g := g) h hdg hn hkY hinitY
      (X.room_calling (g := g) (R' := (headSpec ws rm).room) hsize hmY hcY hframes (by rw [hlY]; omega) h4 h5) h1
  obtain ⟨mid, hmid⟩ := h.above
  have hfr : (U.setTop g).frames = (.java g :: mid) ++ below := by rw [State.frames_setTop' g h.top, hmid]; rfl
  obtain ⟨o, s₂, hsteps, -, hend, hq⟩ := Steps.callFree hM p X.admits X.cas X.clock (acts := []) hfr happ hPc trivial
  have hq' : vx_Q Qc XC mc ms free a (U.calling g mk a) o s₂ := hq
  rw [State.frames_setTop' g h.top] at hend
  obtain ⟨g₀, hg0⟩ := Option.isSome_iff_exists.mp h.top
  obtain ⟨r, hr⟩ := State.topJava?_eq_some.mp hg0
  have hr' : (({ U with heap := s₂.heap, slotsUsed := s₂.slotsUsed } : State).setVm s₂.vm).frames = .java g₀ :: r := hr
  rcases hq' with ⟨hqc, L, hfe, hL⟩ | ⟨q, rfl, E, ce, L, hx, hce, hcv, hcl, hW₂, hsm, hL⟩
  · obtain ⟨⟨v, rfl⟩, hW₂, e2, q2, q3, q4, q5, q6⟩ := id hfe
    have e3 : s₂ = ({ (U.calling g mk a).setFrames s₂.frames with heap := s₂.heap, slotsUsed := s₂.slotsUsed } : State).setVm s₂.vm := by
      have : s₂ = ({ s₂ with vm := (U.calling g mk a).vm } : State).setVm s₂.vm := rfl
      rw [e2] at this
      exact this
    obtain ⟨c₂, i₂, len₂, hc₂, hd₂, hf₂⟩ := hend
    have hW' : U.WarmedH s₂.vm := hW₂
    have hcc : c₂ = c := by
      have h1 : s₂.code? g.method = U.code? g.method := by
        rw [State.code?_eq, State.code?_eq, hW'.alike.method?]
      exact Option.some.inj (hc₂.symm.trans (h1.trans h.code))
    subst hcc
    have hlen : len₂ = len := by rw [hdg] at hd₂; cases hd₂; rfl
    subst hlen
    have hs₂ : s₂ = (({ U with heap := s₂.heap, slotsUsed := s₂.slotsUsed } : State).setVm s₂.vm).setTop { g with pc := g.pc + len₂, stack := v.toList ++ g.stack } := by
      refine e3.trans ?_
      rw [hf₂, State.calling_eq h.top, State.setFrames_setFrames, State.setTop_of_frames _ hr', hr]
      rfl
    have hsame : U.sameButNew ({ U with heap := s₂.heap, slotsUsed := s₂.slotsUsed } : State) L mc ms := by
      refine ⟨?_, q2, q3, q4, q5, q6⟩
      obtain ⟨t, ht, -⟩ := State.frames_cons hr
      show ({ U with heap := s₂.heap, slotsUsed := s₂.slotsUsed } : State) = { U.setFrames U.frames with heap := s₂.heap, slotsUsed := s₂.slotsUsed }
      rw [State.setFrames_self ht]
    subst hg
    refine Or.inl ⟨v, ⟨(({ U with heap := s₂.heap, slotsUsed := s₂.slotsUsed } : State).setVm s₂.vm), Ls ++ L, c0 + mc, s0 + ms⟩,
      ⟨X.admits, X.cas, X.clock, X.frames, X.room, X.hears, X.method, X.code, (X.here.setHeapUsed s₂.heap s₂.slotsUsed).setVm hW'.alike, X.tail, State.WarmedH.trans X.warmed hW', X.limits, X.bytes, X.same.trans (hsame.setVm s.vm)⟩,
      ⟨g, mk, s₂, L, rfl, rfl, hqc, rfl, hL, rfl, rfl⟩, ?_⟩
    show Steps p.tables e below _ ((({ U with heap := s₂.heap, slotsUsed := s₂.slotsUsed } : State).setVm s₂.vm).setTop { g with pc := g.pc + len₂, stack := v.toList ++ g.stack })
    rw [← hs₂]
    exact hsteps
  · obtain ⟨e2, q2, q3, q4, q5, q6⟩ := id hsm
    have e3 : s₂ = ({ (U.calling g mk a).setFrames s₂.frames with heap := s₂.heap, slotsUsed := s₂.slotsUsed } : State).setVm s₂.vm := by
      have : s₂ = ({ s₂ with vm := (U.calling g mk a).vm } : State).setVm s₂.vm := rfl
      rw [e2] at this
      exact this
    have hf₂ : s₂.frames = .throwing q :: .java g :: U.frames.tail := hend
    have hW' : U.WarmedH s₂.vm := hW₂
    have hs₂ : s₂ = ((({ U with heap := s₂.heap, slotsUsed := s₂.slotsUsed } : State).setVm s₂.vm).setTop g).pushFrame (.throwing q) := by
      refine e3.trans ?_
      rw [hf₂, State.calling_eq h.top, State.setFrames_setFrames, State.pushFrame, State.frames_setTop _ hr', State.setTop_of_frames _ hr', State.setFrames_setFrames, hr]
      rfl
    have hsame : U.sameButNew ({ U with heap := s₂.heap, slotsUsed := s₂.slotsUsed } : State) L mc ms := by
      refine ⟨?_, q2, q3, q4, q5, q6⟩
      obtain ⟨t, ht, -⟩ := State.frames_cons hr
      show ({ U with heap := s₂.heap, slotsUsed := s₂.slotsUsed } : State) = { U.setFrames U.frames with heap := s₂.heap, slotsUsed := s₂.slotsUsed }
      rw [State.setFrames_self ht]
    subst hg
    refine Or.inr ⟨q, ⟨(({ U with heap := s₂.heap, slotsUsed := s₂.slotsUsed } : State).setVm s₂.vm), Ls ++ L, c0 + mc, s0 + ms⟩,
      ⟨X.admits, X.cas, X.clock, X.frames, X.room, X.hears, X.method, X.code, (X.here.setHeapUsed s₂.heap s₂.slotsUsed).setVm hW'.alike, X.tail, State.WarmedH.trans X.warmed hW', X.limits, X.bytes, X.same.trans (hsame.setVm s.vm)⟩,
      ⟨g, mk, s₂, L, E, ce, rfl, rfl, hx, hce, hcv, hcl, rfl, hL, rfl, rfl⟩, ?_⟩
    show Steps p.tables e below _ (((({ U with heap := s₂.heap, slotsUsed := s₂.slotsUsed } : State).setVm s₂.vm).setTop g).pushFrame (.throwing q))
    rw [← hs₂]
    exact hsteps
end Payer
section Calls
variable {p : Program} {l : Launch} {e : Env} {R : Room} {s : State} {m : MethodId} {args : Array Value} {below : List Frame} {meth : Method} {c : Code} {T : State} {locs : List Loc} {cells slots : Nat}
theorem vx_callV (X : Stand p l e R s m args below meth c T locs cells slots) (hexec : p.tables.exec = Jvm.exec) {own C : String} {index : Nat} {y : MethodName} {bytes : ByteArray} {maxL : Nat} {ret : Option FieldType}
    (hown : s.vm.findClass own = some m.cls) (hlink : (Cond.methodLink own index y).before args s = true) (hinst : (Cond.instanceMethod y).before args s = true) (hsel : (Cond.selects C y y).before args s = true)
    (hcode : (Cond.code y bytes maxL ret).before args s = true) (hy : y.cls ≠ "java/lang/invoke/MethodHandle" ∧ y.cls ≠ "java/lang/invoke/VarHandle")
    {W9 : Nat} {Pre : Pt → Array Value → Prop} {Post : Pt → Array Value → Option Value → Pt → Prop} {PostX : Pt → Array Value → Addr → Pt → Prop} (hK : vx_Back l R p e below s args y 3 W9 Pre Post PostX)
    {b : Addr} {cellB : Cell} (hcell : T.heap[b]? = some cellB) (hobj : cellB.vm.isStatics = false) (hcls : s.vm.findClass C = some cellB.cls)
    {g : JFrame} (hg : g.method = m) (hsize : g.locals.size = c.maxLocals) {argsL rest : List Value} (hlen : ∀ sig, parseMethodDescriptor y.desc = some sig → argsL.length = sig.parameters.length)
    (hstack : g.stack = argsL.reverse ++ .ref b :: rest) (hW : 2 * g.monitorRoom + (rest.map fun v => v.category).sum ≤ W9) (hdg : decode c.code g.pc = .ok (.invokevirtual index, 3))
    (hpre : ∀ vm₁, s.WarmedH vm₁ → Pre ⟨T.setVm vm₁, locs, cells, slots⟩ (Value.ref b :: argsL).toArray) :
    (∃ (v : Option Value) (vm₁ : Vm) (B : Pt), s.WarmedH vm₁ ∧ Stand p l e R s m args below meth c B.U B.locs B.cells B.slots ∧ Post ⟨T.setVm vm₁, locs, cells, slots⟩ (Value.ref b :: argsL).toArray v B ∧
      ∀ target, Steps p.tables e below (B.U.setTop { g with pc := g.pc + 3, stack := v.toList ++ rest }) target → Steps p.tables e below (T.setTop g) target) ∨
    (∃ (q : Addr) (vm₁ : Vm) (B : Pt), s.WarmedH vm₁ ∧ Stand p l e R s m args below meth c B.U B.locs B.cells B.slots ∧ PostX ⟨T.setVm vm₁, locs, cells, slots⟩ (Value.ref b :: argsL).toArray q B ∧
      Steps p.tables e below (T.setTop g) ((B.U.setTop { g with stack := rest }).pushFrame (.throwing q))) := by
  obtain ⟨mk, methM, hnamed, hmethM, hstM, habM⟩ := Cond.instanceMethod_spec hinst
  obtain ⟨methM', cM, hmethM', -, -, -, -, -, -, hsigM⟩ := Cond.code_spec hnamed hcode
  cases hmethM.symm.trans hmethM'
  obtain ⟨c2, r2, m2, q1, q2, q3, q4, kP, hkP, hkPi⟩ := Cond.selects_spec hsel
  cases hcls.symm.trans q1
  cases (State.methodFound?_of_named hnamed hy).symm.trans q2
  cases hnamed.symm.trans q3
  have hselP : selectMethod e.platform s.vm cellB.cls mk = .method mk := by rw [Launch.admits_selectMethod X.admits]; exact q4
  obtain ⟨vm₁, X₁, hstep₁⟩ := X.invokevirtual hexec hown hlink hnamed hmethM hstM hkP hkPi hy (a := b) (cell := cellB) hcell
    (fun z h => by rw [h] at hobj; cases hobj) hselP hmethM habM hkP hkPi (g := g) hg (argsL := argsL) (rest := rest) (hlen _ hsigM) hstack hdg
  rcases hK m meth c ⟨T.setVm vm₁, locs, cells, slots⟩ { g with stack := rest } (.invokevirtual index) mk (Value.ref b :: argsL).toArray X₁ hg hsize hdg hW (X₁.named hnamed) (hpre vm₁ X₁.warmed) with ⟨v, B, X', hpost, hsteps⟩ | ⟨q, B, X', hpost, hsteps⟩
  · exact Or.inl ⟨v, vm₁, B, X₁.warmed, X', hpost, fun target h => hstep₁ _ fun acts => by rw [doInvoke_state]; exact hsteps.trans h⟩
  · exact Or.inr ⟨q, vm₁, B, X₁.warmed, X', hpost, hstep₁ _ fun acts => by rw [doInvoke_state]; exact hsteps⟩
theorem vx_callS (X : Stand p l e R s m args below meth c T locs cells slots) (hexec : p.tables.exec = Jvm.exec) {own : String} {index : Nat} {y : MethodName} {bytes : ByteArray} {maxL : Nat} {ret : Option FieldType}
    (hown : s.vm.findClass own = some m.cls) (hlink : (Cond.methodLink own index y).before args s = true) (hstat : (Cond.static y).before args s = true) (hinit : (Cond.initialized y.cls).before args s = true)
    (hcode : (Cond.code y bytes maxL ret).before args s = true) (hy : y.cls ≠ "java/lang/invoke/MethodHandle" ∧ y.cls ≠ "java/lang/invoke/VarHandle")
    {W9 : Nat} {Pre : Pt → Array Value → Prop} {Post : Pt → Array Value → Option Value → Pt → Prop} {PostX : Pt → Array Value → Addr → Pt → Prop} (hK : vx_Back l R p e below s args y 3 W9 Pre Post PostX)
    {g : JFrame} (hg : g.method = m) (hsize : g.locals.size = c.maxLocals) {argsL rest : List Value} (hlen : ∀ sig, parseMethodDescriptor y.desc = some sig → argsL.length = sig.parameters.length)
    (hstack : g.stack = argsL.reverse ++ rest) (hW : 2 * g.monitorRoom + (rest.map fun v => v.category).sum ≤ W9) (hdg : decode c.code g.pc = .ok (.invokestatic index, 3))
    (hpre : ∀ vm₁, s.WarmedH vm₁ → Pre ⟨T.setVm vm₁, locs, cells, slots⟩ argsL.toArray) :
    (∃ (v : Option Value) (vm₁ : Vm) (B : Pt), s.WarmedH vm₁ ∧ Stand p l e R s m args below meth c B.U B.locs B.cells B.slots ∧ Post ⟨T.setVm vm₁, locs, cells, slots⟩ argsL.toArray v B ∧
      ∀ target, Steps p.tables e below (B.U.setTop { g with pc := g.pc + 3, stack := v.toList ++ rest }) target → Steps p.tables e below (T.setTop g) target) ∨
    (∃ (q : Addr) (vm₁ : Vm) (B : Pt), s.WarmedH vm₁ ∧ Stand p l e R s m args below meth c B.U B.locs B.cells B.slots ∧ PostX ⟨T.setVm vm₁, locs, cells, slots⟩ argsL.toArray q B ∧
      Steps p.tables e below (T.setTop g) ((B.U.setTop { g with stack := rest }).pushFrame (.throwing q))) := by
  obtain ⟨mk, hnamed⟩ := Cond.code_named hcode
  obtain ⟨methM, cM, hmethM, -, -, -, -, -, -, hsigM⟩ := Cond.code_spec hnamed hcode
  have hstatic : methM.isStatic = true := Cond.static_spec hnamed hmethM hstat
  obtain ⟨kP, hkP, -⟩ := className_of_methodNamed hnamed
  have hinitP : kP.init = .initialized := Cond.initialized_spec (findClass_of_methodNamed hnamed) hkP hinit
  obtain ⟨vm₁, X₁, hstep₁⟩ := X.invokestatic hexec hown hlink hnamed hmethM hstatic hkP hinitP hy (g := g) hg (argsL := argsL) (rest := rest) (hlen _ hsigM) hstack hdg
  rcases hK m meth c ⟨T.setVm vm₁, locs, cells, slots⟩ { g with stack := rest } (.invokestatic index) mk argsL.toArray X₁ hg hsize hdg hW (X₁.named hnamed) (hpre vm₁ X₁.warmed) with ⟨v, B, X', hpost, hsteps⟩ | ⟨q, B, X', hpost, hsteps⟩
  · exact Or.inl ⟨v, vm₁, B, X₁.warmed, X', hpost, fun target h => hstep₁ _ fun acts => by rw [doInvoke_state]; exact hsteps.trans h⟩
  · exact Or.inr ⟨q, vm₁, B, X₁.warmed, X', hpost, hstep₁ _ fun acts => by rw [doInvoke_state]; exact hsteps⟩
end Calls
theorem vx_cls {s : State} {T : State} {vm₁ : Vm} {E : String} {k : ClassId} (hW : s.WarmedH vm₁) (h : (T.setVm vm₁).vm.findClass E = some k) : s.vm.findClass E = some k := by
  have h1 : vm₁.findClass E = some k := h
  rw [hW.alike.findClass] at h1
  exact h1
/-- the method's frame g, with q thrown over it -/
def vx_W (p : Program) (l : Launch) (e : Env) (R : Room) (s : State) (m : MethodId) (args : Array Value) (below : List Frame) (meth : Method) (c : Code) (H : Heap) (locs : List Loc) (cells slots : Nat) (Q : State → Prop) (g : JFrame) (q : Addr) : Prop :=
  ∀ T : State, T.heap = H → Stand p l e R s m args below meth c T locs cells slots → ∃ t, Steps p.tables e below ((T.setTop g).pushFrame (.throwing q)) t ∧ Q t
def vx_Run (p : Program) (l : Launch) (e : Env) (R : Room) (s : State) (m : MethodId) (args : Array Value) (below : List Frame) (meth : Method) (c : Code) (H : Heap) (locs : List Loc) (cells slots mc ms : Nat) (g : JFrame) (rest : List Value) (Qa : State → Outcome → State → Prop) (XC : String → State → State → Prop) (free : Addr → Prop) : Prop :=
  ∀ T : State, T.heap = H → Stand p l e R s m args below meth c T locs cells slots →
    (∃ (v : Option Value) (st₀ t T' : State) (L : List Loc), st₀.heap = H ∧ Stand p l e R s m args below meth c T' (locs ++ L) (cells + mc) (slots + ms) ∧ (∀ q ∈ L, free q.base) ∧ T'.heap = t.heap ∧ T'.vm = t.vm ∧ Qa st₀ (.returned v) t ∧
      Goes p e below T g T' { g with pc := g.pc + 3, stack := v.toList ++ rest }) ∨
    (∃ (q : Addr) (st₀ t T' : State) (L : List Loc) (E : String) (ce : Cell), st₀.heap = H ∧ Stand p l e R s m args below meth c T' (locs ++ L) (cells + mc) (slots + ms) ∧ (∀ z ∈ L, free z.base) ∧ T'.heap = t.heap ∧ T'.vm = t.vm ∧ XC E st₀ t ∧ t.heap[q]? = some ce ∧ ce.vm = .none ∧ s.vm.findClass E = some ce.cls ∧
      Steps p.tables e below (T.setTop g) ((T'.setTop { g with stack := rest }).pushFrame (.throwing q)))
def vx_X {S : Type} (px : S → Prop) (B : String → S → State → Prop) (A : Nat → Prop) : String → State → State → Prop := fun E st t => ∃ u : S, px u ∧ B E u t ∧ va_F A st t
section Runs
variable {p : Program} {l : Launch} {e : Env} {R : Room} {s : State} {m : MethodId} {args : Array Value} {below : List Frame} {meth : Method} {c : Code} {H : Heap} {locs : List Loc} {cells slots : Nat}
variable {y : MethodName} {bytes cc : ByteArray} {maxL nL mc ms n index : Nat} {ret : Option FieldType} {ws : List Cond} {rm : Room} {Pc : Array Value → State → Prop} {Qc : Array Value → State → Outcome → State → Prop} {XC : String → State → State → Prop} {free : Addr → Prop} {Ts : List Cond} {own C : String} {b : Addr} {As rest : List Value} {g : JFrame}
theorem vx_callBack (cb : CallB R s args own index y bytes maxL ret ws rm mc ms n) (hM : vx_Met l y ws rm Pc Qc XC mc ms free) (hbl : FrameBlind Pc) : vx_Back l R p e below s args y 3 8 (PreOf R mc ms Pc) (PostOf Qc mc ms free) (vx_Post XC mc ms free) := by
  obtain ⟨hrc, hrs, hfr, hlo, hws, hcw, -, hini, -⟩ := cb
  exact vx_back (bytes := bytes) (maxL := maxL) (ret := ret) hM hbl hrc hrs hfr hlo hws hcw (fun a' U hW => word_at hW (Or.inl (by first | rfl | simp [Cond.onTables, Cond.keeps, Cond.steady])) hini)
theorem vx_runV (S : CallFix p m c cc nL s args Ts own) (hM : vx_Met l y ws rm Pc Qc XC mc ms free) (cw : CallW R s args own C index y bytes maxL ret ws rm mc ms n) (hp : PreV s H C b Pc As)
    (hg : g.method = m) (hn : As.length = n) (hsize : g.locals.size = nL) (hstack : g.stack = As.reverse ++ .ref b :: rest) (hW : 2 * g.monitorRoom + (rest.map fun v => v.category).sum ≤ 8) (hdg : decode cc g.pc = .ok (.invokevirtual index, 3)) (hf : cells + mc ≤ R.cells ∧ slots + ms ≤ R.slots) :
    vx_Run p l e R s m args below meth c H locs cells slots mc ms g rest (Qc (Value.ref b :: As).toArray) XC free := by
  have hK : vx_Back l R p e below s args y 3 8 (PreOf R mc ms Pc) (PostOf Qc mc ms free) (vx_Post XC mc ms free) := vx_callBack cw.1 hM hp.1
  obtain ⟨⟨-, -, -, -, -, -, hcode, -, hy, hlen, hl⟩, hin, hse⟩ := cw
  obtain ⟨hx, hb, hml, ho, -⟩ := S
  obtain ⟨-, ⟨cellB, hcB, hoB, hclB⟩, hPc⟩ := hp
  intro T hT X
  rcases vx_callV X hx (C := C) (bytes := bytes) (maxL := maxL) (ret := ret) ho hl hin hse hcode hy hK (by rw [hT]; exact hcB) hoB hclB hg (hsize.trans hml.symm) (argsL := As) (rest := rest) (fun sig h => hn.trans (hlen sig h)) hstack hW (by rw [hb]; exact hdg)
    (fun vm₁ hW₁ => ⟨hf.1, hf.2, hPc (T.setVm vm₁) hT hW₁⟩) with ⟨v, vm₁, ⟨U', l2, c2, s2⟩, hW₁, X', ⟨g', mk, t, L, e1, e2, hq, h1, hL, h2, h3⟩, st⟩ | ⟨q, vm₁, ⟨U', l2, c2, s2⟩, hW₁, X', ⟨g', mk, t, L, E, ce, e1, e2, hq, hce, hcv, hcl, h1, hL, h2, h3⟩, st⟩
  · dsimp only [Pt.U, Pt.locs, Pt.cells, Pt.slots] at X' e1 e2 h1 h2 h3 st
    subst h1; subst h2; subst h3
    exact Or.inl ⟨v, (T.setVm vm₁).calling g' mk (Value.ref b :: As).toArray, t, U', L, hT, X', hL, e1, e2, hq, st⟩
  · dsimp only [Pt.U, Pt.locs, Pt.cells, Pt.slots] at X' e1 e2 h1 h2 h3 st hcl
    subst h1; subst h2; subst h3
    exact Or.inr ⟨q, (T.setVm vm₁).calling g' mk (Value.ref b :: As).toArray, t, U', L, E, ce, hT, X', hL, e1, e2, hq, hce, hcv, vx_cls hW₁ hcl, st⟩
theorem vx_runS (S : CallFix p m c cc nL s args Ts own) (hM : vx_Met l y ws rm Pc Qc XC mc ms free) (cw : CallB R s args own index y bytes maxL ret ws rm mc ms n ∧ (Cond.static y).before args s = true) (hp : PreS s H Pc As)
    (hg : g.method = m) (hn : As.length = n) (hsize : g.locals.size = nL) (hstack : g.stack = As.reverse ++ rest) (hW : 2 * g.monitorRoom + (rest.map fun v => v.category).sum ≤ 8) (hdg : decode cc g.pc = .ok (.invokestatic index, 3)) (hf : cells + mc ≤ R.cells ∧ slots + ms ≤ R.slots) :
    vx_Run p l e R s m args below meth c H locs cells slots mc ms g rest (Qc As.toArray) XC free := by
  have hK : vx_Back l R p e below s args y 3 8 (PreOf R mc ms Pc) (PostOf Qc mc ms free) (vx_Post XC mc ms free) := vx_callBack cw.1 hM hp.1
  obtain ⟨⟨-, -, -, -, -, -, hcode, hini, hy, hlen, hl⟩, hstt⟩ := cw
  obtain ⟨hx, hb, hml, ho, -⟩ := S
  intro T hT X
  rcases vx_callS X hx (bytes := bytes) (maxL := maxL) (ret := ret) ho hl hstt hini hcode hy hK hg (hsize.trans hml.symm) (argsL := As) (rest := rest) (fun sig h => hn.trans (hlen sig h)) hstack hW (by rw [hb]; exact hdg)
    (fun vm₁ hW₁ => ⟨hf.1, hf.2, hp.2 (T.setVm vm₁) hT hW₁⟩) with ⟨v, vm₁, ⟨U', l2, c2, s2⟩, hW₁, X', ⟨g', mk, t, L, e1, e2, hq, h1, hL, h2, h3⟩, st⟩ | ⟨q, vm₁, ⟨U', l2, c2, s2⟩, hW₁, X', ⟨g', mk, t, L, E, ce, e1, e2, hq, hce, hcv, hcl, h1, hL, h2, h3⟩, st⟩
  · dsimp only [Pt.U, Pt.locs, Pt.cells, Pt.slots] at X' e1 e2 h1 h2 h3 st
    subst h1; subst h2; subst h3
    exact Or.inl ⟨v, (T.setVm vm₁).calling g' mk As.toArray, t, U', L, hT, X', hL, e1, e2, hq, st⟩
  · dsimp only [Pt.U, Pt.locs, Pt.cells, Pt.slots] at X' e1 e2 h1 h2 h3 st hcl
    subst h1; subst h2; subst h3
    exact Or.inr ⟨q, (T.setVm vm₁).calling g' mk As.toArray, t, U', L, E, ce, hT, X', hL, e1, e2, hq, hce, hcv, vx_cls hW₁ hcl, st⟩
end Runs
section Rows
variable {p : Program} {l : Launch} {e : Env} {R : Room} {s : State} {m : MethodId} {args : Array Value} {below : List Frame} {meth : Method} {c : Code} {H : Heap} {locs : List Loc} {cells slots : Nat} {Q : State → Prop}
variable {mc ms : Nat} {free : Addr → Prop} {A0 A1 : Nat → Prop} {H0 : Heap} {a : Array Value} {pc : Nat} {ls : Array Slot} {st0 rest : List Value}
theorem vx_keep {st₀ t T' : State} {L : List Loc} (h0 : st₀.heap = H) (e1 : T'.heap = t.heap) (hS : va_S A0 H0 H locs) (hA : ∀ q, q < H.size → A1 q → A0 q) (hf : ∀ q, free q → A0 q) (hL : ∀ q ∈ L, free q.base) (hF : va_F A1 st₀ t) :
    H.size ≤ T'.heap.size ∧ (∀ q : Nat, q < H.size → ¬ A1 q → T'.heap[q]? = H[q]?) ∧ va_S A0 H0 T'.heap (locs ++ L) := by
  obtain ⟨hz, hk⟩ := hF
  rw [h0] at hz hk
  exact ⟨by rw [e1]; exact hz, fun q h1 h2 => by rw [e1]; exact hk q h1 h2,
    ⟨Nat.le_trans hS.1 (by rw [e1]; exact hz), fun q h1 h2 => by rw [e1, hk q (Nat.lt_of_lt_of_le h1 hS.1) (fun z => h2 (hA q (Nat.lt_of_lt_of_le h1 hS.1) z))]; exact hS.2.1 q h1 h2, fun q hq => by
      rcases List.mem_append.mp hq with h | h
      · exact hS.2.2 q h
      · exact hf _ (hL q h)⟩⟩
theorem vx_calli {S SX : Type} {post : Int32 → S → Prop} {px : SX → Prop} {B : S → State → Prop} {BX : String → SX → State → Prop} {AX : Nat → Prop} (hr : vx_Run p l e R s m args below meth c H locs cells slots mc ms (F0 m pc ls st0) rest (va_Qi post B A1 a) (vx_X px BX AX) free) (hS : va_S A0 H0 H locs) (hA : ∀ q, q < H.size → A1 q → A0 q) (hf : ∀ q, free q → A0 q) (hAX : ∀ q, q < H.size → AX q → A0 q)
    (kx : ∀ (E : String) (ce : Cell) (q9 : Addr) (u : SX) (t : State) (H1 : Heap) (locs1 : List Loc), t.heap = H1 → s.vm.Alike t.vm → px u → BX E u t → H.size ≤ H1.size → (∀ q : Nat, q < H.size → ¬ AX q → H1[q]? = H[q]?) → va_S A0 H0 H1 locs1 → H1[q9]? = some ce → ce.vm = .none → s.vm.findClass E = some ce.cls → vx_W p l e R s m args below meth c H1 locs1 (cells + mc) (slots + ms) Q (F0 m pc ls rest) q9)
    (kk : ∀ (r : Int32) (u : S) (t : State) (H1 : Heap) (locs1 : List Loc), t.heap = H1 → s.vm.Alike t.vm → post r u → B u t → H.size ≤ H1.size → (∀ q : Nat, q < H.size → ¬ A1 q → H1[q]? = H[q]?) → va_S A0 H0 H1 locs1 → W p l e R s m args below meth c H1 locs1 (cells + mc) (slots + ms) Q (F0 m (pc + 3) ls (.int r :: rest))) : W p l e R s m args below meth c H locs cells slots Q (F0 m pc ls st0) := by
  intro T hT X
  rcases hr T hT X with ⟨v, st₀, t, T', L, h0, X', hL, e1, e2, ⟨⟨r, u, hv, hp, hb⟩, hF⟩, st⟩ | ⟨q, st₀, t, T', L, E, ce, h0, X', hL, e1, e2, ⟨u, hp, hb, hF⟩, hce, hcv, hcl, st⟩
  · cases hv
    obtain ⟨k1, k2, k3⟩ := vx_keep h0 e1 hS hA hf hL hF
    obtain ⟨t2, a1, b1⟩ := kk r u t T'.heap (locs ++ L) e1.symm (by rw [← e2]; exact X'.warmed.alike) hp hb k1 k2 k3 T' rfl X'
    exact ⟨t2, st t2 a1, b1⟩
  · obtain ⟨k1, k2, k3⟩ := vx_keep h0 e1 hS hAX hf hL hF
    obtain ⟨t2, a1, b1⟩ := kx E ce q u t T'.heap (locs ++ L) e1.symm (by rw [← e2]; exact X'.warmed.alike) hp hb k1 k2 k3 (by rw [e1]; exact hce) hcv hcl T' rfl X'
    exact ⟨t2, st.trans a1, b1⟩
theorem vx_calll {S SX : Type} {post : Int64 → S → Prop} {px : SX → Prop} {B : S → State → Prop} {BX : String → SX → State → Prop} {AX : Nat → Prop} (hr : vx_Run p l e R s m args below meth c H locs cells slots mc ms (F0 m pc ls st0) rest (va_Ql post B A1 a) (vx_X px BX AX) free) (hS : va_S A0 H0 H locs) (hA : ∀ q, q < H.size → A1 q → A0 q) (hf : ∀ q, free q → A0 q) (hAX : ∀ q, q < H.size → AX q → A0 q)
    (kx : ∀ (E : String) (ce : Cell) (q9 : Addr) (u : SX) (t : State) (H1 : Heap) (locs1 : List Loc), t.heap = H1 → s.vm.Alike t.vm → px u → BX E u t → H.size ≤ H1.size → (∀ q : Nat, q < H.size → ¬ AX q → H1[q]? = H[q]?) → va_S A0 H0 H1 locs1 → H1[q9]? = some ce → ce.vm = .none → s.vm.findClass E = some ce.cls → vx_W p l e R s m args below meth c H1 locs1 (cells + mc) (slots + ms) Q (F0 m pc ls rest) q9)
    (kk : ∀ (r : Int64) (u : S) (t : State) (H1 : Heap) (locs1 : List Loc), t.heap = H1 → s.vm.Alike t.vm → post r u → B u t → H.size ≤ H1.size → (∀ q : Nat, q < H.size → ¬ A1 q → H1[q]? = H[q]?) → va_S A0 H0 H1 locs1 → W p l e R s m args below meth c H1 locs1 (cells + mc) (slots + ms) Q (F0 m (pc + 3) ls (.long r :: rest))) : W p l e R s m args below meth c H locs cells slots Q (F0 m pc ls st0) := by
  intro T hT X
  rcases hr T hT X with ⟨v, st₀, t, T', L, h0, X', hL, e1, e2, ⟨⟨r, u, hv, hp, hb⟩, hF⟩, st⟩ | ⟨q, st₀, t, T', L, E, ce, h0, X', hL, e1, e2, ⟨u, hp, hb, hF⟩, hce, hcv, hcl, st⟩
  · cases hv
    obtain ⟨k1, k2, k3⟩ := vx_keep h0 e1 hS hA hf hL hF
    obtain ⟨t2, a1, b1⟩ := kk r u t T'.heap (locs ++ L) e1.symm (by rw [← e2]; exact X'.warmed.alike) hp hb k1 k2 k3 T' rfl X'
    exact ⟨t2, st t2 a1, b1⟩
  · obtain ⟨k1, k2, k3⟩ := vx_keep h0 e1 hS hAX hf hL hF
    obtain ⟨t2, a1, b1⟩ := kx E ce q u t T'.heap (locs ++ L) e1.symm (by rw [← e2]; exact X'.warmed.alike) hp hb k1 k2 k3 (by rw [e1]; exact hce) hcv hcl T' rfl X'
    exact ⟨t2, st.trans a1, b1⟩
theorem vx_callf {S SX : Type} {post : UInt32 → S → Prop} {px : SX → Prop} {B : S → State → Prop} {BX : String → SX → State → Prop} {AX : Nat → Prop} (hr : vx_Run p l e R s m args below meth c H locs cells slots mc ms (F0 m pc ls st0) rest (va_Qf post B A1 a) (vx_X px BX AX) free) (hS : va_S A0 H0 H locs) (hA : ∀ q, q < H.size → A1 q → A0 q) (hf : ∀ q, free q → A0 q) (hAX : ∀ q, q < H.size → AX q → A0 q)
    (kx : ∀ (E : String) (ce : Cell) (q9 : Addr) (u : SX) (t : State) (H1 : Heap) (locs1 : List Loc), t.heap = H1 → s.vm.Alike t.vm → px u → BX E u t → H.size ≤ H1.size → (∀ q : Nat, q < H.size → ¬ AX q → H1[q]? = H[q]?) → va_S A0 H0 H1 locs1 → H1[q9]? = some ce → ce.vm = .none → s.vm.findClass E = some ce.cls → vx_W p l e R s m args below meth c H1 locs1 (cells + mc) (slots + ms) Q (F0 m pc ls rest) q9)
    (kk : ∀ (r : UInt32) (u : S) (t : State) (H1 : Heap) (locs1 : List Loc), t.heap = H1 → s.vm.Alike t.vm → post r u → B u t → H.size ≤ H1.size → (∀ q : Nat, q < H.size → ¬ A1 q → H1[q]? = H[q]?) → va_S A0 H0 H1 locs1 → W p l e R s m args below meth c H1 locs1 (cells + mc) (slots + ms) Q (F0 m (pc + 3) ls (.float r :: rest))) : W p l e R s m args below meth c H locs cells slots Q (F0 m pc ls st0) := by
  intro T hT X
  rcases hr T hT X with ⟨v, st₀, t, T', L, h0, X', hL, e1, e2, ⟨⟨r, u, hv, hp, hb⟩, hF⟩, st⟩ | ⟨q, st₀, t, T', L, E, ce, h0, X', hL, e1, e2, ⟨u, hp, hb, hF⟩, hce, hcv, hcl, st⟩
  · cases hv
    obtain ⟨k1, k2, k3⟩ := vx_keep h0 e1 hS hA hf hL hF
    obtain ⟨t2, a1, b1⟩ := kk r u t T'.heap (locs ++ L) e1.symm (by rw [← e2]; exact X'.warmed.alike) hp hb k1 k2 k3 T' rfl X'
    exact ⟨t2, st t2 a1, b1⟩
  · obtain ⟨k1, k2, k3⟩ := vx_keep h0 e1 hS hAX hf hL hF
    obtain ⟨t2, a1, b1⟩ := kx E ce q u t T'.heap (locs ++ L) e1.symm (by rw [← e2]; exact X'.warmed.alike) hp hb k1 k2 k3 (by rw [e1]; exact hce) hcv hcl T' rfl X'
    exact ⟨t2, st.trans a1, b1⟩
theorem vx_calld {S SX : Type} {post : UInt64 → S → Prop} {px : SX → Prop} {B : S → State → Prop} {BX : String → SX → State → Prop} {AX : Nat → Prop} (hr : vx_Run p l e R s m args below meth c H locs cells slots mc ms (F0 m pc ls st0) rest (va_Qd post B A1 a) (vx_X px BX AX) free) (hS : va_S A0 H0 H locs) (hA : ∀ q, q < H.size → A1 q → A0 q) (hf : ∀ q, free q → A0 q) (hAX : ∀ q, q < H.size → AX q → A0 q)
    (kx : ∀ (E : String) (ce : Cell) (q9 : Addr) (u : SX) (t : State) (H1 : Heap) (locs1 : List Loc), t.heap = H1 → s.vm.Alike t.vm → px u → BX E u t → H.size ≤ H1.size → (∀ q : Nat, q < H.size → ¬ AX q → H1[q]? = H[q]?) → va_S A0 H0 H1 locs1 → H1[q9]? = some ce → ce.vm = .none → s.vm.findClass E = some ce.cls → vx_W p l e R s m args below meth c H1 locs1 (cells + mc) (slots + ms) Q (F0 m pc ls rest) q9)
    (kk : ∀ (r : UInt64) (u : S) (t : State) (H1 : Heap) (locs1 : List Loc), t.heap = H1 → s.vm.Alike t.vm → post r u → B u t → H.size ≤ H1.size → (∀ q : Nat, q < H.size → ¬ A1 q → H1[q]? = H[q]?) → va_S A0 H0 H1 locs1 → W p l e R s m args below meth c H1 locs1 (cells + mc) (slots + ms) Q (F0 m (pc + 3) ls (.double r :: rest))) : W p l e R s m args below meth c H locs cells slots Q (F0 m pc ls st0) := by
  intro T hT X
  rcases hr T hT X with ⟨v, st₀, t, T', L, h0, X', hL, e1, e2, ⟨⟨r, u, hv, hp, hb⟩, hF⟩, st⟩ | ⟨q, st₀, t, T', L, E, ce, h0, X', hL, e1, e2, ⟨u, hp, hb, hF⟩, hce, hcv, hcl, st⟩
  · cases hv
    obtain ⟨k1, k2, k3⟩ := vx_keep h0 e1 hS hA hf hL hF
    obtain ⟨t2, a1, b1⟩ := kk r u t T'.heap (locs ++ L) e1.symm (by rw [← e2]; exact X'.warmed.alike) hp hb k1 k2 k3 T' rfl X'
    exact ⟨t2, st t2 a1, b1⟩
  · obtain ⟨k1, k2, k3⟩ := vx_keep h0 e1 hS hAX hf hL hF
    obtain ⟨t2, a1, b1⟩ := kx E ce q u t T'.heap (locs ++ L) e1.symm (by rw [← e2]; exact X'.warmed.alike) hp hb k1 k2 k3 (by rw [e1]; exact hce) hcv hcl T' rfl X'
    exact ⟨t2, st.trans a1, b1⟩
theorem vx_callv {S SX : Type} {post : S → Prop} {px : SX → Prop} {B : S → State → Prop} {BX : String → SX → State → Prop} {AX : Nat → Prop} (hr : vx_Run p l e R s m args below meth c H locs cells slots mc ms (F0 m pc ls st0) rest (va_Qv post B A1 a) (vx_X px BX AX) free) (hS : va_S A0 H0 H locs) (hA : ∀ q, q < H.size → A1 q → A0 q) (hf : ∀ q, free q → A0 q) (hAX : ∀ q, q < H.size → AX q → A0 q)
    (kx : ∀ (E : String) (ce : Cell) (q9 : Addr) (u : SX) (t : State) (H1 : Heap) (locs1 : List Loc), t.heap = H1 → s.vm.Alike t.vm → px u → BX E u t → H.size ≤ H1.size → (∀ q : Nat, q < H.size → ¬ AX q → H1[q]? = H[q]?) → va_S A0 H0 H1 locs1 → H1[q9]? = some ce → ce.vm = .none → s.vm.findClass E = some ce.cls → vx_W p l e R s m args below meth c H1 locs1 (cells + mc) (slots + ms) Q (F0 m pc ls rest) q9)
    (kk : ∀ (u : S) (t : State) (H1 : Heap) (locs1 : List Loc), t.heap = H1 → s.vm.Alike t.vm → post u → B u t → H.size ≤ H1.size → (∀ q : Nat, q < H.size → ¬ A1 q → H1[q]? = H[q]?) → va_S A0 H0 H1 locs1 → W p l e R s m args below meth c H1 locs1 (cells + mc) (slots + ms) Q (F0 m (pc + 3) ls (rest))) : W p l e R s m args below meth c H locs cells slots Q (F0 m pc ls st0) := by
  intro T hT X
  rcases hr T hT X with ⟨v, st₀, t, T', L, h0, X', hL, e1, e2, ⟨⟨u, hv, hp, hb⟩, hF⟩, st⟩ | ⟨q, st₀, t, T', L, E, ce, h0, X', hL, e1, e2, ⟨u, hp, hb, hF⟩, hce, hcv, hcl, st⟩
  · cases hv
    obtain ⟨k1, k2, k3⟩ := vx_keep h0 e1 hS hA hf hL hF
    obtain ⟨t2, a1, b1⟩ := kk u t T'.heap (locs ++ L) e1.symm (by rw [← e2]; exact X'.warmed.alike) hp hb k1 k2 k3 T' rfl X'
    exact ⟨t2, st t2 a1, b1⟩
  · obtain ⟨k1, k2, k3⟩ := vx_keep h0 e1 hS hAX hf hL hF
    obtain ⟨t2, a1, b1⟩ := kx E ce q u t T'.heap (locs ++ L) e1.symm (by rw [← e2]; exact X'.warmed.alike) hp hb k1 k2 k3 (by rw [e1]; exact hce) hcv hcl T' rfl X'
    exact ⟨t2, st.trans a1, b1⟩
/-- caught by the row x of this method's table; the rows ahead don't take it -/
theorem vx_catch {own name : String} {E : String} {ce : Cell} {q : Addr} (hown : s.vm.findClass own = some m.cls) (pre : List ExceptionTableEntry) (x : ExceptionTableEntry) (suf : List ExceptionTableEntry) (hsplit : c.exceptionTable.toList = pre ++ x :: suf)
    (hpass : ∀ z ∈ pre, covers z pc = false ∨ (z.catchType ≠ 0 ∧ ∃ nm : String, (Cond.classLink own z.catchType nm).before args s = true ∧ va_Nc E nm s)) (hx : covers x pc = true) (h0 : x.catchType ≠ 0)
    (hlink : (Cond.classLink own x.catchType name).before args s = true) (hcast : (Cond.castable E name).before args s = true) (hcell : H[q]? = some ce) (hv : ce.vm = .none) (hcl : s.vm.findClass E = some ce.cls)
    (kk : W p l e R s m args below meth c H locs cells slots Q (F0 m x.handlerPc ls [.ref q])) : vx_W p l e R s m args below meth c H locs cells slots Q (F0 m pc ls rest) q := by
  intro T hT X
  have hpl : e.platform.magicAccessors = ({} : Platform).magicAccessors := by rw [X.admits.platform]
  obtain ⟨c3, c4, hc3, hc4, hasg⟩ := Cond.castable_spec hcast
  cases Option.some.inj (hc3.symm.trans hcl)
  obtain ⟨c5, hc5, hcl5⟩ := Cond.classLink_spec hown hlink e.platform hpl
  cases Option.some.inj (hc4.symm.trans hc5)
  obtain ⟨vm', X', st⟩ := X.thenCaughtThrough q (g := F0 m pc ls rest) rfl (Steps.refl _) (by rw [hT]; exact hcell) (by rw [hv]; rfl) (by obtain ⟨k9, h9, -⟩ := Vm.findClass_spec hcl; exact ⟨k9, h9⟩) pre x suf hsplit
    (fun z hz => by
      rcases hpass z hz with h | ⟨hz0, nm, hl1, hn1⟩
      · exact Or.inl h
      · obtain ⟨c6, hc6, hcl6⟩ := Cond.classLink_spec hown hl1 e.platform hpl
        obtain ⟨a8, b8, h1, h2, h3⟩ := hn1
        cases Option.some.inj (h1.symm.trans hcl)
        cases Option.some.inj (h2.symm.trans hc6)
        exact Or.inr ⟨hz0, _, hcl6, h3⟩) hx (Or.inr ⟨h0, c4, hcl5, hasg⟩)
  obtain ⟨t, a1, b1⟩ := kk (T.setVm vm') hT X'
  exact ⟨t, st.trans a1, b1⟩
end Rows
section Ends
variable {p : Program} {l : Launch} {e : Env} {R : Room} {s : State} {m : MethodId} {args : Array Value} {below : List Frame} {meth : Method} {c : Code} {H : Heap} {locs : List Loc} {cells slots : Nat} {Q : State → Prop}
variable {mc ms : Nat} {free : Addr → Prop} {A0 A1 : Nat → Prop} {H0 : Heap} {a : Array Value} {ls : Array Slot} {st0 rest : List Value}
variable {Qc : Array Value → State → Outcome → State → Prop} {XC : String → State → State → Prop}
/-- what a body that may throw owes at its end -/
def vx_MQ (below : List Frame) (Qc : Array Value → State → Outcome → State → Prop) (XC : String → State → State → Prop) (a : Array Value) (s : State) (mc ms : Nat) (free : Addr → Prop) : State → Prop := fun t =>
  ∃ o, t.status = .running ∧ Ended t below o ∧ vx_Q Qc XC mc ms free a s o t
theorem vx_ret {g : JFrame} {mc ms : Nat} (k : W p l e R s m args below meth c H locs cells slots (MQ below Qc args s mc ms free) g) : W p l e R s m args below meth c H locs cells slots (vx_MQ below Qc XC args s mc ms free) g := by
  intro T hT X
  obtain ⟨t, a1, o, b1, b2, b3, b4⟩ := k T hT X
  exact ⟨t, a1, o, b1, b2, Or.inl ⟨b3, b4⟩⟩
/-- not caught here: it goes on to the caller -/
theorem vx_widen {g : JFrame} {q : Addr} {k n : Nat} (h1 : cells ≤ k) (h2 : slots ≤ n) (kk : vx_W p l e R s m args below meth c H locs k n Q g q) : vx_W p l e R s m args below meth c H locs cells slots Q g q := fun T hT X => kk T hT (stand_widen X h1 h2)
theorem vx_out {pc : Nat} {E : String} {ce : Cell} {q : Addr} {mc ms : Nat} (hout : ∀ x ∈ c.exceptionTable.toList, covers x pc = false) (hlocks : meth.locks = false) (hcell : H[q]? = some ce) (hv : ce.vm = .none) (hcl : s.vm.findClass E = some ce.cls)
    (hx : ∀ t : State, t.heap = H → s.vm.Alike t.vm → XC E s t) (hf : ∀ z ∈ locs, free z.base) (hc : cells ≤ mc) (hs : slots ≤ ms) :
    vx_W p l e R s m args below meth c H locs cells slots (vx_MQ below Qc XC args s mc ms free) (F0 m pc ls rest) q := by
  intro T hT X
  obtain ⟨st1, hrun, hend, hW, hsm⟩ := X.leaveThrown q (g := F0 m pc ls rest) rfl rfl rfl hout hlocks
  have hcell9 : (T.setFrames (.throwing q :: below)).heap[q]? = some ce := by
    show T.heap[q]? = some ce
    rw [hT]; exact hcell
  exact ⟨_, st1, .threw q, hrun, hend, Or.inr ⟨q, rfl, E, ce, locs, hx _ hT hW.alike, hcell9, hv, hcl, hW, hsm.mono hc hs, hf⟩⟩
theorem vx_frame {U : State} {k n : Nat} (h : s.sameButNew ({ U with vm := s.vm } : State) locs k n) : s.heap.size ≤ U.heap.size ∧ ∀ q : Nat, q < s.heap.size → (∀ z ∈ locs, z.base ≠ q) → U.heap[q]? = s.heap[q]? := by
  obtain ⟨-, h2, -, -, -, h6⟩ := h
  refine ⟨h2, fun q hq hz => ?_⟩
  obtain ⟨c9, e1, e2, e3, e4⟩ := h6 q _ (Array.getElem?_eq_getElem hq)
  have hs : c9.slots = (s.heap[q]).slots := Array.ext_getElem? fun i => e4 i fun hm => hz _ hm rfl
  have h9 : c9 = s.heap[q] := by
    rw [hs] at e2
    exact e2
  have e5 : U.heap[q]? = some c9 := e1
  rw [e5, h9, Array.getElem?_eq_getElem hq]
/-- the words of a throw but the four that speak of the heap -/
def vx_no (w : Cond) : Bool := decide (w ≠ .isRef (.static Bundle.tN "UNASSIGNED_STACK" Bundle.steD)) && decide (w ≠ .isRef (.static Bundle.tN "SUPPRESSED_SENTINEL" Bundle.listD)) && decide (w ≠ .laysStatic Bundle.tN "UNASSIGNED_STACK" Bundle.steD) && decide (w ≠ .laysStatic Bundle.tN "SUPPRESSED_SENTINEL" Bundle.listD)
def vx_at0 (own : String) (ic : Nat) (X : String) (names : List String) : List Cond := (Bundle.ownAtoms0 own ic X names).filter vx_no
def vx_atS (own : String) (ic : Nat) (X : String) (names : List String) : List Cond := (Bundle.ownAtoms own ic X names).filter vx_no
/-- a word that the tables alone decide, or a good one -/
def vx_ot (w : Cond) : Bool := w.onTables || goodWord w
theorem vx_ot_at {args a' : Array Value} {s U : State} {w : Cond} (hW : s.WarmedH U.vm) (hvm : s.vm = U.vm) (hg : vx_ot w = true) (h : w.before args s = true) : w.before a' U = true := by
  simp only [vx_ot, Bool.or_eq_true] at hg
  rcases hg with hg | hg
  · exact va_tabs hg hvm h
  · exact word_at hW (good_of_word hg) h
/-- a list's words: the good ones out of the method's own list, the others by premises of their own -/
theorem vx_hat {args : Array Value} {s : State} {L B : List Cond} (h1 : ∀ w ∈ L.filter goodWord, w.before args s = true) (h2 : ∀ w ∈ L.filter (fun w => !goodWord w), w ∈ B) (h3 : ∀ w ∈ B, w.before args s = true) : ∀ w ∈ L, w.before args s = true := by
  intro w hw
  by_cases g : goodWord w = true
  · exact h1 w (List.mem_filter.mpr ⟨hw, g⟩)
  · refine h3 w (h2 w (List.mem_filter.mpr ⟨hw, ?_⟩))
    show (!goodWord w) = true
    cases hgw : goodWord w
    · rfl
    · exact absurd hgw g
theorem vx_c {args : Array Value} {s : State} {w : Cond} {B : List Cond} (h : w.before args s = true) (t : ∀ w ∈ B, w.before args s = true) : ∀ w' ∈ w :: B, w'.before args s = true := fun w' h' => (List.mem_cons.mp h').elim (fun e => by rw [e]; exact h) (t w')
theorem vx_n {args : Array Value} {s : State} : ∀ w ∈ ([] : List Cond), w.before args s = true := fun _ h => nomatch h
theorem vx_own {args : Array Value} {s : State} {L : List Cond} (h1 : ∀ w ∈ L.filter vx_no, w.before args s = true)
    (hU : (Cond.isRef (.static Bundle.tN "UNASSIGNED_STACK" Bundle.steD)).before args s = true) (hN : (Cond.isRef (.static Bundle.tN "SUPPRESSED_SENTINEL" Bundle.listD)).before args s = true)
    (lU : (Cond.laysStatic Bundle.tN "UNASSIGNED_STACK" Bundle.steD).before args s = true) (lN : (Cond.laysStatic Bundle.tN "SUPPRESSED_SENTINEL" Bundle.listD).before args s = true) : ∀ w ∈ L, w.before args s = true := by
  intro w hw
  by_cases e1 : w = .isRef (.static Bundle.tN "UNASSIGNED_STACK" Bundle.steD)
  · rw [e1]; exact hU
  · by_cases e2 : w = .isRef (.static Bundle.tN "SUPPRESSED_SENTINEL" Bundle.listD)
    · rw [e2]; exact hN
    · by_cases e3 : w = .laysStatic Bundle.tN "UNASSIGNED_STACK" Bundle.steD
      · rw [e3]; exact lU
      · by_cases e4 : w = .laysStatic Bundle.tN "SUPPRESSED_SENTINEL" Bundle.listD
        · rw [e4]; exact lN
        · exact h1 w (List.mem_filter.mpr ⟨hw, by unfold vx_no; rw [decide_eq_true e1, decide_eq_true e2, decide_eq_true e3, decide_eq_true e4]; rfl⟩)
/-- where a static field lies, its class's statics cell in H -/
def vx_L (C n d : String) (A : Nat → Prop) (U : State) (H : Heap) : Prop := ∃ (c : ClassId) (k : Class) (i : Nat) (f : Field) (a : Nat) (cell : Cell), U.vm.findClass C = some c ∧ U.fieldFound? C n d = some (c, k, i, f) ∧ f.isStatic = true ∧ k.statics = some a ∧ H[a]? = some cell ∧ cell.vm.isStatics = true ∧ cell.cls = c ∧ f.slot < cell.slots.size ∧ k.staticTypes[f.slot]? = some f.type ∧ ¬ A a
theorem vx_L.moved {C n d : String} {A : Nat → Prop} {u U : State} {H : Heap} (hvm : u.vm.Alike U.vm) (h : vx_L C n d A u H) : vx_L C n d A U H := by
  obtain ⟨c, k, i, f, a, cell, h1, h2, h3, h4, h5, h6, h7, h8, h9, h10⟩ := h
  obtain ⟨k', hi', he⟩ := State.fieldFound?_setVm hvm h2
  exact ⟨c, k', i, f, a, cell, by rw [hvm.findClass]; exact h1, hi', h3, by rw [he]; exact h4, h5, h6, h7, h8, by rw [he]; exact h9, h10⟩
theorem vx_L.kept {C n d : String} {A : Nat → Prop} {U : State} {H H1 : Heap} (h : vx_L C n d A U H) (hq : ∀ a : Nat, a < H.size → ¬ A a → H1[a]? = H[a]?) : vx_L C n d A U H1 := by
  obtain ⟨c, k, i, f, a, cell, h1, h2, h3, h4, h5, h6, h7, h8, h9, h10⟩ := h
  exact ⟨c, k, i, f, a, cell, h1, h2, h3, h4, by rw [hq a (Array.getElem?_eq_some_iff.mp h5).1 h10]; exact h5, h6, h7, h8, h9, h10⟩
theorem vx_L.narrow {C n d : String} {A B : Nat → Prop} {U : State} {H : Heap} (h : vx_L C n d A U H) (hAB : ∀ q, B q → A q) : vx_L C n d B U H := by
  obtain ⟨c, k, i, f, a, cell, h1, h2, h3, h4, h5, h6, h7, h8, h9, h10⟩ := h
  exact ⟨c, k, i, f, a, cell, h1, h2, h3, h4, h5, h6, h7, h8, h9, fun z => h10 (hAB _ z)⟩
theorem vx_L.word {C n d : String} {A : Nat → Prop} {s : State} {args : Array Value} (h : vx_L C n d A s s.heap) : (Cond.laysStatic C n d).before args s = true := by
  obtain ⟨c, k, i, f, a, cell, h1, h2, h3, h4, h5, h6, h7, h8, h9, -⟩ := h
  show (Cond.laysStatic C n d).holds args s none s [] = true
  exact Cond.laysStatic_of h1 h2 h3 h4 h5 h6 h7 h8 h9
/-- .. and what it holds: null or some reference -/
def vx_Zq (C n d : String) (A : Nat → Prop) (U : State) (H : Heap) : Prop := va_Zq C n d A U H ∧ vx_L C n d A U H
theorem vx_Zq.moved {C n d : String} {A : Nat → Prop} {u U : State} {H : Heap} (hvm : u.vm.Alike U.vm) (h : vx_Zq C n d A u H) : vx_Zq C n d A U H := ⟨va_Zq.moved hvm h.1, vx_L.moved hvm h.2⟩
theorem vx_Zq.kept {C n d : String} {A : Nat → Prop} {U : State} {H H1 : Heap} (h : vx_Zq C n d A U H) (hq : ∀ a : Nat, a < H.size → ¬ A a → H1[a]? = H[a]?) : vx_Zq C n d A U H1 := ⟨va_Zq.kept h.1 hq, vx_L.kept h.2 hq⟩
theorem vx_Zq.narrow {C n d : String} {A B : Nat → Prop} {U : State} {H : Heap} (h : vx_Zq C n d A U H) (hAB : ∀ q, B q → A q) : vx_Zq C n d B U H := ⟨va_Zq.narrow h.1 hAB, vx_L.narrow h.2 hAB⟩
theorem vx_Zqof {args : Array Value} {s : State} {C n d : String} {A : Nat → Prop} (hl : (Cond.laysStatic C n d).before args s = true) (hini : (Cond.initialized C).before args s = true) (h : (Cond.isRef (.static C n d)).before args s = true) (hA : ∀ a : Nat, a < s.heap.size → ¬ A a) : vx_Zq C n d A s s.heap := by
  refine ⟨va_Zqof hl hini h hA, ?_⟩
  obtain ⟨c, k, i, f, a, cell, h1, h2, h3, h4, h5, h6, h7, h8, h9⟩ := Cond.laysStatic_spec hl
  exact ⟨c, k, i, f, a, cell, h1, h2, h3, h4, h5, h6, h7, h8, h9, hA a (Array.getElem?_eq_some_iff.mp h5).1⟩
theorem vx_isRef {C n d : String} {v : Value} {A : Nat → Prop} {s : State} {args : Array Value} (h : va_Z C n d v A s s.heap) (hv : v.isRef = true) : (Cond.isRef (.static C n d)).before args s = true := by
  obtain ⟨cf, kf, fi, f, a, cell, h1, h2, h3, h4, h5, h6, h7, -⟩ := h
  have he : (Term.static C n d).eval args s none [] s = some v := by
    simp [Term.eval, State.fieldNamed?, h1, h2, h4, h5, h6, h7]
  simp only [Cond.before, Cond.holds, Cond.value, he]
  cases v <;> simp_all [Value.isRef]
theorem vx_isRefq {C n d : String} {A : Nat → Prop} {s : State} {args : Array Value} (h : va_Zq C n d A s s.heap) : (Cond.isRef (.static C n d)).before args s = true := by
  rcases h with h | ⟨t, h⟩
  · exact vx_isRef h rfl
  · exact vx_isRef h rfl
/-- the same frame, seen from here: as if the method were called anew in this heap -/
theorem vx_rebase {T : State} (X : Stand p l e R s m args below meth c T locs cells slots) {R' : Room} (hf : R'.frames ≤ R.frames) (hl : R'.locals ≤ R.locals) (hc : cells + R'.cells ≤ R.cells) (hs : slots + R'.slots ≤ R.slots) :
    Stand p l e R' ((T.setVm s.vm).setFrames (.invoking m args :: below)) m args below meth c T [] 0 0 := by
  have htop : (T.setVm s.vm).topJava?.isSome := X.here.top
  have hF : ((T.setVm s.vm).setFrames (.invoking m args :: below)).frames = .invoking m args :: below := State.frames_setFrames _ (State.cur_lt_of_top htop)
  obtain ⟨g₀, hg0⟩ := Option.isSome_iff_exists.mp htop
  obtain ⟨r, hr⟩ := State.topJava?_eq_some.mp hg0
  have hl9 : e.platform.stackLimits (T.setVm s.vm).me = e.platform.stackLimits s.me := X.limits
  have hb9 : (T.setVm s.vm).me.stackBytes = s.me.stackBytes := X.bytes
  refine ⟨X.admits, X.cas, X.clock, hF, ?_, X.hears, X.method, X.code, X.here, X.tail, X.warmed, ?_, ?_, ?_⟩
  · have h := X.room
    have hU : ((T.setVm s.vm).setFrames (.invoking m args :: below)).localsInUse = s.localsInUse := by
      rw [State.localsInUse_invoking hF (meth := meth) (c := c) X.method X.code, State.localsInUse_invoking X.frames X.method X.code]
    simp only [State.hasRoom, Bool.and_eq_true, decide_eq_true_eq] at h ⊢
    obtain ⟨⟨⟨⟨h1, h2, h3, h4, h5, h6⟩, h7⟩, h8⟩, h9⟩ := h
    rw [X.frames, List.length_cons] at h2 h3
    have q1 := X.heapSize
    have q2 := X.used
    simp only [hF, hU, List.length_cons, State.stackLimits_setFrames, State.stackBytes_setFrames, hl9, hb9]
    refine ⟨⟨⟨⟨by omega, by omega, by omega, by omega, by omega, h6⟩, ?_⟩, ?_⟩, X.book⟩
    · show T.heap.size + R'.cells ≤ e.platform.maxCells
      omega
    · show T.slotsUsed + R'.slots ≤ e.platform.maxSlots
      omega
  · rw [State.stackLimits_setFrames]; rfl
  · rw [State.stackBytes_setFrames]; rfl
  · refine ⟨?_, Nat.le_refl _, Nat.le_refl _, ?_, ?_, fun a c9 h9 => ⟨c9, h9, rfl, rfl, fun _ _ => rfl⟩⟩
    · obtain ⟨t, ht, -⟩ := State.frames_cons hr
      show T.setVm s.vm = { ((T.setVm s.vm).setFrames (.invoking m args :: below)).setFrames (T.setVm s.vm).frames with heap := T.heap, slotsUsed := T.slotsUsed }
      rw [State.setFrames_setFrames, State.setFrames_self ht]
      rfl
    · show T.slotsUsed = T.slotsUsed + ((T.heap.toList.drop T.heap.size).map (·.slots.size)).sum
      rw [List.drop_eq_nil_of_le (Nat.le_of_eq Array.length_toList)]
      rfl
    · show ((T.heap.toList.drop T.heap.size).map (·.slots.size)).sum ≤ 0
      rw [List.drop_eq_nil_of_le (Nat.le_of_eq Array.length_toList)]
      exact Nat.le_refl _
/-- 'throw new E()': new; dup; invokespecial; athrow -/
theorem vx_throw0 {cc : ByteArray} {pc : Nat} (hexec : p.tables.exec = Jvm.exec) (hb : c.code = cc) (hl : l.stackTraces = false) {own cls : String} {names : List String} {ik ic mc ms : Nat} {A : Nat → Prop}
    (hown : s.vm.findClass own = some m.cls) (hcls : Bundle.fit cls = true) (hnames : ∀ n ∈ names, Bundle.fit n = true)
    (hk : (Cond.classLink own ik cls).before args s = true) (hini : (Cond.initialized cls).before args s = true) (hat : ∀ w ∈ vx_at0 own ic cls names, w.before args s = true)
    (hgood : ∀ w ∈ Cond.classLink own ik cls :: Cond.initialized cls :: vx_at0 own ic cls names, vx_ot w = true)
    (hU : vx_Zq Bundle.tN "UNASSIGNED_STACK" Bundle.steD A s s.heap) (hN : vx_Zq Bundle.tN "SUPPRESSED_SENTINEL" Bundle.listD A s s.heap) (hS : va_S A s.heap H locs) (hsize : ls.size = c.maxLocals)
    (d0 : decode cc pc = .ok (.new ik, 3)) (d3 : decode cc (pc + 3) = .ok (.dup, 1)) (d4 : decode cc (pc + 4) = .ok (.invokespecial ic, 3)) (d7 : decode cc (pc + 7) = .ok (.athrow, 1))
    (hout : ∀ x ∈ c.exceptionTable.toList, covers x (pc + 7) = false)
    (hRframes : names.length + 3 < R.frames) (hRlocals : (rest.map fun v => v.category).sum + (13 * (names.length + 1) + 42) ≤ R.locals) (hRcells : cells + 1 ≤ R.cells) (hRslots : slots + 6 ≤ R.slots) (hlocks : meth.locks = false)
    (hx : ∀ t : State, s.vm.Alike t.vm → H.size ≤ t.heap.size → (∀ q : Nat, q < H.size → t.heap[q]? = H[q]?) → XC cls s t)
    (hf : ∀ z ∈ locs, free z.base) (hc : cells + 1 ≤ mc) (hs : slots + 6 ≤ ms) :
    W p l e R s m args below meth c H locs cells slots (vx_MQ below Qc XC args s mc ms free) (F0 m pc ls rest) := by
  intro T hT X
  have htr : e.platform.stackTraces = false := (show e.platform.stackTraces = l.stackTraces by rw [X.admits.platform]).trans hl
  have Y := vx_rebase X (R' := { frames := R.frames, locals := R.locals, cells := 1, slots := 6 }) (Nat.le_refl _) (Nat.le_refl _) hRcells hRslots
  obtain ⟨s', hA⟩ : ∃ z, z = (T.setVm s.vm).setFrames (.invoking m args :: below) := ⟨_, rfl⟩
  rw [← hA] at Y
  have hvm : s'.vm = s.vm := by rw [hA]; rfl
  have hhp : s'.heap = H := by rw [hA]; exact hT
  have hW0 : s.WarmedH s'.vm := by rw [hvm]; exact State.WarmedH.refl s
  have hat' : ∀ w ∈ vx_at0 own ic cls names, w.before args s' = true := fun w hw => vx_ot_at hW0 hvm.symm (hgood w (List.mem_cons_of_mem _ (List.mem_cons_of_mem _ hw))) (hat w hw)
  have hk' : (Cond.classLink own ik cls).before args s' = true := vx_ot_at hW0 hvm.symm (hgood _ List.mem_cons_self) hk
  have hini' : (Cond.initialized cls).before args s' = true := vx_ot_at hW0 hvm.symm (hgood _ (List.mem_cons_of_mem _ List.mem_cons_self)) hini
  have hU' : vx_Zq Bundle.tN "UNASSIGNED_STACK" Bundle.steD A s' s'.heap := by rw [hhp]; exact vx_Zq.moved hW0.alike (hU.kept hS.2.1)
  have hN' : vx_Zq Bundle.tN "SUPPRESSED_SENTINEL" Bundle.listD A s' s'.heap := by rw [hhp]; exact vx_Zq.moved hW0.alike (hN.kept hS.2.1)
  have h : ∀ w ∈ Bundle.ownAtoms0 own ic cls names, w.before args s' = true := vx_own hat' (vx_isRefq hU'.1) (vx_isRefq hN'.1) hU'.2.word hN'.2.word
  have hown' : s'.vm.findClass own = some m.cls := by rw [hvm]; exact hown
  have hins : (Cond.instantiable cls 6).before args s' = true := h _ (by simp [Bundle.ownAtoms0])
  obtain ⟨vm₁, cX, kX, hfX, hkX, -, -, X₁, st1⟩ := Y.newCold hexec (own := own) (C := cls) (index := ik) (n := 6) hown' hk' hins hini'
    (g := F0 m pc ls rest) rfl (by rw [hb]; exact d0) (Nat.le_refl _) (Nat.le_refl _)
  generalize hT1 : (T.setVm vm₁).pushCell { cls := cX, slots := kX.instanceTypes.map defaultValue, vm := .none } = T1 at X₁ st1
  have hcat : (Value.ref T.heap.size).category = 1 := rfl
  have hcellA : T1.heap[T.heap.size]? = some (freshCell cX kX) := by rw [← hT1]; exact State.heap_pushCell_size _ _
  have d3' : decode c.code (pc + 3) = .ok (.dup, 1) := by rw [hb]; exact d3
  obtain ⟨U, hsteps, hrun, hend, hW, hsame, ce, hce, hO⟩ := X₁.ctorThrow0 hexec htr (own := own) (cls := cls) (names := names) (ic := ic) hown' hcls hnames h (fun x hx => nomatch hx) hfX hkX hcellA (by rw [hhp, hT]; exact Nat.le_refl _)
    (g := { method := m, pc := pc + 4, locals := ls, stack := .ref T.heap.size :: .ref T.heap.size :: rest, locked := none }) rfl hsize rfl rfl (rest := rest) rfl
    (by rw [hb]; exact d4) (by rw [hb]; exact d7) hout hRframes (by simp only [List.map_cons, List.sum_cons, hcat]; omega) hlocks
  obtain ⟨f1, f2⟩ := vx_frame hsame
  rw [hhp] at f1 f2
  have hWs : s.WarmedH U.vm := State.WarmedH.trans hW0 hW
  have hcl : s.vm.findClass cls = some ce.cls := by
    have h9 := hO.cls
    rw [hvm] at h9
    exact h9
  have hall : s.sameButNew ({ U with vm := s.vm } : State) locs mc ms := by
    subst hA
    obtain ⟨e1, e2⟩ := hsame
    rw [State.setFrames_setFrames] at e1
    have h2 : (T.setVm s.vm).sameButNew ({ U with vm := s.vm } : State) [] (0 + 1) (0 + 6) := ⟨e1, e2⟩
    have h3 := X.same.trans h2
    rw [List.append_nil] at h3
    exact h3.mono hc hs
  refine ⟨U, ?_, .threw T.heap.size, hrun, hend, Or.inr ⟨T.heap.size, rfl, cls, ce, locs, hx U hWs.alike f1 (fun q hq => f2 q hq (fun z hz => nomatch hz)), hce, hO.vm, hcl, hWs, hall, hf⟩⟩
  refine st1 _ ?_
  show Steps p.tables e below (T1.setTop { method := m, pc := pc + 3, locals := ls, stack := .ref T.heap.size :: rest, locked := none }) _
  jvm_step X₁.here [X₁.here.top, hexec, d3', Value.category]
  exact hsteps
/-- 'throw new E("text")': new; dup; ldc; invokespecial; athrow -/
theorem vx_throwS {cc : ByteArray} {pc : Nat} (hexec : p.tables.exec = Jvm.exec) (hb : c.code = cc) (hl : l.stackTraces = false) {own cls text : String} {names : List String} {ik is ic mc ms sa : Nat} {A : Nat → Prop}
    (hown : s.vm.findClass own = some m.cls) (hcls : Bundle.fit cls = true) (hnames : ∀ n ∈ names, Bundle.fit n = true)
    (hk : (Cond.classLink own ik cls).before args s = true) (hini : (Cond.initialized cls).before args s = true) (hstr : vk_R own is text sa s) (hat : ∀ w ∈ vx_atS own ic cls names, w.before args s = true)
    (hgood : ∀ w ∈ Cond.classLink own ik cls :: Cond.initialized cls :: vx_atS own ic cls names, vx_ot w = true)
    (hU : vx_Zq Bundle.tN "UNASSIGNED_STACK" Bundle.steD A s s.heap) (hN : vx_Zq Bundle.tN "SUPPRESSED_SENTINEL" Bundle.listD A s s.heap) (hS : va_S A s.heap H locs) (hsize : ls.size = c.maxLocals)
    (d0 : decode cc pc = .ok (.new ik, 3)) (d3 : decode cc (pc + 3) = .ok (.dup, 1)) (d4 : decode cc (pc + 4) = .ok (.ldc is, 2)) (d6 : decode cc (pc + 6) = .ok (.invokespecial ic, 3)) (d9 : decode cc (pc + 9) = .ok (.athrow, 1))
    (hout : ∀ x ∈ c.exceptionTable.toList, covers x (pc + 9) = false)
    (hRframes : names.length + 3 < R.frames) (hRlocals : (rest.map fun v => v.category).sum + (13 * (names.length + 1) + 43) ≤ R.locals) (hRcells : cells + 1 ≤ R.cells) (hRslots : slots + 6 ≤ R.slots) (hlocks : meth.locks = false)
    (hx : ∀ t : State, s.vm.Alike t.vm → H.size ≤ t.heap.size → (∀ q : Nat, q < H.size → t.heap[q]? = H[q]?) → XC cls s t)
    (hf : ∀ z ∈ locs, free z.base) (hc : cells + 1 ≤ mc) (hs : slots + 6 ≤ ms) :
    W p l e R s m args below meth c H locs cells slots (vx_MQ below Qc XC args s mc ms free) (F0 m pc ls rest) := by
  intro T hT X
  have htr : e.platform.stackTraces = false := (show e.platform.stackTraces = l.stackTraces by rw [X.admits.platform]).trans hl
  have Y := vx_rebase X (R' := { frames := R.frames, locals := R.locals, cells := 1, slots := 6 }) (Nat.le_refl _) (Nat.le_refl _) hRcells hRslots
  obtain ⟨s', hA⟩ : ∃ z, z = (T.setVm s.vm).setFrames (.invoking m args :: below) := ⟨_, rfl⟩
  rw [← hA] at Y
  have hvm : s'.vm = s.vm := by rw [hA]; rfl
  have hhp : s'.heap = H := by rw [hA]; exact hT
  have hW0 : s.WarmedH s'.vm := by rw [hvm]; exact State.WarmedH.refl s
  have hat' : ∀ w ∈ vx_atS own ic cls names, w.before args s' = true := fun w hw => vx_ot_at hW0 hvm.symm (hgood w (List.mem_cons_of_mem _ (List.mem_cons_of_mem _ hw))) (hat w hw)
  have hk' : (Cond.classLink own ik cls).before args s' = true := vx_ot_at hW0 hvm.symm (hgood _ List.mem_cons_self) hk
  have hini' : (Cond.initialized cls).before args s' = true := vx_ot_at hW0 hvm.symm (hgood _ (List.mem_cons_of_mem _ List.mem_cons_self)) hini
  have hU' : vx_Zq Bundle.tN "UNASSIGNED_STACK" Bundle.steD A s' s'.heap := by rw [hhp]; exact vx_Zq.moved hW0.alike (hU.kept hS.2.1)
  have hN' : vx_Zq Bundle.tN "SUPPRESSED_SENTINEL" Bundle.listD A s' s'.heap := by rw [hhp]; exact vx_Zq.moved hW0.alike (hN.kept hS.2.1)
  have h : ∀ w ∈ Bundle.ownAtoms own ic cls names, w.before args s' = true := vx_own hat' (vx_isRefq hU'.1) (vx_isRefq hN'.1) hU'.2.word hN'.2.word
  have hown' : s'.vm.findClass own = some m.cls := by rw [hvm]; exact hown
  have hins : (Cond.instantiable cls 6).before args s' = true := h _ (by simp [Bundle.ownAtoms])
  obtain ⟨vm₁, cX, kX, hfX, hkX, -, -, X₁, st1⟩ := Y.newCold hexec (own := own) (C := cls) (index := ik) (n := 6) hown' hk' hins hini'
    (g := F0 m pc ls rest) rfl (by rw [hb]; exact d0) (Nat.le_refl _) (Nat.le_refl _)
  generalize hT1 : (T.setVm vm₁).pushCell { cls := cX, slots := kX.instanceTypes.map defaultValue, vm := .none } = T1 at X₁ st1
  have hcat : (Value.ref T.heap.size).category = 1 := rfl
  have hcellA : T1.heap[T.heap.size]? = some (freshCell cX kX) := by rw [← hT1]; exact State.heap_pushCell_size _ _
  have d3' : decode c.code (pc + 3) = .ok (.dup, 1) := by rw [hb]; exact d3
  have d4' : decode c.code (pc + 4) = .ok (.ldc is, 2) := by rw [hb]; exact d4
  have hstr' : vk_R own is text sa s' := vk_R.warm hW0 hstr
  obtain ⟨U, hsteps, hrun, hend, hW, hsame, ce, hce, hO⟩ := X₁.ctorThrowS hexec htr (own := own) (cls := cls) (names := names) (ic := ic) hown' hcls hnames h (fun x hx => nomatch hx) hfX hkX hcellA (by rw [hhp, hT]; exact Nat.le_refl _) (msg := .ref sa) rfl
    (g := { method := m, pc := pc + 6, locals := ls, stack := .ref sa :: .ref T.heap.size :: .ref T.heap.size :: rest, locked := none }) rfl hsize rfl rfl (rest := rest) rfl
    (by rw [hb]; exact d6) (by rw [hb]; exact d9) hout hRframes (by simp only [List.map_cons, List.sum_cons, hcat]; omega) hlocks
  obtain ⟨f1, f2⟩ := vx_frame hsame
  rw [hhp] at f1 f2
  have hWs : s.WarmedH U.vm := State.WarmedH.trans hW0 hW
  have hcl : s.vm.findClass cls = some ce.cls := by
    have h9 := hO.cls
    rw [hvm] at h9
    exact h9
  have hall : s.sameButNew ({ U with vm := s.vm } : State) locs mc ms := by
    subst hA
    obtain ⟨e1, e2⟩ := hsame
    rw [State.setFrames_setFrames] at e1
    have h2 : (T.setVm s.vm).sameButNew ({ U with vm := s.vm } : State) [] (0 + 1) (0 + 6) := ⟨e1, e2⟩
    have h3 := X.same.trans h2
    rw [List.append_nil] at h3
    exact h3.mono hc hs
  refine ⟨U, ?_, .threw T.heap.size, hrun, hend, Or.inr ⟨T.heap.size, rfl, cls, ce, locs, hx U hWs.alike f1 (fun q hq => f2 q hq (fun z hz => nomatch hz)), hce, hO.vm, hcl, hWs, hall, hf⟩⟩
  refine st1 _ ?_
  show Steps p.tables e below (T1.setTop { method := m, pc := pc + 3, locals := ls, stack := .ref T.heap.size :: rest, locked := none }) _
  jvm_step X₁.here [X₁.here.top, hexec, d3', Value.category]
  exact X₁.ldcString hexec (own := own) (text := text) (index := is) (a := sa) hown' hstr'.1 hstr'.2
    (g := { method := m, pc := pc + 4, locals := ls, stack := .ref T.heap.size :: .ref T.heap.size :: rest, locked := none }) rfl d4' _ hsteps
/-- 'throw new E("text")', the text by a wide index -/
theorem vx_throwSW {cc : ByteArray} {pc : Nat} (hexec : p.tables.exec = Jvm.exec) (hb : c.code = cc) (hl : l.stackTraces = false) {own cls text : String} {names : List String} {ik is ic mc ms sa : Nat} {A : Nat → Prop}
    (hown : s.vm.findClass own = some m.cls) (hcls : Bundle.fit cls = true) (hnames : ∀ n ∈ names, Bundle.fit n = true)
    (hk : (Cond.classLink own ik cls).before args s = true) (hini : (Cond.initialized cls).before args s = true) (hstr : vk_R own is text sa s) (hat : ∀ w ∈ vx_atS own ic cls names, w.before args s = true)
    (hgood : ∀ w ∈ Cond.classLink own ik cls :: Cond.initialized cls :: vx_atS own ic cls names, vx_ot w = true)
    (hU : vx_Zq Bundle.tN "UNASSIGNED_STACK" Bundle.steD A s s.heap) (hN : vx_Zq Bundle.tN "SUPPRESSED_SENTINEL" Bundle.listD A s s.heap) (hS : va_S A s.heap H locs) (hsize : ls.size = c.maxLocals)
    (d0 : decode cc pc = .ok (.new ik, 3)) (d3 : decode cc (pc + 3) = .ok (.dup, 1)) (d4 : decode cc (pc + 4) = .ok (.ldc_w is, 3)) (d7 : decode cc (pc + 7) = .ok (.invokespecial ic, 3)) (d10 : decode cc (pc + 10) = .ok (.athrow, 1))
    (hout : ∀ x ∈ c.exceptionTable.toList, covers x (pc + 10) = false)
    (hRframes : names.length + 3 < R.frames) (hRlocals : (rest.map fun v => v.category).sum + (13 * (names.length + 1) + 43) ≤ R.locals) (hRcells : cells + 1 ≤ R.cells) (hRslots : slots + 6 ≤ R.slots) (hlocks : meth.locks = false)
    (hx : ∀ t : State, s.vm.Alike t.vm → H.size ≤ t.heap.size → (∀ q : Nat, q < H.size → t.heap[q]? = H[q]?) → XC cls s t)
    (hf : ∀ z ∈ locs, free z.base) (hc : cells + 1 ≤ mc) (hs : slots + 6 ≤ ms) :
    W p l e R s m args below meth c H locs cells slots (vx_MQ below Qc XC args s mc ms free) (F0 m pc ls rest) := by
  intro T hT X
  have htr : e.platform.stackTraces = false := (show e.platform.stackTraces = l.stackTraces by rw [X.admits.platform]).trans hl
  have Y := vx_rebase X (R' := { frames := R.frames, locals := R.locals, cells := 1, slots := 6 }) (Nat.le_refl _) (Nat.le_refl _) hRcells hRslots
  obtain ⟨s', hA⟩ : ∃ z, z = (T.setVm s.vm).setFrames (.invoking m args :: below) := ⟨_, rfl⟩
  rw [← hA] at Y
  have hvm : s'.vm = s.vm := by rw [hA]; rfl
  have hhp : s'.heap = H := by rw [hA]; exact hT
  have hW0 : s.WarmedH s'.vm := by rw [hvm]; exact State.WarmedH.refl s
  have hat' : ∀ w ∈ vx_atS own ic cls names, w.before args s' = true := fun w hw => vx_ot_at hW0 hvm.symm (hgood w (List.mem_cons_of_mem _ (List.mem_cons_of_mem _ hw))) (hat w hw)
  have hk' : (Cond.classLink own ik cls).before args s' = true := vx_ot_at hW0 hvm.symm (hgood _ List.mem_cons_self) hk
  have hini' : (Cond.initialized cls).before args s' = true := vx_ot_at hW0 hvm.symm (hgood _ (List.mem_cons_of_mem _ List.mem_cons_self)) hini
  have hU' : vx_Zq Bundle.tN "UNASSIGNED_STACK" Bundle.steD A s' s'.heap := by rw [hhp]; exact vx_Zq.moved hW0.alike (hU.kept hS.2.1)
  have hN' : vx_Zq Bundle.tN "SUPPRESSED_SENTINEL" Bundle.listD A s' s'.heap := by rw [hhp]; exact vx_Zq.moved hW0.alike (hN.kept hS.2.1)
  have h : ∀ w ∈ Bundle.ownAtoms own ic cls names, w.before args s' = true := vx_own hat' (vx_isRefq hU'.1) (vx_isRefq hN'.1) hU'.2.word hN'.2.word
  have hown' : s'.vm.findClass own = some m.cls := by rw [hvm]; exact hown
  have hins : (Cond.instantiable cls 6).before args s' = true := h _ (by simp [Bundle.ownAtoms])
  obtain ⟨vm₁, cX, kX, hfX, hkX, -, -, X₁, st1⟩ := Y.newCold hexec (own := own) (C := cls) (index := ik) (n := 6) hown' hk' hins hini'
    (g := F0 m pc ls rest) rfl (by rw [hb]; exact d0) (Nat.le_refl _) (Nat.le_refl _)
  generalize hT1 : (T.setVm vm₁).pushCell { cls := cX, slots := kX.instanceTypes.map defaultValue, vm := .none } = T1 at X₁ st1
  have hcat : (Value.ref T.heap.size).category = 1 := rfl
  have hcellA : T1.heap[T.heap.size]? = some (freshCell cX kX) := by rw [← hT1]; exact State.heap_pushCell_size _ _
  have d3' : decode c.code (pc + 3) = .ok (.dup, 1) := by rw [hb]; exact d3
  have d4' : decode c.code (pc + 4) = .ok (.ldc_w is, 3) := by rw [hb]; exact d4
  have hstr' : vk_R own is text sa s' := vk_R.warm hW0 hstr
  obtain ⟨U, hsteps, hrun, hend, hW, hsame, ce, hce, hO⟩ := X₁.ctorThrowS hexec htr (own := own) (cls := cls) (names := names) (ic := ic) hown' hcls hnames h (fun x hx => nomatch hx) hfX hkX hcellA (by rw [hhp, hT]; exact Nat.le_refl _) (msg := .ref sa) rfl
    (g := { method := m, pc := pc + 7, locals := ls, stack := .ref sa :: .ref T.heap.size :: .ref T.heap.size :: rest, locked := none }) rfl hsize rfl rfl (rest := rest) rfl
    (by rw [hb]; exact d7) (by rw [hb]; exact d10) hout hRframes (by simp only [List.map_cons, List.sum_cons, hcat]; omega) hlocks
  obtain ⟨f1, f2⟩ := vx_frame hsame
  rw [hhp] at f1 f2
  have hWs : s.WarmedH U.vm := State.WarmedH.trans hW0 hW
  have hcl : s.vm.findClass cls = some ce.cls := by
    have h9 := hO.cls
    rw [hvm] at h9
    exact h9
  have hall : s.sameButNew ({ U with vm := s.vm } : State) locs mc ms := by
    subst hA
    obtain ⟨e1, e2⟩ := hsame
    rw [State.setFrames_setFrames] at e1
    have h2 : (T.setVm s.vm).sameButNew ({ U with vm := s.vm } : State) [] (0 + 1) (0 + 6) := ⟨e1, e2⟩
    have h3 := X.same.trans h2
    rw [List.append_nil] at h3
    exact h3.mono hc hs
  refine ⟨U, ?_, .threw T.heap.size, hrun, hend, Or.inr ⟨T.heap.size, rfl, cls, ce, locs, hx U hWs.alike f1 (fun q hq => f2 q hq (fun z hz => nomatch hz)), hce, hO.vm, hcl, hWs, hall, hf⟩⟩
  refine st1 _ ?_
  show Steps p.tables e below (T1.setTop { method := m, pc := pc + 3, locals := ls, stack := .ref T.heap.size :: rest, locked := none }) _
  jvm_step X₁.here [X₁.here.top, hexec, d3', Value.category]
  exact X₁.ldcStringW hexec (own := own) (text := text) (index := is) (a := sa) hown' hstr'.1 hstr'.2
    (g := { method := m, pc := pc + 4, locals := ls, stack := .ref T.heap.size :: .ref T.heap.size :: rest, locked := none }) rfl d4' _ hsteps
end Ends
section Bodies
variable {l : Launch}
theorem vx_ofW {y : MethodName} {ws ws' : List Cond} {rm : Room} {Pc : Array Value → State → Prop} {Qc : Array Value → State → Outcome → State → Prop} {XC : String → State → State → Prop} {mc ms : Nat} {free : Addr → Prop} {cc : ByteArray} {maxL : Nat} {ret : Option FieldType}
    (hy : plainName y.cls = true) (hw : ws = Cond.code y cc maxL ret :: ws')
    (body : ∀ p e s m args below meth c s₁, BodyLoose p l y (headSpec ws rm) cc maxL ret e s m args below meth c s₁ → c.maxLocals = maxL → (∀ x ∈ c.exceptionTable.toList, False) → Pc args s →
      W p l e (headSpec ws rm).room s m args below meth c s.heap [] 0 0 (vx_MQ below Qc XC args s mc ms free) (entryFrame m args maxL)) : vx_Met l y ws rm Pc Qc XC mc ms free := by
  refine MetFree.of_bodyS (code := cc) (maxLocals := maxL) (ret := ret) hy ?_ ?_
  · intro args s m h hn
    obtain ⟨meth, c, h1, h2, h3, h4, h5, h6, -, -⟩ := Cond.code_spec hn (atoms_spec (ws := ws) h _ (by rw [hw]; exact List.mem_cons_self))
    exact ⟨meth, c, h1, h2, h3, h4, h5, h6⟩
  · intro p e s m args below meth c s₁ B hml hP _
    have hh0 : s₁.heap = s.heap := by rw [B.state]; rfl
    have ht : ∀ x ∈ c.exceptionTable.toList, False := by
      obtain ⟨meth9, c9, h1, h2, -, -, -, -, h7, -⟩ := Cond.code_spec B.named (atoms_spec (ws := ws) B.pre _ (by rw [hw]; exact List.mem_cons_self))
      cases Option.some.inj (h1.symm.trans B.method)
      cases Option.some.inj (h2.symm.trans (Stand.of_body B).code)
      intro x hx
      rw [Array.isEmpty_iff.mp h7] at hx
      cases hx
    obtain ⟨t, a1, o, b1, b2, b3⟩ := body p e s m args below meth c s₁ B hml ht hP s₁ hh0 (Stand.of_body B)
    exact ⟨t, o, a1, b1, b2, b3⟩
/-- the table of a body with handlers -/
theorem vx_table {p : Program} {x y : MethodName} {S : Spec} {cc bytes : ByteArray} {maxL maxL' : Nat} {ret ret' : Option FieldType} {e : Env} {s s₁ : State} {m : MethodId} {args : Array Value} {below : List Frame} {meth : Method} {c : Code} {hh : List (Nat × Nat × Nat × Nat)}
    (B : BodyLoose p l y S cc maxL ret e s m args below meth c s₁) (h : (Cond.codeWith y bytes maxL' ret' hh).before args s = true) : c.exceptionTable.toList = tableOf hh := by
  obtain ⟨m9, meth9, c9, hn9, h1, h2, -, -, h6, -⟩ := Cond.codeWith_spec h
  cases Option.some.inj (hn9.symm.trans B.named)
  cases Option.some.inj (h1.symm.trans B.method)
  cases Option.some.inj (h2.symm.trans (Stand.of_body B).code)
  rw [← h6, table_eq]
end Bodies
end VXA
/-! ===== END ===== -/
/-! ===== BEGIN a static call of a method with an exception table ===== -/
section VXS
variable {p : Program} {l : Launch} {e : Env} {R : Room} {s : State} {m : MethodId} {args : Array Value} {below : List Frame} {meth : Method} {c : Code} {T : State} {H : Heap} {locs : List Loc} {cells slots : Nat}
abbrev vx_CSW (R : Room) (s : State) (args : Array Value) (own : String) (index : Nat) (y : MethodName) (bytes : ByteArray) (maxL : Nat) (ret : Option FieldType) (hh : List (Nat × Nat × Nat × Nat)) (ws : List Cond) (rm : Room) (mc ms n : Nat) : Prop :=
  (rm.cells = mc ∧ rm.slots = ms ∧ rm.frames + 1 ≤ R.frames ∧ 8 + (maxL + 11) + rm.locals ≤ R.locals ∧ (∀ w ∈ ws, ∀ (a' : Array Value) (U : State), s.WarmedH U.vm → w.before a' U = true) ∧ Cond.codeWith y bytes maxL ret hh ∈ ws) ∧
  (Cond.codeWith y bytes maxL ret hh).before args s = true ∧ (Cond.initialized y.cls).before args s = true ∧ (y.cls ≠ "java/lang/invoke/MethodHandle" ∧ y.cls ≠ "java/lang/invoke/VarHandle") ∧
  (∀ sig, parseMethodDescriptor y.desc = some sig → n = sig.parameters.length) ∧ (Cond.methodLink own index y).before args s = true ∧ (Cond.static y).before args s = true
theorem vx_cwSW {own : String} {index maxL mc ms : Nat} {y : MethodName} {bytes : ByteArray} {ret : Option FieldType} {hh : List (Nat × Nat × Nat × Nat)} {Ts ws ws' : List Cond} {rm : Room} (n : Nat) (ht : ∀ w ∈ Ts, w.before args s = true) (hT : GoodIn Ts (va_wsS own index y ws)) (hw : ws = Cond.codeWith y bytes maxL ret hh :: ws') (hrc : rm.cells = mc) (hrs : rm.slots = ms)
    (hd : y.cls ≠ "java/lang/invoke/MethodHandle" ∧ y.cls ≠ "java/lang/invoke/VarHandle" ∧ (parseMethodDescriptor y.desc).map (fun d => d.parameters.length) = some n) (hR : rm.frames + 1 ≤ R.frames ∧ 8 + (maxL + 11) + rm.locals ≤ R.locals) :
    vx_CSW R s args own index y bytes maxL ret hh ws rm mc ms n := by
  have ok : ∀ w ∈ va_wsS own index y ws, w.before args s = true := fun w h => ht w (hT w h).1
  have hG : GoodIn Ts ws := fun w h => hT w (by unfold va_wsS; exact List.mem_append_right _ h)
  have hc : Cond.codeWith y bytes maxL ret hh ∈ ws := by rw [hw]; exact List.mem_cons_self
  refine ⟨⟨hrc, hrs, hR.1, hR.2, pay_in ht hG, hc⟩, ht _ (hG _ hc).1, ok _ (by simp [va_wsS]), ⟨hd.1, hd.2.1⟩, fun sig h => ?_, ok _ (by simp [va_wsS]), ok _ (by simp [va_wsS])⟩
  have h2 := hd.2.2
  rw [h] at h2
  exact (Option.some.inj h2).symm
theorem vx_callSW (X : Stand p l e R s m args below meth c T locs cells slots) (hexec : p.tables.exec = Jvm.exec) {own : String} {index : Nat} {y : MethodName} {bytes : ByteArray} {maxL : Nat} {ret : Option FieldType} {hh : List (Nat × Nat × Nat × Nat)}
    (hown : s.vm.findClass own = some m.cls) (hlink : (Cond.methodLink own index y).before args s = true) (hstat : (Cond.static y).before args s = true) (hinit : (Cond.initialized y.cls).before args s = true)
    (hcode : (Cond.codeWith y bytes maxL ret hh).before args s = true) (hy : y.cls ≠ "java/lang/invoke/MethodHandle" ∧ y.cls ≠ "java/lang/invoke/VarHandle")
    {W9 : Nat} {Pre : Pt → Array Value → Prop} {Post : Pt → Array Value → Option Value → Pt → Prop} (hK : Back l R p e below s args y 3 W9 Pre Post)
    {g : JFrame} (hg : g.method = m) (hsize : g.locals.size = c.maxLocals) {argsL rest : List Value} (hlen : ∀ sig, parseMethodDescriptor y.desc = some sig → argsL.length = sig.parameters.length)
    (hstack : g.stack = argsL.reverse ++ rest) (hW : 2 * g.monitorRoom + (rest.map fun v => v.category).sum ≤ W9) (hdg : decode c.code g.pc = .ok (.invokestatic index, 3))
    (hpre : ∀ vm₁, s.WarmedH vm₁ → Pre ⟨T.setVm vm₁, locs, cells, slots⟩ argsL.toArray) :
    ∃ (v : Option Value) (vm₁ : Vm) (B : Pt), s.WarmedH vm₁ ∧ Stand p l e R s m args below meth c B.U B.locs B.cells B.slots ∧ Post ⟨T.setVm vm₁, locs, cells, slots⟩ argsL.toArray v B ∧
      ∀ target, Steps p.tables e below (B.U.setTop { g with pc := g.pc + 3, stack := v.toList ++ rest }) target → Steps p.tables e below (T.setTop g) target := by
  obtain ⟨mk, methM, cM, hnamed, hmethM, -, -, -, -, -, -, hsigM⟩ := Cond.codeWith_spec hcode
  have hstatic : methM.isStatic = true := Cond.static_spec hnamed hmethM hstat
  obtain ⟨kP, hkP, -⟩ := className_of_methodNamed hnamed
  have hinitP : kP.init = .initialized := Cond.initialized_spec (findClass_of_methodNamed hnamed) hkP hinit
  obtain ⟨vm₁, X₁, hstep₁⟩ := X.invokestatic hexec hown hlink hnamed hmethM hstatic hkP hinitP hy (g := g) hg (argsL := argsL) (rest := rest) (hlen _ hsigM) hstack hdg
  obtain ⟨v, B, X', hpost, hsteps⟩ := hK m meth c ⟨T.setVm vm₁, locs, cells, slots⟩ { g with stack := rest } (.invokestatic index) mk argsL.toArray X₁ hg hsize hdg hW (X₁.named hnamed) (hpre vm₁ X₁.warmed)
  exact ⟨v, vm₁, B, X₁.warmed, X', hpost, fun target h => hstep₁ _ fun acts => by rw [doInvoke_state]; exact hsteps.trans h⟩
theorem vx_runSW {y : MethodName} {bytes cc : ByteArray} {maxL nL mc ms n index : Nat} {ret : Option FieldType} {hh : List (Nat × Nat × Nat × Nat)} {ws : List Cond} {rm : Room} {Pc : Array Value → State → Prop} {Qc : Array Value → State → Outcome → State → Prop} {free : Addr → Prop} {Ts : List Cond} {own : String} {As rest : List Value} {g : JFrame}
    (S : CallFix p m c cc nL s args Ts own) (hM : Met l y ws rm Pc Qc mc ms free) (cw : vx_CSW R s args own index y bytes maxL ret hh ws rm mc ms n) (hp : PreS s H Pc As)
    (hg : g.method = m) (hn : As.length = n) (hsize : g.locals.size = nL) (hstack : g.stack = As.reverse ++ rest) (hW : 2 * g.monitorRoom + (rest.map fun v => v.category).sum ≤ 8) (hdg : decode cc g.pc = .ok (.invokestatic index, 3)) (hf : cells + mc ≤ R.cells ∧ slots + ms ≤ R.slots) :
    va_Run p l e R s m args below meth c H locs cells slots mc ms g rest (Qc As.toArray) (free) := by
  obtain ⟨⟨hrc, hrs, hfr, hlo, hws, hcw⟩, hcode, hini, hy, hlen, hl, hstt⟩ := cw
  have hK : Back l R p e below s args y 3 8 (PreOf R mc ms Pc) (PostOf Qc mc ms free) := va_backW (hh := hh) (bytes := bytes) (maxL := maxL) (ret := ret) hM hp.1 hrc hrs hfr hlo hws hcw (fun a' U hW => word_at hW (Or.inl (by first | rfl | simp [Cond.onTables, Cond.keeps, Cond.steady])) hini)
  obtain ⟨hx, hb, hml, ho, -⟩ := S
  intro T hT X
  obtain ⟨v, vm₁, ⟨U', l2, c2, s2⟩, hW₁, X', ⟨g', mk, t, L, e1, e2, hq, h1, hL, h2, h3⟩, st⟩ := vx_callSW X hx (hh := hh) (bytes := bytes) (maxL := maxL) (ret := ret) ho hl hstt hini hcode hy hK hg (hsize.trans hml.symm) (argsL := As) (rest := rest) (fun sig h => hn.trans (hlen sig h)) hstack hW (by rw [hb]; exact hdg)
    (fun vm₁ hW₁ => ⟨hf.1, hf.2, hp.2 (T.setVm vm₁) hT hW₁⟩)
  dsimp only [Pt.U, Pt.locs, Pt.cells, Pt.slots] at X' e1 e2 h1 h2 h3 st
  subst h1; subst h2; subst h3
  exact ⟨v, (T.setVm vm₁).calling g' mk As.toArray, t, U', L, hT, X', hL, e1, e2, hq, st⟩
/-- not caught here, past rows that name other classes: it goes on to the caller -/
theorem vx_outP {p : Program} {l : Launch} {e : Env} {R : Room} {s : State} {m : MethodId} {args : Array Value} {below : List Frame} {meth : Method} {c : Code} {H : Heap} {locs : List Loc} {cells slots : Nat} {free : Addr → Prop} {ls : Array Slot} {rest : List Value} {Qc : Array Value → State → Outcome → State → Prop} {XC : String → State → State → Prop}
    {pc : Nat} {own E : String} {ce : Cell} {q : Addr} {mc ms : Nat} (hown : s.vm.findClass own = some m.cls) (hlocks : meth.locks = false)
    (hpass : ∀ z ∈ c.exceptionTable.toList, covers z pc = false ∨ (z.catchType ≠ 0 ∧ ∃ nm : String, (Cond.classLink own z.catchType nm).before args s = true ∧ va_Nc E nm s)) (hcell : H[q]? = some ce) (hv : ce.vm = .none) (hcl : s.vm.findClass E = some ce.cls)
    (hx : ∀ t : State, t.heap = H → s.vm.Alike t.vm → XC E s t) (hf : ∀ z ∈ locs, free z.base) (hc : cells ≤ mc) (hs : slots ≤ ms) :
    vx_W p l e R s m args below meth c H locs cells slots (vx_MQ below Qc XC args s mc ms free) (F0 m pc ls rest) q := by
  intro T hT X
  have hpl : e.platform.magicAccessors = ({} : Platform).magicAccessors := by rw [X.admits.platform]
  obtain ⟨vm', hW', X', st⟩ := X.outThrough hlocks q (g := F0 m pc ls rest) rfl rfl rfl (cell := ce) (by rw [hT]; exact hcell) (by rw [hv]; rfl)
    (by obtain ⟨k9, h9, -⟩ := Vm.findClass_spec hcl; exact ⟨k9, h9⟩) (fun z hz => by
      rcases hpass z hz with h | ⟨hz0, nm, hl1, hn1⟩
      · exact Or.inl h
      · obtain ⟨c6, hc6, hcl6⟩ := Cond.classLink_spec hown hl1 e.platform hpl
        obtain ⟨a8, b8, h1, h2, h3⟩ := hn1
        cases Option.some.inj (h1.symm.trans hcl)
        cases Option.some.inj (h2.symm.trans hc6)
        exact Or.inr ⟨hz0, _, hcl6, h3⟩)
  obtain ⟨g₀, hfr⟩ := X'.frames_eq
  have hcell9 : ((T.setVm vm').setFrames (.throwing q :: below)).heap[q]? = some ce := by
    show T.heap[q]? = some ce
    rw [hT]; exact hcell
  have hend : Ended ((T.setVm vm').setFrames (.throwing q :: below)) below (.threw q) := State.frames_setFrames _ (State.cur_lt_of_frames hfr)
  refine ⟨(T.setVm vm').setFrames (.throwing q :: below), ?_, .threw q, X'.here.running, hend, Or.inr ⟨q, rfl, E, ce, locs, hx _ hT (X'.ends _).1.alike, hcell9, hv, hcl, (X'.ends _).1, (X'.ends _).2.mono hc hs, hf⟩⟩
  rw [X.pushThrowing_eq]
  exact st
/-- a thing of a world lies in the heap -/
theorem vx_lt {D : va_G} {cl : List vw_C} {ws : va_W} {H1 : Heap} (h : va_P D cl ws H1) {k : Nat} {q : Nat × va_E} (hk : ws[k]? = some q) : q.1 < H1.size := (h k q hk).lt
end VXS
/-! ===== END ===== -/
/-! ===== BEGIN methods with a table of their own: called by a name, returning or throwing ===== -/
section VXH
/-! vx_backW, vx_callVX, vx_callSX, vx_callVW, vx_runVW, vx_runVX, vx_runSX, vx_ofWH follow the same proofs as their sisters above (Free/Laws.lean, Shelf42/LK1.lean); vx_outP calls Shelf42/NT130.lean (outThrough). -/
section
variable {l : Launch} {R : Room} {p : Program} {e : Env} {below : List Frame} {s : State} {sargs : Array Value} {y : MethodName} {len W9 : Nat}
theorem vx_backW {ws : List Cond} {rm : Room} {Pc : Array Value → State → Prop} {Qc : Array Value → State → Outcome → State → Prop} {XC : String → State → State → Prop} {mc ms : Nat} {free : Addr → Prop} {bytes : ByteArray} {maxL : Nat} {ret : Option FieldType} {hh : List (Nat × Nat × Nat × Nat)}
    (hM : vx_Met l y ws rm Pc Qc XC mc ms free) (hblind : FrameBlind Pc) (hrc : rm.cells = mc) (hrs : rm.slots = ms)
    (hframes : rm.frames + 1 ≤ R.frames) (hlocals : W9 + (maxL + 11) + rm.locals ≤ R.locals)
    (hws : ∀ w ∈ ws, ∀ a' U, s.WarmedH U.vm → w.before a' U = true) (hcode : Cond.codeWith y bytes maxL ret hh ∈ ws) (hinit : ∀ a' U, s.WarmedH U.vm → (Cond.initialized y.cls).before a' U = true) :
    vx_Back l R p e below s sargs y len W9 (PreOf R mc ms Pc) (PostOf Qc mc ms free) (vx_Post XC mc ms free) := by
  intro m meth c A g ig mk a X hg hsize hdg hW hn hp
  have h1 : (headSpec ws rm).pre.before a A.U = true := atoms_intro fun w hw => hws w hw _ _ X.warmed
  have h2 : (Cond.codeWith y bytes maxL ret hh).before a A.U = true := hws _ hcode _ _ X.warmed
  have h3 : (Cond.initialized y.cls).before a A.U = true := hinit _ _ X.warmed
  have h4 : A.cells + (headSpec ws rm).room.cells ≤ R.cells := by rw [show (headSpec ws rm).room.cells = mc from hrc]; exact hp.1
  have h5 : A.slots + (headSpec ws rm).room.slots ≤ R.slots := by rw [show (headSpec ws rm).room.slots = ms from hrs]; exact hp.2.1
  have hPc : Pc a (A.U.calling g mk a) := hblind _ _ _ _ hp.2.2
  obtain ⟨U, Ls, c0, s0⟩ := A
  dsimp only [Pt.U, Pt.locs, Pt.cells, Pt.slots] at h1 h2 h3 h4 h5 X hn hPc ⊢
  obtain ⟨m9, methY, cY, hn9, hmY, hcY, -, hlY, -⟩ := Cond.codeWith_spec h2
  cases Option.some.inj (hn9.symm.trans hn)
  obtain ⟨kY, hkY, -⟩ := className_of_methodNamed hn
  have hinitY : kY.init = .initialized := Cond.initialized_spec (findClass_of_methodNamed hn) hkY h3
  have h : At U g.method c below := by rw [hg]; exact X.here
  have hlocals9 : W9 + (maxL + 11) + (headSpec ws rm).room.locals ≤ R.locals := hlocals
  have happ : (headSpec ws rm).appliesLoose y e.platform (U.calling g mk a) = true :=
    Spec.appliesLoose_calling (g := g) h hdg hn hkY hinitY
      (X.room_calling (g := g) (R' := (headSpec ws rm).room) hsize hmY hcY hframes (by rw [hlY]; omega) h4 h5) h1
  obtain ⟨mid, hmid⟩ := h.above
  have hfr : (U.setTop g).frames = (.java g :: mid) ++ below := by rw [State.frames_setTop' g h.top, hmid]; rfl
  obtain ⟨o, s₂, hsteps, -, hend, hq⟩ := Steps.callFree hM p X.admits X.cas X.clock (acts := []) hfr happ hPc trivial
  have hq' : vx_Q Qc XC mc ms free a (U.calling g mk a) o s₂ := hq
  rw [State.frames_setTop' g h.top] at hend
  obtain ⟨g₀, hg0⟩ := Option.isSome_iff_exists.mp h.top
  obtain ⟨r, hr⟩ := State.topJava?_eq_some.mp hg0
  have hr' : (({ U with heap := s₂.heap, slotsUsed := s₂.slotsUsed } : State).setVm s₂.vm).frames = .java g₀ :: r := hr
  rcases hq' with ⟨hqc, L, hfe, hL⟩ | ⟨q, rfl, E, ce, L, hx, hce, hcv, hcl, hW₂, hsm, hL⟩
  · obtain ⟨⟨v, rfl⟩, hW₂, e2, q2, q3, q4, q5, q6⟩ := id hfe
    have e3 : s₂ = ({ (U.calling g mk a).setFrames s₂.frames with heap := s₂.heap, slotsUsed := s₂.slotsUsed } : State).setVm s₂.vm := by
      have : s₂ = ({ s₂ with vm := (U.calling g mk a).vm } : State).setVm s₂.vm := rfl
      rw [e2] at this
      exact this
    obtain ⟨c₂, i₂, len₂, hc₂, hd₂, hf₂⟩ := hend
    have hW' : U.WarmedH s₂.vm := hW₂
    have hcc : c₂ = c := by
      have h1 : s₂.code? g.method = U.code? g.method := by
        rw [State.code?_eq, State.code?_eq, hW'.alike.method?]
      exact Option.some.inj (hc₂.symm.trans (h1.trans h.code))
    subst hcc
    have hlen : len₂ = len := by rw [hdg] at hd₂; cases hd₂; rfl
    subst hlen
    have hs₂ : s₂ = (({ U with heap := s₂.heap, slotsUsed := s₂.slotsUsed } : State).setVm s₂.vm).setTop { g with pc := g.pc + len₂, stack := v.toList ++ g.stack } := by
      refine e3.trans ?_
      rw [hf₂, State.calling_eq h.top, State.setFrames_setFrames, State.setTop_of_frames _ hr', hr]
      rfl
    have hsame : U.sameButNew ({ U with heap := s₂.heap, slotsUsed := s₂.slotsUsed } : State) L mc ms := by
      refine ⟨?_, q2, q3, q4, q5, q6⟩
      obtain ⟨t, ht, -⟩ := State.frames_cons hr
      show ({ U with heap := s₂.heap, slotsUsed := s₂.slotsUsed } : State) = { U.setFrames U.frames with heap := s₂.heap, slotsUsed := s₂.slotsUsed }
      rw [State.setFrames_self ht]
    subst hg
    refine Or.inl ⟨v, ⟨(({ U with heap := s₂.heap, slotsUsed := s₂.slotsUsed } : State).setVm s₂.vm), Ls ++ L, c0 + mc, s0 + ms⟩,
      ⟨X.admits, X.cas, X.clock, X.frames, X.room, X.hears, X.method, X.code, (X.here.setHeapUsed s₂.heap s₂.slotsUsed).setVm hW'.alike, X.tail, State.WarmedH.trans X.warmed hW', X.limits, X.bytes, X.same.trans (hsame.setVm s.vm)⟩,
      ⟨g, mk, s₂, L, rfl, rfl, hqc, rfl, hL, rfl, rfl⟩, ?_⟩
    show Steps p.tables e below _ ((({ U with heap := s₂.heap, slotsUsed := s₂.slotsUsed } : State).setVm s₂.vm).setTop { g with pc := g.pc + len₂, stack := v.toList ++ g.stack })
    rw [← hs₂]
    exact hsteps
  · obtain ⟨e2, q2, q3, q4, q5, q6⟩ := id hsm
    have e3 : s₂ = ({ (U.calling g mk a).setFrames s₂.frames with heap := s₂.heap, slotsUsed := s₂.slotsUsed } : State).setVm s₂.vm := by
      have : s₂ = ({ s₂ with vm := (U.calling g mk a).vm } : State).setVm s₂.vm := rfl
      rw [e2] at this
      exact this
    have hf₂ : s₂.frames = .throwing q :: .java g :: U.frames.tail := hend
    have hW' : U.WarmedH s₂.vm := hW₂
    have hs₂ : s₂ = ((({ U with heap := s₂.heap, slotsUsed := s₂.slotsUsed } : State).setVm s₂.vm).setTop g).pushFrame (.throwing q) := by
      refine e3.trans ?_
      rw [hf₂, State.calling_eq h.top, State.setFrames_setFrames, State.pushFrame, State.frames_setTop _ hr', State.setTop_of_frames _ hr', State.setFrames_setFrames, hr]
      rfl
    have hsame : U.sameButNew ({ U with heap := s₂.heap, slotsUsed := s₂.slotsUsed } : State) L mc ms := by
      refine ⟨?_, q2, q3, q4, q5, q6⟩
      obtain ⟨t, ht, -⟩ := State.frames_cons hr
      show ({ U with heap := s₂.heap, slotsUsed := s₂.slotsUsed } : State) = { U.setFrames U.frames with heap := s₂.heap, slotsUsed := s₂.slotsUsed }
      rw [State.setFrames_self ht]
    subst hg
    refine Or.inr ⟨q, ⟨(({ U with heap := s₂.heap, slotsUsed := s₂.slotsUsed } : State).setVm s₂.vm), Ls ++ L, c0 + mc, s0 + ms⟩,
      ⟨X.admits, X.cas, X.clock, X.frames, X.room, X.hears, X.method, X.code, (X.here.setHeapUsed s₂.heap s₂.slotsUsed).setVm hW'.alike, X.tail, State.WarmedH.trans X.warmed hW', X.limits, X.bytes, X.same.trans (hsame.setVm s.vm)⟩,
      ⟨g, mk, s₂, L, E, ce, rfl, rfl, hx, hce, hcv, hcl, rfl, hL, rfl, rfl⟩, ?_⟩
    show Steps p.tables e below _ (((({ U with heap := s₂.heap, slotsUsed := s₂.slotsUsed } : State).setVm s₂.vm).setTop g).pushFrame (.throwing q))
    rw [← hs₂]
    exact hsteps
end
variable {p : Program} {l : Launch} {e : Env} {R : Room} {s : State} {m : MethodId} {args : Array Value} {below : List Frame} {meth : Method} {c : Code} {T : State} {H : Heap} {locs : List Loc} {cells slots : Nat}
theorem vx_callVX (X : Stand p l e R s m args below meth c T locs cells slots) (hexec : p.tables.exec = Jvm.exec) {own C : String} {index : Nat} {y : MethodName} {bytes : ByteArray} {maxL : Nat} {ret : Option FieldType} {hh : List (Nat × Nat × Nat × Nat)}
    (hown : s.vm.findClass own = some m.cls) (hlink : (Cond.methodLink own index y).before args s = true) (hinst : (Cond.instanceMethod y).before args s = true) (hsel : (Cond.selects C y y).before args s = true)
    (hcode : (Cond.codeWith y bytes maxL ret hh).before args s = true) (hy : y.cls ≠ "java/lang/invoke/MethodHandle" ∧ y.cls ≠ "java/lang/invoke/VarHandle")
    {W9 : Nat} {Pre : Pt → Array Value → Prop} {Post : Pt → Array Value → Option Value → Pt → Prop} {PostX : Pt → Array Value → Addr → Pt → Prop} (hK : vx_Back l R p e below s args y 3 W9 Pre Post PostX)
    {b : Addr} {cellB : Cell} (hcell : T.heap[b]? = some cellB) (hobj : cellB.vm.isStatics = false) (hcls : s.vm.findClass C = some cellB.cls)
    {g : JFrame} (hg : g.method = m) (hsize : g.locals.size = c.maxLocals) {argsL rest : List Value} (hlen : ∀ sig, parseMethodDescriptor y.desc = some sig → argsL.length = sig.parameters.length)
    (hstack : g.stack = argsL.reverse ++ .ref b :: rest) (hW : 2 * g.monitorRoom + (rest.map fun v => v.category).sum ≤ W9) (hdg : decode c.code g.pc = .ok (.invokevirtual index, 3))
    (hpre : ∀ vm₁, s.WarmedH vm₁ → Pre ⟨T.setVm vm₁, locs, cells, slots⟩ (Value.ref b :: argsL).toArray) :
    (∃ (v : Option Value) (vm₁ : Vm) (B : Pt), s.WarmedH vm₁ ∧ Stand p l e R s m args below meth c B.U B.locs B.cells B.slots ∧ Post ⟨T.setVm vm₁, locs, cells, slots⟩ (Value.ref b :: argsL).toArray v B ∧
      ∀ target, Steps p.tables e below (B.U.setTop { g with pc := g.pc + 3, stack := v.toList ++ rest }) target → Steps p.tables e below (T.setTop g) target) ∨
    (∃ (q : Addr) (vm₁ : Vm) (B : Pt), s.WarmedH vm₁ ∧ Stand p l e R s m args below meth c B.U B.locs B.cells B.slots ∧ PostX ⟨T.setVm vm₁, locs, cells, slots⟩ (Value.ref b :: argsL).toArray q B ∧
      Steps p.tables e below (T.setTop g) ((B.U.setTop { g with stack := rest }).pushFrame (.throwing q))) := by
  obtain ⟨mk, methM, hnamed, hmethM, hstM, habM⟩ := Cond.instanceMethod_spec hinst
  obtain ⟨m8, methM', cM, hn8, hmethM', -, -, -, -, -, -, hsigM⟩ := Cond.codeWith_spec hcode
  cases Option.some.inj (hn8.symm.trans hnamed)
  cases hmethM.symm.trans hmethM'
  obtain ⟨c2, r2, m2, q1, q2, q3, q4, kP, hkP, hkPi⟩ := Cond.selects_spec hsel
  cases hcls.symm.trans q1
  cases (State.methodFound?_of_named hnamed hy).symm.trans q2
  cases hnamed.symm.trans q3
  have hselP : selectMethod e.platform s.vm cellB.cls mk = .method mk := by rw [Launch.admits_selectMethod X.admits]; exact q4
  obtain ⟨vm₁, X₁, hstep₁⟩ := X.invokevirtual hexec hown hlink hnamed hmethM hstM hkP hkPi hy (a := b) (cell := cellB) hcell
    (fun z h => by rw [h] at hobj; cases hobj) hselP hmethM habM hkP hkPi (g := g) hg (argsL := argsL) (rest := rest) (hlen _ hsigM) hstack hdg
  rcases hK m meth c ⟨T.setVm vm₁, locs, cells, slots⟩ { g with stack := rest } (.invokevirtual index) mk (Value.ref b :: argsL).toArray X₁ hg hsize hdg hW (X₁.named hnamed) (hpre vm₁ X₁.warmed) with ⟨v, B, X', hpost, hsteps⟩ | ⟨q, B, X', hpost, hsteps⟩
  · exact Or.inl ⟨v, vm₁, B, X₁.warmed, X', hpost, fun target h => hstep₁ _ fun acts => by rw [doInvoke_state]; exact hsteps.trans h⟩
  · exact Or.inr ⟨q, vm₁, B, X₁.warmed, X', hpost, hstep₁ _ fun acts => by rw [doInvoke_state]; exact hsteps⟩
theorem vx_callSX (X : Stand p l e R s m args below meth c T locs cells slots) (hexec : p.tables.exec = Jvm.exec) {own : String} {index : Nat} {y : MethodName} {bytes : ByteArray} {maxL : Nat} {ret : Option FieldType} {hh : List (Nat × Nat × Nat × Nat)}
    (hown : s.vm.findClass own = some m.cls) (hlink : (Cond.methodLink own index y).before args s = true) (hstat : (Cond.static y).before args s = true) (hinit : (Cond.initialized y.cls).before args s = true)
    (hcode : (Cond.codeWith y bytes maxL ret hh).before args s = true) (hy : y.cls ≠ "java/lang/invoke/MethodHandle" ∧ y.cls ≠ "java/lang/invoke/VarHandle")
    {W9 : Nat} {Pre : Pt → Array Value → Prop} {Post : Pt → Array Value → Option Value → Pt → Prop} {PostX : Pt → Array Value → Addr → Pt → Prop} (hK : vx_Back l R p e below s args y 3 W9 Pre Post PostX)
    {g : JFrame} (hg : g.method = m) (hsize : g.locals.size = c.maxLocals) {argsL rest : List Value} (hlen : ∀ sig, parseMethodDescriptor y.desc = some sig → argsL.length = sig.parameters.length)
    (hstack : g.stack = argsL.reverse ++ rest) (hW : 2 * g.monitorRoom + (rest.map fun v => v.category).sum ≤ W9) (hdg : decode c.code g.pc = .ok (.invokestatic index, 3))
    (hpre : ∀ vm₁, s.WarmedH vm₁ → Pre ⟨T.setVm vm₁, locs, cells, slots⟩ argsL.toArray) :
    (∃ (v : Option Value) (vm₁ : Vm) (B : Pt), s.WarmedH vm₁ ∧ Stand p l e R s m args below meth c B.U B.locs B.cells B.slots ∧ Post ⟨T.setVm vm₁, locs, cells, slots⟩ argsL.toArray v B ∧
      ∀ target, Steps p.tables e below (B.U.setTop { g with pc := g.pc + 3, stack := v.toList ++ rest }) target → Steps p.tables e below (T.setTop g) target) ∨
    (∃ (q : Addr) (vm₁ : Vm) (B : Pt), s.WarmedH vm₁ ∧ Stand p l e R s m args below meth c B.U B.locs B.cells B.slots ∧ PostX ⟨T.setVm vm₁, locs, cells, slots⟩ argsL.toArray q B ∧
      Steps p.tables e below (T.setTop g) ((B.U.setTop { g with stack := rest }).pushFrame (.throwing q))) := by
  obtain ⟨mk, methM, cM, hnamed, hmethM, -, -, -, -, -, -, hsigM⟩ := Cond.codeWith_spec hcode
  have hstatic : methM.isStatic = true := Cond.static_spec hnamed hmethM hstat
  obtain ⟨kP, hkP, -⟩ := className_of_methodNamed hnamed
  have hinitP : kP.init = .initialized := Cond.initialized_spec (findClass_of_methodNamed hnamed) hkP hinit
  obtain ⟨vm₁, X₁, hstep₁⟩ := X.invokestatic hexec hown hlink hnamed hmethM hstatic hkP hinitP hy (g := g) hg (argsL := argsL) (rest := rest) (hlen _ hsigM) hstack hdg
  rcases hK m meth c ⟨T.setVm vm₁, locs, cells, slots⟩ { g with stack := rest } (.invokestatic index) mk argsL.toArray X₁ hg hsize hdg hW (X₁.named hnamed) (hpre vm₁ X₁.warmed) with ⟨v, B, X', hpost, hsteps⟩ | ⟨q, B, X', hpost, hsteps⟩
  · exact Or.inl ⟨v, vm₁, B, X₁.warmed, X', hpost, fun target h => hstep₁ _ fun acts => by rw [doInvoke_state]; exact hsteps.trans h⟩
  · exact Or.inr ⟨q, vm₁, B, X₁.warmed, X', hpost, hstep₁ _ fun acts => by rw [doInvoke_state]; exact hsteps⟩
theorem vx_callVW (X : Stand p l e R s m args below meth c T locs cells slots) (hexec : p.tables.exec = Jvm.exec) {own C : String} {index : Nat} {y : MethodName} {bytes : ByteArray} {maxL : Nat} {ret : Option FieldType} {hh : List (Nat × Nat × Nat × Nat)}
    (hown : s.vm.findClass own = some m.cls) (hlink : (Cond.methodLink own index y).before args s = true) (hinst : (Cond.instanceMethod y).before args s = true) (hsel : (Cond.selects C y y).before args s = true)
    (hcode : (Cond.codeWith y bytes maxL ret hh).before args s = true) (hy : y.cls ≠ "java/lang/invoke/MethodHandle" ∧ y.cls ≠ "java/lang/invoke/VarHandle")
    {W9 : Nat} {Pre : Pt → Array Value → Prop} {Post : Pt → Array Value → Option Value → Pt → Prop} (hK : Back l R p e below s args y 3 W9 Pre Post)
    {b : Addr} {cellB : Cell} (hcell : T.heap[b]? = some cellB) (hobj : cellB.vm.isStatics = false) (hcls : s.vm.findClass C = some cellB.cls)
    {g : JFrame} (hg : g.method = m) (hsize : g.locals.size = c.maxLocals) {argsL rest : List Value} (hlen : ∀ sig, parseMethodDescriptor y.desc = some sig → argsL.length = sig.parameters.length)
    (hstack : g.stack = argsL.reverse ++ .ref b :: rest) (hW : 2 * g.monitorRoom + (rest.map fun v => v.category).sum ≤ W9) (hdg : decode c.code g.pc = .ok (.invokevirtual index, 3))
    (hpre : ∀ vm₁, s.WarmedH vm₁ → Pre ⟨T.setVm vm₁, locs, cells, slots⟩ (Value.ref b :: argsL).toArray) :
    ∃ (v : Option Value) (vm₁ : Vm) (B : Pt), s.WarmedH vm₁ ∧ Stand p l e R s m args below meth c B.U B.locs B.cells B.slots ∧ Post ⟨T.setVm vm₁, locs, cells, slots⟩ (Value.ref b :: argsL).toArray v B ∧
      ∀ target, Steps p.tables e below (B.U.setTop { g with pc := g.pc + 3, stack := v.toList ++ rest }) target → Steps p.tables e below (T.setTop g) target := by
  obtain ⟨mk, methM, hnamed, hmethM, hstM, habM⟩ := Cond.instanceMethod_spec hinst
  obtain ⟨m8, methM', cM, hn8, hmethM', -, -, -, -, -, -, hsigM⟩ := Cond.codeWith_spec hcode
  cases Option.some.inj (hn8.symm.trans hnamed)
  cases hmethM.symm.trans hmethM'
  obtain ⟨c2, r2, m2, q1, q2, q3, q4, kP, hkP, hkPi⟩ := Cond.selects_spec hsel
  cases hcls.symm.trans q1
  cases (State.methodFound?_of_named hnamed hy).symm.trans q2
  cases hnamed.symm.trans q3
  have hselP : selectMethod e.platform s.vm cellB.cls mk = .method mk := by rw [Launch.admits_selectMethod X.admits]; exact q4
  obtain ⟨vm₁, X₁, hstep₁⟩ := X.invokevirtual hexec hown hlink hnamed hmethM hstM hkP hkPi hy (a := b) (cell := cellB) hcell
    (fun z h => by rw [h] at hobj; cases hobj) hselP hmethM habM hkP hkPi (g := g) hg (argsL := argsL) (rest := rest) (hlen _ hsigM) hstack hdg
  obtain ⟨v, B, X', hpost, hsteps⟩ := hK m meth c ⟨T.setVm vm₁, locs, cells, slots⟩ { g with stack := rest } (.invokevirtual index) mk (Value.ref b :: argsL).toArray X₁ hg hsize hdg hW (X₁.named hnamed) (hpre vm₁ X₁.warmed)
  exact ⟨v, vm₁, B, X₁.warmed, X', hpost, fun target h => hstep₁ _ fun acts => by rw [doInvoke_state]; exact hsteps.trans h⟩
abbrev vx_CVW (R : Room) (s : State) (args : Array Value) (own C : String) (index : Nat) (y : MethodName) (bytes : ByteArray) (maxL : Nat) (ret : Option FieldType) (hh : List (Nat × Nat × Nat × Nat)) (ws : List Cond) (rm : Room) (mc ms n : Nat) : Prop :=
  (rm.cells = mc ∧ rm.slots = ms ∧ rm.frames + 1 ≤ R.frames ∧ 8 + (maxL + 11) + rm.locals ≤ R.locals ∧ (∀ w ∈ ws, ∀ (a' : Array Value) (U : State), s.WarmedH U.vm → w.before a' U = true) ∧ Cond.codeWith y bytes maxL ret hh ∈ ws) ∧
  (Cond.codeWith y bytes maxL ret hh).before args s = true ∧ (Cond.initialized y.cls).before args s = true ∧ (y.cls ≠ "java/lang/invoke/MethodHandle" ∧ y.cls ≠ "java/lang/invoke/VarHandle") ∧
  (∀ sig, parseMethodDescriptor y.desc = some sig → n = sig.parameters.length) ∧ (Cond.methodLink own index y).before args s = true ∧ (Cond.instanceMethod y).before args s = true ∧ (Cond.selects C y y).before args s = true
theorem vx_cwVW {own C : String} {index maxL mc ms : Nat} {y : MethodName} {bytes : ByteArray} {ret : Option FieldType} {hh : List (Nat × Nat × Nat × Nat)} {Ts ws ws' : List Cond} {rm : Room} (n : Nat) (ht : ∀ w ∈ Ts, w.before args s = true) (hT : GoodIn Ts (wsV own index C y ws)) (hw : ws = Cond.codeWith y bytes maxL ret hh :: ws') (hrc : rm.cells = mc) (hrs : rm.slots = ms)
    (hd : y.cls = C ∧ y.cls ≠ "java/lang/invoke/MethodHandle" ∧ y.cls ≠ "java/lang/invoke/VarHandle" ∧ (parseMethodDescriptor y.desc).map (fun d => d.parameters.length) = some n) (hR : rm.frames + 1 ≤ R.frames ∧ 8 + (maxL + 11) + rm.locals ≤ R.locals) :
    vx_CVW R s args own C index y bytes maxL ret hh ws rm mc ms n := by
  obtain ⟨hC, hd⟩ := hd
  subst hC
  have ok : ∀ w ∈ wsV own index y.cls y ws, w.before args s = true := fun w h => ht w (hT w h).1
  have hG : GoodIn Ts ws := fun w h => hT w (by unfold wsV; exact List.mem_append_right _ h)
  have hc : Cond.codeWith y bytes maxL ret hh ∈ ws := by rw [hw]; exact List.mem_cons_self
  refine ⟨⟨hrc, hrs, hR.1, hR.2, pay_in ht hG, hc⟩, ht _ (hG _ hc).1, ok _ (by simp [wsV]), ⟨hd.1, hd.2.1⟩, fun sig h => ?_, ok _ (by simp [wsV]), ok _ (by simp [wsV]), ok _ (by simp [wsV])⟩
  have h2 := hd.2.2
  rw [h] at h2
  exact (Option.some.inj h2).symm
theorem vx_runVW {y : MethodName} {bytes cc : ByteArray} {maxL nL mc ms n index : Nat} {ret : Option FieldType} {hh : List (Nat × Nat × Nat × Nat)} {ws : List Cond} {rm : Room} {Pc : Array Value → State → Prop} {Qc : Array Value → State → Outcome → State → Prop} {free : Addr → Prop} {Ts : List Cond} {own C : String} {b : Addr} {As rest : List Value} {g : JFrame}
    (S : CallFix p m c cc nL s args Ts own) (hM : Met l y ws rm Pc Qc mc ms free) (cw : vx_CVW R s args own C index y bytes maxL ret hh ws rm mc ms n) (hp : PreV s H C b Pc As)
    (hg : g.method = m) (hn : As.length = n) (hsize : g.locals.size = nL) (hstack : g.stack = As.reverse ++ .ref b :: rest) (hW : 2 * g.monitorRoom + (rest.map fun v => v.category).sum ≤ 8) (hdg : decode cc g.pc = .ok (.invokevirtual index, 3)) (hf : cells + mc ≤ R.cells ∧ slots + ms ≤ R.slots) :
    va_Run p l e R s m args below meth c H locs cells slots mc ms g rest (Qc (Value.ref b :: As).toArray) free := by
  obtain ⟨⟨hrc, hrs, hfr, hlo, hws, hcw⟩, hcode, hini, hy, hlen, hl, hin, hse⟩ := cw
  have hK : Back l R p e below s args y 3 8 (PreOf R mc ms Pc) (PostOf Qc mc ms free) := va_backW (hh := hh) (bytes := bytes) (maxL := maxL) (ret := ret) hM hp.1 hrc hrs hfr hlo hws hcw (fun a' U hW => word_at hW (Or.inl (by first | rfl | simp [Cond.onTables, Cond.keeps, Cond.steady])) hini)
  obtain ⟨hx, hb, hml, ho, -⟩ := S
  obtain ⟨-, ⟨cellB, hcB, hoB, hclB⟩, hPc⟩ := hp
  intro T hT X
  obtain ⟨v, vm₁, ⟨U', l2, c2, s2⟩, hW₁, X', ⟨g', mk, t, L, e1, e2, hq, h1, hL, h2, h3⟩, st⟩ := vx_callVW X hx (C := C) (hh := hh) (bytes := bytes) (maxL := maxL) (ret := ret) ho hl hin hse hcode hy hK (by rw [hT]; exact hcB) hoB hclB hg (hsize.trans hml.symm) (argsL := As) (rest := rest) (fun sig h => hn.trans (hlen sig h)) hstack hW (by rw [hb]; exact hdg)
    (fun vm₁ hW₁ => ⟨hf.1, hf.2, hPc (T.setVm vm₁) hT hW₁⟩)
  dsimp only [Pt.U, Pt.locs, Pt.cells, Pt.slots] at X' e1 e2 h1 h2 h3 st
  subst h1; subst h2; subst h3
  exact ⟨v, (T.setVm vm₁).calling g' mk (Value.ref b :: As).toArray, t, U', L, hT, X', hL, e1, e2, hq, st⟩
section
variable {y : MethodName} {bytes cc : ByteArray} {maxL nL mc ms n index : Nat} {ret : Option FieldType} {ws : List Cond} {rm : Room} {Pc : Array Value → State → Prop} {Qc : Array Value → State → Outcome → State → Prop} {XC : String → State → State → Prop} {free : Addr → Prop} {Ts : List Cond} {own C : String} {b : Addr} {As rest : List Value} {g : JFrame}
theorem vx_runVX {hh : List (Nat × Nat × Nat × Nat)} (S : CallFix p m c cc nL s args Ts own) (hM : vx_Met l y ws rm Pc Qc XC mc ms free) (cw : vx_CVW R s args own C index y bytes maxL ret hh ws rm mc ms n) (hp : PreV s H C b Pc As)
    (hg : g.method = m) (hn : As.length = n) (hsize : g.locals.size = nL) (hstack : g.stack = As.reverse ++ .ref b :: rest) (hW : 2 * g.monitorRoom + (rest.map fun v => v.category).sum ≤ 8) (hdg : decode cc g.pc = .ok (.invokevirtual index, 3)) (hf : cells + mc ≤ R.cells ∧ slots + ms ≤ R.slots) :
    vx_Run p l e R s m args below meth c H locs cells slots mc ms g rest (Qc (Value.ref b :: As).toArray) XC free := by
  obtain ⟨⟨hrc, hrs, hfr, hlo, hws, hcw⟩, hcode, hini, hy, hlen, hl, hin, hse⟩ := cw
  have hK : vx_Back l R p e below s args y 3 8 (PreOf R mc ms Pc) (PostOf Qc mc ms free) (vx_Post XC mc ms free) := vx_backW (hh := hh) (bytes := bytes) (maxL := maxL) (ret := ret) hM hp.1 hrc hrs hfr hlo hws hcw (fun a' U hW => word_at hW (Or.inl (by first | rfl | simp [Cond.onTables, Cond.keeps, Cond.steady])) hini)
  obtain ⟨hx, hb, hml, ho, -⟩ := S
  obtain ⟨-, ⟨cellB, hcB, hoB, hclB⟩, hPc⟩ := hp
  intro T hT X
  rcases vx_callVX X hx (C := C) (hh := hh) (bytes := bytes) (maxL := maxL) (ret := ret) ho hl hin hse hcode hy hK (by rw [hT]; exact hcB) hoB hclB hg (hsize.trans hml.symm) (argsL := As) (rest := rest) (fun sig h => hn.trans (hlen sig h)) hstack hW (by rw [hb]; exact hdg)
    (fun vm₁ hW₁ => ⟨hf.1, hf.2, hPc (T.setVm vm₁) hT hW₁⟩) with ⟨v, vm₁, ⟨U', l2, c2, s2⟩, hW₁, X', ⟨g', mk, t, L, e1, e2, hq, h1, hL, h2, h3⟩, st⟩ | ⟨q, vm₁, ⟨U', l2, c2, s2⟩, hW₁, X', ⟨g', mk, t, L, E, ce, e1, e2, hq, hce, hcv, hcl, h1, hL, h2, h3⟩, st⟩
  · dsimp only [Pt.U, Pt.locs, Pt.cells, Pt.slots] at X' e1 e2 h1 h2 h3 st
    subst h1; subst h2; subst h3
    exact Or.inl ⟨v, (T.setVm vm₁).calling g' mk (Value.ref b :: As).toArray, t, U', L, hT, X', hL, e1, e2, hq, st⟩
  · dsimp only [Pt.U, Pt.locs, Pt.cells, Pt.slots] at X' e1 e2 h1 h2 h3 st hcl
    subst h1; subst h2; subst h3
    exact Or.inr ⟨q, (T.setVm vm₁).calling g' mk (Value.ref b :: As).toArray, t, U', L, E, ce, hT, X', hL, e1, e2, hq, hce, hcv, vx_cls hW₁ hcl, st⟩
theorem vx_runSX {hh : List (Nat × Nat × Nat × Nat)} (S : CallFix p m c cc nL s args Ts own) (hM : vx_Met l y ws rm Pc Qc XC mc ms free) (cw : vx_CSW R s args own index y bytes maxL ret hh ws rm mc ms n) (hp : PreS s H Pc As)
    (hg : g.method = m) (hn : As.length = n) (hsize : g.locals.size = nL) (hstack : g.stack = As.reverse ++ rest) (hW : 2 * g.monitorRoom + (rest.map fun v => v.category).sum ≤ 8) (hdg : decode cc g.pc = .ok (.invokestatic index, 3)) (hf : cells + mc ≤ R.cells ∧ slots + ms ≤ R.slots) :
    vx_Run p l e R s m args below meth c H locs cells slots mc ms g rest (Qc As.toArray) XC free := by
  obtain ⟨⟨hrc, hrs, hfr, hlo, hws, hcw⟩, hcode, hini, hy, hlen, hl, hstt⟩ := cw
  have hK : vx_Back l R p e below s args y 3 8 (PreOf R mc ms Pc) (PostOf Qc mc ms free) (vx_Post XC mc ms free) := vx_backW (hh := hh) (bytes := bytes) (maxL := maxL) (ret := ret) hM hp.1 hrc hrs hfr hlo hws hcw (fun a' U hW => word_at hW (Or.inl (by first | rfl | simp [Cond.onTables, Cond.keeps, Cond.steady])) hini)
  obtain ⟨hx, hb, hml, ho, -⟩ := S
  intro T hT X
  rcases vx_callSX X hx (hh := hh) (bytes := bytes) (maxL := maxL) (ret := ret) ho hl hstt hini hcode hy hK hg (hsize.trans hml.symm) (argsL := As) (rest := rest) (fun sig h => hn.trans (hlen sig h)) hstack hW (by rw [hb]; exact hdg)
    (fun vm₁ hW₁ => ⟨hf.1, hf.2, hp.2 (T.setVm vm₁) hT hW₁⟩) with ⟨v, vm₁, ⟨U', l2, c2, s2⟩, hW₁, X', ⟨g', mk, t, L, e1, e2, hq, h1, hL, h2, h3⟩, st⟩ | ⟨q, vm₁, ⟨U', l2, c2, s2⟩, hW₁, X', ⟨g', mk, t, L, E, ce, e1, e2, hq, hce, hcv, hcl, h1, hL, h2, h3⟩, st⟩
  · dsimp only [Pt.U, Pt.locs, Pt.cells, Pt.slots] at X' e1 e2 h1 h2 h3 st
    subst h1; subst h2; subst h3
    exact Or.inl ⟨v, (T.setVm vm₁).calling g' mk As.toArray, t, U', L, hT, X', hL, e1, e2, hq, st⟩
  · dsimp only [Pt.U, Pt.locs, Pt.cells, Pt.slots] at X' e1 e2 h1 h2 h3 st hcl
    subst h1; subst h2; subst h3
    exact Or.inr ⟨q, (T.setVm vm₁).calling g' mk As.toArray, t, U', L, E, ce, hT, X', hL, e1, e2, hq, hce, hcv, vx_cls hW₁ hcl, st⟩
end
end VXH
theorem vx_ofWH {l : Launch} {y : MethodName} {ws ws' : List Cond} {rm : Room} {Pc : Array Value → State → Prop} {Qc : Array Value → State → Outcome → State → Prop} {XC : String → State → State → Prop} {mc ms : Nat} {free : Addr → Prop} {cc : ByteArray} {maxL : Nat} {ret : Option FieldType} {hh : List (Nat × Nat × Nat × Nat)}
    (hy : plainName y.cls = true) (hw : ws = Cond.codeWith y cc maxL ret hh :: ws')
    (body : ∀ p e s m args below meth c s₁, BodyLoose p l y (headSpec ws rm) cc maxL ret e s m args below meth c s₁ → c.maxLocals = maxL → Pc args s →
      W p l e (headSpec ws rm).room s m args below meth c s.heap [] 0 0 (vx_MQ below Qc XC args s mc ms free) (entryFrame m args maxL)) : vx_Met l y ws rm Pc Qc XC mc ms free := by
  refine MetFree.of_bodyS (code := cc) (maxLocals := maxL) (ret := ret) hy ?_ ?_
  · intro args s m h hn
    obtain ⟨m9, meth, c, hn9, h1, h2, h3, h4, -, h5, h6, -⟩ := Cond.codeWith_spec (atoms_spec (ws := ws) h _ (by rw [hw]; exact List.mem_cons_self))
    cases hn.symm.trans hn9
    exact ⟨meth, c, h1, h2, h3, h4, h5, h6⟩
  · intro p e s m args below meth c s₁ B hml hP _
    have hh0 : s₁.heap = s.heap := by rw [B.state]; rfl
    obtain ⟨t, a1, o, b1, b2, b3⟩ := body p e s m args below meth c s₁ B hml hP s₁ hh0 (Stand.of_body B)
    exact ⟨t, o, a1, b1, b2, b3⟩
/-! ===== END ===== -/
end
section
/-! ===== BEGIN printed: names, fields, word lists, decode rows ===== -/
def RX0 : String := "VendingRounds$Machine"
def TX0 : u_T := fun k => match k with
  | 0 => ("VendingRounds$Machine", "limit", "I", true)
  | 1 => ("VendingRounds$Machine", "slots", "[LVendingRounds$Slot;", true)
  | 2 => ("VendingRounds$Machine", "coins", "I", false)
  | _ => ("VendingRounds$Machine", "visits", "I", false)
def tyX0 : Nat → FieldType := fun k => match k with
  | 0 => .int
  | 1 => .array (.object "VendingRounds$Slot")
  | 2 => .int
  | _ => .int
abbrev wsX00 : List Cond := u_ws RX0 TX0 4
theorem nmX0 : ∀ a, a < 4 → ∀ b, b < 4 → a ≠ b → (TX0 a).2.1 ≠ (TX0 b).2.1 := by decide +kernel
theorem tyX0_ok : ∀ k, k < 4 → parseFieldDescriptor (TX0 k).2.2.1 = some (tyX0 k) := by decide +kernel
abbrev cX0_init : ByteArray := prog_2_method_1_code
def yX0_init : MethodName := ⟨RX0, "<init>", "(I)V"⟩
abbrev cX0_lacking : ByteArray := prog_2_method_2_code
def yX0_lacking : MethodName := ⟨RX0, "lacking", "()I"⟩
abbrev cX0_gain : ByteArray := prog_2_method_3_code
def yX0_gain : MethodName := ⟨RX0, "gain", "()I"⟩
abbrev cX0_visitTime : ByteArray := prog_2_method_4_code
def yX0_visitTime : MethodName := ⟨RX0, "visitTime", "()I"⟩
abbrev cX0_fact : ByteArray := prog_2_method_5_code
def yX0_fact : MethodName := ⟨RX0, "fact", "(I)I"⟩
abbrev cX0_sellForADay : ByteArray := prog_2_method_6_code
def yX0_sellForADay : MethodName := ⟨RX0, "sellForADay", "()I"⟩
abbrev cX0_sellFrom : ByteArray := prog_2_method_7_code
def yX0_sellFrom : MethodName := ⟨RX0, "sellFrom", "(LVendingRounds$Slot;)I"⟩
abbrev cX0_emptyBox : ByteArray := prog_2_method_8_code
def yX0_emptyBox : MethodName := ⟨RX0, "emptyBox", "()I"⟩
abbrev cX0_fillUp : ByteArray := prog_2_method_9_code
def yX0_fillUp : MethodName := ⟨RX0, "fillUp", "(I)I"⟩
def RX1 : String := "VendingRounds$PriceChange"
def TX1 : u_T := fun k => match k with
  | 0 => ("VendingRounds$PriceChange", "slot", "LVendingRounds$Slot;", true)
  | 1 => ("VendingRounds$PriceChange", "day", "I", true)
  | _ => ("VendingRounds$PriceChange", "price", "I", true)
def tyX1 : Nat → FieldType := fun k => match k with
  | 0 => .object "VendingRounds$Slot"
  | 1 => .int
  | _ => .int
abbrev wsX10 : List Cond := u_ws RX1 TX1 3
theorem nmX1 : ∀ a, a < 3 → ∀ b, b < 3 → a ≠ b → (TX1 a).2.1 ≠ (TX1 b).2.1 := by decide +kernel
theorem tyX1_ok : ∀ k, k < 3 → parseFieldDescriptor (TX1 k).2.2.1 = some (tyX1 k) := by decide +kernel
abbrev cX1_init : ByteArray := prog_3_method_1_code
def yX1_init : MethodName := ⟨RX1, "<init>", "(LVendingRounds$Slot;II)V"⟩
def RX2 : String := "VendingRounds$Roads"
def TX2 : u_T := fun k => match k with
  | 0 => ("VendingRounds$Roads", "minutes", "[I", true)
  | _ => ("VendingRounds$Roads", "homeward", "[I", true)
def tyX2 : Nat → FieldType := fun k => match k with
  | 0 => .array .int
  | _ => .array .int
abbrev wsX20 : List Cond := u_ws RX2 TX2 2
theorem nmX2 : ∀ a, a < 2 → ∀ b, b < 2 → a ≠ b → (TX2 a).2.1 ≠ (TX2 b).2.1 := by decide +kernel
theorem tyX2_ok : ∀ k, k < 2 → parseFieldDescriptor (TX2 k).2.2.1 = some (tyX2 k) := by decide +kernel
abbrev cX2_init : ByteArray := prog_4_method_1_code
def yX2_init : MethodName := ⟨RX2, "<init>", "()V"⟩
abbrev cX2_between : ByteArray := prog_4_method_2_code
def yX2_between : MethodName := ⟨RX2, "between", "(II)I"⟩
abbrev cX2_setBetween : ByteArray := prog_4_method_3_code
def yX2_setBetween : MethodName := ⟨RX2, "setBetween", "(III)V"⟩
abbrev cX2_measureTours : ByteArray := prog_4_method_4_code
def yX2_measureTours : MethodName := ⟨RX2, "measureTours", "(I)V"⟩
abbrev cX2_leastFrom : ByteArray := prog_4_method_5_code
def yX2_leastFrom : MethodName := ⟨RX2, "leastFrom", "(II)I"⟩
abbrev cX2_nextStop : ByteArray := prog_4_method_6_code
def yX2_nextStop : MethodName := ⟨RX2, "nextStop", "(II)I"⟩
abbrev cX2_leastBy : ByteArray := prog_4_method_7_code
def yX2_leastBy : MethodName := ⟨RX2, "leastBy", "(III)I"⟩
def RX3 : String := "VendingRounds$Slot"
def TX3 : u_T := fun k => match k with
  | 0 => ("VendingRounds$Slot", "capacity", "I", false)
  | 1 => ("VendingRounds$Slot", "stock", "I", false)
  | 2 => ("VendingRounds$Slot", "price", "I", false)
  | 3 => ("VendingRounds$Slot", "demand", "I", false)
  | 4 => ("VendingRounds$Slot", "sold", "I", false)
  | _ => ("VendingRounds$Slot", "lost", "I", false)
def tyX3 : Nat → FieldType := fun k => match k with
  | 0 => .int
  | 1 => .int
  | 2 => .int
  | 3 => .int
  | 4 => .int
  | _ => .int
abbrev wsX30 : List Cond := u_ws RX3 TX3 6
theorem nmX3 : ∀ a, a < 6 → ∀ b, b < 6 → a ≠ b → (TX3 a).2.1 ≠ (TX3 b).2.1 := by decide +kernel
theorem tyX3_ok : ∀ k, k < 6 → parseFieldDescriptor (TX3 k).2.2.1 = some (tyX3 k) := by decide +kernel
abbrev cX3_init : ByteArray := prog_5_method_1_code
def yX3_init : MethodName := ⟨RX3, "<init>", "()V"⟩
abbrev cX3_lacking : ByteArray := prog_5_method_2_code
def yX3_lacking : MethodName := ⟨RX3, "lacking", "()I"⟩
abbrev cX3_fact : ByteArray := prog_5_method_3_code
def yX3_fact : MethodName := ⟨RX3, "fact", "(I)I"⟩
def RX4 : String := "VendingRounds"
def TX4 : u_T := fun k => match k with
  | 0 => ("VendingRounds", "machineList", "Ljava/util/ArrayList;", true)
  | 1 => ("VendingRounds", "changes", "Ljava/util/ArrayList;", true)
  | 2 => ("VendingRounds", "roads", "LVendingRounds$Roads;", true)
  | 3 => ("VendingRounds", "visitTimes", "[I", true)
  | 4 => ("VendingRounds", "lacks", "[I", true)
  | 5 => ("VendingRounds", "gains", "[I", true)
  | 6 => ("VendingRounds", "day", "I", false)
  | 7 => ("VendingRounds", "coinsHome", "J", false)
  | 8 => ("VendingRounds", "minutesSpent", "J", false)
  | 9 => ("VendingRounds", "piecesFilled", "J", false)
  | _ => ("VendingRounds", "roundsMade", "J", false)
def tyX4 : Nat → FieldType := fun k => match k with
  | 0 => .object "java/util/ArrayList"
  | 1 => .object "java/util/ArrayList"
  | 2 => .object "VendingRounds$Roads"
  | 3 => .array .int
  | 4 => .array .int
  | 5 => .array .int
  | 6 => .int
  | 7 => .long
  | 8 => .long
  | 9 => .long
  | _ => .long
abbrev wsX40 : List Cond := u_ws RX4 TX4 11
theorem nmX4 : ∀ a, a < 11 → ∀ b, b < 11 → a ≠ b → (TX4 a).2.1 ≠ (TX4 b).2.1 := by decide +kernel
theorem tyX4_ok : ∀ k, k < 11 → parseFieldDescriptor (TX4 k).2.2.1 = some (tyX4 k) := by decide +kernel
abbrev cX4_init : ByteArray := prog_1_method_1_code
def yX4_init : MethodName := ⟨RX4, "<init>", "()V"⟩
abbrev cX4_addMachine : ByteArray := prog_1_method_2_code
def yX4_addMachine : MethodName := ⟨RX4, "addMachine", "(I)I"⟩
abbrev cX4_setMinutes : ByteArray := prog_1_method_3_code
def yX4_setMinutes : MethodName := ⟨RX4, "setMinutes", "(III)I"⟩
abbrev cX4_setSlot : ByteArray := prog_1_method_4_code
def yX4_setSlot : MethodName := ⟨RX4, "setSlot", "(IIII)I"⟩
abbrev cX4_planPrice : ByteArray := prog_1_method_5_code
def yX4_planPrice : MethodName := ⟨RX4, "planPrice", "(IIII)I"⟩
abbrev cX4_machineCount : ByteArray := prog_1_method_6_code
def yX4_machineCount : MethodName := ⟨RX4, "machineCount", "()I"⟩
abbrev cX4_slot : ByteArray := prog_1_method_7_code
def yX4_slot : MethodName := ⟨RX4, "slot", "(III)I"⟩
abbrev cX4_machine : ByteArray := prog_1_method_8_code
def yX4_machine : MethodName := ⟨RX4, "machine", "(II)I"⟩
abbrev cX4_runsOut : ByteArray := prog_1_method_9_code
def yX4_runsOut : MethodName := ⟨RX4, "runsOut", "(II)I"⟩
abbrev cX4_pass : ByteArray := prog_1_method_10_code
def yX4_pass : MethodName := ⟨RX4, "pass", "(I)I"⟩
abbrev cX4_today : ByteArray := prog_1_method_11_code
def yX4_today : MethodName := ⟨RX4, "today", "()I"⟩
abbrev cX4_planned : ByteArray := prog_1_method_12_code
def yX4_planned : MethodName := ⟨RX4, "planned", "()I"⟩
abbrev cX4_drive : ByteArray := prog_1_method_13_code
def yX4_drive : MethodName := ⟨RX4, "drive", "(I)I"⟩
abbrev cX4_visit : ByteArray := prog_1_method_14_code
def yX4_visit : MethodName := ⟨RX4, "visit", "(II)I"⟩
abbrev cX4_minutes : ByteArray := prog_1_method_15_code
def yX4_minutes : MethodName := ⟨RX4, "minutes", "(I)I"⟩
abbrev cX4_best : ByteArray := prog_1_method_16_code
def yX4_best : MethodName := ⟨RX4, "best", "(II)I"⟩
abbrev cX4_go : ByteArray := prog_1_method_17_code
def yX4_go : MethodName := ⟨RX4, "go", "(II)I"⟩
abbrev cX4_total : ByteArray := prog_1_method_18_code
def yX4_total : MethodName := ⟨RX4, "total", "(I)J"⟩
abbrev cX4_filled : ByteArray := prog_1_method_19_code
def yX4_filled : MethodName := ⟨RX4, "filled", "()D"⟩
abbrev cX4_digest : ByteArray := prog_1_method_20_code
def yX4_digest : MethodName := ⟨RX4, "digest", "()J"⟩
abbrev cX4_outside : ByteArray := prog_1_method_21_code
def yX4_outside : MethodName := ⟨RX4, "outside", "(III)Z"⟩
abbrev cX4_contains : ByteArray := prog_1_method_22_code
def yX4_contains : MethodName := ⟨RX4, "contains", "(II)Z"⟩
abbrev cX4_without : ByteArray := prog_1_method_23_code
def yX4_without : MethodName := ⟨RX4, "without", "(II)I"⟩
abbrev cX4_sumOver : ByteArray := prog_1_method_24_code
def yX4_sumOver : MethodName := ⟨RX4, "sumOver", "(I[I)I"⟩
abbrev cX4_mixed : ByteArray := prog_1_method_25_code
def yX4_mixed : MethodName := ⟨RX4, "mixed", "(JJ)J"⟩
abbrev cX4_mixedMachine : ByteArray := prog_1_method_26_code
def yX4_mixedMachine : MethodName := ⟨RX4, "mixedMachine", "(JLVendingRounds$Machine;)J"⟩
abbrev cX4_isNoMachine : ByteArray := prog_1_method_27_code
def yX4_isNoMachine : MethodName := ⟨RX4, "isNoMachine", "(I)Z"⟩
abbrev cX4_isNoPlace : ByteArray := prog_1_method_28_code
def yX4_isNoPlace : MethodName := ⟨RX4, "isNoPlace", "(I)Z"⟩
abbrev cX4_machineAt : ByteArray := prog_1_method_29_code
def yX4_machineAt : MethodName := ⟨RX4, "machineAt", "(I)LVendingRounds$Machine;"⟩
abbrev cX4_slotAt : ByteArray := prog_1_method_30_code
def yX4_slotAt : MethodName := ⟨RX4, "slotAt", "(II)LVendingRounds$Slot;"⟩
abbrev cX4_requireSet : ByteArray := prog_1_method_31_code
def yX4_requireSet : MethodName := ⟨RX4, "requireSet", "(I)V"⟩
abbrev cX4_requireLoad : ByteArray := prog_1_method_32_code
def yX4_requireLoad : MethodName := ⟨RX4, "requireLoad", "(I)V"⟩
abbrev cX4_sellEverywhere : ByteArray := prog_1_method_33_code
def yX4_sellEverywhere : MethodName := ⟨RX4, "sellEverywhere", "()I"⟩
abbrev cX4_changePrices : ByteArray := prog_1_method_34_code
def yX4_changePrices : MethodName := ⟨RX4, "changePrices", "()V"⟩
abbrev cX4_survey : ByteArray := prog_1_method_35_code
def yX4_survey : MethodName := ⟨RX4, "survey", "()V"⟩
abbrev cX4_roundTime : ByteArray := prog_1_method_36_code
def yX4_roundTime : MethodName := ⟨RX4, "roundTime", "(I)I"⟩
abbrev cX4_serve : ByteArray := prog_1_method_37_code
def yX4_serve : MethodName := ⟨RX4, "serve", "(LVendingRounds$Machine;I)I"⟩
def RX5 : String := "VendingRoundsModel"
def TX5 : u_T := fun k => match k with
  | 0 => ("VendingRoundsModel", "thrown", "I", false)
  | 1 => ("VendingRoundsModel", "day", "I", false)
  | 2 => ("VendingRoundsModel", "machines", "I", false)
  | 3 => ("VendingRoundsModel", "limits", "[I", true)
  | 4 => ("VendingRoundsModel", "boxes", "[I", true)
  | 5 => ("VendingRoundsModel", "visits", "[I", true)
  | 6 => ("VendingRoundsModel", "ways", "[I", true)
  | 7 => ("VendingRoundsModel", "rooms", "[I", true)
  | 8 => ("VendingRoundsModel", "stocks", "[I", true)
  | 9 => ("VendingRoundsModel", "prices", "[I", true)
  | 10 => ("VendingRoundsModel", "wants", "[I", true)
  | 11 => ("VendingRoundsModel", "sold", "[I", true)
  | 12 => ("VendingRoundsModel", "lost", "[I", true)
  | 13 => ("VendingRoundsModel", "plans", "I", false)
  | 14 => ("VendingRoundsModel", "planned", "[I", true)
  | 15 => ("VendingRoundsModel", "totals", "[J", true)
  | _ => ("VendingRoundsModel", "rest", "[I", true)
def tyX5 : Nat → FieldType := fun k => match k with
  | 0 => .int
  | 1 => .int
  | 2 => .int
  | 3 => .array .int
  | 4 => .array .int
  | 5 => .array .int
  | 6 => .array .int
  | 7 => .array .int
  | 8 => .array .int
  | 9 => .array .int
  | 10 => .array .int
  | 11 => .array .int
  | 12 => .array .int
  | 13 => .int
  | 14 => .array .int
  | 15 => .array .long
  | _ => .array .int
abbrev wsX50 : List Cond := u_ws RX5 TX5 17
theorem nmX5 : ∀ a, a < 17 → ∀ b, b < 17 → a ≠ b → (TX5 a).2.1 ≠ (TX5 b).2.1 := by decide +kernel
theorem tyX5_ok : ∀ k, k < 17 → parseFieldDescriptor (TX5 k).2.2.1 = some (tyX5 k) := by decide +kernel
abbrev cX5_init : ByteArray := prog_7_method_1_code
def yX5_init : MethodName := ⟨RX5, "<init>", "()V"⟩
abbrev cX5_thrown : ByteArray := prog_7_method_2_code
def yX5_thrown : MethodName := ⟨RX5, "thrown", "()I"⟩
abbrev cX5_fail : ByteArray := prog_7_method_3_code
def yX5_fail : MethodName := ⟨RX5, "fail", "(I)I"⟩
abbrev cX5_isIn : ByteArray := prog_7_method_4_code
def yX5_isIn : MethodName := ⟨RX5, "isIn", "(III)Z"⟩
abbrev cX5_isMachine : ByteArray := prog_7_method_5_code
def yX5_isMachine : MethodName := ⟨RX5, "isMachine", "(I)Z"⟩
abbrev cX5_isSlot : ByteArray := prog_7_method_6_code
def yX5_isSlot : MethodName := ⟨RX5, "isSlot", "(II)Z"⟩
abbrev cX5_areMachines : ByteArray := prog_7_method_7_code
def yX5_areMachines : MethodName := ⟨RX5, "areMachines", "(I)Z"⟩
abbrev cX5_has : ByteArray := prog_7_method_8_code
def yX5_has : MethodName := ⟨RX5, "has", "(II)Z"⟩
abbrev cX5_addMachine : ByteArray := prog_7_method_9_code
def yX5_addMachine : MethodName := ⟨RX5, "addMachine", "(I)I"⟩
abbrev cX5_way : ByteArray := prog_7_method_10_code
def yX5_way : MethodName := ⟨RX5, "way", "(II)I"⟩
abbrev cX5_setMinutes : ByteArray := prog_7_method_11_code
def yX5_setMinutes : MethodName := ⟨RX5, "setMinutes", "(III)I"⟩
abbrev cX5_setSlot : ByteArray := prog_7_method_12_code
def yX5_setSlot : MethodName := ⟨RX5, "setSlot", "(IIII)I"⟩
abbrev cX5_planPrice : ByteArray := prog_7_method_13_code
def yX5_planPrice : MethodName := ⟨RX5, "planPrice", "(IIII)I"⟩
abbrev cX5_machineCount : ByteArray := prog_7_method_14_code
def yX5_machineCount : MethodName := ⟨RX5, "machineCount", "()I"⟩
abbrev cX5_slotOf : ByteArray := prog_7_method_15_code
def yX5_slotOf : MethodName := ⟨RX5, "slotOf", "(II)I"⟩
abbrev cX5_slot : ByteArray := prog_7_method_16_code
def yX5_slot : MethodName := ⟨RX5, "slot", "(III)I"⟩
abbrev cX5_lacks : ByteArray := prog_7_method_17_code
def yX5_lacks : MethodName := ⟨RX5, "lacks", "(I)I"⟩
abbrev cX5_gain : ByteArray := prog_7_method_18_code
def yX5_gain : MethodName := ⟨RX5, "gain", "(I)I"⟩
abbrev cX5_told : ByteArray := prog_7_method_19_code
def yX5_told : MethodName := ⟨RX5, "told", "(II)I"⟩
abbrev cX5_machine : ByteArray := prog_7_method_20_code
def yX5_machine : MethodName := ⟨RX5, "machine", "(II)I"⟩
abbrev cX5_runsOut : ByteArray := prog_7_method_21_code
def yX5_runsOut : MethodName := ⟨RX5, "runsOut", "(II)I"⟩
abbrev cX5_sell : ByteArray := prog_7_method_22_code
def yX5_sell : MethodName := ⟨RX5, "sell", "(I)Z"⟩
abbrev cX5_change : ByteArray := prog_7_method_23_code
def yX5_change : MethodName := ⟨RX5, "change", "()V"⟩
abbrev cX5_pass : ByteArray := prog_7_method_24_code
def yX5_pass : MethodName := ⟨RX5, "pass", "(I)I"⟩
abbrev cX5_today : ByteArray := prog_7_method_25_code
def yX5_today : MethodName := ⟨RX5, "today", "()I"⟩
abbrev cX5_planned : ByteArray := prog_7_method_26_code
def yX5_planned : MethodName := ⟨RX5, "planned", "()I"⟩
abbrev cX5_restOf : ByteArray := prog_7_method_27_code
def yX5_restOf : MethodName := ⟨RX5, "restOf", "(II)I"⟩
abbrev cX5_tabulate : ByteArray := prog_7_method_28_code
def yX5_tabulate : MethodName := ⟨RX5, "tabulate", "(I)V"⟩
abbrev cX5_nextOf : ByteArray := prog_7_method_29_code
def yX5_nextOf : MethodName := ⟨RX5, "nextOf", "(II)I"⟩
abbrev cX5_drive : ByteArray := prog_7_method_30_code
def yX5_drive : MethodName := ⟨RX5, "drive", "(I)I"⟩
abbrev cX5_visit : ByteArray := prog_7_method_31_code
def yX5_visit : MethodName := ⟨RX5, "visit", "(II)I"⟩
abbrev cX5_minutesOf : ByteArray := prog_7_method_32_code
def yX5_minutesOf : MethodName := ⟨RX5, "minutesOf", "(I)I"⟩
abbrev cX5_minutes : ByteArray := prog_7_method_33_code
def yX5_minutes : MethodName := ⟨RX5, "minutes", "(I)I"⟩
abbrev cX5_best : ByteArray := prog_7_method_34_code
def yX5_best : MethodName := ⟨RX5, "best", "(II)I"⟩
abbrev cX5_go : ByteArray := prog_7_method_35_code
def yX5_go : MethodName := ⟨RX5, "go", "(II)I"⟩
abbrev cX5_total : ByteArray := prog_7_method_36_code
def yX5_total : MethodName := ⟨RX5, "total", "(I)J"⟩
abbrev cX5_filled : ByteArray := prog_7_method_37_code
def yX5_filled : MethodName := ⟨RX5, "filled", "()D"⟩
abbrev cX5_digest : ByteArray := prog_7_method_38_code
def yX5_digest : MethodName := ⟨RX5, "digest", "()J"⟩
def RJx145de : String := "java/io/Serializable"
def TJx145de : u_T := fun k => match k with
  | _ => ("", "", "", false)
def tyJx145de : Nat → FieldType := fun k => match k with
  | _ => .int
abbrev wsJx145de0 : List Cond := u_ws RJx145de TJx145de 0
theorem nmJx145de : ∀ a, a < 0 → ∀ b, b < 0 → a ≠ b → (TJx145de a).2.1 ≠ (TJx145de b).2.1 := by decide +kernel
theorem tyJx145de_ok : ∀ k, k < 0 → parseFieldDescriptor (TJx145de k).2.2.1 = some (tyJx145de k) := by decide +kernel
def RJx8e188 : String := "java/lang/Cloneable"
def TJx8e188 : u_T := fun k => match k with
  | _ => ("", "", "", false)
def tyJx8e188 : Nat → FieldType := fun k => match k with
  | _ => .int
abbrev wsJx8e1880 : List Cond := u_ws RJx8e188 TJx8e188 0
theorem nmJx8e188 : ∀ a, a < 0 → ∀ b, b < 0 → a ≠ b → (TJx8e188 a).2.1 ≠ (TJx8e188 b).2.1 := by decide +kernel
theorem tyJx8e188_ok : ∀ k, k < 0 → parseFieldDescriptor (TJx8e188 k).2.2.1 = some (tyJx8e188 k) := by decide +kernel
def RJ6 : String := "java/lang/Integer"
def TJ6 : u_T := fun k => match k with
  | _ => ("", "", "", false)
def tyJ6 : Nat → FieldType := fun k => match k with
  | _ => .int
abbrev wsJ60 : List Cond := u_ws RJ6 TJ6 0
theorem nmJ6 : ∀ a, a < 0 → ∀ b, b < 0 → a ≠ b → (TJ6 a).2.1 ≠ (TJ6 b).2.1 := by decide +kernel
theorem tyJ6_ok : ∀ k, k < 0 → parseFieldDescriptor (TJ6 k).2.2.1 = some (tyJ6 k) := by decide +kernel
abbrev cJ6_bitCount_0f7a4 : ByteArray := prog_14_method_49_code
def yJ6_bitCount_0f7a4 : MethodName := ⟨RJ6, "bitCount", "(I)I"⟩
def RJxab1ab : String := "java/lang/Iterable"
def TJxab1ab : u_T := fun k => match k with
  | _ => ("", "", "", false)
def tyJxab1ab : Nat → FieldType := fun k => match k with
  | _ => .int
abbrev wsJxab1ab0 : List Cond := u_ws RJxab1ab TJxab1ab 0
theorem nmJxab1ab : ∀ a, a < 0 → ∀ b, b < 0 → a ≠ b → (TJxab1ab a).2.1 ≠ (TJxab1ab b).2.1 := by decide +kernel
theorem tyJxab1ab_ok : ∀ k, k < 0 → parseFieldDescriptor (TJxab1ab k).2.2.1 = some (tyJxab1ab k) := by decide +kernel
def RJ9 : String := "java/lang/Math"
def TJ9 : u_T := fun k => match k with
  | _ => ("", "", "", false)
def tyJ9 : Nat → FieldType := fun k => match k with
  | _ => .int
abbrev wsJ90 : List Cond := u_ws RJ9 TJ9 0
theorem nmJ9 : ∀ a, a < 0 → ∀ b, b < 0 → a ≠ b → (TJ9 a).2.1 ≠ (TJ9 b).2.1 := by decide +kernel
theorem tyJ9_ok : ∀ k, k < 0 → parseFieldDescriptor (TJ9 k).2.2.1 = some (tyJ9 k) := by decide +kernel
abbrev cJ9_max_7cf53 : ByteArray := prog_16_method_65_code
def yJ9_max_7cf53 : MethodName := ⟨RJ9, "max", "(II)I"⟩
abbrev cJ9_min_7cf53 : ByteArray := prog_16_method_69_code
def yJ9_min_7cf53 : MethodName := ⟨RJ9, "min", "(II)I"⟩
def RJ0 : String := "java/lang/String"
def TJ0 : u_T := fun k => match k with
  | _ => ("", "", "", false)
def tyJ0 : Nat → FieldType := fun k => match k with
  | _ => .int
abbrev wsJ00 : List Cond := u_ws RJ0 TJ0 0
theorem nmJ0 : ∀ a, a < 0 → ∀ b, b < 0 → a ≠ b → (TJ0 a).2.1 ≠ (TJ0 b).2.1 := by decide +kernel
theorem tyJ0_ok : ∀ k, k < 0 → parseFieldDescriptor (TJ0 k).2.2.1 = some (tyJ0 k) := by decide +kernel
def RJ10 : String := "java/lang/System"
def TJ10 : u_T := fun k => match k with
  | _ => ("", "", "", false)
def tyJ10 : Nat → FieldType := fun k => match k with
  | _ => .int
abbrev wsJ100 : List Cond := u_ws RJ10 TJ10 0
theorem nmJ10 : ∀ a, a < 0 → ∀ b, b < 0 → a ≠ b → (TJ10 a).2.1 ≠ (TJ10 b).2.1 := by decide +kernel
theorem tyJ10_ok : ∀ k, k < 0 → parseFieldDescriptor (TJ10 k).2.2.1 = some (tyJ10 k) := by decide +kernel
def RJxa1e45 : String := "java/util/AbstractCollection"
def TJxa1e45 : u_T := fun k => match k with
  | _ => ("", "", "", false)
def tyJxa1e45 : Nat → FieldType := fun k => match k with
  | _ => .int
abbrev wsJxa1e450 : List Cond := u_ws RJxa1e45 TJxa1e45 0
theorem nmJxa1e45 : ∀ a, a < 0 → ∀ b, b < 0 → a ≠ b → (TJxa1e45 a).2.1 ≠ (TJxa1e45 b).2.1 := by decide +kernel
theorem tyJxa1e45_ok : ∀ k, k < 0 → parseFieldDescriptor (TJxa1e45 k).2.2.1 = some (tyJxa1e45 k) := by decide +kernel
abbrev cJxa1e45_init_da8c8 : ByteArray := prog_21_method_1_code
def yJxa1e45_init_da8c8 : MethodName := ⟨RJxa1e45, "<init>", "()V"⟩
def RJxc12de : String := "java/util/AbstractList"
def TJxc12de : u_T := fun k => match k with
  | _ => ("", "", "", false)
def tyJxc12de : Nat → FieldType := fun k => match k with
  | _ => .int
abbrev wsJxc12de0 : List Cond := u_ws RJxc12de TJxc12de 0
theorem nmJxc12de : ∀ a, a < 0 → ∀ b, b < 0 → a ≠ b → (TJxc12de a).2.1 ≠ (TJxc12de b).2.1 := by decide +kernel
theorem tyJxc12de_ok : ∀ k, k < 0 → parseFieldDescriptor (TJxc12de k).2.2.1 = some (tyJxc12de k) := by decide +kernel
abbrev cJxc12de_init_da8c8 : ByteArray := prog_22_method_1_code
def yJxc12de_init_da8c8 : MethodName := ⟨RJxc12de, "<init>", "()V"⟩
def RJx4a65c : String := "java/util/ArrayList"
def TJx4a65c : u_T := fun k => match k with
  | 0 => ("java/util/AbstractList", "modCount", "I", false)
  | 1 => ("java/util/ArrayList", "elementData", "[Ljava/lang/Object;", false)
  | _ => ("java/util/ArrayList", "size", "I", false)
def tyJx4a65c : Nat → FieldType := fun k => match k with
  | 0 => .int
  | 1 => .array (.object "java/lang/Object")
  | _ => .int
abbrev wsJx4a65c0 : List Cond := u_ws RJx4a65c TJx4a65c 3
theorem nmJx4a65c : ∀ a, a < 3 → ∀ b, b < 3 → a ≠ b → (TJx4a65c a).2.1 ≠ (TJx4a65c b).2.1 := by decide +kernel
theorem tyJx4a65c_ok : ∀ k, k < 3 → parseFieldDescriptor (TJx4a65c k).2.2.1 = some (tyJx4a65c k) := by decide +kernel
abbrev cJx4a65c_init_da8c8 : ByteArray := prog_23_method_2_code
def yJx4a65c_init_da8c8 : MethodName := ⟨RJx4a65c, "<init>", "()V"⟩
abbrev cJx4a65c_grow_92f84 : ByteArray := prog_23_method_6_code
def yJx4a65c_grow_92f84 : MethodName := ⟨RJx4a65c, "grow", "(I)[Ljava/lang/Object;"⟩
abbrev cJx4a65c_grow_d5877 : ByteArray := prog_23_method_7_code
def yJx4a65c_grow_d5877 : MethodName := ⟨RJx4a65c, "grow", "()[Ljava/lang/Object;"⟩
abbrev cJx4a65c_size_8abf5 : ByteArray := prog_23_method_8_code
def yJx4a65c_size_8abf5 : MethodName := ⟨RJx4a65c, "size", "()I"⟩
abbrev cJx4a65c_elementData_915e3 : ByteArray := prog_23_method_18_code
def yJx4a65c_elementData_915e3 : MethodName := ⟨RJx4a65c, "elementData", "(I)Ljava/lang/Object;"⟩
abbrev cJx4a65c_get_915e3 : ByteArray := prog_23_method_20_code
def yJx4a65c_get_915e3 : MethodName := ⟨RJx4a65c, "get", "(I)Ljava/lang/Object;"⟩
abbrev cJx4a65c_add_72be8 : ByteArray := prog_23_method_24_code
def yJx4a65c_add_72be8 : MethodName := ⟨RJx4a65c, "add", "(Ljava/lang/Object;[Ljava/lang/Object;I)V"⟩
abbrev cJx4a65c_add_9ea2d : ByteArray := prog_23_method_25_code
def yJx4a65c_add_9ea2d : MethodName := ⟨RJx4a65c, "add", "(Ljava/lang/Object;)Z"⟩
abbrev cJx4a65c_remove_915e3 : ByteArray := prog_23_method_29_code
def yJx4a65c_remove_915e3 : MethodName := ⟨RJx4a65c, "remove", "(I)Ljava/lang/Object;"⟩
abbrev cJx4a65c_fastRemove_b59b0 : ByteArray := prog_23_method_39_code
def yJx4a65c_fastRemove_b59b0 : MethodName := ⟨RJx4a65c, "fastRemove", "([Ljava/lang/Object;I)V"⟩
def RJ7 : String := "java/util/Arrays"
def TJ7 : u_T := fun k => match k with
  | _ => ("", "", "", false)
def tyJ7 : Nat → FieldType := fun k => match k with
  | _ => .int
abbrev wsJ70 : List Cond := u_ws RJ7 TJ7 0
theorem nmJ7 : ∀ a, a < 0 → ∀ b, b < 0 → a ≠ b → (TJ7 a).2.1 ≠ (TJ7 b).2.1 := by decide +kernel
theorem tyJ7_ok : ∀ k, k < 0 → parseFieldDescriptor (TJ7 k).2.2.1 = some (tyJ7 k) := by decide +kernel
abbrev cJ7_copyOf_1904c : ByteArray := prog_24_method_119_code
def yJ7_copyOf_1904c : MethodName := ⟨RJ7, "copyOf", "([Ljava/lang/Object;I)[Ljava/lang/Object;"⟩
abbrev cJ7_copyOf_6403c : ByteArray := prog_24_method_120_code
def yJ7_copyOf_6403c : MethodName := ⟨RJ7, "copyOf", "([Ljava/lang/Object;ILjava/lang/Class;)[Ljava/lang/Object;"⟩
def RJx5ef63 : String := "java/util/Collection"
def TJx5ef63 : u_T := fun k => match k with
  | _ => ("", "", "", false)
def tyJx5ef63 : Nat → FieldType := fun k => match k with
  | _ => .int
abbrev wsJx5ef630 : List Cond := u_ws RJx5ef63 TJx5ef63 0
theorem nmJx5ef63 : ∀ a, a < 0 → ∀ b, b < 0 → a ≠ b → (TJx5ef63 a).2.1 ≠ (TJx5ef63 b).2.1 := by decide +kernel
theorem tyJx5ef63_ok : ∀ k, k < 0 → parseFieldDescriptor (TJx5ef63 k).2.2.1 = some (tyJx5ef63 k) := by decide +kernel
def RJxbd725 : String := "java/util/List"
def TJxbd725 : u_T := fun k => match k with
  | _ => ("", "", "", false)
def tyJxbd725 : Nat → FieldType := fun k => match k with
  | _ => .int
abbrev wsJxbd7250 : List Cond := u_ws RJxbd725 TJxbd725 0
theorem nmJxbd725 : ∀ a, a < 0 → ∀ b, b < 0 → a ≠ b → (TJxbd725 a).2.1 ≠ (TJxbd725 b).2.1 := by decide +kernel
theorem tyJxbd725_ok : ∀ k, k < 0 → parseFieldDescriptor (TJxbd725 k).2.2.1 = some (tyJxbd725 k) := by decide +kernel
def RJ15 : String := "java/util/Objects"
def TJ15 : u_T := fun k => match k with
  | _ => ("", "", "", false)
def tyJ15 : Nat → FieldType := fun k => match k with
  | _ => .int
abbrev wsJ150 : List Cond := u_ws RJ15 TJ15 0
theorem nmJ15 : ∀ a, a < 0 → ∀ b, b < 0 → a ≠ b → (TJ15 a).2.1 ≠ (TJ15 b).2.1 := by decide +kernel
theorem tyJ15_ok : ∀ k, k < 0 → parseFieldDescriptor (TJ15 k).2.2.1 = some (tyJ15 k) := by decide +kernel
abbrev cJ15_checkIndex_7cf53 : ByteArray := prog_27_method_17_code
def yJ15_checkIndex_7cf53 : MethodName := ⟨RJ15, "checkIndex", "(II)I"⟩
def RJxf0a74 : String := "java/util/RandomAccess"
def TJxf0a74 : u_T := fun k => match k with
  | _ => ("", "", "", false)
def tyJxf0a74 : Nat → FieldType := fun k => match k with
  | _ => .int
abbrev wsJxf0a740 : List Cond := u_ws RJxf0a74 TJxf0a74 0
theorem nmJxf0a74 : ∀ a, a < 0 → ∀ b, b < 0 → a ≠ b → (TJxf0a74 a).2.1 ≠ (TJxf0a74 b).2.1 := by decide +kernel
theorem tyJxf0a74_ok : ∀ k, k < 0 → parseFieldDescriptor (TJxf0a74 k).2.2.1 = some (tyJxf0a74 k) := by decide +kernel
def RJxa66e6 : String := "java/util/SequencedCollection"
def TJxa66e6 : u_T := fun k => match k with
  | _ => ("", "", "", false)
def tyJxa66e6 : Nat → FieldType := fun k => match k with
  | _ => .int
abbrev wsJxa66e60 : List Cond := u_ws RJxa66e6 TJxa66e6 0
theorem nmJxa66e6 : ∀ a, a < 0 → ∀ b, b < 0 → a ≠ b → (TJxa66e6 a).2.1 ≠ (TJxa66e6 b).2.1 := by decide +kernel
theorem tyJxa66e6_ok : ∀ k, k < 0 → parseFieldDescriptor (TJxa66e6 k).2.2.1 = some (tyJxa66e6 k) := by decide +kernel
def RJ8 : String := "jdk/internal/util/ArraysSupport"
def TJ8 : u_T := fun k => match k with
  | _ => ("", "", "", false)
def tyJ8 : Nat → FieldType := fun k => match k with
  | _ => .int
abbrev wsJ80 : List Cond := u_ws RJ8 TJ8 0
theorem nmJ8 : ∀ a, a < 0 → ∀ b, b < 0 → a ≠ b → (TJ8 a).2.1 ≠ (TJ8 b).2.1 := by decide +kernel
theorem tyJ8_ok : ∀ k, k < 0 → parseFieldDescriptor (TJ8 k).2.2.1 = some (tyJ8 k) := by decide +kernel
abbrev cJ8_newLength_cabcc : ByteArray := prog_30_method_27_code
def yJ8_newLength_cabcc : MethodName := ⟨RJ8, "newLength", "(III)I"⟩
abbrev cJ8_hugeLength_7cf53 : ByteArray := prog_30_method_28_code
def yJ8_hugeLength_7cf53 : MethodName := ⟨RJ8, "hugeLength", "(II)I"⟩
def RJ3 : String := "jdk/internal/util/Preconditions"
def TJ3 : u_T := fun k => match k with
  | _ => ("", "", "", false)
def tyJ3 : Nat → FieldType := fun k => match k with
  | _ => .int
abbrev wsJ30 : List Cond := u_ws RJ3 TJ3 0
theorem nmJ3 : ∀ a, a < 0 → ∀ b, b < 0 → a ≠ b → (TJ3 a).2.1 ≠ (TJ3 b).2.1 := by decide +kernel
theorem tyJ3_ok : ∀ k, k < 0 → parseFieldDescriptor (TJ3 k).2.2.1 = some (tyJ3 k) := by decide +kernel
abbrev cJ3_checkIndex_8e157 : ByteArray := prog_31_method_11_code
def yJ3_checkIndex_8e157 : MethodName := ⟨RJ3, "checkIndex", "(IILjava/util/function/BiFunction;)I"⟩
def RL : String := "VendingRoundsLaw"
abbrev cL_addMachine : ByteArray := method_3_code
def yL_addMachine : MethodName := ⟨RL, "addMachine", "(LVendingRounds;I[J)I"⟩
abbrev cL_setMinutes : ByteArray := method_4_code
def yL_setMinutes : MethodName := ⟨RL, "setMinutes", "(LVendingRounds;III[J)I"⟩
abbrev cL_setSlot : ByteArray := method_5_code
def yL_setSlot : MethodName := ⟨RL, "setSlot", "(LVendingRounds;IIII[J)I"⟩
abbrev cL_planPrice : ByteArray := method_6_code
def yL_planPrice : MethodName := ⟨RL, "planPrice", "(LVendingRounds;IIII[J)I"⟩
abbrev cL_slot : ByteArray := method_7_code
def yL_slot : MethodName := ⟨RL, "slot", "(LVendingRounds;III[J)I"⟩
abbrev cL_machine : ByteArray := method_8_code
def yL_machine : MethodName := ⟨RL, "machine", "(LVendingRounds;II[J)I"⟩
abbrev cL_runsOut : ByteArray := method_9_code
def yL_runsOut : MethodName := ⟨RL, "runsOut", "(LVendingRounds;II[J)I"⟩
abbrev cL_pass : ByteArray := method_10_code
def yL_pass : MethodName := ⟨RL, "pass", "(LVendingRounds;I[J)I"⟩
abbrev cL_drive : ByteArray := method_11_code
def yL_drive : MethodName := ⟨RL, "drive", "(LVendingRounds;I[J)I"⟩
abbrev cL_visit : ByteArray := method_12_code
def yL_visit : MethodName := ⟨RL, "visit", "(LVendingRounds;II[J)I"⟩
abbrev cL_minutes : ByteArray := method_13_code
def yL_minutes : MethodName := ⟨RL, "minutes", "(LVendingRounds;I[J)I"⟩
abbrev cL_best : ByteArray := method_14_code
def yL_best : MethodName := ⟨RL, "best", "(LVendingRounds;II[J)I"⟩
abbrev cL_go : ByteArray := method_15_code
def yL_go : MethodName := ⟨RL, "go", "(LVendingRounds;II[J)I"⟩
abbrev cL_total : ByteArray := method_16_code
def yL_total : MethodName := ⟨RL, "total", "(LVendingRounds;I[J)I"⟩
abbrev cL_law : ByteArray := code
def yL_law : MethodName := ⟨RL, "law", "([I)Z"⟩
theorem dX0_init_0 : decode cX0_init 0 = .ok (.aload_n 0, 1) := by decide +kernel
theorem dX0_init_1 : decode cX0_init 1 = .ok (.invokespecial 3, 3) := by decide +kernel
theorem dX0_init_4 : decode cX0_init 4 = .ok (.aload_n 0, 1) := by decide +kernel
theorem dX0_init_5 : decode cX0_init 5 = .ok (.bipush 6, 2) := by decide +kernel
theorem dX0_init_7 : decode cX0_init 7 = .ok (.anewarray 9, 3) := by decide +kernel
theorem dX0_init_10 : decode cX0_init 10 = .ok (.putfield 11, 3) := by decide +kernel
theorem dX0_init_13 : decode cX0_init 13 = .ok (.aload_n 0, 1) := by decide +kernel
theorem dX0_init_14 : decode cX0_init 14 = .ok (.iload_n 1, 1) := by decide +kernel
theorem dX0_init_15 : decode cX0_init 15 = .ok (.putfield 17, 3) := by decide +kernel
theorem dX0_init_18 : decode cX0_init 18 = .ok (.iconst 0, 1) := by decide +kernel
theorem dX0_init_19 : decode cX0_init 19 = .ok (.istore_n 2, 1) := by decide +kernel
theorem dX0_init_20 : decode cX0_init 20 = .ok (.iload_n 2, 1) := by decide +kernel
theorem dX0_init_21 : decode cX0_init 21 = .ok (.bipush 6, 2) := by decide +kernel
theorem dX0_init_23 : decode cX0_init 23 = .ok (.if_icmp .ge 22, 3) := by decide +kernel
theorem dX0_init_26 : decode cX0_init 26 = .ok (.aload_n 0, 1) := by decide +kernel
theorem dX0_init_27 : decode cX0_init 27 = .ok (.getfield 11, 3) := by decide +kernel
theorem dX0_init_30 : decode cX0_init 30 = .ok (.iload_n 2, 1) := by decide +kernel
theorem dX0_init_31 : decode cX0_init 31 = .ok (.new 9, 3) := by decide +kernel
theorem dX0_init_34 : decode cX0_init 34 = .ok (.dup, 1) := by decide +kernel
theorem dX0_init_35 : decode cX0_init 35 = .ok (.invokespecial 21, 3) := by decide +kernel
theorem dX0_init_38 : decode cX0_init 38 = .ok (.aastore, 1) := by decide +kernel
theorem dX0_init_39 : decode cX0_init 39 = .ok (.iinc 2 1, 3) := by decide +kernel
theorem dX0_init_42 : decode cX0_init 42 = .ok (.goto (-22), 3) := by decide +kernel
theorem dX0_init_45 : decode cX0_init 45 = .ok (.return_, 1) := by decide +kernel
theorem dX0_lacking_0 : decode cX0_lacking 0 = .ok (.iconst 0, 1) := by decide +kernel
theorem dX0_lacking_1 : decode cX0_lacking 1 = .ok (.istore_n 1, 1) := by decide +kernel
theorem dX0_lacking_2 : decode cX0_lacking 2 = .ok (.iconst 0, 1) := by decide +kernel
theorem dX0_lacking_3 : decode cX0_lacking 3 = .ok (.istore_n 2, 1) := by decide +kernel
theorem dX0_lacking_4 : decode cX0_lacking 4 = .ok (.iload_n 2, 1) := by decide +kernel
theorem dX0_lacking_5 : decode cX0_lacking 5 = .ok (.bipush 6, 2) := by decide +kernel
theorem dX0_lacking_7 : decode cX0_lacking 7 = .ok (.if_icmp .ge 21, 3) := by decide +kernel
theorem dX0_lacking_10 : decode cX0_lacking 10 = .ok (.iload_n 1, 1) := by decide +kernel
theorem dX0_lacking_11 : decode cX0_lacking 11 = .ok (.aload_n 0, 1) := by decide +kernel
theorem dX0_lacking_12 : decode cX0_lacking 12 = .ok (.getfield 11, 3) := by decide +kernel
theorem dX0_lacking_15 : decode cX0_lacking 15 = .ok (.iload_n 2, 1) := by decide +kernel
theorem dX0_lacking_16 : decode cX0_lacking 16 = .ok (.aaload, 1) := by decide +kernel
theorem dX0_lacking_17 : decode cX0_lacking 17 = .ok (.invokevirtual 22, 3) := by decide +kernel
theorem dX0_lacking_20 : decode cX0_lacking 20 = .ok (.iadd, 1) := by decide +kernel
theorem dX0_lacking_21 : decode cX0_lacking 21 = .ok (.istore_n 1, 1) := by decide +kernel
theorem dX0_lacking_22 : decode cX0_lacking 22 = .ok (.iinc 2 1, 3) := by decide +kernel
theorem dX0_lacking_25 : decode cX0_lacking 25 = .ok (.goto (-21), 3) := by decide +kernel
theorem dX0_lacking_28 : decode cX0_lacking 28 = .ok (.iload_n 1, 1) := by decide +kernel
theorem dX0_lacking_29 : decode cX0_lacking 29 = .ok (.ireturn, 1) := by decide +kernel
theorem dX0_gain_0 : decode cX0_gain 0 = .ok (.aload_n 0, 1) := by decide +kernel
theorem dX0_gain_1 : decode cX0_gain 1 = .ok (.getfield 26, 3) := by decide +kernel
theorem dX0_gain_4 : decode cX0_gain 4 = .ok (.istore_n 1, 1) := by decide +kernel
theorem dX0_gain_5 : decode cX0_gain 5 = .ok (.iconst 0, 1) := by decide +kernel
theorem dX0_gain_6 : decode cX0_gain 6 = .ok (.istore_n 2, 1) := by decide +kernel
theorem dX0_gain_7 : decode cX0_gain 7 = .ok (.iload_n 2, 1) := by decide +kernel
theorem dX0_gain_8 : decode cX0_gain 8 = .ok (.bipush 6, 2) := by decide +kernel
theorem dX0_gain_10 : decode cX0_gain 10 = .ok (.if_icmp .ge 31, 3) := by decide +kernel
theorem dX0_gain_13 : decode cX0_gain 13 = .ok (.iload_n 1, 1) := by decide +kernel
theorem dX0_gain_14 : decode cX0_gain 14 = .ok (.aload_n 0, 1) := by decide +kernel
theorem dX0_gain_15 : decode cX0_gain 15 = .ok (.getfield 11, 3) := by decide +kernel
theorem dX0_gain_18 : decode cX0_gain 18 = .ok (.iload_n 2, 1) := by decide +kernel
theorem dX0_gain_19 : decode cX0_gain 19 = .ok (.aaload, 1) := by decide +kernel
theorem dX0_gain_20 : decode cX0_gain 20 = .ok (.getfield 29, 3) := by decide +kernel
theorem dX0_gain_23 : decode cX0_gain 23 = .ok (.aload_n 0, 1) := by decide +kernel
theorem dX0_gain_24 : decode cX0_gain 24 = .ok (.getfield 11, 3) := by decide +kernel
theorem dX0_gain_27 : decode cX0_gain 27 = .ok (.iload_n 2, 1) := by decide +kernel
theorem dX0_gain_28 : decode cX0_gain 28 = .ok (.aaload, 1) := by decide +kernel
theorem dX0_gain_29 : decode cX0_gain 29 = .ok (.invokevirtual 22, 3) := by decide +kernel
theorem dX0_gain_32 : decode cX0_gain 32 = .ok (.imul, 1) := by decide +kernel
theorem dX0_gain_33 : decode cX0_gain 33 = .ok (.iadd, 1) := by decide +kernel
theorem dX0_gain_34 : decode cX0_gain 34 = .ok (.istore_n 1, 1) := by decide +kernel
theorem dX0_gain_35 : decode cX0_gain 35 = .ok (.iinc 2 1, 3) := by decide +kernel
theorem dX0_gain_38 : decode cX0_gain 38 = .ok (.goto (-31), 3) := by decide +kernel
theorem dX0_gain_41 : decode cX0_gain 41 = .ok (.iload_n 1, 1) := by decide +kernel
theorem dX0_gain_42 : decode cX0_gain 42 = .ok (.ireturn, 1) := by decide +kernel
theorem dX0_visitTime_0 : decode cX0_visitTime 0 = .ok (.iconst 3, 1) := by decide +kernel
theorem dX0_visitTime_1 : decode cX0_visitTime 1 = .ok (.aload_n 0, 1) := by decide +kernel
theorem dX0_visitTime_2 : decode cX0_visitTime 2 = .ok (.invokevirtual 32, 3) := by decide +kernel
theorem dX0_visitTime_5 : decode cX0_visitTime 5 = .ok (.iconst 4, 1) := by decide +kernel
theorem dX0_visitTime_6 : decode cX0_visitTime 6 = .ok (.iadd, 1) := by decide +kernel
theorem dX0_visitTime_7 : decode cX0_visitTime 7 = .ok (.iconst 5, 1) := by decide +kernel
theorem dX0_visitTime_8 : decode cX0_visitTime 8 = .ok (.idiv, 1) := by decide +kernel
theorem dX0_visitTime_9 : decode cX0_visitTime 9 = .ok (.iadd, 1) := by decide +kernel
theorem dX0_visitTime_10 : decode cX0_visitTime 10 = .ok (.ireturn, 1) := by decide +kernel
theorem dX0_fact_0 : decode cX0_fact 0 = .ok (.iload_n 1, 1) := by decide +kernel
theorem dX0_fact_1 : decode cX0_fact 1 = .ok (.tableswitch 51 0 3 #[31, 36, 41, 46], 31) := by decide +kernel
theorem dX0_fact_32 : decode cX0_fact 32 = .ok (.aload_n 0, 1) := by decide +kernel
theorem dX0_fact_33 : decode cX0_fact 33 = .ok (.getfield 26, 3) := by decide +kernel
theorem dX0_fact_36 : decode cX0_fact 36 = .ok (.ireturn, 1) := by decide +kernel
theorem dX0_fact_37 : decode cX0_fact 37 = .ok (.aload_n 0, 1) := by decide +kernel
theorem dX0_fact_38 : decode cX0_fact 38 = .ok (.getfield 17, 3) := by decide +kernel
theorem dX0_fact_41 : decode cX0_fact 41 = .ok (.ireturn, 1) := by decide +kernel
theorem dX0_fact_42 : decode cX0_fact 42 = .ok (.aload_n 0, 1) := by decide +kernel
theorem dX0_fact_43 : decode cX0_fact 43 = .ok (.invokevirtual 32, 3) := by decide +kernel
theorem dX0_fact_46 : decode cX0_fact 46 = .ok (.ireturn, 1) := by decide +kernel
theorem dX0_fact_47 : decode cX0_fact 47 = .ok (.aload_n 0, 1) := by decide +kernel
theorem dX0_fact_48 : decode cX0_fact 48 = .ok (.invokevirtual 33, 3) := by decide +kernel
theorem dX0_fact_51 : decode cX0_fact 51 = .ok (.ireturn, 1) := by decide +kernel
theorem dX0_fact_52 : decode cX0_fact 52 = .ok (.aload_n 0, 1) := by decide +kernel
theorem dX0_fact_53 : decode cX0_fact 53 = .ok (.getfield 36, 3) := by decide +kernel
theorem dX0_fact_56 : decode cX0_fact 56 = .ok (.ireturn, 1) := by decide +kernel
theorem dX0_sellForADay_0 : decode cX0_sellForADay 0 = .ok (.iconst 0, 1) := by decide +kernel
theorem dX0_sellForADay_1 : decode cX0_sellForADay 1 = .ok (.istore_n 1, 1) := by decide +kernel
theorem dX0_sellForADay_2 : decode cX0_sellForADay 2 = .ok (.iconst 0, 1) := by decide +kernel
theorem dX0_sellForADay_3 : decode cX0_sellForADay 3 = .ok (.istore_n 2, 1) := by decide +kernel
theorem dX0_sellForADay_4 : decode cX0_sellForADay 4 = .ok (.iload_n 2, 1) := by decide +kernel
theorem dX0_sellForADay_5 : decode cX0_sellForADay 5 = .ok (.bipush 6, 2) := by decide +kernel
theorem dX0_sellForADay_7 : decode cX0_sellForADay 7 = .ok (.if_icmp .ge 22, 3) := by decide +kernel
theorem dX0_sellForADay_10 : decode cX0_sellForADay 10 = .ok (.iload_n 1, 1) := by decide +kernel
theorem dX0_sellForADay_11 : decode cX0_sellForADay 11 = .ok (.aload_n 0, 1) := by decide +kernel
theorem dX0_sellForADay_12 : decode cX0_sellForADay 12 = .ok (.aload_n 0, 1) := by decide +kernel
theorem dX0_sellForADay_13 : decode cX0_sellForADay 13 = .ok (.getfield 11, 3) := by decide +kernel
theorem dX0_sellForADay_16 : decode cX0_sellForADay 16 = .ok (.iload_n 2, 1) := by decide +kernel
theorem dX0_sellForADay_17 : decode cX0_sellForADay 17 = .ok (.aaload, 1) := by decide +kernel
theorem dX0_sellForADay_18 : decode cX0_sellForADay 18 = .ok (.invokevirtual 39, 3) := by decide +kernel
theorem dX0_sellForADay_21 : decode cX0_sellForADay 21 = .ok (.iadd, 1) := by decide +kernel
theorem dX0_sellForADay_22 : decode cX0_sellForADay 22 = .ok (.istore_n 1, 1) := by decide +kernel
theorem dX0_sellForADay_23 : decode cX0_sellForADay 23 = .ok (.iinc 2 1, 3) := by decide +kernel
theorem dX0_sellForADay_26 : decode cX0_sellForADay 26 = .ok (.goto (-22), 3) := by decide +kernel
theorem dX0_sellForADay_29 : decode cX0_sellForADay 29 = .ok (.iload_n 1, 1) := by decide +kernel
theorem dX0_sellForADay_30 : decode cX0_sellForADay 30 = .ok (.ireturn, 1) := by decide +kernel
theorem dX0_sellFrom_0 : decode cX0_sellFrom 0 = .ok (.iconst 0, 1) := by decide +kernel
theorem dX0_sellFrom_1 : decode cX0_sellFrom 1 = .ok (.istore_n 2, 1) := by decide +kernel
theorem dX0_sellFrom_2 : decode cX0_sellFrom 2 = .ok (.iconst 0, 1) := by decide +kernel
theorem dX0_sellFrom_3 : decode cX0_sellFrom 3 = .ok (.istore_n 3, 1) := by decide +kernel
theorem dX0_sellFrom_4 : decode cX0_sellFrom 4 = .ok (.iload_n 3, 1) := by decide +kernel
theorem dX0_sellFrom_5 : decode cX0_sellFrom 5 = .ok (.aload_n 1, 1) := by decide +kernel
theorem dX0_sellFrom_6 : decode cX0_sellFrom 6 = .ok (.getfield 43, 3) := by decide +kernel
theorem dX0_sellFrom_9 : decode cX0_sellFrom 9 = .ok (.if_icmp .ge 58, 3) := by decide +kernel
theorem dX0_sellFrom_12 : decode cX0_sellFrom 12 = .ok (.aload_n 1, 1) := by decide +kernel
theorem dX0_sellFrom_13 : decode cX0_sellFrom 13 = .ok (.getfield 46, 3) := by decide +kernel
theorem dX0_sellFrom_16 : decode cX0_sellFrom 16 = .ok (.ifCond .le 45, 3) := by decide +kernel
theorem dX0_sellFrom_19 : decode cX0_sellFrom 19 = .ok (.aload_n 0, 1) := by decide +kernel
theorem dX0_sellFrom_20 : decode cX0_sellFrom 20 = .ok (.getfield 26, 3) := by decide +kernel
theorem dX0_sellFrom_23 : decode cX0_sellFrom 23 = .ok (.aload_n 1, 1) := by decide +kernel
theorem dX0_sellFrom_24 : decode cX0_sellFrom 24 = .ok (.getfield 29, 3) := by decide +kernel
theorem dX0_sellFrom_27 : decode cX0_sellFrom 27 = .ok (.iadd, 1) := by decide +kernel
theorem dX0_sellFrom_28 : decode cX0_sellFrom 28 = .ok (.aload_n 0, 1) := by decide +kernel
theorem dX0_sellFrom_29 : decode cX0_sellFrom 29 = .ok (.getfield 17, 3) := by decide +kernel
theorem dX0_sellFrom_32 : decode cX0_sellFrom 32 = .ok (.if_icmp .gt 29, 3) := by decide +kernel
theorem dX0_sellFrom_35 : decode cX0_sellFrom 35 = .ok (.aload_n 1, 1) := by decide +kernel
theorem dX0_sellFrom_36 : decode cX0_sellFrom 36 = .ok (.dup, 1) := by decide +kernel
theorem dX0_sellFrom_37 : decode cX0_sellFrom 37 = .ok (.getfield 46, 3) := by decide +kernel
theorem dX0_sellFrom_40 : decode cX0_sellFrom 40 = .ok (.iconst 1, 1) := by decide +kernel
theorem dX0_sellFrom_41 : decode cX0_sellFrom 41 = .ok (.isub, 1) := by decide +kernel
theorem dX0_sellFrom_42 : decode cX0_sellFrom 42 = .ok (.putfield 46, 3) := by decide +kernel
theorem dX0_sellFrom_45 : decode cX0_sellFrom 45 = .ok (.aload_n 0, 1) := by decide +kernel
theorem dX0_sellFrom_46 : decode cX0_sellFrom 46 = .ok (.dup, 1) := by decide +kernel
theorem dX0_sellFrom_47 : decode cX0_sellFrom 47 = .ok (.getfield 26, 3) := by decide +kernel
theorem dX0_sellFrom_50 : decode cX0_sellFrom 50 = .ok (.aload_n 1, 1) := by decide +kernel
theorem dX0_sellFrom_51 : decode cX0_sellFrom 51 = .ok (.getfield 29, 3) := by decide +kernel
theorem dX0_sellFrom_54 : decode cX0_sellFrom 54 = .ok (.iadd, 1) := by decide +kernel
theorem dX0_sellFrom_55 : decode cX0_sellFrom 55 = .ok (.putfield 26, 3) := by decide +kernel
theorem dX0_sellFrom_58 : decode cX0_sellFrom 58 = .ok (.iinc 2 1, 3) := by decide +kernel
theorem dX0_sellFrom_61 : decode cX0_sellFrom 61 = .ok (.iinc 3 1, 3) := by decide +kernel
theorem dX0_sellFrom_64 : decode cX0_sellFrom 64 = .ok (.goto (-60), 3) := by decide +kernel
theorem dX0_sellFrom_67 : decode cX0_sellFrom 67 = .ok (.aload_n 1, 1) := by decide +kernel
theorem dX0_sellFrom_68 : decode cX0_sellFrom 68 = .ok (.dup, 1) := by decide +kernel
theorem dX0_sellFrom_69 : decode cX0_sellFrom 69 = .ok (.getfield 49, 3) := by decide +kernel
theorem dX0_sellFrom_72 : decode cX0_sellFrom 72 = .ok (.iload_n 2, 1) := by decide +kernel
theorem dX0_sellFrom_73 : decode cX0_sellFrom 73 = .ok (.iadd, 1) := by decide +kernel
theorem dX0_sellFrom_74 : decode cX0_sellFrom 74 = .ok (.putfield 49, 3) := by decide +kernel
theorem dX0_sellFrom_77 : decode cX0_sellFrom 77 = .ok (.aload_n 1, 1) := by decide +kernel
theorem dX0_sellFrom_78 : decode cX0_sellFrom 78 = .ok (.dup, 1) := by decide +kernel
theorem dX0_sellFrom_79 : decode cX0_sellFrom 79 = .ok (.getfield 52, 3) := by decide +kernel
theorem dX0_sellFrom_82 : decode cX0_sellFrom 82 = .ok (.aload_n 1, 1) := by decide +kernel
theorem dX0_sellFrom_83 : decode cX0_sellFrom 83 = .ok (.getfield 43, 3) := by decide +kernel
theorem dX0_sellFrom_86 : decode cX0_sellFrom 86 = .ok (.iload_n 2, 1) := by decide +kernel
theorem dX0_sellFrom_87 : decode cX0_sellFrom 87 = .ok (.isub, 1) := by decide +kernel
theorem dX0_sellFrom_88 : decode cX0_sellFrom 88 = .ok (.iadd, 1) := by decide +kernel
theorem dX0_sellFrom_89 : decode cX0_sellFrom 89 = .ok (.putfield 52, 3) := by decide +kernel
theorem dX0_sellFrom_92 : decode cX0_sellFrom 92 = .ok (.iload_n 2, 1) := by decide +kernel
theorem dX0_sellFrom_93 : decode cX0_sellFrom 93 = .ok (.ireturn, 1) := by decide +kernel
theorem dX0_emptyBox_0 : decode cX0_emptyBox 0 = .ok (.aload_n 0, 1) := by decide +kernel
theorem dX0_emptyBox_1 : decode cX0_emptyBox 1 = .ok (.getfield 26, 3) := by decide +kernel
theorem dX0_emptyBox_4 : decode cX0_emptyBox 4 = .ok (.istore_n 1, 1) := by decide +kernel
theorem dX0_emptyBox_5 : decode cX0_emptyBox 5 = .ok (.aload_n 0, 1) := by decide +kernel
theorem dX0_emptyBox_6 : decode cX0_emptyBox 6 = .ok (.iconst 0, 1) := by decide +kernel
theorem dX0_emptyBox_7 : decode cX0_emptyBox 7 = .ok (.putfield 26, 3) := by decide +kernel
theorem dX0_emptyBox_10 : decode cX0_emptyBox 10 = .ok (.iload_n 1, 1) := by decide +kernel
theorem dX0_emptyBox_11 : decode cX0_emptyBox 11 = .ok (.ireturn, 1) := by decide +kernel
theorem dX0_fillUp_0 : decode cX0_fillUp 0 = .ok (.iload_n 1, 1) := by decide +kernel
theorem dX0_fillUp_1 : decode cX0_fillUp 1 = .ok (.istore_n 2, 1) := by decide +kernel
theorem dX0_fillUp_2 : decode cX0_fillUp 2 = .ok (.iconst 0, 1) := by decide +kernel
theorem dX0_fillUp_3 : decode cX0_fillUp 3 = .ok (.istore_n 3, 1) := by decide +kernel
theorem dX0_fillUp_4 : decode cX0_fillUp 4 = .ok (.iload_n 3, 1) := by decide +kernel
theorem dX0_fillUp_5 : decode cX0_fillUp 5 = .ok (.bipush 6, 2) := by decide +kernel
theorem dX0_fillUp_7 : decode cX0_fillUp 7 = .ok (.if_icmp .ge 45, 3) := by decide +kernel
theorem dX0_fillUp_10 : decode cX0_fillUp 10 = .ok (.iload_n 2, 1) := by decide +kernel
theorem dX0_fillUp_11 : decode cX0_fillUp 11 = .ok (.aload_n 0, 1) := by decide +kernel
theorem dX0_fillUp_12 : decode cX0_fillUp 12 = .ok (.getfield 11, 3) := by decide +kernel
theorem dX0_fillUp_15 : decode cX0_fillUp 15 = .ok (.iload_n 3, 1) := by decide +kernel
theorem dX0_fillUp_16 : decode cX0_fillUp 16 = .ok (.aaload, 1) := by decide +kernel
theorem dX0_fillUp_17 : decode cX0_fillUp 17 = .ok (.invokevirtual 22, 3) := by decide +kernel
theorem dX0_fillUp_20 : decode cX0_fillUp 20 = .ok (.invokestatic 55, 3) := by decide +kernel
theorem dX0_fillUp_23 : decode cX0_fillUp 23 = .ok (.istore 4, 2) := by decide +kernel
theorem dX0_fillUp_25 : decode cX0_fillUp 25 = .ok (.aload_n 0, 1) := by decide +kernel
theorem dX0_fillUp_26 : decode cX0_fillUp 26 = .ok (.getfield 11, 3) := by decide +kernel
theorem dX0_fillUp_29 : decode cX0_fillUp 29 = .ok (.iload_n 3, 1) := by decide +kernel
theorem dX0_fillUp_30 : decode cX0_fillUp 30 = .ok (.aaload, 1) := by decide +kernel
theorem dX0_fillUp_31 : decode cX0_fillUp 31 = .ok (.dup, 1) := by decide +kernel
theorem dX0_fillUp_32 : decode cX0_fillUp 32 = .ok (.getfield 46, 3) := by decide +kernel
theorem dX0_fillUp_35 : decode cX0_fillUp 35 = .ok (.iload 4, 2) := by decide +kernel
theorem dX0_fillUp_37 : decode cX0_fillUp 37 = .ok (.iadd, 1) := by decide +kernel
theorem dX0_fillUp_38 : decode cX0_fillUp 38 = .ok (.putfield 46, 3) := by decide +kernel
theorem dX0_fillUp_41 : decode cX0_fillUp 41 = .ok (.iload_n 2, 1) := by decide +kernel
theorem dX0_fillUp_42 : decode cX0_fillUp 42 = .ok (.iload 4, 2) := by decide +kernel
theorem dX0_fillUp_44 : decode cX0_fillUp 44 = .ok (.isub, 1) := by decide +kernel
theorem dX0_fillUp_45 : decode cX0_fillUp 45 = .ok (.istore_n 2, 1) := by decide +kernel
theorem dX0_fillUp_46 : decode cX0_fillUp 46 = .ok (.iinc 3 1, 3) := by decide +kernel
theorem dX0_fillUp_49 : decode cX0_fillUp 49 = .ok (.goto (-45), 3) := by decide +kernel
theorem dX0_fillUp_52 : decode cX0_fillUp 52 = .ok (.iload_n 1, 1) := by decide +kernel
theorem dX0_fillUp_53 : decode cX0_fillUp 53 = .ok (.iload_n 2, 1) := by decide +kernel
theorem dX0_fillUp_54 : decode cX0_fillUp 54 = .ok (.isub, 1) := by decide +kernel
theorem dX0_fillUp_55 : decode cX0_fillUp 55 = .ok (.ireturn, 1) := by decide +kernel
theorem dX1_init_0 : decode cX1_init 0 = .ok (.aload_n 0, 1) := by decide +kernel
theorem dX1_init_1 : decode cX1_init 1 = .ok (.invokespecial 1, 3) := by decide +kernel
theorem dX1_init_4 : decode cX1_init 4 = .ok (.aload_n 0, 1) := by decide +kernel
theorem dX1_init_5 : decode cX1_init 5 = .ok (.aload_n 1, 1) := by decide +kernel
theorem dX1_init_6 : decode cX1_init 6 = .ok (.putfield 7, 3) := by decide +kernel
theorem dX1_init_9 : decode cX1_init 9 = .ok (.aload_n 0, 1) := by decide +kernel
theorem dX1_init_10 : decode cX1_init 10 = .ok (.iload_n 2, 1) := by decide +kernel
theorem dX1_init_11 : decode cX1_init 11 = .ok (.putfield 13, 3) := by decide +kernel
theorem dX1_init_14 : decode cX1_init 14 = .ok (.aload_n 0, 1) := by decide +kernel
theorem dX1_init_15 : decode cX1_init 15 = .ok (.iload_n 3, 1) := by decide +kernel
theorem dX1_init_16 : decode cX1_init 16 = .ok (.putfield 17, 3) := by decide +kernel
theorem dX1_init_19 : decode cX1_init 19 = .ok (.return_, 1) := by decide +kernel
theorem dX2_init_0 : decode cX2_init 0 = .ok (.aload_n 0, 1) := by decide +kernel
theorem dX2_init_1 : decode cX2_init 1 = .ok (.invokespecial 3, 3) := by decide +kernel
theorem dX2_init_4 : decode cX2_init 4 = .ok (.aload_n 0, 1) := by decide +kernel
theorem dX2_init_5 : decode cX2_init 5 = .ok (.bipush 81, 2) := by decide +kernel
theorem dX2_init_7 : decode cX2_init 7 = .ok (.newarray .int, 2) := by decide +kernel
theorem dX2_init_9 : decode cX2_init 9 = .ok (.putfield 11, 3) := by decide +kernel
theorem dX2_init_12 : decode cX2_init 12 = .ok (.aload_n 0, 1) := by decide +kernel
theorem dX2_init_13 : decode cX2_init 13 = .ok (.sipush 2048, 3) := by decide +kernel
theorem dX2_init_16 : decode cX2_init 16 = .ok (.newarray .int, 2) := by decide +kernel
theorem dX2_init_18 : decode cX2_init 18 = .ok (.putfield 15, 3) := by decide +kernel
theorem dX2_init_21 : decode cX2_init 21 = .ok (.iconst 0, 1) := by decide +kernel
theorem dX2_init_22 : decode cX2_init 22 = .ok (.istore_n 1, 1) := by decide +kernel
theorem dX2_init_23 : decode cX2_init 23 = .ok (.iload_n 1, 1) := by decide +kernel
theorem dX2_init_24 : decode cX2_init 24 = .ok (.bipush 81, 2) := by decide +kernel
theorem dX2_init_26 : decode cX2_init 26 = .ok (.if_icmp .ge 42, 3) := by decide +kernel
theorem dX2_init_29 : decode cX2_init 29 = .ok (.iload_n 1, 1) := by decide +kernel
theorem dX2_init_30 : decode cX2_init 30 = .ok (.bipush 9, 2) := by decide +kernel
theorem dX2_init_32 : decode cX2_init 32 = .ok (.idiv, 1) := by decide +kernel
theorem dX2_init_33 : decode cX2_init 33 = .ok (.iload_n 1, 1) := by decide +kernel
theorem dX2_init_34 : decode cX2_init 34 = .ok (.bipush 9, 2) := by decide +kernel
theorem dX2_init_36 : decode cX2_init 36 = .ok (.irem, 1) := by decide +kernel
theorem dX2_init_37 : decode cX2_init 37 = .ok (.if_icmp .ne 7, 3) := by decide +kernel
theorem dX2_init_40 : decode cX2_init 40 = .ok (.iconst 1, 1) := by decide +kernel
theorem dX2_init_41 : decode cX2_init 41 = .ok (.goto 4, 3) := by decide +kernel
theorem dX2_init_44 : decode cX2_init 44 = .ok (.iconst 0, 1) := by decide +kernel
theorem dX2_init_45 : decode cX2_init 45 = .ok (.istore_n 2, 1) := by decide +kernel
theorem dX2_init_46 : decode cX2_init 46 = .ok (.aload_n 0, 1) := by decide +kernel
theorem dX2_init_47 : decode cX2_init 47 = .ok (.getfield 11, 3) := by decide +kernel
theorem dX2_init_50 : decode cX2_init 50 = .ok (.iload_n 1, 1) := by decide +kernel
theorem dX2_init_51 : decode cX2_init 51 = .ok (.iload_n 2, 1) := by decide +kernel
theorem dX2_init_52 : decode cX2_init 52 = .ok (.ifCond .eq 7, 3) := by decide +kernel
theorem dX2_init_55 : decode cX2_init 55 = .ok (.iconst 0, 1) := by decide +kernel
theorem dX2_init_56 : decode cX2_init 56 = .ok (.goto 5, 3) := by decide +kernel
theorem dX2_init_59 : decode cX2_init 59 = .ok (.bipush 20, 2) := by decide +kernel
theorem dX2_init_61 : decode cX2_init 61 = .ok (.iastore, 1) := by decide +kernel
theorem dX2_init_62 : decode cX2_init 62 = .ok (.iinc 1 1, 3) := by decide +kernel
theorem dX2_init_65 : decode cX2_init 65 = .ok (.goto (-42), 3) := by decide +kernel
theorem dX2_init_68 : decode cX2_init 68 = .ok (.return_, 1) := by decide +kernel
theorem dX2_between_0 : decode cX2_between 0 = .ok (.aload_n 0, 1) := by decide +kernel
theorem dX2_between_1 : decode cX2_between 1 = .ok (.getfield 11, 3) := by decide +kernel
theorem dX2_between_4 : decode cX2_between 4 = .ok (.iload_n 1, 1) := by decide +kernel
theorem dX2_between_5 : decode cX2_between 5 = .ok (.iconst 1, 1) := by decide +kernel
theorem dX2_between_6 : decode cX2_between 6 = .ok (.iadd, 1) := by decide +kernel
theorem dX2_between_7 : decode cX2_between 7 = .ok (.bipush 9, 2) := by decide +kernel
theorem dX2_between_9 : decode cX2_between 9 = .ok (.imul, 1) := by decide +kernel
theorem dX2_between_10 : decode cX2_between 10 = .ok (.iload_n 2, 1) := by decide +kernel
theorem dX2_between_11 : decode cX2_between 11 = .ok (.iadd, 1) := by decide +kernel
theorem dX2_between_12 : decode cX2_between 12 = .ok (.iconst 1, 1) := by decide +kernel
theorem dX2_between_13 : decode cX2_between 13 = .ok (.iadd, 1) := by decide +kernel
theorem dX2_between_14 : decode cX2_between 14 = .ok (.iaload, 1) := by decide +kernel
theorem dX2_between_15 : decode cX2_between 15 = .ok (.ireturn, 1) := by decide +kernel
theorem dX2_setBetween_0 : decode cX2_setBetween 0 = .ok (.aload_n 0, 1) := by decide +kernel
theorem dX2_setBetween_1 : decode cX2_setBetween 1 = .ok (.getfield 11, 3) := by decide +kernel
theorem dX2_setBetween_4 : decode cX2_setBetween 4 = .ok (.iload_n 1, 1) := by decide +kernel
theorem dX2_setBetween_5 : decode cX2_setBetween 5 = .ok (.iconst 1, 1) := by decide +kernel
theorem dX2_setBetween_6 : decode cX2_setBetween 6 = .ok (.iadd, 1) := by decide +kernel
theorem dX2_setBetween_7 : decode cX2_setBetween 7 = .ok (.bipush 9, 2) := by decide +kernel
theorem dX2_setBetween_9 : decode cX2_setBetween 9 = .ok (.imul, 1) := by decide +kernel
theorem dX2_setBetween_10 : decode cX2_setBetween 10 = .ok (.iload_n 2, 1) := by decide +kernel
theorem dX2_setBetween_11 : decode cX2_setBetween 11 = .ok (.iadd, 1) := by decide +kernel
theorem dX2_setBetween_12 : decode cX2_setBetween 12 = .ok (.iconst 1, 1) := by decide +kernel
theorem dX2_setBetween_13 : decode cX2_setBetween 13 = .ok (.iadd, 1) := by decide +kernel
theorem dX2_setBetween_14 : decode cX2_setBetween 14 = .ok (.iload_n 3, 1) := by decide +kernel
theorem dX2_setBetween_15 : decode cX2_setBetween 15 = .ok (.iastore, 1) := by decide +kernel
theorem dX2_setBetween_16 : decode cX2_setBetween 16 = .ok (.aload_n 0, 1) := by decide +kernel
theorem dX2_setBetween_17 : decode cX2_setBetween 17 = .ok (.getfield 11, 3) := by decide +kernel
theorem dX2_setBetween_20 : decode cX2_setBetween 20 = .ok (.iload_n 2, 1) := by decide +kernel
theorem dX2_setBetween_21 : decode cX2_setBetween 21 = .ok (.iconst 1, 1) := by decide +kernel
theorem dX2_setBetween_22 : decode cX2_setBetween 22 = .ok (.iadd, 1) := by decide +kernel
theorem dX2_setBetween_23 : decode cX2_setBetween 23 = .ok (.bipush 9, 2) := by decide +kernel
theorem dX2_setBetween_25 : decode cX2_setBetween 25 = .ok (.imul, 1) := by decide +kernel
theorem dX2_setBetween_26 : decode cX2_setBetween 26 = .ok (.iload_n 1, 1) := by decide +kernel
theorem dX2_setBetween_27 : decode cX2_setBetween 27 = .ok (.iadd, 1) := by decide +kernel
theorem dX2_setBetween_28 : decode cX2_setBetween 28 = .ok (.iconst 1, 1) := by decide +kernel
theorem dX2_setBetween_29 : decode cX2_setBetween 29 = .ok (.iadd, 1) := by decide +kernel
theorem dX2_setBetween_30 : decode cX2_setBetween 30 = .ok (.iload_n 3, 1) := by decide +kernel
theorem dX2_setBetween_31 : decode cX2_setBetween 31 = .ok (.iastore, 1) := by decide +kernel
theorem dX2_setBetween_32 : decode cX2_setBetween 32 = .ok (.return_, 1) := by decide +kernel
theorem dX2_measureTours_0 : decode cX2_measureTours 0 = .ok (.iconst 1, 1) := by decide +kernel
theorem dX2_measureTours_1 : decode cX2_measureTours 1 = .ok (.iload_n 1, 1) := by decide +kernel
theorem dX2_measureTours_2 : decode cX2_measureTours 2 = .ok (.ishl, 1) := by decide +kernel
theorem dX2_measureTours_3 : decode cX2_measureTours 3 = .ok (.istore_n 2, 1) := by decide +kernel
theorem dX2_measureTours_4 : decode cX2_measureTours 4 = .ok (.iconst 1, 1) := by decide +kernel
theorem dX2_measureTours_5 : decode cX2_measureTours 5 = .ok (.istore_n 3, 1) := by decide +kernel
theorem dX2_measureTours_6 : decode cX2_measureTours 6 = .ok (.iload_n 3, 1) := by decide +kernel
theorem dX2_measureTours_7 : decode cX2_measureTours 7 = .ok (.iload_n 2, 1) := by decide +kernel
theorem dX2_measureTours_8 : decode cX2_measureTours 8 = .ok (.if_icmp .ge 57, 3) := by decide +kernel
theorem dX2_measureTours_11 : decode cX2_measureTours 11 = .ok (.iconst 0, 1) := by decide +kernel
theorem dX2_measureTours_12 : decode cX2_measureTours 12 = .ok (.istore 4, 2) := by decide +kernel
theorem dX2_measureTours_14 : decode cX2_measureTours 14 = .ok (.iload 4, 2) := by decide +kernel
theorem dX2_measureTours_16 : decode cX2_measureTours 16 = .ok (.iload_n 1, 1) := by decide +kernel
theorem dX2_measureTours_17 : decode cX2_measureTours 17 = .ok (.if_icmp .ge 42, 3) := by decide +kernel
theorem dX2_measureTours_20 : decode cX2_measureTours 20 = .ok (.iload_n 3, 1) := by decide +kernel
theorem dX2_measureTours_21 : decode cX2_measureTours 21 = .ok (.iload 4, 2) := by decide +kernel
theorem dX2_measureTours_23 : decode cX2_measureTours 23 = .ok (.invokestatic 18, 3) := by decide +kernel
theorem dX2_measureTours_26 : decode cX2_measureTours 26 = .ok (.ifCond .eq 27, 3) := by decide +kernel
theorem dX2_measureTours_29 : decode cX2_measureTours 29 = .ok (.aload_n 0, 1) := by decide +kernel
theorem dX2_measureTours_30 : decode cX2_measureTours 30 = .ok (.getfield 15, 3) := by decide +kernel
theorem dX2_measureTours_33 : decode cX2_measureTours 33 = .ok (.iload_n 3, 1) := by decide +kernel
theorem dX2_measureTours_34 : decode cX2_measureTours 34 = .ok (.bipush 8, 2) := by decide +kernel
theorem dX2_measureTours_36 : decode cX2_measureTours 36 = .ok (.imul, 1) := by decide +kernel
theorem dX2_measureTours_37 : decode cX2_measureTours 37 = .ok (.iload 4, 2) := by decide +kernel
theorem dX2_measureTours_39 : decode cX2_measureTours 39 = .ok (.iadd, 1) := by decide +kernel
theorem dX2_measureTours_40 : decode cX2_measureTours 40 = .ok (.aload_n 0, 1) := by decide +kernel
theorem dX2_measureTours_41 : decode cX2_measureTours 41 = .ok (.iload 4, 2) := by decide +kernel
theorem dX2_measureTours_43 : decode cX2_measureTours 43 = .ok (.iload_n 3, 1) := by decide +kernel
theorem dX2_measureTours_44 : decode cX2_measureTours 44 = .ok (.iload 4, 2) := by decide +kernel
theorem dX2_measureTours_46 : decode cX2_measureTours 46 = .ok (.invokestatic 22, 3) := by decide +kernel
theorem dX2_measureTours_49 : decode cX2_measureTours 49 = .ok (.invokevirtual 26, 3) := by decide +kernel
theorem dX2_measureTours_52 : decode cX2_measureTours 52 = .ok (.iastore, 1) := by decide +kernel
theorem dX2_measureTours_53 : decode cX2_measureTours 53 = .ok (.iinc 4 1, 3) := by decide +kernel
theorem dX2_measureTours_56 : decode cX2_measureTours 56 = .ok (.goto (-42), 3) := by decide +kernel
theorem dX2_measureTours_59 : decode cX2_measureTours 59 = .ok (.iinc 3 1, 3) := by decide +kernel
theorem dX2_measureTours_62 : decode cX2_measureTours 62 = .ok (.goto (-56), 3) := by decide +kernel
theorem dX2_measureTours_65 : decode cX2_measureTours 65 = .ok (.return_, 1) := by decide +kernel
theorem dX2_leastFrom_0 : decode cX2_leastFrom 0 = .ok (.iload_n 2, 1) := by decide +kernel
theorem dX2_leastFrom_1 : decode cX2_leastFrom 1 = .ok (.ifCond .ne 10, 3) := by decide +kernel
theorem dX2_leastFrom_4 : decode cX2_leastFrom 4 = .ok (.aload_n 0, 1) := by decide +kernel
theorem dX2_leastFrom_5 : decode cX2_leastFrom 5 = .ok (.iload_n 1, 1) := by decide +kernel
theorem dX2_leastFrom_6 : decode cX2_leastFrom 6 = .ok (.iconst (-1), 1) := by decide +kernel
theorem dX2_leastFrom_7 : decode cX2_leastFrom 7 = .ok (.invokevirtual 29, 3) := by decide +kernel
theorem dX2_leastFrom_10 : decode cX2_leastFrom 10 = .ok (.ireturn, 1) := by decide +kernel
theorem dX2_leastFrom_11 : decode cX2_leastFrom 11 = .ok (.aload_n 0, 1) := by decide +kernel
theorem dX2_leastFrom_12 : decode cX2_leastFrom 12 = .ok (.iload_n 1, 1) := by decide +kernel
theorem dX2_leastFrom_13 : decode cX2_leastFrom 13 = .ok (.aload_n 0, 1) := by decide +kernel
theorem dX2_leastFrom_14 : decode cX2_leastFrom 14 = .ok (.iload_n 1, 1) := by decide +kernel
theorem dX2_leastFrom_15 : decode cX2_leastFrom 15 = .ok (.iload_n 2, 1) := by decide +kernel
theorem dX2_leastFrom_16 : decode cX2_leastFrom 16 = .ok (.invokevirtual 32, 3) := by decide +kernel
theorem dX2_leastFrom_19 : decode cX2_leastFrom 19 = .ok (.iload_n 2, 1) := by decide +kernel
theorem dX2_leastFrom_20 : decode cX2_leastFrom 20 = .ok (.invokevirtual 35, 3) := by decide +kernel
theorem dX2_leastFrom_23 : decode cX2_leastFrom 23 = .ok (.ireturn, 1) := by decide +kernel
theorem dX2_nextStop_0 : decode cX2_nextStop 0 = .ok (.iconst (-1), 1) := by decide +kernel
theorem dX2_nextStop_1 : decode cX2_nextStop 1 = .ok (.istore_n 3, 1) := by decide +kernel
theorem dX2_nextStop_2 : decode cX2_nextStop 2 = .ok (.iconst 0, 1) := by decide +kernel
theorem dX2_nextStop_3 : decode cX2_nextStop 3 = .ok (.istore 4, 2) := by decide +kernel
theorem dX2_nextStop_5 : decode cX2_nextStop 5 = .ok (.iconst 0, 1) := by decide +kernel
theorem dX2_nextStop_6 : decode cX2_nextStop 6 = .ok (.istore 5, 2) := by decide +kernel
theorem dX2_nextStop_8 : decode cX2_nextStop 8 = .ok (.iload 5, 2) := by decide +kernel
theorem dX2_nextStop_10 : decode cX2_nextStop 10 = .ok (.bipush 8, 2) := by decide +kernel
theorem dX2_nextStop_12 : decode cX2_nextStop 12 = .ok (.if_icmp .ge 47, 3) := by decide +kernel
theorem dX2_nextStop_15 : decode cX2_nextStop 15 = .ok (.iload_n 2, 1) := by decide +kernel
theorem dX2_nextStop_16 : decode cX2_nextStop 16 = .ok (.iload 5, 2) := by decide +kernel
theorem dX2_nextStop_18 : decode cX2_nextStop 18 = .ok (.invokestatic 18, 3) := by decide +kernel
theorem dX2_nextStop_21 : decode cX2_nextStop 21 = .ok (.ifCond .eq 32, 3) := by decide +kernel
theorem dX2_nextStop_24 : decode cX2_nextStop 24 = .ok (.aload_n 0, 1) := by decide +kernel
theorem dX2_nextStop_25 : decode cX2_nextStop 25 = .ok (.iload_n 1, 1) := by decide +kernel
theorem dX2_nextStop_26 : decode cX2_nextStop 26 = .ok (.iload 5, 2) := by decide +kernel
theorem dX2_nextStop_28 : decode cX2_nextStop 28 = .ok (.iload_n 2, 1) := by decide +kernel
theorem dX2_nextStop_29 : decode cX2_nextStop 29 = .ok (.invokevirtual 35, 3) := by decide +kernel
theorem dX2_nextStop_32 : decode cX2_nextStop 32 = .ok (.istore 6, 2) := by decide +kernel
theorem dX2_nextStop_34 : decode cX2_nextStop 34 = .ok (.iload_n 3, 1) := by decide +kernel
theorem dX2_nextStop_35 : decode cX2_nextStop 35 = .ok (.iconst (-1), 1) := by decide +kernel
theorem dX2_nextStop_36 : decode cX2_nextStop 36 = .ok (.if_icmp .eq 10, 3) := by decide +kernel
theorem dX2_nextStop_39 : decode cX2_nextStop 39 = .ok (.iload 6, 2) := by decide +kernel
theorem dX2_nextStop_41 : decode cX2_nextStop 41 = .ok (.iload 4, 2) := by decide +kernel
theorem dX2_nextStop_43 : decode cX2_nextStop 43 = .ok (.if_icmp .ge 10, 3) := by decide +kernel
theorem dX2_nextStop_46 : decode cX2_nextStop 46 = .ok (.iload 5, 2) := by decide +kernel
theorem dX2_nextStop_48 : decode cX2_nextStop 48 = .ok (.istore_n 3, 1) := by decide +kernel
theorem dX2_nextStop_49 : decode cX2_nextStop 49 = .ok (.iload 6, 2) := by decide +kernel
theorem dX2_nextStop_51 : decode cX2_nextStop 51 = .ok (.istore 4, 2) := by decide +kernel
theorem dX2_nextStop_53 : decode cX2_nextStop 53 = .ok (.iinc 5 1, 3) := by decide +kernel
theorem dX2_nextStop_56 : decode cX2_nextStop 56 = .ok (.goto (-48), 3) := by decide +kernel
theorem dX2_nextStop_59 : decode cX2_nextStop 59 = .ok (.iload_n 3, 1) := by decide +kernel
theorem dX2_nextStop_60 : decode cX2_nextStop 60 = .ok (.ireturn, 1) := by decide +kernel
theorem dX2_leastBy_0 : decode cX2_leastBy 0 = .ok (.aload_n 0, 1) := by decide +kernel
theorem dX2_leastBy_1 : decode cX2_leastBy 1 = .ok (.iload_n 1, 1) := by decide +kernel
theorem dX2_leastBy_2 : decode cX2_leastBy 2 = .ok (.iload_n 2, 1) := by decide +kernel
theorem dX2_leastBy_3 : decode cX2_leastBy 3 = .ok (.invokevirtual 29, 3) := by decide +kernel
theorem dX2_leastBy_6 : decode cX2_leastBy 6 = .ok (.aload_n 0, 1) := by decide +kernel
theorem dX2_leastBy_7 : decode cX2_leastBy 7 = .ok (.getfield 15, 3) := by decide +kernel
theorem dX2_leastBy_10 : decode cX2_leastBy 10 = .ok (.iload_n 3, 1) := by decide +kernel
theorem dX2_leastBy_11 : decode cX2_leastBy 11 = .ok (.bipush 8, 2) := by decide +kernel
theorem dX2_leastBy_13 : decode cX2_leastBy 13 = .ok (.imul, 1) := by decide +kernel
theorem dX2_leastBy_14 : decode cX2_leastBy 14 = .ok (.iload_n 2, 1) := by decide +kernel
theorem dX2_leastBy_15 : decode cX2_leastBy 15 = .ok (.iadd, 1) := by decide +kernel
theorem dX2_leastBy_16 : decode cX2_leastBy 16 = .ok (.iaload, 1) := by decide +kernel
theorem dX2_leastBy_17 : decode cX2_leastBy 17 = .ok (.iadd, 1) := by decide +kernel
theorem dX2_leastBy_18 : decode cX2_leastBy 18 = .ok (.ireturn, 1) := by decide +kernel
theorem dX3_init_0 : decode cX3_init 0 = .ok (.aload_n 0, 1) := by decide +kernel
theorem dX3_init_1 : decode cX3_init 1 = .ok (.invokespecial 1, 3) := by decide +kernel
theorem dX3_init_4 : decode cX3_init 4 = .ok (.aload_n 0, 1) := by decide +kernel
theorem dX3_init_5 : decode cX3_init 5 = .ok (.bipush 100, 2) := by decide +kernel
theorem dX3_init_7 : decode cX3_init 7 = .ok (.putfield 7, 3) := by decide +kernel
theorem dX3_init_10 : decode cX3_init 10 = .ok (.return_, 1) := by decide +kernel
theorem dX3_lacking_0 : decode cX3_lacking 0 = .ok (.aload_n 0, 1) := by decide +kernel
theorem dX3_lacking_1 : decode cX3_lacking 1 = .ok (.getfield 13, 3) := by decide +kernel
theorem dX3_lacking_4 : decode cX3_lacking 4 = .ok (.aload_n 0, 1) := by decide +kernel
theorem dX3_lacking_5 : decode cX3_lacking 5 = .ok (.getfield 16, 3) := by decide +kernel
theorem dX3_lacking_8 : decode cX3_lacking 8 = .ok (.isub, 1) := by decide +kernel
theorem dX3_lacking_9 : decode cX3_lacking 9 = .ok (.ireturn, 1) := by decide +kernel
theorem dX3_fact_0 : decode cX3_fact 0 = .ok (.iload_n 1, 1) := by decide +kernel
theorem dX3_fact_1 : decode cX3_fact 1 = .ok (.tableswitch 60 0 4 #[35, 40, 45, 50, 55], 35) := by decide +kernel
theorem dX3_fact_36 : decode cX3_fact 36 = .ok (.aload_n 0, 1) := by decide +kernel
theorem dX3_fact_37 : decode cX3_fact 37 = .ok (.getfield 13, 3) := by decide +kernel
theorem dX3_fact_40 : decode cX3_fact 40 = .ok (.ireturn, 1) := by decide +kernel
theorem dX3_fact_41 : decode cX3_fact 41 = .ok (.aload_n 0, 1) := by decide +kernel
theorem dX3_fact_42 : decode cX3_fact 42 = .ok (.getfield 16, 3) := by decide +kernel
theorem dX3_fact_45 : decode cX3_fact 45 = .ok (.ireturn, 1) := by decide +kernel
theorem dX3_fact_46 : decode cX3_fact 46 = .ok (.aload_n 0, 1) := by decide +kernel
theorem dX3_fact_47 : decode cX3_fact 47 = .ok (.getfield 7, 3) := by decide +kernel
theorem dX3_fact_50 : decode cX3_fact 50 = .ok (.ireturn, 1) := by decide +kernel
theorem dX3_fact_51 : decode cX3_fact 51 = .ok (.aload_n 0, 1) := by decide +kernel
theorem dX3_fact_52 : decode cX3_fact 52 = .ok (.getfield 19, 3) := by decide +kernel
theorem dX3_fact_55 : decode cX3_fact 55 = .ok (.ireturn, 1) := by decide +kernel
theorem dX3_fact_56 : decode cX3_fact 56 = .ok (.aload_n 0, 1) := by decide +kernel
theorem dX3_fact_57 : decode cX3_fact 57 = .ok (.getfield 22, 3) := by decide +kernel
theorem dX3_fact_60 : decode cX3_fact 60 = .ok (.ireturn, 1) := by decide +kernel
theorem dX3_fact_61 : decode cX3_fact 61 = .ok (.aload_n 0, 1) := by decide +kernel
theorem dX3_fact_62 : decode cX3_fact 62 = .ok (.getfield 25, 3) := by decide +kernel
theorem dX3_fact_65 : decode cX3_fact 65 = .ok (.ireturn, 1) := by decide +kernel
theorem dX4_init_0 : decode cX4_init 0 = .ok (.aload_n 0, 1) := by decide +kernel
theorem dX4_init_1 : decode cX4_init 1 = .ok (.invokespecial 1, 3) := by decide +kernel
theorem dX4_init_4 : decode cX4_init 4 = .ok (.aload_n 0, 1) := by decide +kernel
theorem dX4_init_5 : decode cX4_init 5 = .ok (.new 7, 3) := by decide +kernel
theorem dX4_init_8 : decode cX4_init 8 = .ok (.dup, 1) := by decide +kernel
theorem dX4_init_9 : decode cX4_init 9 = .ok (.invokespecial 9, 3) := by decide +kernel
theorem dX4_init_12 : decode cX4_init 12 = .ok (.putfield 10, 3) := by decide +kernel
theorem dX4_init_15 : decode cX4_init 15 = .ok (.aload_n 0, 1) := by decide +kernel
theorem dX4_init_16 : decode cX4_init 16 = .ok (.new 7, 3) := by decide +kernel
theorem dX4_init_19 : decode cX4_init 19 = .ok (.dup, 1) := by decide +kernel
theorem dX4_init_20 : decode cX4_init 20 = .ok (.invokespecial 9, 3) := by decide +kernel
theorem dX4_init_23 : decode cX4_init 23 = .ok (.putfield 16, 3) := by decide +kernel
theorem dX4_init_26 : decode cX4_init 26 = .ok (.aload_n 0, 1) := by decide +kernel
theorem dX4_init_27 : decode cX4_init 27 = .ok (.new 19, 3) := by decide +kernel
theorem dX4_init_30 : decode cX4_init 30 = .ok (.dup, 1) := by decide +kernel
theorem dX4_init_31 : decode cX4_init 31 = .ok (.invokespecial 21, 3) := by decide +kernel
theorem dX4_init_34 : decode cX4_init 34 = .ok (.putfield 22, 3) := by decide +kernel
theorem dX4_init_37 : decode cX4_init 37 = .ok (.aload_n 0, 1) := by decide +kernel
theorem dX4_init_38 : decode cX4_init 38 = .ok (.bipush 8, 2) := by decide +kernel
theorem dX4_init_40 : decode cX4_init 40 = .ok (.newarray .int, 2) := by decide +kernel
theorem dX4_init_42 : decode cX4_init 42 = .ok (.putfield 26, 3) := by decide +kernel
theorem dX4_init_45 : decode cX4_init 45 = .ok (.aload_n 0, 1) := by decide +kernel
theorem dX4_init_46 : decode cX4_init 46 = .ok (.bipush 8, 2) := by decide +kernel
theorem dX4_init_48 : decode cX4_init 48 = .ok (.newarray .int, 2) := by decide +kernel
theorem dX4_init_50 : decode cX4_init 50 = .ok (.putfield 30, 3) := by decide +kernel
theorem dX4_init_53 : decode cX4_init 53 = .ok (.aload_n 0, 1) := by decide +kernel
theorem dX4_init_54 : decode cX4_init 54 = .ok (.bipush 8, 2) := by decide +kernel
theorem dX4_init_56 : decode cX4_init 56 = .ok (.newarray .int, 2) := by decide +kernel
theorem dX4_init_58 : decode cX4_init 58 = .ok (.putfield 33, 3) := by decide +kernel
theorem dX4_init_61 : decode cX4_init 61 = .ok (.return_, 1) := by decide +kernel
theorem dX4_addMachine_0 : decode cX4_addMachine 0 = .ok (.iload_n 1, 1) := by decide +kernel
theorem dX4_addMachine_1 : decode cX4_addMachine 1 = .ok (.bipush 100, 2) := by decide +kernel
theorem dX4_addMachine_3 : decode cX4_addMachine 3 = .ok (.ldc 36, 2) := by decide +kernel
theorem dX4_addMachine_5 : decode cX4_addMachine 5 = .ok (.invokestatic 37, 3) := by decide +kernel
theorem dX4_addMachine_8 : decode cX4_addMachine 8 = .ok (.ifCond .eq 13, 3) := by decide +kernel
theorem dX4_addMachine_11 : decode cX4_addMachine 11 = .ok (.new 41, 3) := by decide +kernel
theorem dX4_addMachine_14 : decode cX4_addMachine 14 = .ok (.dup, 1) := by decide +kernel
theorem dX4_addMachine_15 : decode cX4_addMachine 15 = .ok (.ldc 43, 2) := by decide +kernel
theorem dX4_addMachine_17 : decode cX4_addMachine 17 = .ok (.invokespecial 45, 3) := by decide +kernel
theorem dX4_addMachine_20 : decode cX4_addMachine 20 = .ok (.athrow, 1) := by decide +kernel
theorem dX4_addMachine_21 : decode cX4_addMachine 21 = .ok (.aload_n 0, 1) := by decide +kernel
theorem dX4_addMachine_22 : decode cX4_addMachine 22 = .ok (.getfield 10, 3) := by decide +kernel
theorem dX4_addMachine_25 : decode cX4_addMachine 25 = .ok (.invokevirtual 48, 3) := by decide +kernel
theorem dX4_addMachine_28 : decode cX4_addMachine 28 = .ok (.bipush 8, 2) := by decide +kernel
theorem dX4_addMachine_30 : decode cX4_addMachine 30 = .ok (.if_icmp .lt 13, 3) := by decide +kernel
theorem dX4_addMachine_33 : decode cX4_addMachine 33 = .ok (.new 52, 3) := by decide +kernel
theorem dX4_addMachine_36 : decode cX4_addMachine 36 = .ok (.dup, 1) := by decide +kernel
theorem dX4_addMachine_37 : decode cX4_addMachine 37 = .ok (.ldc 54, 2) := by decide +kernel
theorem dX4_addMachine_39 : decode cX4_addMachine 39 = .ok (.invokespecial 56, 3) := by decide +kernel
theorem dX4_addMachine_42 : decode cX4_addMachine 42 = .ok (.athrow, 1) := by decide +kernel
theorem dX4_addMachine_43 : decode cX4_addMachine 43 = .ok (.aload_n 0, 1) := by decide +kernel
theorem dX4_addMachine_44 : decode cX4_addMachine 44 = .ok (.getfield 10, 3) := by decide +kernel
theorem dX4_addMachine_47 : decode cX4_addMachine 47 = .ok (.new 57, 3) := by decide +kernel
theorem dX4_addMachine_50 : decode cX4_addMachine 50 = .ok (.dup, 1) := by decide +kernel
theorem dX4_addMachine_51 : decode cX4_addMachine 51 = .ok (.iload_n 1, 1) := by decide +kernel
theorem dX4_addMachine_52 : decode cX4_addMachine 52 = .ok (.invokespecial 59, 3) := by decide +kernel
theorem dX4_addMachine_55 : decode cX4_addMachine 55 = .ok (.invokevirtual 62, 3) := by decide +kernel
theorem dX4_addMachine_58 : decode cX4_addMachine 58 = .ok (.pop, 1) := by decide +kernel
theorem dX4_addMachine_59 : decode cX4_addMachine 59 = .ok (.aload_n 0, 1) := by decide +kernel
theorem dX4_addMachine_60 : decode cX4_addMachine 60 = .ok (.getfield 22, 3) := by decide +kernel
theorem dX4_addMachine_63 : decode cX4_addMachine 63 = .ok (.aload_n 0, 1) := by decide +kernel
theorem dX4_addMachine_64 : decode cX4_addMachine 64 = .ok (.getfield 10, 3) := by decide +kernel
theorem dX4_addMachine_67 : decode cX4_addMachine 67 = .ok (.invokevirtual 48, 3) := by decide +kernel
theorem dX4_addMachine_70 : decode cX4_addMachine 70 = .ok (.invokevirtual 66, 3) := by decide +kernel
theorem dX4_addMachine_73 : decode cX4_addMachine 73 = .ok (.aload_n 0, 1) := by decide +kernel
theorem dX4_addMachine_74 : decode cX4_addMachine 74 = .ok (.getfield 10, 3) := by decide +kernel
theorem dX4_addMachine_77 : decode cX4_addMachine 77 = .ok (.invokevirtual 48, 3) := by decide +kernel
theorem dX4_addMachine_80 : decode cX4_addMachine 80 = .ok (.iconst 1, 1) := by decide +kernel
theorem dX4_addMachine_81 : decode cX4_addMachine 81 = .ok (.isub, 1) := by decide +kernel
theorem dX4_addMachine_82 : decode cX4_addMachine 82 = .ok (.ireturn, 1) := by decide +kernel
theorem dX4_setMinutes_0 : decode cX4_setMinutes 0 = .ok (.aload_n 0, 1) := by decide +kernel
theorem dX4_setMinutes_1 : decode cX4_setMinutes 1 = .ok (.iload_n 1, 1) := by decide +kernel
theorem dX4_setMinutes_2 : decode cX4_setMinutes 2 = .ok (.invokevirtual 69, 3) := by decide +kernel
theorem dX4_setMinutes_5 : decode cX4_setMinutes 5 = .ok (.ifCond .ne 11, 3) := by decide +kernel
theorem dX4_setMinutes_8 : decode cX4_setMinutes 8 = .ok (.aload_n 0, 1) := by decide +kernel
theorem dX4_setMinutes_9 : decode cX4_setMinutes 9 = .ok (.iload_n 2, 1) := by decide +kernel
theorem dX4_setMinutes_10 : decode cX4_setMinutes 10 = .ok (.invokevirtual 69, 3) := by decide +kernel
theorem dX4_setMinutes_13 : decode cX4_setMinutes 13 = .ok (.ifCond .eq 13, 3) := by decide +kernel
theorem dX4_setMinutes_16 : decode cX4_setMinutes 16 = .ok (.new 73, 3) := by decide +kernel
theorem dX4_setMinutes_19 : decode cX4_setMinutes 19 = .ok (.dup, 1) := by decide +kernel
theorem dX4_setMinutes_20 : decode cX4_setMinutes 20 = .ok (.ldc 75, 2) := by decide +kernel
theorem dX4_setMinutes_22 : decode cX4_setMinutes 22 = .ok (.invokespecial 77, 3) := by decide +kernel
theorem dX4_setMinutes_25 : decode cX4_setMinutes 25 = .ok (.athrow, 1) := by decide +kernel
theorem dX4_setMinutes_26 : decode cX4_setMinutes 26 = .ok (.iload_n 1, 1) := by decide +kernel
theorem dX4_setMinutes_27 : decode cX4_setMinutes 27 = .ok (.iload_n 2, 1) := by decide +kernel
theorem dX4_setMinutes_28 : decode cX4_setMinutes 28 = .ok (.if_icmp .ne 13, 3) := by decide +kernel
theorem dX4_setMinutes_31 : decode cX4_setMinutes 31 = .ok (.new 41, 3) := by decide +kernel
theorem dX4_setMinutes_34 : decode cX4_setMinutes 34 = .ok (.dup, 1) := by decide +kernel
theorem dX4_setMinutes_35 : decode cX4_setMinutes 35 = .ok (.ldc 78, 2) := by decide +kernel
theorem dX4_setMinutes_37 : decode cX4_setMinutes 37 = .ok (.invokespecial 45, 3) := by decide +kernel
theorem dX4_setMinutes_40 : decode cX4_setMinutes 40 = .ok (.athrow, 1) := by decide +kernel
theorem dX4_setMinutes_41 : decode cX4_setMinutes 41 = .ok (.iload_n 3, 1) := by decide +kernel
theorem dX4_setMinutes_42 : decode cX4_setMinutes 42 = .ok (.iconst 1, 1) := by decide +kernel
theorem dX4_setMinutes_43 : decode cX4_setMinutes 43 = .ok (.sipush 200, 3) := by decide +kernel
theorem dX4_setMinutes_46 : decode cX4_setMinutes 46 = .ok (.invokestatic 37, 3) := by decide +kernel
theorem dX4_setMinutes_49 : decode cX4_setMinutes 49 = .ok (.ifCond .eq 13, 3) := by decide +kernel
theorem dX4_setMinutes_52 : decode cX4_setMinutes 52 = .ok (.new 41, 3) := by decide +kernel
theorem dX4_setMinutes_55 : decode cX4_setMinutes 55 = .ok (.dup, 1) := by decide +kernel
theorem dX4_setMinutes_56 : decode cX4_setMinutes 56 = .ok (.ldc 80, 2) := by decide +kernel
theorem dX4_setMinutes_58 : decode cX4_setMinutes 58 = .ok (.invokespecial 45, 3) := by decide +kernel
theorem dX4_setMinutes_61 : decode cX4_setMinutes 61 = .ok (.athrow, 1) := by decide +kernel
theorem dX4_setMinutes_62 : decode cX4_setMinutes 62 = .ok (.aload_n 0, 1) := by decide +kernel
theorem dX4_setMinutes_63 : decode cX4_setMinutes 63 = .ok (.getfield 22, 3) := by decide +kernel
theorem dX4_setMinutes_66 : decode cX4_setMinutes 66 = .ok (.iload_n 1, 1) := by decide +kernel
theorem dX4_setMinutes_67 : decode cX4_setMinutes 67 = .ok (.iload_n 2, 1) := by decide +kernel
theorem dX4_setMinutes_68 : decode cX4_setMinutes 68 = .ok (.invokevirtual 82, 3) := by decide +kernel
theorem dX4_setMinutes_71 : decode cX4_setMinutes 71 = .ok (.istore 4, 2) := by decide +kernel
theorem dX4_setMinutes_73 : decode cX4_setMinutes 73 = .ok (.aload_n 0, 1) := by decide +kernel
theorem dX4_setMinutes_74 : decode cX4_setMinutes 74 = .ok (.getfield 22, 3) := by decide +kernel
theorem dX4_setMinutes_77 : decode cX4_setMinutes 77 = .ok (.iload_n 1, 1) := by decide +kernel
theorem dX4_setMinutes_78 : decode cX4_setMinutes 78 = .ok (.iload_n 2, 1) := by decide +kernel
theorem dX4_setMinutes_79 : decode cX4_setMinutes 79 = .ok (.iload_n 3, 1) := by decide +kernel
theorem dX4_setMinutes_80 : decode cX4_setMinutes 80 = .ok (.invokevirtual 86, 3) := by decide +kernel
theorem dX4_setMinutes_83 : decode cX4_setMinutes 83 = .ok (.aload_n 0, 1) := by decide +kernel
theorem dX4_setMinutes_84 : decode cX4_setMinutes 84 = .ok (.getfield 22, 3) := by decide +kernel
theorem dX4_setMinutes_87 : decode cX4_setMinutes 87 = .ok (.aload_n 0, 1) := by decide +kernel
theorem dX4_setMinutes_88 : decode cX4_setMinutes 88 = .ok (.getfield 10, 3) := by decide +kernel
theorem dX4_setMinutes_91 : decode cX4_setMinutes 91 = .ok (.invokevirtual 48, 3) := by decide +kernel
theorem dX4_setMinutes_94 : decode cX4_setMinutes 94 = .ok (.invokevirtual 66, 3) := by decide +kernel
theorem dX4_setMinutes_97 : decode cX4_setMinutes 97 = .ok (.iload 4, 2) := by decide +kernel
theorem dX4_setMinutes_99 : decode cX4_setMinutes 99 = .ok (.ireturn, 1) := by decide +kernel
theorem dX4_setSlot_0 : decode cX4_setSlot 0 = .ok (.aload_n 0, 1) := by decide +kernel
theorem dX4_setSlot_1 : decode cX4_setSlot 1 = .ok (.iload_n 1, 1) := by decide +kernel
theorem dX4_setSlot_2 : decode cX4_setSlot 2 = .ok (.iload_n 2, 1) := by decide +kernel
theorem dX4_setSlot_3 : decode cX4_setSlot 3 = .ok (.invokevirtual 90, 3) := by decide +kernel
theorem dX4_setSlot_6 : decode cX4_setSlot 6 = .ok (.astore 5, 2) := by decide +kernel
theorem dX4_setSlot_8 : decode cX4_setSlot 8 = .ok (.iload_n 3, 1) := by decide +kernel
theorem dX4_setSlot_9 : decode cX4_setSlot 9 = .ok (.iconst 0, 1) := by decide +kernel
theorem dX4_setSlot_10 : decode cX4_setSlot 10 = .ok (.bipush 30, 2) := by decide +kernel
theorem dX4_setSlot_12 : decode cX4_setSlot 12 = .ok (.invokestatic 37, 3) := by decide +kernel
theorem dX4_setSlot_15 : decode cX4_setSlot 15 = .ok (.ifCond .eq 13, 3) := by decide +kernel
theorem dX4_setSlot_18 : decode cX4_setSlot 18 = .ok (.new 41, 3) := by decide +kernel
theorem dX4_setSlot_21 : decode cX4_setSlot 21 = .ok (.dup, 1) := by decide +kernel
theorem dX4_setSlot_22 : decode cX4_setSlot 22 = .ok (.ldc 94, 2) := by decide +kernel
theorem dX4_setSlot_24 : decode cX4_setSlot 24 = .ok (.invokespecial 45, 3) := by decide +kernel
theorem dX4_setSlot_27 : decode cX4_setSlot 27 = .ok (.athrow, 1) := by decide +kernel
theorem dX4_setSlot_28 : decode cX4_setSlot 28 = .ok (.iload 4, 2) := by decide +kernel
theorem dX4_setSlot_30 : decode cX4_setSlot 30 = .ok (.iconst 0, 1) := by decide +kernel
theorem dX4_setSlot_31 : decode cX4_setSlot 31 = .ok (.bipush 20, 2) := by decide +kernel
theorem dX4_setSlot_33 : decode cX4_setSlot 33 = .ok (.invokestatic 37, 3) := by decide +kernel
theorem dX4_setSlot_36 : decode cX4_setSlot 36 = .ok (.ifCond .eq 13, 3) := by decide +kernel
theorem dX4_setSlot_39 : decode cX4_setSlot 39 = .ok (.new 41, 3) := by decide +kernel
theorem dX4_setSlot_42 : decode cX4_setSlot 42 = .ok (.dup, 1) := by decide +kernel
theorem dX4_setSlot_43 : decode cX4_setSlot 43 = .ok (.ldc 96, 2) := by decide +kernel
theorem dX4_setSlot_45 : decode cX4_setSlot 45 = .ok (.invokespecial 45, 3) := by decide +kernel
theorem dX4_setSlot_48 : decode cX4_setSlot 48 = .ok (.athrow, 1) := by decide +kernel
theorem dX4_setSlot_49 : decode cX4_setSlot 49 = .ok (.aload 5, 2) := by decide +kernel
theorem dX4_setSlot_51 : decode cX4_setSlot 51 = .ok (.getfield 98, 3) := by decide +kernel
theorem dX4_setSlot_54 : decode cX4_setSlot 54 = .ok (.istore 6, 2) := by decide +kernel
theorem dX4_setSlot_56 : decode cX4_setSlot 56 = .ok (.aload 5, 2) := by decide +kernel
theorem dX4_setSlot_58 : decode cX4_setSlot 58 = .ok (.iload_n 3, 1) := by decide +kernel
theorem dX4_setSlot_59 : decode cX4_setSlot 59 = .ok (.putfield 98, 3) := by decide +kernel
theorem dX4_setSlot_62 : decode cX4_setSlot 62 = .ok (.aload 5, 2) := by decide +kernel
theorem dX4_setSlot_64 : decode cX4_setSlot 64 = .ok (.aload 5, 2) := by decide +kernel
theorem dX4_setSlot_66 : decode cX4_setSlot 66 = .ok (.getfield 104, 3) := by decide +kernel
theorem dX4_setSlot_69 : decode cX4_setSlot 69 = .ok (.iload_n 3, 1) := by decide +kernel
theorem dX4_setSlot_70 : decode cX4_setSlot 70 = .ok (.invokestatic 107, 3) := by decide +kernel
theorem dX4_setSlot_73 : decode cX4_setSlot 73 = .ok (.putfield 104, 3) := by decide +kernel
theorem dX4_setSlot_76 : decode cX4_setSlot 76 = .ok (.aload 5, 2) := by decide +kernel
theorem dX4_setSlot_78 : decode cX4_setSlot 78 = .ok (.iload 4, 2) := by decide +kernel
theorem dX4_setSlot_80 : decode cX4_setSlot 80 = .ok (.putfield 112, 3) := by decide +kernel
theorem dX4_setSlot_83 : decode cX4_setSlot 83 = .ok (.iload 6, 2) := by decide +kernel
theorem dX4_setSlot_85 : decode cX4_setSlot 85 = .ok (.ireturn, 1) := by decide +kernel
theorem dX4_planPrice_0 : decode cX4_planPrice 0 = .ok (.aload_n 0, 1) := by decide +kernel
theorem dX4_planPrice_1 : decode cX4_planPrice 1 = .ok (.iload_n 1, 1) := by decide +kernel
theorem dX4_planPrice_2 : decode cX4_planPrice 2 = .ok (.iload_n 2, 1) := by decide +kernel
theorem dX4_planPrice_3 : decode cX4_planPrice 3 = .ok (.invokevirtual 90, 3) := by decide +kernel
theorem dX4_planPrice_6 : decode cX4_planPrice 6 = .ok (.astore 5, 2) := by decide +kernel
theorem dX4_planPrice_8 : decode cX4_planPrice 8 = .ok (.iload_n 3, 1) := by decide +kernel
theorem dX4_planPrice_9 : decode cX4_planPrice 9 = .ok (.aload_n 0, 1) := by decide +kernel
theorem dX4_planPrice_10 : decode cX4_planPrice 10 = .ok (.getfield 115, 3) := by decide +kernel
theorem dX4_planPrice_13 : decode cX4_planPrice 13 = .ok (.sipush 999, 3) := by decide +kernel
theorem dX4_planPrice_16 : decode cX4_planPrice 16 = .ok (.invokestatic 37, 3) := by decide +kernel
theorem dX4_planPrice_19 : decode cX4_planPrice 19 = .ok (.ifCond .eq 13, 3) := by decide +kernel
theorem dX4_planPrice_22 : decode cX4_planPrice 22 = .ok (.new 41, 3) := by decide +kernel
theorem dX4_planPrice_25 : decode cX4_planPrice 25 = .ok (.dup, 1) := by decide +kernel
theorem dX4_planPrice_26 : decode cX4_planPrice 26 = .ok (.ldc 118, 2) := by decide +kernel
theorem dX4_planPrice_28 : decode cX4_planPrice 28 = .ok (.invokespecial 45, 3) := by decide +kernel
theorem dX4_planPrice_31 : decode cX4_planPrice 31 = .ok (.athrow, 1) := by decide +kernel
theorem dX4_planPrice_32 : decode cX4_planPrice 32 = .ok (.iload 4, 2) := by decide +kernel
theorem dX4_planPrice_34 : decode cX4_planPrice 34 = .ok (.iconst 1, 1) := by decide +kernel
theorem dX4_planPrice_35 : decode cX4_planPrice 35 = .ok (.sipush 1000, 3) := by decide +kernel
theorem dX4_planPrice_38 : decode cX4_planPrice 38 = .ok (.invokestatic 37, 3) := by decide +kernel
theorem dX4_planPrice_41 : decode cX4_planPrice 41 = .ok (.ifCond .eq 13, 3) := by decide +kernel
theorem dX4_planPrice_44 : decode cX4_planPrice 44 = .ok (.new 41, 3) := by decide +kernel
theorem dX4_planPrice_47 : decode cX4_planPrice 47 = .ok (.dup, 1) := by decide +kernel
theorem dX4_planPrice_48 : decode cX4_planPrice 48 = .ok (.ldc 120, 2) := by decide +kernel
theorem dX4_planPrice_50 : decode cX4_planPrice 50 = .ok (.invokespecial 45, 3) := by decide +kernel
theorem dX4_planPrice_53 : decode cX4_planPrice 53 = .ok (.athrow, 1) := by decide +kernel
theorem dX4_planPrice_54 : decode cX4_planPrice 54 = .ok (.iload_n 3, 1) := by decide +kernel
theorem dX4_planPrice_55 : decode cX4_planPrice 55 = .ok (.aload_n 0, 1) := by decide +kernel
theorem dX4_planPrice_56 : decode cX4_planPrice 56 = .ok (.getfield 115, 3) := by decide +kernel
theorem dX4_planPrice_59 : decode cX4_planPrice 59 = .ok (.if_icmp .ne 18, 3) := by decide +kernel
theorem dX4_planPrice_62 : decode cX4_planPrice 62 = .ok (.aload 5, 2) := by decide +kernel
theorem dX4_planPrice_64 : decode cX4_planPrice 64 = .ok (.iload 4, 2) := by decide +kernel
theorem dX4_planPrice_66 : decode cX4_planPrice 66 = .ok (.putfield 122, 3) := by decide +kernel
theorem dX4_planPrice_69 : decode cX4_planPrice 69 = .ok (.aload_n 0, 1) := by decide +kernel
theorem dX4_planPrice_70 : decode cX4_planPrice 70 = .ok (.getfield 16, 3) := by decide +kernel
theorem dX4_planPrice_73 : decode cX4_planPrice 73 = .ok (.invokevirtual 48, 3) := by decide +kernel
theorem dX4_planPrice_76 : decode cX4_planPrice 76 = .ok (.ireturn, 1) := by decide +kernel
theorem dX4_planPrice_77 : decode cX4_planPrice 77 = .ok (.aload_n 0, 1) := by decide +kernel
theorem dX4_planPrice_78 : decode cX4_planPrice 78 = .ok (.getfield 16, 3) := by decide +kernel
theorem dX4_planPrice_81 : decode cX4_planPrice 81 = .ok (.invokevirtual 48, 3) := by decide +kernel
theorem dX4_planPrice_84 : decode cX4_planPrice 84 = .ok (.bipush 20, 2) := by decide +kernel
theorem dX4_planPrice_86 : decode cX4_planPrice 86 = .ok (.if_icmp .lt 13, 3) := by decide +kernel
theorem dX4_planPrice_89 : decode cX4_planPrice 89 = .ok (.new 52, 3) := by decide +kernel
theorem dX4_planPrice_92 : decode cX4_planPrice 92 = .ok (.dup, 1) := by decide +kernel
theorem dX4_planPrice_93 : decode cX4_planPrice 93 = .ok (.ldc 125, 2) := by decide +kernel
theorem dX4_planPrice_95 : decode cX4_planPrice 95 = .ok (.invokespecial 56, 3) := by decide +kernel
theorem dX4_planPrice_98 : decode cX4_planPrice 98 = .ok (.athrow, 1) := by decide +kernel
theorem dX4_planPrice_99 : decode cX4_planPrice 99 = .ok (.aload_n 0, 1) := by decide +kernel
theorem dX4_planPrice_100 : decode cX4_planPrice 100 = .ok (.getfield 16, 3) := by decide +kernel
theorem dX4_planPrice_103 : decode cX4_planPrice 103 = .ok (.new 127, 3) := by decide +kernel
theorem dX4_planPrice_106 : decode cX4_planPrice 106 = .ok (.dup, 1) := by decide +kernel
theorem dX4_planPrice_107 : decode cX4_planPrice 107 = .ok (.aload 5, 2) := by decide +kernel
theorem dX4_planPrice_109 : decode cX4_planPrice 109 = .ok (.iload_n 3, 1) := by decide +kernel
theorem dX4_planPrice_110 : decode cX4_planPrice 110 = .ok (.iload 4, 2) := by decide +kernel
theorem dX4_planPrice_112 : decode cX4_planPrice 112 = .ok (.invokespecial 129, 3) := by decide +kernel
theorem dX4_planPrice_115 : decode cX4_planPrice 115 = .ok (.invokevirtual 62, 3) := by decide +kernel
theorem dX4_planPrice_118 : decode cX4_planPrice 118 = .ok (.pop, 1) := by decide +kernel
theorem dX4_planPrice_119 : decode cX4_planPrice 119 = .ok (.aload_n 0, 1) := by decide +kernel
theorem dX4_planPrice_120 : decode cX4_planPrice 120 = .ok (.getfield 16, 3) := by decide +kernel
theorem dX4_planPrice_123 : decode cX4_planPrice 123 = .ok (.invokevirtual 48, 3) := by decide +kernel
theorem dX4_planPrice_126 : decode cX4_planPrice 126 = .ok (.ireturn, 1) := by decide +kernel
theorem dX4_machineCount_0 : decode cX4_machineCount 0 = .ok (.aload_n 0, 1) := by decide +kernel
theorem dX4_machineCount_1 : decode cX4_machineCount 1 = .ok (.getfield 10, 3) := by decide +kernel
theorem dX4_machineCount_4 : decode cX4_machineCount 4 = .ok (.invokevirtual 48, 3) := by decide +kernel
theorem dX4_machineCount_7 : decode cX4_machineCount 7 = .ok (.ireturn, 1) := by decide +kernel
theorem dX4_slot_0 : decode cX4_slot 0 = .ok (.aload_n 0, 1) := by decide +kernel
theorem dX4_slot_1 : decode cX4_slot 1 = .ok (.iload_n 1, 1) := by decide +kernel
theorem dX4_slot_2 : decode cX4_slot 2 = .ok (.iload_n 2, 1) := by decide +kernel
theorem dX4_slot_3 : decode cX4_slot 3 = .ok (.invokevirtual 90, 3) := by decide +kernel
theorem dX4_slot_6 : decode cX4_slot 6 = .ok (.astore 4, 2) := by decide +kernel
theorem dX4_slot_8 : decode cX4_slot 8 = .ok (.iload_n 3, 1) := by decide +kernel
theorem dX4_slot_9 : decode cX4_slot 9 = .ok (.iconst 0, 1) := by decide +kernel
theorem dX4_slot_10 : decode cX4_slot 10 = .ok (.iconst 5, 1) := by decide +kernel
theorem dX4_slot_11 : decode cX4_slot 11 = .ok (.invokestatic 37, 3) := by decide +kernel
theorem dX4_slot_14 : decode cX4_slot 14 = .ok (.ifCond .eq 13, 3) := by decide +kernel
theorem dX4_slot_17 : decode cX4_slot 17 = .ok (.new 73, 3) := by decide +kernel
theorem dX4_slot_20 : decode cX4_slot 20 = .ok (.dup, 1) := by decide +kernel
theorem dX4_slot_21 : decode cX4_slot 21 = .ok (.ldc 132, 2) := by decide +kernel
theorem dX4_slot_23 : decode cX4_slot 23 = .ok (.invokespecial 77, 3) := by decide +kernel
theorem dX4_slot_26 : decode cX4_slot 26 = .ok (.athrow, 1) := by decide +kernel
theorem dX4_slot_27 : decode cX4_slot 27 = .ok (.aload 4, 2) := by decide +kernel
theorem dX4_slot_29 : decode cX4_slot 29 = .ok (.iload_n 3, 1) := by decide +kernel
theorem dX4_slot_30 : decode cX4_slot 30 = .ok (.invokevirtual 134, 3) := by decide +kernel
theorem dX4_slot_33 : decode cX4_slot 33 = .ok (.ireturn, 1) := by decide +kernel
theorem dX4_machine_0 : decode cX4_machine 0 = .ok (.aload_n 0, 1) := by decide +kernel
theorem dX4_machine_1 : decode cX4_machine 1 = .ok (.iload_n 1, 1) := by decide +kernel
theorem dX4_machine_2 : decode cX4_machine 2 = .ok (.invokevirtual 138, 3) := by decide +kernel
theorem dX4_machine_5 : decode cX4_machine 5 = .ok (.astore_n 3, 1) := by decide +kernel
theorem dX4_machine_6 : decode cX4_machine 6 = .ok (.iload_n 2, 1) := by decide +kernel
theorem dX4_machine_7 : decode cX4_machine 7 = .ok (.iconst 0, 1) := by decide +kernel
theorem dX4_machine_8 : decode cX4_machine 8 = .ok (.iconst 4, 1) := by decide +kernel
theorem dX4_machine_9 : decode cX4_machine 9 = .ok (.invokestatic 37, 3) := by decide +kernel
theorem dX4_machine_12 : decode cX4_machine 12 = .ok (.ifCond .eq 13, 3) := by decide +kernel
theorem dX4_machine_15 : decode cX4_machine 15 = .ok (.new 73, 3) := by decide +kernel
theorem dX4_machine_18 : decode cX4_machine 18 = .ok (.dup, 1) := by decide +kernel
theorem dX4_machine_19 : decode cX4_machine 19 = .ok (.ldc 142, 2) := by decide +kernel
theorem dX4_machine_21 : decode cX4_machine 21 = .ok (.invokespecial 77, 3) := by decide +kernel
theorem dX4_machine_24 : decode cX4_machine 24 = .ok (.athrow, 1) := by decide +kernel
theorem dX4_machine_25 : decode cX4_machine 25 = .ok (.aload_n 3, 1) := by decide +kernel
theorem dX4_machine_26 : decode cX4_machine 26 = .ok (.iload_n 2, 1) := by decide +kernel
theorem dX4_machine_27 : decode cX4_machine 27 = .ok (.invokevirtual 144, 3) := by decide +kernel
theorem dX4_machine_30 : decode cX4_machine 30 = .ok (.ireturn, 1) := by decide +kernel
theorem dX4_runsOut_0 : decode cX4_runsOut 0 = .ok (.aload_n 0, 1) := by decide +kernel
theorem dX4_runsOut_1 : decode cX4_runsOut 1 = .ok (.iload_n 1, 1) := by decide +kernel
theorem dX4_runsOut_2 : decode cX4_runsOut 2 = .ok (.iload_n 2, 1) := by decide +kernel
theorem dX4_runsOut_3 : decode cX4_runsOut 3 = .ok (.invokevirtual 90, 3) := by decide +kernel
theorem dX4_runsOut_6 : decode cX4_runsOut 6 = .ok (.astore_n 3, 1) := by decide +kernel
theorem dX4_runsOut_7 : decode cX4_runsOut 7 = .ok (.aload_n 3, 1) := by decide +kernel
theorem dX4_runsOut_8 : decode cX4_runsOut 8 = .ok (.getfield 104, 3) := by decide +kernel
theorem dX4_runsOut_11 : decode cX4_runsOut 11 = .ok (.ifCond .le 10, 3) := by decide +kernel
theorem dX4_runsOut_14 : decode cX4_runsOut 14 = .ok (.aload_n 3, 1) := by decide +kernel
theorem dX4_runsOut_15 : decode cX4_runsOut 15 = .ok (.getfield 112, 3) := by decide +kernel
theorem dX4_runsOut_18 : decode cX4_runsOut 18 = .ok (.ifCond .gt 5, 3) := by decide +kernel
theorem dX4_runsOut_21 : decode cX4_runsOut 21 = .ok (.iconst (-1), 1) := by decide +kernel
theorem dX4_runsOut_22 : decode cX4_runsOut 22 = .ok (.ireturn, 1) := by decide +kernel
theorem dX4_runsOut_23 : decode cX4_runsOut 23 = .ok (.aload_n 0, 1) := by decide +kernel
theorem dX4_runsOut_24 : decode cX4_runsOut 24 = .ok (.getfield 115, 3) := by decide +kernel
theorem dX4_runsOut_27 : decode cX4_runsOut 27 = .ok (.aload_n 3, 1) := by decide +kernel
theorem dX4_runsOut_28 : decode cX4_runsOut 28 = .ok (.getfield 104, 3) := by decide +kernel
theorem dX4_runsOut_31 : decode cX4_runsOut 31 = .ok (.iconst 1, 1) := by decide +kernel
theorem dX4_runsOut_32 : decode cX4_runsOut 32 = .ok (.isub, 1) := by decide +kernel
theorem dX4_runsOut_33 : decode cX4_runsOut 33 = .ok (.aload_n 3, 1) := by decide +kernel
theorem dX4_runsOut_34 : decode cX4_runsOut 34 = .ok (.getfield 112, 3) := by decide +kernel
theorem dX4_runsOut_37 : decode cX4_runsOut 37 = .ok (.idiv, 1) := by decide +kernel
theorem dX4_runsOut_38 : decode cX4_runsOut 38 = .ok (.iadd, 1) := by decide +kernel
theorem dX4_runsOut_39 : decode cX4_runsOut 39 = .ok (.ireturn, 1) := by decide +kernel
theorem dX4_pass_0 : decode cX4_pass 0 = .ok (.iload_n 1, 1) := by decide +kernel
theorem dX4_pass_1 : decode cX4_pass 1 = .ok (.iconst 1, 1) := by decide +kernel
theorem dX4_pass_2 : decode cX4_pass 2 = .ok (.bipush 30, 2) := by decide +kernel
theorem dX4_pass_4 : decode cX4_pass 4 = .ok (.invokestatic 37, 3) := by decide +kernel
theorem dX4_pass_7 : decode cX4_pass 7 = .ok (.ifCond .eq 13, 3) := by decide +kernel
theorem dX4_pass_10 : decode cX4_pass 10 = .ok (.new 41, 3) := by decide +kernel
theorem dX4_pass_13 : decode cX4_pass 13 = .ok (.dup, 1) := by decide +kernel
theorem dX4_pass_14 : decode cX4_pass 14 = .ok (.ldc 145, 2) := by decide +kernel
theorem dX4_pass_16 : decode cX4_pass 16 = .ok (.invokespecial 45, 3) := by decide +kernel
theorem dX4_pass_19 : decode cX4_pass 19 = .ok (.athrow, 1) := by decide +kernel
theorem dX4_pass_20 : decode cX4_pass 20 = .ok (.aload_n 0, 1) := by decide +kernel
theorem dX4_pass_21 : decode cX4_pass 21 = .ok (.getfield 115, 3) := by decide +kernel
theorem dX4_pass_24 : decode cX4_pass 24 = .ok (.iload_n 1, 1) := by decide +kernel
theorem dX4_pass_25 : decode cX4_pass 25 = .ok (.iadd, 1) := by decide +kernel
theorem dX4_pass_26 : decode cX4_pass 26 = .ok (.sipush 999, 3) := by decide +kernel
theorem dX4_pass_29 : decode cX4_pass 29 = .ok (.if_icmp .le 13, 3) := by decide +kernel
theorem dX4_pass_32 : decode cX4_pass 32 = .ok (.new 52, 3) := by decide +kernel
theorem dX4_pass_35 : decode cX4_pass 35 = .ok (.dup, 1) := by decide +kernel
theorem dX4_pass_36 : decode cX4_pass 36 = .ok (.ldc 147, 2) := by decide +kernel
theorem dX4_pass_38 : decode cX4_pass 38 = .ok (.invokespecial 56, 3) := by decide +kernel
theorem dX4_pass_41 : decode cX4_pass 41 = .ok (.athrow, 1) := by decide +kernel
theorem dX4_pass_42 : decode cX4_pass 42 = .ok (.iconst 0, 1) := by decide +kernel
theorem dX4_pass_43 : decode cX4_pass 43 = .ok (.istore_n 2, 1) := by decide +kernel
theorem dX4_pass_44 : decode cX4_pass 44 = .ok (.iconst 0, 1) := by decide +kernel
theorem dX4_pass_45 : decode cX4_pass 45 = .ok (.istore_n 3, 1) := by decide +kernel
theorem dX4_pass_46 : decode cX4_pass 46 = .ok (.iload_n 3, 1) := by decide +kernel
theorem dX4_pass_47 : decode cX4_pass 47 = .ok (.iload_n 1, 1) := by decide +kernel
theorem dX4_pass_48 : decode cX4_pass 48 = .ok (.if_icmp .ge 30, 3) := by decide +kernel
theorem dX4_pass_51 : decode cX4_pass 51 = .ok (.iload_n 2, 1) := by decide +kernel
theorem dX4_pass_52 : decode cX4_pass 52 = .ok (.aload_n 0, 1) := by decide +kernel
theorem dX4_pass_53 : decode cX4_pass 53 = .ok (.invokevirtual 149, 3) := by decide +kernel
theorem dX4_pass_56 : decode cX4_pass 56 = .ok (.iadd, 1) := by decide +kernel
theorem dX4_pass_57 : decode cX4_pass 57 = .ok (.istore_n 2, 1) := by decide +kernel
theorem dX4_pass_58 : decode cX4_pass 58 = .ok (.aload_n 0, 1) := by decide +kernel
theorem dX4_pass_59 : decode cX4_pass 59 = .ok (.dup, 1) := by decide +kernel
theorem dX4_pass_60 : decode cX4_pass 60 = .ok (.getfield 115, 3) := by decide +kernel
theorem dX4_pass_63 : decode cX4_pass 63 = .ok (.iconst 1, 1) := by decide +kernel
theorem dX4_pass_64 : decode cX4_pass 64 = .ok (.iadd, 1) := by decide +kernel
theorem dX4_pass_65 : decode cX4_pass 65 = .ok (.putfield 115, 3) := by decide +kernel
theorem dX4_pass_68 : decode cX4_pass 68 = .ok (.aload_n 0, 1) := by decide +kernel
theorem dX4_pass_69 : decode cX4_pass 69 = .ok (.invokevirtual 152, 3) := by decide +kernel
theorem dX4_pass_72 : decode cX4_pass 72 = .ok (.iinc 3 1, 3) := by decide +kernel
theorem dX4_pass_75 : decode cX4_pass 75 = .ok (.goto (-29), 3) := by decide +kernel
theorem dX4_pass_78 : decode cX4_pass 78 = .ok (.iload_n 2, 1) := by decide +kernel
theorem dX4_pass_79 : decode cX4_pass 79 = .ok (.ireturn, 1) := by decide +kernel
theorem dX4_today_0 : decode cX4_today 0 = .ok (.aload_n 0, 1) := by decide +kernel
theorem dX4_today_1 : decode cX4_today 1 = .ok (.getfield 115, 3) := by decide +kernel
theorem dX4_today_4 : decode cX4_today 4 = .ok (.ireturn, 1) := by decide +kernel
theorem dX4_planned_0 : decode cX4_planned 0 = .ok (.aload_n 0, 1) := by decide +kernel
theorem dX4_planned_1 : decode cX4_planned 1 = .ok (.getfield 16, 3) := by decide +kernel
theorem dX4_planned_4 : decode cX4_planned 4 = .ok (.invokevirtual 48, 3) := by decide +kernel
theorem dX4_planned_7 : decode cX4_planned 7 = .ok (.ireturn, 1) := by decide +kernel
theorem dX4_drive_0 : decode cX4_drive 0 = .ok (.aload_n 0, 1) := by decide +kernel
theorem dX4_drive_1 : decode cX4_drive 1 = .ok (.iload_n 1, 1) := by decide +kernel
theorem dX4_drive_2 : decode cX4_drive 2 = .ok (.invokevirtual 155, 3) := by decide +kernel
theorem dX4_drive_5 : decode cX4_drive 5 = .ok (.aload_n 0, 1) := by decide +kernel
theorem dX4_drive_6 : decode cX4_drive 6 = .ok (.getfield 22, 3) := by decide +kernel
theorem dX4_drive_9 : decode cX4_drive 9 = .ok (.iconst (-1), 1) := by decide +kernel
theorem dX4_drive_10 : decode cX4_drive 10 = .ok (.iload_n 1, 1) := by decide +kernel
theorem dX4_drive_11 : decode cX4_drive 11 = .ok (.invokevirtual 158, 3) := by decide +kernel
theorem dX4_drive_14 : decode cX4_drive 14 = .ok (.ireturn, 1) := by decide +kernel
theorem dX4_visit_0 : decode cX4_visit 0 = .ok (.aload_n 0, 1) := by decide +kernel
theorem dX4_visit_1 : decode cX4_visit 1 = .ok (.iload_n 1, 1) := by decide +kernel
theorem dX4_visit_2 : decode cX4_visit 2 = .ok (.invokevirtual 155, 3) := by decide +kernel
theorem dX4_visit_5 : decode cX4_visit 5 = .ok (.iload_n 2, 1) := by decide +kernel
theorem dX4_visit_6 : decode cX4_visit 6 = .ok (.iconst 0, 1) := by decide +kernel
theorem dX4_visit_7 : decode cX4_visit 7 = .ok (.iload_n 1, 1) := by decide +kernel
theorem dX4_visit_8 : decode cX4_visit 8 = .ok (.invokestatic 161, 3) := by decide +kernel
theorem dX4_visit_11 : decode cX4_visit 11 = .ok (.iconst 1, 1) := by decide +kernel
theorem dX4_visit_12 : decode cX4_visit 12 = .ok (.isub, 1) := by decide +kernel
theorem dX4_visit_13 : decode cX4_visit 13 = .ok (.invokestatic 37, 3) := by decide +kernel
theorem dX4_visit_16 : decode cX4_visit 16 = .ok (.ifCond .eq 13, 3) := by decide +kernel
theorem dX4_visit_19 : decode cX4_visit 19 = .ok (.new 73, 3) := by decide +kernel
theorem dX4_visit_22 : decode cX4_visit 22 = .ok (.dup, 1) := by decide +kernel
theorem dX4_visit_23 : decode cX4_visit 23 = .ok (.ldc 166, 2) := by decide +kernel
theorem dX4_visit_25 : decode cX4_visit 25 = .ok (.invokespecial 77, 3) := by decide +kernel
theorem dX4_visit_28 : decode cX4_visit 28 = .ok (.athrow, 1) := by decide +kernel
theorem dX4_visit_29 : decode cX4_visit 29 = .ok (.iconst (-1), 1) := by decide +kernel
theorem dX4_visit_30 : decode cX4_visit 30 = .ok (.istore_n 3, 1) := by decide +kernel
theorem dX4_visit_31 : decode cX4_visit 31 = .ok (.iload_n 1, 1) := by decide +kernel
theorem dX4_visit_32 : decode cX4_visit 32 = .ok (.istore 4, 2) := by decide +kernel
theorem dX4_visit_34 : decode cX4_visit 34 = .ok (.iconst 0, 1) := by decide +kernel
theorem dX4_visit_35 : decode cX4_visit 35 = .ok (.istore 5, 2) := by decide +kernel
theorem dX4_visit_37 : decode cX4_visit 37 = .ok (.iload 5, 2) := by decide +kernel
theorem dX4_visit_39 : decode cX4_visit 39 = .ok (.iload_n 2, 1) := by decide +kernel
theorem dX4_visit_40 : decode cX4_visit 40 = .ok (.if_icmp .gt 28, 3) := by decide +kernel
theorem dX4_visit_43 : decode cX4_visit 43 = .ok (.aload_n 0, 1) := by decide +kernel
theorem dX4_visit_44 : decode cX4_visit 44 = .ok (.getfield 22, 3) := by decide +kernel
theorem dX4_visit_47 : decode cX4_visit 47 = .ok (.iload_n 3, 1) := by decide +kernel
theorem dX4_visit_48 : decode cX4_visit 48 = .ok (.iload 4, 2) := by decide +kernel
theorem dX4_visit_50 : decode cX4_visit 50 = .ok (.invokevirtual 168, 3) := by decide +kernel
theorem dX4_visit_53 : decode cX4_visit 53 = .ok (.istore_n 3, 1) := by decide +kernel
theorem dX4_visit_54 : decode cX4_visit 54 = .ok (.iload 4, 2) := by decide +kernel
theorem dX4_visit_56 : decode cX4_visit 56 = .ok (.iload_n 3, 1) := by decide +kernel
theorem dX4_visit_57 : decode cX4_visit 57 = .ok (.invokestatic 171, 3) := by decide +kernel
theorem dX4_visit_60 : decode cX4_visit 60 = .ok (.istore 4, 2) := by decide +kernel
theorem dX4_visit_62 : decode cX4_visit 62 = .ok (.iinc 5 1, 3) := by decide +kernel
theorem dX4_visit_65 : decode cX4_visit 65 = .ok (.goto (-28), 3) := by decide +kernel
theorem dX4_visit_68 : decode cX4_visit 68 = .ok (.iload_n 3, 1) := by decide +kernel
theorem dX4_visit_69 : decode cX4_visit 69 = .ok (.ireturn, 1) := by decide +kernel
theorem dX4_minutes_0 : decode cX4_minutes 0 = .ok (.aload_n 0, 1) := by decide +kernel
theorem dX4_minutes_1 : decode cX4_minutes 1 = .ok (.iload_n 1, 1) := by decide +kernel
theorem dX4_minutes_2 : decode cX4_minutes 2 = .ok (.invokevirtual 155, 3) := by decide +kernel
theorem dX4_minutes_5 : decode cX4_minutes 5 = .ok (.aload_n 0, 1) := by decide +kernel
theorem dX4_minutes_6 : decode cX4_minutes 6 = .ok (.invokevirtual 174, 3) := by decide +kernel
theorem dX4_minutes_9 : decode cX4_minutes 9 = .ok (.aload_n 0, 1) := by decide +kernel
theorem dX4_minutes_10 : decode cX4_minutes 10 = .ok (.iload_n 1, 1) := by decide +kernel
theorem dX4_minutes_11 : decode cX4_minutes 11 = .ok (.invokevirtual 177, 3) := by decide +kernel
theorem dX4_minutes_14 : decode cX4_minutes 14 = .ok (.ireturn, 1) := by decide +kernel
theorem dX4_best_0 : decode cX4_best 0 = .ok (.iload_n 1, 1) := by decide +kernel
theorem dX4_best_1 : decode cX4_best 1 = .ok (.iconst 0, 1) := by decide +kernel
theorem dX4_best_2 : decode cX4_best 2 = .ok (.sipush 5000, 3) := by decide +kernel
theorem dX4_best_5 : decode cX4_best 5 = .ok (.invokestatic 37, 3) := by decide +kernel
theorem dX4_best_8 : decode cX4_best 8 = .ok (.ifCond .eq 13, 3) := by decide +kernel
theorem dX4_best_11 : decode cX4_best 11 = .ok (.new 41, 3) := by decide +kernel
theorem dX4_best_14 : decode cX4_best 14 = .ok (.dup, 1) := by decide +kernel
theorem dX4_best_15 : decode cX4_best 15 = .ok (.ldc 180, 2) := by decide +kernel
theorem dX4_best_17 : decode cX4_best 17 = .ok (.invokespecial 45, 3) := by decide +kernel
theorem dX4_best_20 : decode cX4_best 20 = .ok (.athrow, 1) := by decide +kernel
theorem dX4_best_21 : decode cX4_best 21 = .ok (.iload_n 2, 1) := by decide +kernel
theorem dX4_best_22 : decode cX4_best 22 = .ok (.invokestatic 182, 3) := by decide +kernel
theorem dX4_best_25 : decode cX4_best 25 = .ok (.aload_n 0, 1) := by decide +kernel
theorem dX4_best_26 : decode cX4_best 26 = .ok (.invokevirtual 174, 3) := by decide +kernel
theorem dX4_best_29 : decode cX4_best 29 = .ok (.iconst 0, 1) := by decide +kernel
theorem dX4_best_30 : decode cX4_best 30 = .ok (.istore_n 3, 1) := by decide +kernel
theorem dX4_best_31 : decode cX4_best 31 = .ok (.iconst 0, 1) := by decide +kernel
theorem dX4_best_32 : decode cX4_best 32 = .ok (.istore 4, 2) := by decide +kernel
theorem dX4_best_34 : decode cX4_best 34 = .ok (.iconst 0, 1) := by decide +kernel
theorem dX4_best_35 : decode cX4_best 35 = .ok (.istore 5, 2) := by decide +kernel
theorem dX4_best_37 : decode cX4_best 37 = .ok (.iconst 1, 1) := by decide +kernel
theorem dX4_best_38 : decode cX4_best 38 = .ok (.aload_n 0, 1) := by decide +kernel
theorem dX4_best_39 : decode cX4_best 39 = .ok (.getfield 10, 3) := by decide +kernel
theorem dX4_best_42 : decode cX4_best 42 = .ok (.invokevirtual 48, 3) := by decide +kernel
theorem dX4_best_45 : decode cX4_best 45 = .ok (.ishl, 1) := by decide +kernel
theorem dX4_best_46 : decode cX4_best 46 = .ok (.istore 6, 2) := by decide +kernel
theorem dX4_best_48 : decode cX4_best 48 = .ok (.iconst 1, 1) := by decide +kernel
theorem dX4_best_49 : decode cX4_best 49 = .ok (.istore 7, 2) := by decide +kernel
theorem dX4_best_51 : decode cX4_best 51 = .ok (.iload 7, 2) := by decide +kernel
theorem dX4_best_53 : decode cX4_best 53 = .ok (.iload 6, 2) := by decide +kernel
theorem dX4_best_55 : decode cX4_best 55 = .ok (.if_icmp .ge 91, 3) := by decide +kernel
theorem dX4_best_58 : decode cX4_best 58 = .ok (.aload_n 0, 1) := by decide +kernel
theorem dX4_best_59 : decode cX4_best 59 = .ok (.iload 7, 2) := by decide +kernel
theorem dX4_best_61 : decode cX4_best 61 = .ok (.invokevirtual 177, 3) := by decide +kernel
theorem dX4_best_64 : decode cX4_best 64 = .ok (.istore 8, 2) := by decide +kernel
theorem dX4_best_66 : decode cX4_best 66 = .ok (.iload 7, 2) := by decide +kernel
theorem dX4_best_68 : decode cX4_best 68 = .ok (.aload_n 0, 1) := by decide +kernel
theorem dX4_best_69 : decode cX4_best 69 = .ok (.getfield 33, 3) := by decide +kernel
theorem dX4_best_72 : decode cX4_best 72 = .ok (.invokestatic 185, 3) := by decide +kernel
theorem dX4_best_75 : decode cX4_best 75 = .ok (.istore 9, 2) := by decide +kernel
theorem dX4_best_77 : decode cX4_best 77 = .ok (.iload 8, 2) := by decide +kernel
theorem dX4_best_79 : decode cX4_best 79 = .ok (.iload_n 1, 1) := by decide +kernel
theorem dX4_best_80 : decode cX4_best 80 = .ok (.if_icmp .gt 20, 3) := by decide +kernel
theorem dX4_best_83 : decode cX4_best 83 = .ok (.iload 7, 2) := by decide +kernel
theorem dX4_best_85 : decode cX4_best 85 = .ok (.aload_n 0, 1) := by decide +kernel
theorem dX4_best_86 : decode cX4_best 86 = .ok (.getfield 30, 3) := by decide +kernel
theorem dX4_best_89 : decode cX4_best 89 = .ok (.invokestatic 185, 3) := by decide +kernel
theorem dX4_best_92 : decode cX4_best 92 = .ok (.iload_n 2, 1) := by decide +kernel
theorem dX4_best_93 : decode cX4_best 93 = .ok (.if_icmp .gt 7, 3) := by decide +kernel
theorem dX4_best_96 : decode cX4_best 96 = .ok (.iconst 1, 1) := by decide +kernel
theorem dX4_best_97 : decode cX4_best 97 = .ok (.goto 4, 3) := by decide +kernel
theorem dX4_best_100 : decode cX4_best 100 = .ok (.iconst 0, 1) := by decide +kernel
theorem dX4_best_101 : decode cX4_best 101 = .ok (.istore 10, 2) := by decide +kernel
theorem dX4_best_103 : decode cX4_best 103 = .ok (.iload 10, 2) := by decide +kernel
theorem dX4_best_105 : decode cX4_best 105 = .ok (.ifCond .eq 35, 3) := by decide +kernel
theorem dX4_best_108 : decode cX4_best 108 = .ok (.iload 9, 2) := by decide +kernel
theorem dX4_best_110 : decode cX4_best 110 = .ok (.iload 4, 2) := by decide +kernel
theorem dX4_best_112 : decode cX4_best 112 = .ok (.if_icmp .gt 17, 3) := by decide +kernel
theorem dX4_best_115 : decode cX4_best 115 = .ok (.iload 9, 2) := by decide +kernel
theorem dX4_best_117 : decode cX4_best 117 = .ok (.iload 4, 2) := by decide +kernel
theorem dX4_best_119 : decode cX4_best 119 = .ok (.if_icmp .ne 21, 3) := by decide +kernel
theorem dX4_best_122 : decode cX4_best 122 = .ok (.iload 8, 2) := by decide +kernel
theorem dX4_best_124 : decode cX4_best 124 = .ok (.iload 5, 2) := by decide +kernel
theorem dX4_best_126 : decode cX4_best 126 = .ok (.if_icmp .ge 14, 3) := by decide +kernel
theorem dX4_best_129 : decode cX4_best 129 = .ok (.iload 7, 2) := by decide +kernel
theorem dX4_best_131 : decode cX4_best 131 = .ok (.istore_n 3, 1) := by decide +kernel
theorem dX4_best_132 : decode cX4_best 132 = .ok (.iload 9, 2) := by decide +kernel
theorem dX4_best_134 : decode cX4_best 134 = .ok (.istore 4, 2) := by decide +kernel
theorem dX4_best_136 : decode cX4_best 136 = .ok (.iload 8, 2) := by decide +kernel
theorem dX4_best_138 : decode cX4_best 138 = .ok (.istore 5, 2) := by decide +kernel
theorem dX4_best_140 : decode cX4_best 140 = .ok (.iinc 7 1, 3) := by decide +kernel
theorem dX4_best_143 : decode cX4_best 143 = .ok (.goto (-92), 3) := by decide +kernel
theorem dX4_best_146 : decode cX4_best 146 = .ok (.iload_n 3, 1) := by decide +kernel
theorem dX4_best_147 : decode cX4_best 147 = .ok (.ireturn, 1) := by decide +kernel
theorem dX4_go_0 : decode cX4_go 0 = .ok (.aload_n 0, 1) := by decide +kernel
theorem dX4_go_1 : decode cX4_go 1 = .ok (.iload_n 1, 1) := by decide +kernel
theorem dX4_go_2 : decode cX4_go 2 = .ok (.invokevirtual 155, 3) := by decide +kernel
theorem dX4_go_5 : decode cX4_go 5 = .ok (.iload_n 2, 1) := by decide +kernel
theorem dX4_go_6 : decode cX4_go 6 = .ok (.invokestatic 182, 3) := by decide +kernel
theorem dX4_go_9 : decode cX4_go 9 = .ok (.aload_n 0, 1) := by decide +kernel
theorem dX4_go_10 : decode cX4_go 10 = .ok (.invokevirtual 174, 3) := by decide +kernel
theorem dX4_go_13 : decode cX4_go 13 = .ok (.aload_n 0, 1) := by decide +kernel
theorem dX4_go_14 : decode cX4_go 14 = .ok (.dup, 1) := by decide +kernel
theorem dX4_go_15 : decode cX4_go 15 = .ok (.getfield 189, 3) := by decide +kernel
theorem dX4_go_18 : decode cX4_go 18 = .ok (.aload_n 0, 1) := by decide +kernel
theorem dX4_go_19 : decode cX4_go 19 = .ok (.iload_n 1, 1) := by decide +kernel
theorem dX4_go_20 : decode cX4_go 20 = .ok (.invokevirtual 177, 3) := by decide +kernel
theorem dX4_go_23 : decode cX4_go 23 = .ok (.i2l, 1) := by decide +kernel
theorem dX4_go_24 : decode cX4_go 24 = .ok (.ladd, 1) := by decide +kernel
theorem dX4_go_25 : decode cX4_go 25 = .ok (.putfield 189, 3) := by decide +kernel
theorem dX4_go_28 : decode cX4_go 28 = .ok (.aload_n 0, 1) := by decide +kernel
theorem dX4_go_29 : decode cX4_go 29 = .ok (.dup, 1) := by decide +kernel
theorem dX4_go_30 : decode cX4_go 30 = .ok (.getfield 193, 3) := by decide +kernel
theorem dX4_go_33 : decode cX4_go 33 = .ok (.lconst 1, 1) := by decide +kernel
theorem dX4_go_34 : decode cX4_go 34 = .ok (.ladd, 1) := by decide +kernel
theorem dX4_go_35 : decode cX4_go 35 = .ok (.putfield 193, 3) := by decide +kernel
theorem dX4_go_38 : decode cX4_go 38 = .ok (.iconst (-1), 1) := by decide +kernel
theorem dX4_go_39 : decode cX4_go 39 = .ok (.istore_n 3, 1) := by decide +kernel
theorem dX4_go_40 : decode cX4_go 40 = .ok (.iload_n 1, 1) := by decide +kernel
theorem dX4_go_41 : decode cX4_go 41 = .ok (.istore 4, 2) := by decide +kernel
theorem dX4_go_43 : decode cX4_go 43 = .ok (.iload_n 2, 1) := by decide +kernel
theorem dX4_go_44 : decode cX4_go 44 = .ok (.istore 5, 2) := by decide +kernel
theorem dX4_go_46 : decode cX4_go 46 = .ok (.iload_n 1, 1) := by decide +kernel
theorem dX4_go_47 : decode cX4_go 47 = .ok (.invokestatic 161, 3) := by decide +kernel
theorem dX4_go_50 : decode cX4_go 50 = .ok (.istore 6, 2) := by decide +kernel
theorem dX4_go_52 : decode cX4_go 52 = .ok (.iconst 0, 1) := by decide +kernel
theorem dX4_go_53 : decode cX4_go 53 = .ok (.istore 7, 2) := by decide +kernel
theorem dX4_go_55 : decode cX4_go 55 = .ok (.iload 7, 2) := by decide +kernel
theorem dX4_go_57 : decode cX4_go 57 = .ok (.iload 6, 2) := by decide +kernel
theorem dX4_go_59 : decode cX4_go 59 = .ok (.if_icmp .ge 50, 3) := by decide +kernel
theorem dX4_go_62 : decode cX4_go 62 = .ok (.aload_n 0, 1) := by decide +kernel
theorem dX4_go_63 : decode cX4_go 63 = .ok (.getfield 22, 3) := by decide +kernel
theorem dX4_go_66 : decode cX4_go 66 = .ok (.iload_n 3, 1) := by decide +kernel
theorem dX4_go_67 : decode cX4_go 67 = .ok (.iload 4, 2) := by decide +kernel
theorem dX4_go_69 : decode cX4_go 69 = .ok (.invokevirtual 168, 3) := by decide +kernel
theorem dX4_go_72 : decode cX4_go 72 = .ok (.istore_n 3, 1) := by decide +kernel
theorem dX4_go_73 : decode cX4_go 73 = .ok (.iload 4, 2) := by decide +kernel
theorem dX4_go_75 : decode cX4_go 75 = .ok (.iload_n 3, 1) := by decide +kernel
theorem dX4_go_76 : decode cX4_go 76 = .ok (.invokestatic 171, 3) := by decide +kernel
theorem dX4_go_79 : decode cX4_go 79 = .ok (.istore 4, 2) := by decide +kernel
theorem dX4_go_81 : decode cX4_go 81 = .ok (.iload 5, 2) := by decide +kernel
theorem dX4_go_83 : decode cX4_go 83 = .ok (.aload_n 0, 1) := by decide +kernel
theorem dX4_go_84 : decode cX4_go 84 = .ok (.aload_n 0, 1) := by decide +kernel
theorem dX4_go_85 : decode cX4_go 85 = .ok (.getfield 10, 3) := by decide +kernel
theorem dX4_go_88 : decode cX4_go 88 = .ok (.iload_n 3, 1) := by decide +kernel
theorem dX4_go_89 : decode cX4_go 89 = .ok (.invokevirtual 196, 3) := by decide +kernel
theorem dX4_go_92 : decode cX4_go 92 = .ok (.checkcast 57, 3) := by decide +kernel
theorem dX4_go_95 : decode cX4_go 95 = .ok (.iload 5, 2) := by decide +kernel
theorem dX4_go_97 : decode cX4_go 97 = .ok (.invokevirtual 200, 3) := by decide +kernel
theorem dX4_go_100 : decode cX4_go 100 = .ok (.isub, 1) := by decide +kernel
theorem dX4_go_101 : decode cX4_go 101 = .ok (.istore 5, 2) := by decide +kernel
theorem dX4_go_103 : decode cX4_go 103 = .ok (.iinc 7 1, 3) := by decide +kernel
theorem dX4_go_106 : decode cX4_go 106 = .ok (.goto (-51), 3) := by decide +kernel
theorem dX4_go_109 : decode cX4_go 109 = .ok (.iload 5, 2) := by decide +kernel
theorem dX4_go_111 : decode cX4_go 111 = .ok (.ireturn, 1) := by decide +kernel
theorem dX4_total_0 : decode cX4_total 0 = .ok (.iload_n 1, 1) := by decide +kernel
theorem dX4_total_1 : decode cX4_total 1 = .ok (.iconst 0, 1) := by decide +kernel
theorem dX4_total_2 : decode cX4_total 2 = .ok (.iconst 3, 1) := by decide +kernel
theorem dX4_total_3 : decode cX4_total 3 = .ok (.invokestatic 37, 3) := by decide +kernel
theorem dX4_total_6 : decode cX4_total 6 = .ok (.ifCond .eq 13, 3) := by decide +kernel
theorem dX4_total_9 : decode cX4_total 9 = .ok (.new 73, 3) := by decide +kernel
theorem dX4_total_12 : decode cX4_total 12 = .ok (.dup, 1) := by decide +kernel
theorem dX4_total_13 : decode cX4_total 13 = .ok (.ldc 204, 2) := by decide +kernel
theorem dX4_total_15 : decode cX4_total 15 = .ok (.invokespecial 77, 3) := by decide +kernel
theorem dX4_total_18 : decode cX4_total 18 = .ok (.athrow, 1) := by decide +kernel
theorem dX4_total_19 : decode cX4_total 19 = .ok (.iload_n 1, 1) := by decide +kernel
theorem dX4_total_20 : decode cX4_total 20 = .ok (.tableswitch 43 0 2 #[28, 33, 38], 28) := by decide +kernel
theorem dX4_total_48 : decode cX4_total 48 = .ok (.aload_n 0, 1) := by decide +kernel
theorem dX4_total_49 : decode cX4_total 49 = .ok (.getfield 206, 3) := by decide +kernel
theorem dX4_total_52 : decode cX4_total 52 = .ok (.lreturn, 1) := by decide +kernel
theorem dX4_total_53 : decode cX4_total 53 = .ok (.aload_n 0, 1) := by decide +kernel
theorem dX4_total_54 : decode cX4_total 54 = .ok (.getfield 189, 3) := by decide +kernel
theorem dX4_total_57 : decode cX4_total 57 = .ok (.lreturn, 1) := by decide +kernel
theorem dX4_total_58 : decode cX4_total 58 = .ok (.aload_n 0, 1) := by decide +kernel
theorem dX4_total_59 : decode cX4_total 59 = .ok (.getfield 209, 3) := by decide +kernel
theorem dX4_total_62 : decode cX4_total 62 = .ok (.lreturn, 1) := by decide +kernel
theorem dX4_total_63 : decode cX4_total 63 = .ok (.aload_n 0, 1) := by decide +kernel
theorem dX4_total_64 : decode cX4_total 64 = .ok (.getfield 193, 3) := by decide +kernel
theorem dX4_total_67 : decode cX4_total 67 = .ok (.lreturn, 1) := by decide +kernel
theorem dX4_filled_0 : decode cX4_filled 0 = .ok (.iconst 0, 1) := by decide +kernel
theorem dX4_filled_1 : decode cX4_filled 1 = .ok (.istore_n 1, 1) := by decide +kernel
theorem dX4_filled_2 : decode cX4_filled 2 = .ok (.iconst 0, 1) := by decide +kernel
theorem dX4_filled_3 : decode cX4_filled 3 = .ok (.istore_n 2, 1) := by decide +kernel
theorem dX4_filled_4 : decode cX4_filled 4 = .ok (.iconst 0, 1) := by decide +kernel
theorem dX4_filled_5 : decode cX4_filled 5 = .ok (.istore_n 3, 1) := by decide +kernel
theorem dX4_filled_6 : decode cX4_filled 6 = .ok (.iload_n 3, 1) := by decide +kernel
theorem dX4_filled_7 : decode cX4_filled 7 = .ok (.aload_n 0, 1) := by decide +kernel
theorem dX4_filled_8 : decode cX4_filled 8 = .ok (.getfield 10, 3) := by decide +kernel
theorem dX4_filled_11 : decode cX4_filled 11 = .ok (.invokevirtual 48, 3) := by decide +kernel
theorem dX4_filled_14 : decode cX4_filled 14 = .ok (.if_icmp .ge 66, 3) := by decide +kernel
theorem dX4_filled_17 : decode cX4_filled 17 = .ok (.aload_n 0, 1) := by decide +kernel
theorem dX4_filled_18 : decode cX4_filled 18 = .ok (.getfield 10, 3) := by decide +kernel
theorem dX4_filled_21 : decode cX4_filled 21 = .ok (.iload_n 3, 1) := by decide +kernel
theorem dX4_filled_22 : decode cX4_filled 22 = .ok (.invokevirtual 196, 3) := by decide +kernel
theorem dX4_filled_25 : decode cX4_filled 25 = .ok (.checkcast 57, 3) := by decide +kernel
theorem dX4_filled_28 : decode cX4_filled 28 = .ok (.astore 4, 2) := by decide +kernel
theorem dX4_filled_30 : decode cX4_filled 30 = .ok (.iconst 0, 1) := by decide +kernel
theorem dX4_filled_31 : decode cX4_filled 31 = .ok (.istore 5, 2) := by decide +kernel
theorem dX4_filled_33 : decode cX4_filled 33 = .ok (.iload 5, 2) := by decide +kernel
theorem dX4_filled_35 : decode cX4_filled 35 = .ok (.bipush 6, 2) := by decide +kernel
theorem dX4_filled_37 : decode cX4_filled 37 = .ok (.if_icmp .ge 37, 3) := by decide +kernel
theorem dX4_filled_40 : decode cX4_filled 40 = .ok (.iload_n 1, 1) := by decide +kernel
theorem dX4_filled_41 : decode cX4_filled 41 = .ok (.aload 4, 2) := by decide +kernel
theorem dX4_filled_43 : decode cX4_filled 43 = .ok (.getfield 212, 3) := by decide +kernel
theorem dX4_filled_46 : decode cX4_filled 46 = .ok (.iload 5, 2) := by decide +kernel
theorem dX4_filled_48 : decode cX4_filled 48 = .ok (.aaload, 1) := by decide +kernel
theorem dX4_filled_49 : decode cX4_filled 49 = .ok (.getfield 104, 3) := by decide +kernel
theorem dX4_filled_52 : decode cX4_filled 52 = .ok (.iadd, 1) := by decide +kernel
theorem dX4_filled_53 : decode cX4_filled 53 = .ok (.istore_n 1, 1) := by decide +kernel
theorem dX4_filled_54 : decode cX4_filled 54 = .ok (.iload_n 2, 1) := by decide +kernel
theorem dX4_filled_55 : decode cX4_filled 55 = .ok (.aload 4, 2) := by decide +kernel
theorem dX4_filled_57 : decode cX4_filled 57 = .ok (.getfield 212, 3) := by decide +kernel
theorem dX4_filled_60 : decode cX4_filled 60 = .ok (.iload 5, 2) := by decide +kernel
theorem dX4_filled_62 : decode cX4_filled 62 = .ok (.aaload, 1) := by decide +kernel
theorem dX4_filled_63 : decode cX4_filled 63 = .ok (.getfield 98, 3) := by decide +kernel
theorem dX4_filled_66 : decode cX4_filled 66 = .ok (.iadd, 1) := by decide +kernel
theorem dX4_filled_67 : decode cX4_filled 67 = .ok (.istore_n 2, 1) := by decide +kernel
theorem dX4_filled_68 : decode cX4_filled 68 = .ok (.iinc 5 1, 3) := by decide +kernel
theorem dX4_filled_71 : decode cX4_filled 71 = .ok (.goto (-38), 3) := by decide +kernel
theorem dX4_filled_74 : decode cX4_filled 74 = .ok (.iinc 3 1, 3) := by decide +kernel
theorem dX4_filled_77 : decode cX4_filled 77 = .ok (.goto (-71), 3) := by decide +kernel
theorem dX4_filled_80 : decode cX4_filled 80 = .ok (.iload_n 2, 1) := by decide +kernel
theorem dX4_filled_81 : decode cX4_filled 81 = .ok (.ifCond .ne 5, 3) := by decide +kernel
theorem dX4_filled_84 : decode cX4_filled 84 = .ok (.dconst 1, 1) := by decide +kernel
theorem dX4_filled_85 : decode cX4_filled 85 = .ok (.dreturn, 1) := by decide +kernel
theorem dX4_filled_86 : decode cX4_filled 86 = .ok (.iload_n 1, 1) := by decide +kernel
theorem dX4_filled_87 : decode cX4_filled 87 = .ok (.i2d, 1) := by decide +kernel
theorem dX4_filled_88 : decode cX4_filled 88 = .ok (.iload_n 2, 1) := by decide +kernel
theorem dX4_filled_89 : decode cX4_filled 89 = .ok (.i2d, 1) := by decide +kernel
theorem dX4_filled_90 : decode cX4_filled 90 = .ok (.ddiv, 1) := by decide +kernel
theorem dX4_filled_91 : decode cX4_filled 91 = .ok (.dreturn, 1) := by decide +kernel
theorem dX4_digest_0 : decode cX4_digest 0 = .ok (.aload_n 0, 1) := by decide +kernel
theorem dX4_digest_1 : decode cX4_digest 1 = .ok (.getfield 10, 3) := by decide +kernel
theorem dX4_digest_4 : decode cX4_digest 4 = .ok (.invokevirtual 48, 3) := by decide +kernel
theorem dX4_digest_7 : decode cX4_digest 7 = .ok (.istore_n 1, 1) := by decide +kernel
theorem dX4_digest_8 : decode cX4_digest 8 = .ok (.ldc2_w 216, 3) := by decide +kernel
theorem dX4_digest_11 : decode cX4_digest 11 = .ok (.aload_n 0, 1) := by decide +kernel
theorem dX4_digest_12 : decode cX4_digest 12 = .ok (.getfield 115, 3) := by decide +kernel
theorem dX4_digest_15 : decode cX4_digest 15 = .ok (.i2l, 1) := by decide +kernel
theorem dX4_digest_16 : decode cX4_digest 16 = .ok (.invokestatic 218, 3) := by decide +kernel
theorem dX4_digest_19 : decode cX4_digest 19 = .ok (.iload_n 1, 1) := by decide +kernel
theorem dX4_digest_20 : decode cX4_digest 20 = .ok (.i2l, 1) := by decide +kernel
theorem dX4_digest_21 : decode cX4_digest 21 = .ok (.invokestatic 218, 3) := by decide +kernel
theorem dX4_digest_24 : decode cX4_digest 24 = .ok (.lstore_n 2, 1) := by decide +kernel
theorem dX4_digest_25 : decode cX4_digest 25 = .ok (.iconst 0, 1) := by decide +kernel
theorem dX4_digest_26 : decode cX4_digest 26 = .ok (.istore 4, 2) := by decide +kernel
theorem dX4_digest_28 : decode cX4_digest 28 = .ok (.iload 4, 2) := by decide +kernel
theorem dX4_digest_30 : decode cX4_digest 30 = .ok (.iload_n 1, 1) := by decide +kernel
theorem dX4_digest_31 : decode cX4_digest 31 = .ok (.if_icmp .ge 42, 3) := by decide +kernel
theorem dX4_digest_34 : decode cX4_digest 34 = .ok (.iconst (-1), 1) := by decide +kernel
theorem dX4_digest_35 : decode cX4_digest 35 = .ok (.istore 5, 2) := by decide +kernel
theorem dX4_digest_37 : decode cX4_digest 37 = .ok (.iload 5, 2) := by decide +kernel
theorem dX4_digest_39 : decode cX4_digest 39 = .ok (.iload 4, 2) := by decide +kernel
theorem dX4_digest_41 : decode cX4_digest 41 = .ok (.if_icmp .ge 26, 3) := by decide +kernel
theorem dX4_digest_44 : decode cX4_digest 44 = .ok (.lload_n 2, 1) := by decide +kernel
theorem dX4_digest_45 : decode cX4_digest 45 = .ok (.aload_n 0, 1) := by decide +kernel
theorem dX4_digest_46 : decode cX4_digest 46 = .ok (.getfield 22, 3) := by decide +kernel
theorem dX4_digest_49 : decode cX4_digest 49 = .ok (.iload 5, 2) := by decide +kernel
theorem dX4_digest_51 : decode cX4_digest 51 = .ok (.iload 4, 2) := by decide +kernel
theorem dX4_digest_53 : decode cX4_digest 53 = .ok (.invokevirtual 82, 3) := by decide +kernel
theorem dX4_digest_56 : decode cX4_digest 56 = .ok (.i2l, 1) := by decide +kernel
theorem dX4_digest_57 : decode cX4_digest 57 = .ok (.invokestatic 218, 3) := by decide +kernel
theorem dX4_digest_60 : decode cX4_digest 60 = .ok (.lstore_n 2, 1) := by decide +kernel
theorem dX4_digest_61 : decode cX4_digest 61 = .ok (.iinc 5 1, 3) := by decide +kernel
theorem dX4_digest_64 : decode cX4_digest 64 = .ok (.goto (-27), 3) := by decide +kernel
theorem dX4_digest_67 : decode cX4_digest 67 = .ok (.iinc 4 1, 3) := by decide +kernel
theorem dX4_digest_70 : decode cX4_digest 70 = .ok (.goto (-42), 3) := by decide +kernel
theorem dX4_digest_73 : decode cX4_digest 73 = .ok (.iconst 0, 1) := by decide +kernel
theorem dX4_digest_74 : decode cX4_digest 74 = .ok (.istore 4, 2) := by decide +kernel
theorem dX4_digest_76 : decode cX4_digest 76 = .ok (.iload 4, 2) := by decide +kernel
theorem dX4_digest_78 : decode cX4_digest 78 = .ok (.iload_n 1, 1) := by decide +kernel
theorem dX4_digest_79 : decode cX4_digest 79 = .ok (.if_icmp .ge 26, 3) := by decide +kernel
theorem dX4_digest_82 : decode cX4_digest 82 = .ok (.lload_n 2, 1) := by decide +kernel
theorem dX4_digest_83 : decode cX4_digest 83 = .ok (.aload_n 0, 1) := by decide +kernel
theorem dX4_digest_84 : decode cX4_digest 84 = .ok (.getfield 10, 3) := by decide +kernel
theorem dX4_digest_87 : decode cX4_digest 87 = .ok (.iload 4, 2) := by decide +kernel
theorem dX4_digest_89 : decode cX4_digest 89 = .ok (.invokevirtual 196, 3) := by decide +kernel
theorem dX4_digest_92 : decode cX4_digest 92 = .ok (.checkcast 57, 3) := by decide +kernel
theorem dX4_digest_95 : decode cX4_digest 95 = .ok (.invokestatic 222, 3) := by decide +kernel
theorem dX4_digest_98 : decode cX4_digest 98 = .ok (.lstore_n 2, 1) := by decide +kernel
theorem dX4_digest_99 : decode cX4_digest 99 = .ok (.iinc 4 1, 3) := by decide +kernel
theorem dX4_digest_102 : decode cX4_digest 102 = .ok (.goto (-26), 3) := by decide +kernel
theorem dX4_digest_105 : decode cX4_digest 105 = .ok (.lload_n 2, 1) := by decide +kernel
theorem dX4_digest_106 : decode cX4_digest 106 = .ok (.aload_n 0, 1) := by decide +kernel
theorem dX4_digest_107 : decode cX4_digest 107 = .ok (.getfield 16, 3) := by decide +kernel
theorem dX4_digest_110 : decode cX4_digest 110 = .ok (.invokevirtual 48, 3) := by decide +kernel
theorem dX4_digest_113 : decode cX4_digest 113 = .ok (.i2l, 1) := by decide +kernel
theorem dX4_digest_114 : decode cX4_digest 114 = .ok (.invokestatic 218, 3) := by decide +kernel
theorem dX4_digest_117 : decode cX4_digest 117 = .ok (.lstore_n 2, 1) := by decide +kernel
theorem dX4_digest_118 : decode cX4_digest 118 = .ok (.lload_n 2, 1) := by decide +kernel
theorem dX4_digest_119 : decode cX4_digest 119 = .ok (.aload_n 0, 1) := by decide +kernel
theorem dX4_digest_120 : decode cX4_digest 120 = .ok (.getfield 206, 3) := by decide +kernel
theorem dX4_digest_123 : decode cX4_digest 123 = .ok (.invokestatic 218, 3) := by decide +kernel
theorem dX4_digest_126 : decode cX4_digest 126 = .ok (.aload_n 0, 1) := by decide +kernel
theorem dX4_digest_127 : decode cX4_digest 127 = .ok (.getfield 189, 3) := by decide +kernel
theorem dX4_digest_130 : decode cX4_digest 130 = .ok (.invokestatic 218, 3) := by decide +kernel
theorem dX4_digest_133 : decode cX4_digest 133 = .ok (.lstore_n 2, 1) := by decide +kernel
theorem dX4_digest_134 : decode cX4_digest 134 = .ok (.lload_n 2, 1) := by decide +kernel
theorem dX4_digest_135 : decode cX4_digest 135 = .ok (.aload_n 0, 1) := by decide +kernel
theorem dX4_digest_136 : decode cX4_digest 136 = .ok (.getfield 209, 3) := by decide +kernel
theorem dX4_digest_139 : decode cX4_digest 139 = .ok (.invokestatic 218, 3) := by decide +kernel
theorem dX4_digest_142 : decode cX4_digest 142 = .ok (.aload_n 0, 1) := by decide +kernel
theorem dX4_digest_143 : decode cX4_digest 143 = .ok (.getfield 193, 3) := by decide +kernel
theorem dX4_digest_146 : decode cX4_digest 146 = .ok (.invokestatic 218, 3) := by decide +kernel
theorem dX4_digest_149 : decode cX4_digest 149 = .ok (.lreturn, 1) := by decide +kernel
theorem dX4_outside_0 : decode cX4_outside 0 = .ok (.iload_n 0, 1) := by decide +kernel
theorem dX4_outside_1 : decode cX4_outside 1 = .ok (.iload_n 1, 1) := by decide +kernel
theorem dX4_outside_2 : decode cX4_outside 2 = .ok (.if_icmp .lt 8, 3) := by decide +kernel
theorem dX4_outside_5 : decode cX4_outside 5 = .ok (.iload_n 0, 1) := by decide +kernel
theorem dX4_outside_6 : decode cX4_outside 6 = .ok (.iload_n 2, 1) := by decide +kernel
theorem dX4_outside_7 : decode cX4_outside 7 = .ok (.if_icmp .le 7, 3) := by decide +kernel
theorem dX4_outside_10 : decode cX4_outside 10 = .ok (.iconst 1, 1) := by decide +kernel
theorem dX4_outside_11 : decode cX4_outside 11 = .ok (.goto 4, 3) := by decide +kernel
theorem dX4_outside_14 : decode cX4_outside 14 = .ok (.iconst 0, 1) := by decide +kernel
theorem dX4_outside_15 : decode cX4_outside 15 = .ok (.ireturn, 1) := by decide +kernel
theorem dX4_contains_0 : decode cX4_contains 0 = .ok (.iload_n 0, 1) := by decide +kernel
theorem dX4_contains_1 : decode cX4_contains 1 = .ok (.iload_n 1, 1) := by decide +kernel
theorem dX4_contains_2 : decode cX4_contains 2 = .ok (.ishr, 1) := by decide +kernel
theorem dX4_contains_3 : decode cX4_contains 3 = .ok (.iconst 1, 1) := by decide +kernel
theorem dX4_contains_4 : decode cX4_contains 4 = .ok (.iand, 1) := by decide +kernel
theorem dX4_contains_5 : decode cX4_contains 5 = .ok (.ifCond .eq 7, 3) := by decide +kernel
theorem dX4_contains_8 : decode cX4_contains 8 = .ok (.iconst 1, 1) := by decide +kernel
theorem dX4_contains_9 : decode cX4_contains 9 = .ok (.goto 4, 3) := by decide +kernel
theorem dX4_contains_12 : decode cX4_contains 12 = .ok (.iconst 0, 1) := by decide +kernel
theorem dX4_contains_13 : decode cX4_contains 13 = .ok (.ireturn, 1) := by decide +kernel
theorem dX4_without_0 : decode cX4_without 0 = .ok (.iload_n 0, 1) := by decide +kernel
theorem dX4_without_1 : decode cX4_without 1 = .ok (.iconst 1, 1) := by decide +kernel
theorem dX4_without_2 : decode cX4_without 2 = .ok (.iload_n 1, 1) := by decide +kernel
theorem dX4_without_3 : decode cX4_without 3 = .ok (.ishl, 1) := by decide +kernel
theorem dX4_without_4 : decode cX4_without 4 = .ok (.iconst (-1), 1) := by decide +kernel
theorem dX4_without_5 : decode cX4_without 5 = .ok (.ixor, 1) := by decide +kernel
theorem dX4_without_6 : decode cX4_without 6 = .ok (.iand, 1) := by decide +kernel
theorem dX4_without_7 : decode cX4_without 7 = .ok (.ireturn, 1) := by decide +kernel
theorem dX4_sumOver_0 : decode cX4_sumOver 0 = .ok (.iconst 0, 1) := by decide +kernel
theorem dX4_sumOver_1 : decode cX4_sumOver 1 = .ok (.istore_n 2, 1) := by decide +kernel
theorem dX4_sumOver_2 : decode cX4_sumOver 2 = .ok (.iconst 0, 1) := by decide +kernel
theorem dX4_sumOver_3 : decode cX4_sumOver 3 = .ok (.istore_n 3, 1) := by decide +kernel
theorem dX4_sumOver_4 : decode cX4_sumOver 4 = .ok (.iload_n 3, 1) := by decide +kernel
theorem dX4_sumOver_5 : decode cX4_sumOver 5 = .ok (.aload_n 1, 1) := by decide +kernel
theorem dX4_sumOver_6 : decode cX4_sumOver 6 = .ok (.arraylength, 1) := by decide +kernel
theorem dX4_sumOver_7 : decode cX4_sumOver 7 = .ok (.if_icmp .ge 23, 3) := by decide +kernel
theorem dX4_sumOver_10 : decode cX4_sumOver 10 = .ok (.iload_n 0, 1) := by decide +kernel
theorem dX4_sumOver_11 : decode cX4_sumOver 11 = .ok (.iload_n 3, 1) := by decide +kernel
theorem dX4_sumOver_12 : decode cX4_sumOver 12 = .ok (.invokestatic 226, 3) := by decide +kernel
theorem dX4_sumOver_15 : decode cX4_sumOver 15 = .ok (.ifCond .eq 9, 3) := by decide +kernel
theorem dX4_sumOver_18 : decode cX4_sumOver 18 = .ok (.iload_n 2, 1) := by decide +kernel
theorem dX4_sumOver_19 : decode cX4_sumOver 19 = .ok (.aload_n 1, 1) := by decide +kernel
theorem dX4_sumOver_20 : decode cX4_sumOver 20 = .ok (.iload_n 3, 1) := by decide +kernel
theorem dX4_sumOver_21 : decode cX4_sumOver 21 = .ok (.iaload, 1) := by decide +kernel
theorem dX4_sumOver_22 : decode cX4_sumOver 22 = .ok (.iadd, 1) := by decide +kernel
theorem dX4_sumOver_23 : decode cX4_sumOver 23 = .ok (.istore_n 2, 1) := by decide +kernel
theorem dX4_sumOver_24 : decode cX4_sumOver 24 = .ok (.iinc 3 1, 3) := by decide +kernel
theorem dX4_sumOver_27 : decode cX4_sumOver 27 = .ok (.goto (-23), 3) := by decide +kernel
theorem dX4_sumOver_30 : decode cX4_sumOver 30 = .ok (.iload_n 2, 1) := by decide +kernel
theorem dX4_sumOver_31 : decode cX4_sumOver 31 = .ok (.ireturn, 1) := by decide +kernel
theorem dX4_mixed_0 : decode cX4_mixed 0 = .ok (.lload_n 0, 1) := by decide +kernel
theorem dX4_mixed_1 : decode cX4_mixed 1 = .ok (.ldc2_w 230, 3) := by decide +kernel
theorem dX4_mixed_4 : decode cX4_mixed 4 = .ok (.lmul, 1) := by decide +kernel
theorem dX4_mixed_5 : decode cX4_mixed 5 = .ok (.lload_n 2, 1) := by decide +kernel
theorem dX4_mixed_6 : decode cX4_mixed 6 = .ok (.ladd, 1) := by decide +kernel
theorem dX4_mixed_7 : decode cX4_mixed 7 = .ok (.lreturn, 1) := by decide +kernel
theorem dX4_mixedMachine_0 : decode cX4_mixedMachine 0 = .ok (.iconst 0, 1) := by decide +kernel
theorem dX4_mixedMachine_1 : decode cX4_mixedMachine 1 = .ok (.istore_n 3, 1) := by decide +kernel
theorem dX4_mixedMachine_2 : decode cX4_mixedMachine 2 = .ok (.iload_n 3, 1) := by decide +kernel
theorem dX4_mixedMachine_3 : decode cX4_mixedMachine 3 = .ok (.iconst 5, 1) := by decide +kernel
theorem dX4_mixedMachine_4 : decode cX4_mixedMachine 4 = .ok (.if_icmp .ge 20, 3) := by decide +kernel
theorem dX4_mixedMachine_7 : decode cX4_mixedMachine 7 = .ok (.lload_n 0, 1) := by decide +kernel
theorem dX4_mixedMachine_8 : decode cX4_mixedMachine 8 = .ok (.aload_n 2, 1) := by decide +kernel
theorem dX4_mixedMachine_9 : decode cX4_mixedMachine 9 = .ok (.iload_n 3, 1) := by decide +kernel
theorem dX4_mixedMachine_10 : decode cX4_mixedMachine 10 = .ok (.invokevirtual 144, 3) := by decide +kernel
theorem dX4_mixedMachine_13 : decode cX4_mixedMachine 13 = .ok (.i2l, 1) := by decide +kernel
theorem dX4_mixedMachine_14 : decode cX4_mixedMachine 14 = .ok (.invokestatic 218, 3) := by decide +kernel
theorem dX4_mixedMachine_17 : decode cX4_mixedMachine 17 = .ok (.lstore_n 0, 1) := by decide +kernel
theorem dX4_mixedMachine_18 : decode cX4_mixedMachine 18 = .ok (.iinc 3 1, 3) := by decide +kernel
theorem dX4_mixedMachine_21 : decode cX4_mixedMachine 21 = .ok (.goto (-19), 3) := by decide +kernel
theorem dX4_mixedMachine_24 : decode cX4_mixedMachine 24 = .ok (.iconst 0, 1) := by decide +kernel
theorem dX4_mixedMachine_25 : decode cX4_mixedMachine 25 = .ok (.istore_n 3, 1) := by decide +kernel
theorem dX4_mixedMachine_26 : decode cX4_mixedMachine 26 = .ok (.iload_n 3, 1) := by decide +kernel
theorem dX4_mixedMachine_27 : decode cX4_mixedMachine 27 = .ok (.bipush 6, 2) := by decide +kernel
theorem dX4_mixedMachine_29 : decode cX4_mixedMachine 29 = .ok (.if_icmp .ge 42, 3) := by decide +kernel
theorem dX4_mixedMachine_32 : decode cX4_mixedMachine 32 = .ok (.iconst 0, 1) := by decide +kernel
theorem dX4_mixedMachine_33 : decode cX4_mixedMachine 33 = .ok (.istore 4, 2) := by decide +kernel
theorem dX4_mixedMachine_35 : decode cX4_mixedMachine 35 = .ok (.iload 4, 2) := by decide +kernel
theorem dX4_mixedMachine_37 : decode cX4_mixedMachine 37 = .ok (.bipush 6, 2) := by decide +kernel
theorem dX4_mixedMachine_39 : decode cX4_mixedMachine 39 = .ok (.if_icmp .ge 26, 3) := by decide +kernel
theorem dX4_mixedMachine_42 : decode cX4_mixedMachine 42 = .ok (.lload_n 0, 1) := by decide +kernel
theorem dX4_mixedMachine_43 : decode cX4_mixedMachine 43 = .ok (.aload_n 2, 1) := by decide +kernel
theorem dX4_mixedMachine_44 : decode cX4_mixedMachine 44 = .ok (.getfield 212, 3) := by decide +kernel
theorem dX4_mixedMachine_47 : decode cX4_mixedMachine 47 = .ok (.iload_n 3, 1) := by decide +kernel
theorem dX4_mixedMachine_48 : decode cX4_mixedMachine 48 = .ok (.aaload, 1) := by decide +kernel
theorem dX4_mixedMachine_49 : decode cX4_mixedMachine 49 = .ok (.iload 4, 2) := by decide +kernel
theorem dX4_mixedMachine_51 : decode cX4_mixedMachine 51 = .ok (.invokevirtual 134, 3) := by decide +kernel
theorem dX4_mixedMachine_54 : decode cX4_mixedMachine 54 = .ok (.i2l, 1) := by decide +kernel
theorem dX4_mixedMachine_55 : decode cX4_mixedMachine 55 = .ok (.invokestatic 218, 3) := by decide +kernel
theorem dX4_mixedMachine_58 : decode cX4_mixedMachine 58 = .ok (.lstore_n 0, 1) := by decide +kernel
theorem dX4_mixedMachine_59 : decode cX4_mixedMachine 59 = .ok (.iinc 4 1, 3) := by decide +kernel
theorem dX4_mixedMachine_62 : decode cX4_mixedMachine 62 = .ok (.goto (-27), 3) := by decide +kernel
theorem dX4_mixedMachine_65 : decode cX4_mixedMachine 65 = .ok (.iinc 3 1, 3) := by decide +kernel
theorem dX4_mixedMachine_68 : decode cX4_mixedMachine 68 = .ok (.goto (-42), 3) := by decide +kernel
theorem dX4_mixedMachine_71 : decode cX4_mixedMachine 71 = .ok (.lload_n 0, 1) := by decide +kernel
theorem dX4_mixedMachine_72 : decode cX4_mixedMachine 72 = .ok (.lreturn, 1) := by decide +kernel
theorem dX4_isNoMachine_0 : decode cX4_isNoMachine 0 = .ok (.iload_n 1, 1) := by decide +kernel
theorem dX4_isNoMachine_1 : decode cX4_isNoMachine 1 = .ok (.iconst 0, 1) := by decide +kernel
theorem dX4_isNoMachine_2 : decode cX4_isNoMachine 2 = .ok (.aload_n 0, 1) := by decide +kernel
theorem dX4_isNoMachine_3 : decode cX4_isNoMachine 3 = .ok (.getfield 10, 3) := by decide +kernel
theorem dX4_isNoMachine_6 : decode cX4_isNoMachine 6 = .ok (.invokevirtual 48, 3) := by decide +kernel
theorem dX4_isNoMachine_9 : decode cX4_isNoMachine 9 = .ok (.iconst 1, 1) := by decide +kernel
theorem dX4_isNoMachine_10 : decode cX4_isNoMachine 10 = .ok (.isub, 1) := by decide +kernel
theorem dX4_isNoMachine_11 : decode cX4_isNoMachine 11 = .ok (.invokestatic 37, 3) := by decide +kernel
theorem dX4_isNoMachine_14 : decode cX4_isNoMachine 14 = .ok (.ireturn, 1) := by decide +kernel
theorem dX4_isNoPlace_0 : decode cX4_isNoPlace 0 = .ok (.iload_n 1, 1) := by decide +kernel
theorem dX4_isNoPlace_1 : decode cX4_isNoPlace 1 = .ok (.iconst (-1), 1) := by decide +kernel
theorem dX4_isNoPlace_2 : decode cX4_isNoPlace 2 = .ok (.if_icmp .eq 15, 3) := by decide +kernel
theorem dX4_isNoPlace_5 : decode cX4_isNoPlace 5 = .ok (.aload_n 0, 1) := by decide +kernel
theorem dX4_isNoPlace_6 : decode cX4_isNoPlace 6 = .ok (.iload_n 1, 1) := by decide +kernel
theorem dX4_isNoPlace_7 : decode cX4_isNoPlace 7 = .ok (.invokevirtual 232, 3) := by decide +kernel
theorem dX4_isNoPlace_10 : decode cX4_isNoPlace 10 = .ok (.ifCond .eq 7, 3) := by decide +kernel
theorem dX4_isNoPlace_13 : decode cX4_isNoPlace 13 = .ok (.iconst 1, 1) := by decide +kernel
theorem dX4_isNoPlace_14 : decode cX4_isNoPlace 14 = .ok (.goto 4, 3) := by decide +kernel
theorem dX4_isNoPlace_17 : decode cX4_isNoPlace 17 = .ok (.iconst 0, 1) := by decide +kernel
theorem dX4_isNoPlace_18 : decode cX4_isNoPlace 18 = .ok (.ireturn, 1) := by decide +kernel
theorem dX4_machineAt_0 : decode cX4_machineAt 0 = .ok (.aload_n 0, 1) := by decide +kernel
theorem dX4_machineAt_1 : decode cX4_machineAt 1 = .ok (.iload_n 1, 1) := by decide +kernel
theorem dX4_machineAt_2 : decode cX4_machineAt 2 = .ok (.invokevirtual 232, 3) := by decide +kernel
theorem dX4_machineAt_5 : decode cX4_machineAt 5 = .ok (.ifCond .eq 13, 3) := by decide +kernel
theorem dX4_machineAt_8 : decode cX4_machineAt 8 = .ok (.new 73, 3) := by decide +kernel
theorem dX4_machineAt_11 : decode cX4_machineAt 11 = .ok (.dup, 1) := by decide +kernel
theorem dX4_machineAt_12 : decode cX4_machineAt 12 = .ok (.ldc 75, 2) := by decide +kernel
theorem dX4_machineAt_14 : decode cX4_machineAt 14 = .ok (.invokespecial 77, 3) := by decide +kernel
theorem dX4_machineAt_17 : decode cX4_machineAt 17 = .ok (.athrow, 1) := by decide +kernel
theorem dX4_machineAt_18 : decode cX4_machineAt 18 = .ok (.aload_n 0, 1) := by decide +kernel
theorem dX4_machineAt_19 : decode cX4_machineAt 19 = .ok (.getfield 10, 3) := by decide +kernel
theorem dX4_machineAt_22 : decode cX4_machineAt 22 = .ok (.iload_n 1, 1) := by decide +kernel
theorem dX4_machineAt_23 : decode cX4_machineAt 23 = .ok (.invokevirtual 196, 3) := by decide +kernel
theorem dX4_machineAt_26 : decode cX4_machineAt 26 = .ok (.checkcast 57, 3) := by decide +kernel
theorem dX4_machineAt_29 : decode cX4_machineAt 29 = .ok (.areturn, 1) := by decide +kernel
theorem dX4_slotAt_0 : decode cX4_slotAt 0 = .ok (.aload_n 0, 1) := by decide +kernel
theorem dX4_slotAt_1 : decode cX4_slotAt 1 = .ok (.iload_n 1, 1) := by decide +kernel
theorem dX4_slotAt_2 : decode cX4_slotAt 2 = .ok (.invokevirtual 138, 3) := by decide +kernel
theorem dX4_slotAt_5 : decode cX4_slotAt 5 = .ok (.astore_n 3, 1) := by decide +kernel
theorem dX4_slotAt_6 : decode cX4_slotAt 6 = .ok (.iload_n 2, 1) := by decide +kernel
theorem dX4_slotAt_7 : decode cX4_slotAt 7 = .ok (.iconst 0, 1) := by decide +kernel
theorem dX4_slotAt_8 : decode cX4_slotAt 8 = .ok (.iconst 5, 1) := by decide +kernel
theorem dX4_slotAt_9 : decode cX4_slotAt 9 = .ok (.invokestatic 37, 3) := by decide +kernel
theorem dX4_slotAt_12 : decode cX4_slotAt 12 = .ok (.ifCond .eq 13, 3) := by decide +kernel
theorem dX4_slotAt_15 : decode cX4_slotAt 15 = .ok (.new 73, 3) := by decide +kernel
theorem dX4_slotAt_18 : decode cX4_slotAt 18 = .ok (.dup, 1) := by decide +kernel
theorem dX4_slotAt_19 : decode cX4_slotAt 19 = .ok (.ldc 235, 2) := by decide +kernel
theorem dX4_slotAt_21 : decode cX4_slotAt 21 = .ok (.invokespecial 77, 3) := by decide +kernel
theorem dX4_slotAt_24 : decode cX4_slotAt 24 = .ok (.athrow, 1) := by decide +kernel
theorem dX4_slotAt_25 : decode cX4_slotAt 25 = .ok (.aload_n 3, 1) := by decide +kernel
theorem dX4_slotAt_26 : decode cX4_slotAt 26 = .ok (.getfield 212, 3) := by decide +kernel
theorem dX4_slotAt_29 : decode cX4_slotAt 29 = .ok (.iload_n 2, 1) := by decide +kernel
theorem dX4_slotAt_30 : decode cX4_slotAt 30 = .ok (.aaload, 1) := by decide +kernel
theorem dX4_slotAt_31 : decode cX4_slotAt 31 = .ok (.areturn, 1) := by decide +kernel
theorem dX4_requireSet_0 : decode cX4_requireSet 0 = .ok (.iload_n 1, 1) := by decide +kernel
theorem dX4_requireSet_1 : decode cX4_requireSet 1 = .ok (.aload_n 0, 1) := by decide +kernel
theorem dX4_requireSet_2 : decode cX4_requireSet 2 = .ok (.getfield 10, 3) := by decide +kernel
theorem dX4_requireSet_5 : decode cX4_requireSet 5 = .ok (.invokevirtual 48, 3) := by decide +kernel
theorem dX4_requireSet_8 : decode cX4_requireSet 8 = .ok (.iushr, 1) := by decide +kernel
theorem dX4_requireSet_9 : decode cX4_requireSet 9 = .ok (.ifCond .eq 13, 3) := by decide +kernel
theorem dX4_requireSet_12 : decode cX4_requireSet 12 = .ok (.new 41, 3) := by decide +kernel
theorem dX4_requireSet_15 : decode cX4_requireSet 15 = .ok (.dup, 1) := by decide +kernel
theorem dX4_requireSet_16 : decode cX4_requireSet 16 = .ok (.ldc 237, 2) := by decide +kernel
theorem dX4_requireSet_18 : decode cX4_requireSet 18 = .ok (.invokespecial 45, 3) := by decide +kernel
theorem dX4_requireSet_21 : decode cX4_requireSet 21 = .ok (.athrow, 1) := by decide +kernel
theorem dX4_requireSet_22 : decode cX4_requireSet 22 = .ok (.return_, 1) := by decide +kernel
theorem dX4_requireLoad_0 : decode cX4_requireLoad 0 = .ok (.iload_n 0, 1) := by decide +kernel
theorem dX4_requireLoad_1 : decode cX4_requireLoad 1 = .ok (.iconst 0, 1) := by decide +kernel
theorem dX4_requireLoad_2 : decode cX4_requireLoad 2 = .ok (.sipush 2000, 3) := by decide +kernel
theorem dX4_requireLoad_5 : decode cX4_requireLoad 5 = .ok (.invokestatic 37, 3) := by decide +kernel
theorem dX4_requireLoad_8 : decode cX4_requireLoad 8 = .ok (.ifCond .eq 13, 3) := by decide +kernel
theorem dX4_requireLoad_11 : decode cX4_requireLoad 11 = .ok (.new 41, 3) := by decide +kernel
theorem dX4_requireLoad_14 : decode cX4_requireLoad 14 = .ok (.dup, 1) := by decide +kernel
theorem dX4_requireLoad_15 : decode cX4_requireLoad 15 = .ok (.ldc 239, 2) := by decide +kernel
theorem dX4_requireLoad_17 : decode cX4_requireLoad 17 = .ok (.invokespecial 45, 3) := by decide +kernel
theorem dX4_requireLoad_20 : decode cX4_requireLoad 20 = .ok (.athrow, 1) := by decide +kernel
theorem dX4_requireLoad_21 : decode cX4_requireLoad 21 = .ok (.return_, 1) := by decide +kernel
theorem dX4_sellEverywhere_0 : decode cX4_sellEverywhere 0 = .ok (.iconst 0, 1) := by decide +kernel
theorem dX4_sellEverywhere_1 : decode cX4_sellEverywhere 1 = .ok (.istore_n 1, 1) := by decide +kernel
theorem dX4_sellEverywhere_2 : decode cX4_sellEverywhere 2 = .ok (.iconst 0, 1) := by decide +kernel
theorem dX4_sellEverywhere_3 : decode cX4_sellEverywhere 3 = .ok (.istore_n 2, 1) := by decide +kernel
theorem dX4_sellEverywhere_4 : decode cX4_sellEverywhere 4 = .ok (.iload_n 2, 1) := by decide +kernel
theorem dX4_sellEverywhere_5 : decode cX4_sellEverywhere 5 = .ok (.aload_n 0, 1) := by decide +kernel
theorem dX4_sellEverywhere_6 : decode cX4_sellEverywhere 6 = .ok (.getfield 10, 3) := by decide +kernel
theorem dX4_sellEverywhere_9 : decode cX4_sellEverywhere 9 = .ok (.invokevirtual 48, 3) := by decide +kernel
theorem dX4_sellEverywhere_12 : decode cX4_sellEverywhere 12 = .ok (.if_icmp .ge 26, 3) := by decide +kernel
theorem dX4_sellEverywhere_15 : decode cX4_sellEverywhere 15 = .ok (.iload_n 1, 1) := by decide +kernel
theorem dX4_sellEverywhere_16 : decode cX4_sellEverywhere 16 = .ok (.aload_n 0, 1) := by decide +kernel
theorem dX4_sellEverywhere_17 : decode cX4_sellEverywhere 17 = .ok (.getfield 10, 3) := by decide +kernel
theorem dX4_sellEverywhere_20 : decode cX4_sellEverywhere 20 = .ok (.iload_n 2, 1) := by decide +kernel
theorem dX4_sellEverywhere_21 : decode cX4_sellEverywhere 21 = .ok (.invokevirtual 196, 3) := by decide +kernel
theorem dX4_sellEverywhere_24 : decode cX4_sellEverywhere 24 = .ok (.checkcast 57, 3) := by decide +kernel
theorem dX4_sellEverywhere_27 : decode cX4_sellEverywhere 27 = .ok (.invokevirtual 241, 3) := by decide +kernel
theorem dX4_sellEverywhere_30 : decode cX4_sellEverywhere 30 = .ok (.iadd, 1) := by decide +kernel
theorem dX4_sellEverywhere_31 : decode cX4_sellEverywhere 31 = .ok (.istore_n 1, 1) := by decide +kernel
theorem dX4_sellEverywhere_32 : decode cX4_sellEverywhere 32 = .ok (.iinc 2 1, 3) := by decide +kernel
theorem dX4_sellEverywhere_35 : decode cX4_sellEverywhere 35 = .ok (.goto (-31), 3) := by decide +kernel
theorem dX4_sellEverywhere_38 : decode cX4_sellEverywhere 38 = .ok (.iload_n 1, 1) := by decide +kernel
theorem dX4_sellEverywhere_39 : decode cX4_sellEverywhere 39 = .ok (.ireturn, 1) := by decide +kernel
theorem dX4_changePrices_0 : decode cX4_changePrices 0 = .ok (.iconst 0, 1) := by decide +kernel
theorem dX4_changePrices_1 : decode cX4_changePrices 1 = .ok (.istore_n 1, 1) := by decide +kernel
theorem dX4_changePrices_2 : decode cX4_changePrices 2 = .ok (.iload_n 1, 1) := by decide +kernel
theorem dX4_changePrices_3 : decode cX4_changePrices 3 = .ok (.aload_n 0, 1) := by decide +kernel
theorem dX4_changePrices_4 : decode cX4_changePrices 4 = .ok (.getfield 16, 3) := by decide +kernel
theorem dX4_changePrices_7 : decode cX4_changePrices 7 = .ok (.invokevirtual 48, 3) := by decide +kernel
theorem dX4_changePrices_10 : decode cX4_changePrices 10 = .ok (.if_icmp .ge 43, 3) := by decide +kernel
theorem dX4_changePrices_13 : decode cX4_changePrices 13 = .ok (.aload_n 0, 1) := by decide +kernel
theorem dX4_changePrices_14 : decode cX4_changePrices 14 = .ok (.getfield 16, 3) := by decide +kernel
theorem dX4_changePrices_17 : decode cX4_changePrices 17 = .ok (.iload_n 1, 1) := by decide +kernel
theorem dX4_changePrices_18 : decode cX4_changePrices 18 = .ok (.invokevirtual 196, 3) := by decide +kernel
theorem dX4_changePrices_21 : decode cX4_changePrices 21 = .ok (.checkcast 127, 3) := by decide +kernel
theorem dX4_changePrices_24 : decode cX4_changePrices 24 = .ok (.astore_n 2, 1) := by decide +kernel
theorem dX4_changePrices_25 : decode cX4_changePrices 25 = .ok (.aload_n 2, 1) := by decide +kernel
theorem dX4_changePrices_26 : decode cX4_changePrices 26 = .ok (.getfield 244, 3) := by decide +kernel
theorem dX4_changePrices_29 : decode cX4_changePrices 29 = .ok (.aload_n 0, 1) := by decide +kernel
theorem dX4_changePrices_30 : decode cX4_changePrices 30 = .ok (.getfield 115, 3) := by decide +kernel
theorem dX4_changePrices_33 : decode cX4_changePrices 33 = .ok (.if_icmp .ne 14, 3) := by decide +kernel
theorem dX4_changePrices_36 : decode cX4_changePrices 36 = .ok (.aload_n 2, 1) := by decide +kernel
theorem dX4_changePrices_37 : decode cX4_changePrices 37 = .ok (.getfield 245, 3) := by decide +kernel
theorem dX4_changePrices_40 : decode cX4_changePrices 40 = .ok (.aload_n 2, 1) := by decide +kernel
theorem dX4_changePrices_41 : decode cX4_changePrices 41 = .ok (.getfield 249, 3) := by decide +kernel
theorem dX4_changePrices_44 : decode cX4_changePrices 44 = .ok (.putfield 122, 3) := by decide +kernel
theorem dX4_changePrices_47 : decode cX4_changePrices 47 = .ok (.iinc 1 1, 3) := by decide +kernel
theorem dX4_changePrices_50 : decode cX4_changePrices 50 = .ok (.goto (-48), 3) := by decide +kernel
theorem dX4_changePrices_53 : decode cX4_changePrices 53 = .ok (.aload_n 0, 1) := by decide +kernel
theorem dX4_changePrices_54 : decode cX4_changePrices 54 = .ok (.getfield 16, 3) := by decide +kernel
theorem dX4_changePrices_57 : decode cX4_changePrices 57 = .ok (.invokevirtual 48, 3) := by decide +kernel
theorem dX4_changePrices_60 : decode cX4_changePrices 60 = .ok (.iconst 1, 1) := by decide +kernel
theorem dX4_changePrices_61 : decode cX4_changePrices 61 = .ok (.isub, 1) := by decide +kernel
theorem dX4_changePrices_62 : decode cX4_changePrices 62 = .ok (.istore_n 1, 1) := by decide +kernel
theorem dX4_changePrices_63 : decode cX4_changePrices 63 = .ok (.iload_n 1, 1) := by decide +kernel
theorem dX4_changePrices_64 : decode cX4_changePrices 64 = .ok (.ifCond .lt 39, 3) := by decide +kernel
theorem dX4_changePrices_67 : decode cX4_changePrices 67 = .ok (.aload_n 0, 1) := by decide +kernel
theorem dX4_changePrices_68 : decode cX4_changePrices 68 = .ok (.getfield 16, 3) := by decide +kernel
theorem dX4_changePrices_71 : decode cX4_changePrices 71 = .ok (.iload_n 1, 1) := by decide +kernel
theorem dX4_changePrices_72 : decode cX4_changePrices 72 = .ok (.invokevirtual 196, 3) := by decide +kernel
theorem dX4_changePrices_75 : decode cX4_changePrices 75 = .ok (.checkcast 127, 3) := by decide +kernel
theorem dX4_changePrices_78 : decode cX4_changePrices 78 = .ok (.getfield 244, 3) := by decide +kernel
theorem dX4_changePrices_81 : decode cX4_changePrices 81 = .ok (.aload_n 0, 1) := by decide +kernel
theorem dX4_changePrices_82 : decode cX4_changePrices 82 = .ok (.getfield 115, 3) := by decide +kernel
theorem dX4_changePrices_85 : decode cX4_changePrices 85 = .ok (.if_icmp .ne 12, 3) := by decide +kernel
theorem dX4_changePrices_88 : decode cX4_changePrices 88 = .ok (.aload_n 0, 1) := by decide +kernel
theorem dX4_changePrices_89 : decode cX4_changePrices 89 = .ok (.getfield 16, 3) := by decide +kernel
theorem dX4_changePrices_92 : decode cX4_changePrices 92 = .ok (.iload_n 1, 1) := by decide +kernel
theorem dX4_changePrices_93 : decode cX4_changePrices 93 = .ok (.invokevirtual 250, 3) := by decide +kernel
theorem dX4_changePrices_96 : decode cX4_changePrices 96 = .ok (.pop, 1) := by decide +kernel
theorem dX4_changePrices_97 : decode cX4_changePrices 97 = .ok (.iinc 1 (-1), 3) := by decide +kernel
theorem dX4_changePrices_100 : decode cX4_changePrices 100 = .ok (.goto (-37), 3) := by decide +kernel
theorem dX4_changePrices_103 : decode cX4_changePrices 103 = .ok (.return_, 1) := by decide +kernel
theorem dX4_survey_0 : decode cX4_survey 0 = .ok (.iconst 0, 1) := by decide +kernel
theorem dX4_survey_1 : decode cX4_survey 1 = .ok (.istore_n 1, 1) := by decide +kernel
theorem dX4_survey_2 : decode cX4_survey 2 = .ok (.iload_n 1, 1) := by decide +kernel
theorem dX4_survey_3 : decode cX4_survey 3 = .ok (.aload_n 0, 1) := by decide +kernel
theorem dX4_survey_4 : decode cX4_survey 4 = .ok (.getfield 10, 3) := by decide +kernel
theorem dX4_survey_7 : decode cX4_survey 7 = .ok (.invokevirtual 48, 3) := by decide +kernel
theorem dX4_survey_10 : decode cX4_survey 10 = .ok (.if_icmp .ge 51, 3) := by decide +kernel
theorem dX4_survey_13 : decode cX4_survey 13 = .ok (.aload_n 0, 1) := by decide +kernel
theorem dX4_survey_14 : decode cX4_survey 14 = .ok (.getfield 10, 3) := by decide +kernel
theorem dX4_survey_17 : decode cX4_survey 17 = .ok (.iload_n 1, 1) := by decide +kernel
theorem dX4_survey_18 : decode cX4_survey 18 = .ok (.invokevirtual 196, 3) := by decide +kernel
theorem dX4_survey_21 : decode cX4_survey 21 = .ok (.checkcast 57, 3) := by decide +kernel
theorem dX4_survey_24 : decode cX4_survey 24 = .ok (.astore_n 2, 1) := by decide +kernel
theorem dX4_survey_25 : decode cX4_survey 25 = .ok (.aload_n 0, 1) := by decide +kernel
theorem dX4_survey_26 : decode cX4_survey 26 = .ok (.getfield 30, 3) := by decide +kernel
theorem dX4_survey_29 : decode cX4_survey 29 = .ok (.iload_n 1, 1) := by decide +kernel
theorem dX4_survey_30 : decode cX4_survey 30 = .ok (.aload_n 2, 1) := by decide +kernel
theorem dX4_survey_31 : decode cX4_survey 31 = .ok (.invokevirtual 253, 3) := by decide +kernel
theorem dX4_survey_34 : decode cX4_survey 34 = .ok (.iastore, 1) := by decide +kernel
theorem dX4_survey_35 : decode cX4_survey 35 = .ok (.aload_n 0, 1) := by decide +kernel
theorem dX4_survey_36 : decode cX4_survey 36 = .ok (.getfield 33, 3) := by decide +kernel
theorem dX4_survey_39 : decode cX4_survey 39 = .ok (.iload_n 1, 1) := by decide +kernel
theorem dX4_survey_40 : decode cX4_survey 40 = .ok (.aload_n 2, 1) := by decide +kernel
theorem dX4_survey_41 : decode cX4_survey 41 = .ok (.invokevirtual 256, 3) := by decide +kernel
theorem dX4_survey_44 : decode cX4_survey 44 = .ok (.iastore, 1) := by decide +kernel
theorem dX4_survey_45 : decode cX4_survey 45 = .ok (.aload_n 0, 1) := by decide +kernel
theorem dX4_survey_46 : decode cX4_survey 46 = .ok (.getfield 26, 3) := by decide +kernel
theorem dX4_survey_49 : decode cX4_survey 49 = .ok (.iload_n 1, 1) := by decide +kernel
theorem dX4_survey_50 : decode cX4_survey 50 = .ok (.aload_n 2, 1) := by decide +kernel
theorem dX4_survey_51 : decode cX4_survey 51 = .ok (.invokevirtual 259, 3) := by decide +kernel
theorem dX4_survey_54 : decode cX4_survey 54 = .ok (.iastore, 1) := by decide +kernel
theorem dX4_survey_55 : decode cX4_survey 55 = .ok (.iinc 1 1, 3) := by decide +kernel
theorem dX4_survey_58 : decode cX4_survey 58 = .ok (.goto (-56), 3) := by decide +kernel
theorem dX4_survey_61 : decode cX4_survey 61 = .ok (.return_, 1) := by decide +kernel
theorem dX4_roundTime_0 : decode cX4_roundTime 0 = .ok (.aload_n 0, 1) := by decide +kernel
theorem dX4_roundTime_1 : decode cX4_roundTime 1 = .ok (.getfield 22, 3) := by decide +kernel
theorem dX4_roundTime_4 : decode cX4_roundTime 4 = .ok (.iconst (-1), 1) := by decide +kernel
theorem dX4_roundTime_5 : decode cX4_roundTime 5 = .ok (.iload_n 1, 1) := by decide +kernel
theorem dX4_roundTime_6 : decode cX4_roundTime 6 = .ok (.invokevirtual 158, 3) := by decide +kernel
theorem dX4_roundTime_9 : decode cX4_roundTime 9 = .ok (.iload_n 1, 1) := by decide +kernel
theorem dX4_roundTime_10 : decode cX4_roundTime 10 = .ok (.aload_n 0, 1) := by decide +kernel
theorem dX4_roundTime_11 : decode cX4_roundTime 11 = .ok (.getfield 26, 3) := by decide +kernel
theorem dX4_roundTime_14 : decode cX4_roundTime 14 = .ok (.invokestatic 185, 3) := by decide +kernel
theorem dX4_roundTime_17 : decode cX4_roundTime 17 = .ok (.iadd, 1) := by decide +kernel
theorem dX4_roundTime_18 : decode cX4_roundTime 18 = .ok (.ireturn, 1) := by decide +kernel
theorem dX4_serve_0 : decode cX4_serve 0 = .ok (.aload_n 0, 1) := by decide +kernel
theorem dX4_serve_1 : decode cX4_serve 1 = .ok (.dup, 1) := by decide +kernel
theorem dX4_serve_2 : decode cX4_serve 2 = .ok (.getfield 206, 3) := by decide +kernel
theorem dX4_serve_5 : decode cX4_serve 5 = .ok (.aload_n 1, 1) := by decide +kernel
theorem dX4_serve_6 : decode cX4_serve 6 = .ok (.invokevirtual 262, 3) := by decide +kernel
theorem dX4_serve_9 : decode cX4_serve 9 = .ok (.i2l, 1) := by decide +kernel
theorem dX4_serve_10 : decode cX4_serve 10 = .ok (.ladd, 1) := by decide +kernel
theorem dX4_serve_11 : decode cX4_serve 11 = .ok (.putfield 206, 3) := by decide +kernel
theorem dX4_serve_14 : decode cX4_serve 14 = .ok (.aload_n 1, 1) := by decide +kernel
theorem dX4_serve_15 : decode cX4_serve 15 = .ok (.dup, 1) := by decide +kernel
theorem dX4_serve_16 : decode cX4_serve 16 = .ok (.getfield 265, 3) := by decide +kernel
theorem dX4_serve_19 : decode cX4_serve 19 = .ok (.iconst 1, 1) := by decide +kernel
theorem dX4_serve_20 : decode cX4_serve 20 = .ok (.iadd, 1) := by decide +kernel
theorem dX4_serve_21 : decode cX4_serve 21 = .ok (.putfield 265, 3) := by decide +kernel
theorem dX4_serve_24 : decode cX4_serve 24 = .ok (.aload_n 1, 1) := by decide +kernel
theorem dX4_serve_25 : decode cX4_serve 25 = .ok (.iload_n 2, 1) := by decide +kernel
theorem dX4_serve_26 : decode cX4_serve 26 = .ok (.invokevirtual 268, 3) := by decide +kernel
theorem dX4_serve_29 : decode cX4_serve 29 = .ok (.istore_n 3, 1) := by decide +kernel
theorem dX4_serve_30 : decode cX4_serve 30 = .ok (.aload_n 0, 1) := by decide +kernel
theorem dX4_serve_31 : decode cX4_serve 31 = .ok (.dup, 1) := by decide +kernel
theorem dX4_serve_32 : decode cX4_serve 32 = .ok (.getfield 209, 3) := by decide +kernel
theorem dX4_serve_35 : decode cX4_serve 35 = .ok (.iload_n 3, 1) := by decide +kernel
theorem dX4_serve_36 : decode cX4_serve 36 = .ok (.i2l, 1) := by decide +kernel
theorem dX4_serve_37 : decode cX4_serve 37 = .ok (.ladd, 1) := by decide +kernel
theorem dX4_serve_38 : decode cX4_serve 38 = .ok (.putfield 209, 3) := by decide +kernel
theorem dX4_serve_41 : decode cX4_serve 41 = .ok (.iload_n 3, 1) := by decide +kernel
theorem dX4_serve_42 : decode cX4_serve 42 = .ok (.ireturn, 1) := by decide +kernel
theorem dX5_init_0 : decode cX5_init 0 = .ok (.aload_n 0, 1) := by decide +kernel
theorem dX5_init_1 : decode cX5_init 1 = .ok (.invokespecial 1, 3) := by decide +kernel
theorem dX5_init_4 : decode cX5_init 4 = .ok (.aload_n 0, 1) := by decide +kernel
theorem dX5_init_5 : decode cX5_init 5 = .ok (.bipush 8, 2) := by decide +kernel
theorem dX5_init_7 : decode cX5_init 7 = .ok (.newarray .int, 2) := by decide +kernel
theorem dX5_init_9 : decode cX5_init 9 = .ok (.putfield 9, 3) := by decide +kernel
theorem dX5_init_12 : decode cX5_init 12 = .ok (.aload_n 0, 1) := by decide +kernel
theorem dX5_init_13 : decode cX5_init 13 = .ok (.bipush 8, 2) := by decide +kernel
theorem dX5_init_15 : decode cX5_init 15 = .ok (.newarray .int, 2) := by decide +kernel
theorem dX5_init_17 : decode cX5_init 17 = .ok (.putfield 13, 3) := by decide +kernel
theorem dX5_init_20 : decode cX5_init 20 = .ok (.aload_n 0, 1) := by decide +kernel
theorem dX5_init_21 : decode cX5_init 21 = .ok (.bipush 8, 2) := by decide +kernel
theorem dX5_init_23 : decode cX5_init 23 = .ok (.newarray .int, 2) := by decide +kernel
theorem dX5_init_25 : decode cX5_init 25 = .ok (.putfield 16, 3) := by decide +kernel
theorem dX5_init_28 : decode cX5_init 28 = .ok (.aload_n 0, 1) := by decide +kernel
theorem dX5_init_29 : decode cX5_init 29 = .ok (.bipush 81, 2) := by decide +kernel
theorem dX5_init_31 : decode cX5_init 31 = .ok (.newarray .int, 2) := by decide +kernel
theorem dX5_init_33 : decode cX5_init 33 = .ok (.putfield 19, 3) := by decide +kernel
theorem dX5_init_36 : decode cX5_init 36 = .ok (.aload_n 0, 1) := by decide +kernel
theorem dX5_init_37 : decode cX5_init 37 = .ok (.bipush 48, 2) := by decide +kernel
theorem dX5_init_39 : decode cX5_init 39 = .ok (.newarray .int, 2) := by decide +kernel
theorem dX5_init_41 : decode cX5_init 41 = .ok (.putfield 22, 3) := by decide +kernel
theorem dX5_init_44 : decode cX5_init 44 = .ok (.aload_n 0, 1) := by decide +kernel
theorem dX5_init_45 : decode cX5_init 45 = .ok (.bipush 48, 2) := by decide +kernel
theorem dX5_init_47 : decode cX5_init 47 = .ok (.newarray .int, 2) := by decide +kernel
theorem dX5_init_49 : decode cX5_init 49 = .ok (.putfield 25, 3) := by decide +kernel
theorem dX5_init_52 : decode cX5_init 52 = .ok (.aload_n 0, 1) := by decide +kernel
theorem dX5_init_53 : decode cX5_init 53 = .ok (.bipush 48, 2) := by decide +kernel
theorem dX5_init_55 : decode cX5_init 55 = .ok (.newarray .int, 2) := by decide +kernel
theorem dX5_init_57 : decode cX5_init 57 = .ok (.putfield 28, 3) := by decide +kernel
theorem dX5_init_60 : decode cX5_init 60 = .ok (.aload_n 0, 1) := by decide +kernel
theorem dX5_init_61 : decode cX5_init 61 = .ok (.bipush 48, 2) := by decide +kernel
theorem dX5_init_63 : decode cX5_init 63 = .ok (.newarray .int, 2) := by decide +kernel
theorem dX5_init_65 : decode cX5_init 65 = .ok (.putfield 31, 3) := by decide +kernel
theorem dX5_init_68 : decode cX5_init 68 = .ok (.aload_n 0, 1) := by decide +kernel
theorem dX5_init_69 : decode cX5_init 69 = .ok (.bipush 48, 2) := by decide +kernel
theorem dX5_init_71 : decode cX5_init 71 = .ok (.newarray .int, 2) := by decide +kernel
theorem dX5_init_73 : decode cX5_init 73 = .ok (.putfield 34, 3) := by decide +kernel
theorem dX5_init_76 : decode cX5_init 76 = .ok (.aload_n 0, 1) := by decide +kernel
theorem dX5_init_77 : decode cX5_init 77 = .ok (.bipush 48, 2) := by decide +kernel
theorem dX5_init_79 : decode cX5_init 79 = .ok (.newarray .int, 2) := by decide +kernel
theorem dX5_init_81 : decode cX5_init 81 = .ok (.putfield 37, 3) := by decide +kernel
theorem dX5_init_84 : decode cX5_init 84 = .ok (.aload_n 0, 1) := by decide +kernel
theorem dX5_init_85 : decode cX5_init 85 = .ok (.bipush 60, 2) := by decide +kernel
theorem dX5_init_87 : decode cX5_init 87 = .ok (.newarray .int, 2) := by decide +kernel
theorem dX5_init_89 : decode cX5_init 89 = .ok (.putfield 40, 3) := by decide +kernel
theorem dX5_init_92 : decode cX5_init 92 = .ok (.aload_n 0, 1) := by decide +kernel
theorem dX5_init_93 : decode cX5_init 93 = .ok (.iconst 4, 1) := by decide +kernel
theorem dX5_init_94 : decode cX5_init 94 = .ok (.newarray .long, 2) := by decide +kernel
theorem dX5_init_96 : decode cX5_init 96 = .ok (.putfield 43, 3) := by decide +kernel
theorem dX5_init_99 : decode cX5_init 99 = .ok (.aload_n 0, 1) := by decide +kernel
theorem dX5_init_100 : decode cX5_init 100 = .ok (.sipush 2304, 3) := by decide +kernel
theorem dX5_init_103 : decode cX5_init 103 = .ok (.newarray .int, 2) := by decide +kernel
theorem dX5_init_105 : decode cX5_init 105 = .ok (.putfield 47, 3) := by decide +kernel
theorem dX5_init_108 : decode cX5_init 108 = .ok (.iconst 0, 1) := by decide +kernel
theorem dX5_init_109 : decode cX5_init 109 = .ok (.istore_n 1, 1) := by decide +kernel
theorem dX5_init_110 : decode cX5_init 110 = .ok (.iload_n 1, 1) := by decide +kernel
theorem dX5_init_111 : decode cX5_init 111 = .ok (.aload_n 0, 1) := by decide +kernel
theorem dX5_init_112 : decode cX5_init 112 = .ok (.getfield 19, 3) := by decide +kernel
theorem dX5_init_115 : decode cX5_init 115 = .ok (.arraylength, 1) := by decide +kernel
theorem dX5_init_116 : decode cX5_init 116 = .ok (.if_icmp .ge 32, 3) := by decide +kernel
theorem dX5_init_119 : decode cX5_init 119 = .ok (.aload_n 0, 1) := by decide +kernel
theorem dX5_init_120 : decode cX5_init 120 = .ok (.getfield 19, 3) := by decide +kernel
theorem dX5_init_123 : decode cX5_init 123 = .ok (.iload_n 1, 1) := by decide +kernel
theorem dX5_init_124 : decode cX5_init 124 = .ok (.iload_n 1, 1) := by decide +kernel
theorem dX5_init_125 : decode cX5_init 125 = .ok (.bipush 9, 2) := by decide +kernel
theorem dX5_init_127 : decode cX5_init 127 = .ok (.idiv, 1) := by decide +kernel
theorem dX5_init_128 : decode cX5_init 128 = .ok (.iload_n 1, 1) := by decide +kernel
theorem dX5_init_129 : decode cX5_init 129 = .ok (.bipush 9, 2) := by decide +kernel
theorem dX5_init_131 : decode cX5_init 131 = .ok (.irem, 1) := by decide +kernel
theorem dX5_init_132 : decode cX5_init 132 = .ok (.if_icmp .ne 7, 3) := by decide +kernel
theorem dX5_init_135 : decode cX5_init 135 = .ok (.iconst 0, 1) := by decide +kernel
theorem dX5_init_136 : decode cX5_init 136 = .ok (.goto 5, 3) := by decide +kernel
theorem dX5_init_139 : decode cX5_init 139 = .ok (.bipush 20, 2) := by decide +kernel
theorem dX5_init_141 : decode cX5_init 141 = .ok (.iastore, 1) := by decide +kernel
theorem dX5_init_142 : decode cX5_init 142 = .ok (.iinc 1 1, 3) := by decide +kernel
theorem dX5_init_145 : decode cX5_init 145 = .ok (.goto (-35), 3) := by decide +kernel
theorem dX5_init_148 : decode cX5_init 148 = .ok (.iconst 0, 1) := by decide +kernel
theorem dX5_init_149 : decode cX5_init 149 = .ok (.istore_n 1, 1) := by decide +kernel
theorem dX5_init_150 : decode cX5_init 150 = .ok (.iload_n 1, 1) := by decide +kernel
theorem dX5_init_151 : decode cX5_init 151 = .ok (.aload_n 0, 1) := by decide +kernel
theorem dX5_init_152 : decode cX5_init 152 = .ok (.getfield 28, 3) := by decide +kernel
theorem dX5_init_155 : decode cX5_init 155 = .ok (.arraylength, 1) := by decide +kernel
theorem dX5_init_156 : decode cX5_init 156 = .ok (.if_icmp .ge 17, 3) := by decide +kernel
theorem dX5_init_159 : decode cX5_init 159 = .ok (.aload_n 0, 1) := by decide +kernel
theorem dX5_init_160 : decode cX5_init 160 = .ok (.getfield 28, 3) := by decide +kernel
theorem dX5_init_163 : decode cX5_init 163 = .ok (.iload_n 1, 1) := by decide +kernel
theorem dX5_init_164 : decode cX5_init 164 = .ok (.bipush 100, 2) := by decide +kernel
theorem dX5_init_166 : decode cX5_init 166 = .ok (.iastore, 1) := by decide +kernel
theorem dX5_init_167 : decode cX5_init 167 = .ok (.iinc 1 1, 3) := by decide +kernel
theorem dX5_init_170 : decode cX5_init 170 = .ok (.goto (-20), 3) := by decide +kernel
theorem dX5_init_173 : decode cX5_init 173 = .ok (.return_, 1) := by decide +kernel
theorem dX5_thrown_0 : decode cX5_thrown 0 = .ok (.aload_n 0, 1) := by decide +kernel
theorem dX5_thrown_1 : decode cX5_thrown 1 = .ok (.getfield 50, 3) := by decide +kernel
theorem dX5_thrown_4 : decode cX5_thrown 4 = .ok (.ireturn, 1) := by decide +kernel
theorem dX5_fail_0 : decode cX5_fail 0 = .ok (.aload_n 0, 1) := by decide +kernel
theorem dX5_fail_1 : decode cX5_fail 1 = .ok (.iload_n 1, 1) := by decide +kernel
theorem dX5_fail_2 : decode cX5_fail 2 = .ok (.putfield 50, 3) := by decide +kernel
theorem dX5_fail_5 : decode cX5_fail 5 = .ok (.iconst 0, 1) := by decide +kernel
theorem dX5_fail_6 : decode cX5_fail 6 = .ok (.ireturn, 1) := by decide +kernel
theorem dX5_isIn_0 : decode cX5_isIn 0 = .ok (.iload_n 0, 1) := by decide +kernel
theorem dX5_isIn_1 : decode cX5_isIn 1 = .ok (.iload_n 1, 1) := by decide +kernel
theorem dX5_isIn_2 : decode cX5_isIn 2 = .ok (.if_icmp .lt 12, 3) := by decide +kernel
theorem dX5_isIn_5 : decode cX5_isIn 5 = .ok (.iload_n 0, 1) := by decide +kernel
theorem dX5_isIn_6 : decode cX5_isIn 6 = .ok (.iload_n 2, 1) := by decide +kernel
theorem dX5_isIn_7 : decode cX5_isIn 7 = .ok (.if_icmp .gt 7, 3) := by decide +kernel
theorem dX5_isIn_10 : decode cX5_isIn 10 = .ok (.iconst 1, 1) := by decide +kernel
theorem dX5_isIn_11 : decode cX5_isIn 11 = .ok (.goto 4, 3) := by decide +kernel
theorem dX5_isIn_14 : decode cX5_isIn 14 = .ok (.iconst 0, 1) := by decide +kernel
theorem dX5_isIn_15 : decode cX5_isIn 15 = .ok (.ireturn, 1) := by decide +kernel
theorem dX5_isMachine_0 : decode cX5_isMachine 0 = .ok (.iload_n 1, 1) := by decide +kernel
theorem dX5_isMachine_1 : decode cX5_isMachine 1 = .ok (.iconst 0, 1) := by decide +kernel
theorem dX5_isMachine_2 : decode cX5_isMachine 2 = .ok (.aload_n 0, 1) := by decide +kernel
theorem dX5_isMachine_3 : decode cX5_isMachine 3 = .ok (.getfield 54, 3) := by decide +kernel
theorem dX5_isMachine_6 : decode cX5_isMachine 6 = .ok (.iconst 1, 1) := by decide +kernel
theorem dX5_isMachine_7 : decode cX5_isMachine 7 = .ok (.isub, 1) := by decide +kernel
theorem dX5_isMachine_8 : decode cX5_isMachine 8 = .ok (.invokestatic 57, 3) := by decide +kernel
theorem dX5_isMachine_11 : decode cX5_isMachine 11 = .ok (.ireturn, 1) := by decide +kernel
theorem dX5_isSlot_0 : decode cX5_isSlot 0 = .ok (.aload_n 0, 1) := by decide +kernel
theorem dX5_isSlot_1 : decode cX5_isSlot 1 = .ok (.iload_n 1, 1) := by decide +kernel
theorem dX5_isSlot_2 : decode cX5_isSlot 2 = .ok (.invokevirtual 61, 3) := by decide +kernel
theorem dX5_isSlot_5 : decode cX5_isSlot 5 = .ok (.ifCond .eq 16, 3) := by decide +kernel
theorem dX5_isSlot_8 : decode cX5_isSlot 8 = .ok (.iload_n 2, 1) := by decide +kernel
theorem dX5_isSlot_9 : decode cX5_isSlot 9 = .ok (.iconst 0, 1) := by decide +kernel
theorem dX5_isSlot_10 : decode cX5_isSlot 10 = .ok (.iconst 5, 1) := by decide +kernel
theorem dX5_isSlot_11 : decode cX5_isSlot 11 = .ok (.invokestatic 57, 3) := by decide +kernel
theorem dX5_isSlot_14 : decode cX5_isSlot 14 = .ok (.ifCond .eq 7, 3) := by decide +kernel
theorem dX5_isSlot_17 : decode cX5_isSlot 17 = .ok (.iconst 1, 1) := by decide +kernel
theorem dX5_isSlot_18 : decode cX5_isSlot 18 = .ok (.goto 4, 3) := by decide +kernel
theorem dX5_isSlot_21 : decode cX5_isSlot 21 = .ok (.iconst 0, 1) := by decide +kernel
theorem dX5_isSlot_22 : decode cX5_isSlot 22 = .ok (.ireturn, 1) := by decide +kernel
theorem dX5_areMachines_0 : decode cX5_areMachines 0 = .ok (.iload_n 1, 1) := by decide +kernel
theorem dX5_areMachines_1 : decode cX5_areMachines 1 = .ok (.iconst 0, 1) := by decide +kernel
theorem dX5_areMachines_2 : decode cX5_areMachines 2 = .ok (.iconst 1, 1) := by decide +kernel
theorem dX5_areMachines_3 : decode cX5_areMachines 3 = .ok (.aload_n 0, 1) := by decide +kernel
theorem dX5_areMachines_4 : decode cX5_areMachines 4 = .ok (.getfield 54, 3) := by decide +kernel
theorem dX5_areMachines_7 : decode cX5_areMachines 7 = .ok (.ishl, 1) := by decide +kernel
theorem dX5_areMachines_8 : decode cX5_areMachines 8 = .ok (.iconst 1, 1) := by decide +kernel
theorem dX5_areMachines_9 : decode cX5_areMachines 9 = .ok (.isub, 1) := by decide +kernel
theorem dX5_areMachines_10 : decode cX5_areMachines 10 = .ok (.invokestatic 57, 3) := by decide +kernel
theorem dX5_areMachines_13 : decode cX5_areMachines 13 = .ok (.ireturn, 1) := by decide +kernel
theorem dX5_has_0 : decode cX5_has 0 = .ok (.iload_n 0, 1) := by decide +kernel
theorem dX5_has_1 : decode cX5_has 1 = .ok (.iload_n 1, 1) := by decide +kernel
theorem dX5_has_2 : decode cX5_has 2 = .ok (.ishr, 1) := by decide +kernel
theorem dX5_has_3 : decode cX5_has 3 = .ok (.iconst 1, 1) := by decide +kernel
theorem dX5_has_4 : decode cX5_has 4 = .ok (.iand, 1) := by decide +kernel
theorem dX5_has_5 : decode cX5_has 5 = .ok (.iconst 1, 1) := by decide +kernel
theorem dX5_has_6 : decode cX5_has 6 = .ok (.if_icmp .ne 7, 3) := by decide +kernel
theorem dX5_has_9 : decode cX5_has 9 = .ok (.iconst 1, 1) := by decide +kernel
theorem dX5_has_10 : decode cX5_has 10 = .ok (.goto 4, 3) := by decide +kernel
theorem dX5_has_13 : decode cX5_has 13 = .ok (.iconst 0, 1) := by decide +kernel
theorem dX5_has_14 : decode cX5_has 14 = .ok (.ireturn, 1) := by decide +kernel
theorem dX5_addMachine_0 : decode cX5_addMachine 0 = .ok (.aload_n 0, 1) := by decide +kernel
theorem dX5_addMachine_1 : decode cX5_addMachine 1 = .ok (.iconst 0, 1) := by decide +kernel
theorem dX5_addMachine_2 : decode cX5_addMachine 2 = .ok (.putfield 50, 3) := by decide +kernel
theorem dX5_addMachine_5 : decode cX5_addMachine 5 = .ok (.iload_n 1, 1) := by decide +kernel
theorem dX5_addMachine_6 : decode cX5_addMachine 6 = .ok (.bipush 100, 2) := by decide +kernel
theorem dX5_addMachine_8 : decode cX5_addMachine 8 = .ok (.ldc 65, 2) := by decide +kernel
theorem dX5_addMachine_10 : decode cX5_addMachine 10 = .ok (.invokestatic 57, 3) := by decide +kernel
theorem dX5_addMachine_13 : decode cX5_addMachine 13 = .ok (.ifCond .ne 9, 3) := by decide +kernel
theorem dX5_addMachine_16 : decode cX5_addMachine 16 = .ok (.aload_n 0, 1) := by decide +kernel
theorem dX5_addMachine_17 : decode cX5_addMachine 17 = .ok (.iconst 1, 1) := by decide +kernel
theorem dX5_addMachine_18 : decode cX5_addMachine 18 = .ok (.invokevirtual 66, 3) := by decide +kernel
theorem dX5_addMachine_21 : decode cX5_addMachine 21 = .ok (.ireturn, 1) := by decide +kernel
theorem dX5_addMachine_22 : decode cX5_addMachine 22 = .ok (.aload_n 0, 1) := by decide +kernel
theorem dX5_addMachine_23 : decode cX5_addMachine 23 = .ok (.getfield 54, 3) := by decide +kernel
theorem dX5_addMachine_26 : decode cX5_addMachine 26 = .ok (.bipush 8, 2) := by decide +kernel
theorem dX5_addMachine_28 : decode cX5_addMachine 28 = .ok (.if_icmp .ne 9, 3) := by decide +kernel
theorem dX5_addMachine_31 : decode cX5_addMachine 31 = .ok (.aload_n 0, 1) := by decide +kernel
theorem dX5_addMachine_32 : decode cX5_addMachine 32 = .ok (.iconst 2, 1) := by decide +kernel
theorem dX5_addMachine_33 : decode cX5_addMachine 33 = .ok (.invokevirtual 66, 3) := by decide +kernel
theorem dX5_addMachine_36 : decode cX5_addMachine 36 = .ok (.ireturn, 1) := by decide +kernel
theorem dX5_addMachine_37 : decode cX5_addMachine 37 = .ok (.aload_n 0, 1) := by decide +kernel
theorem dX5_addMachine_38 : decode cX5_addMachine 38 = .ok (.getfield 9, 3) := by decide +kernel
theorem dX5_addMachine_41 : decode cX5_addMachine 41 = .ok (.aload_n 0, 1) := by decide +kernel
theorem dX5_addMachine_42 : decode cX5_addMachine 42 = .ok (.getfield 54, 3) := by decide +kernel
theorem dX5_addMachine_45 : decode cX5_addMachine 45 = .ok (.iload_n 1, 1) := by decide +kernel
theorem dX5_addMachine_46 : decode cX5_addMachine 46 = .ok (.iastore, 1) := by decide +kernel
theorem dX5_addMachine_47 : decode cX5_addMachine 47 = .ok (.aload_n 0, 1) := by decide +kernel
theorem dX5_addMachine_48 : decode cX5_addMachine 48 = .ok (.dup, 1) := by decide +kernel
theorem dX5_addMachine_49 : decode cX5_addMachine 49 = .ok (.getfield 54, 3) := by decide +kernel
theorem dX5_addMachine_52 : decode cX5_addMachine 52 = .ok (.iconst 1, 1) := by decide +kernel
theorem dX5_addMachine_53 : decode cX5_addMachine 53 = .ok (.iadd, 1) := by decide +kernel
theorem dX5_addMachine_54 : decode cX5_addMachine 54 = .ok (.putfield 54, 3) := by decide +kernel
theorem dX5_addMachine_57 : decode cX5_addMachine 57 = .ok (.aload_n 0, 1) := by decide +kernel
theorem dX5_addMachine_58 : decode cX5_addMachine 58 = .ok (.getfield 54, 3) := by decide +kernel
theorem dX5_addMachine_61 : decode cX5_addMachine 61 = .ok (.iconst 1, 1) := by decide +kernel
theorem dX5_addMachine_62 : decode cX5_addMachine 62 = .ok (.isub, 1) := by decide +kernel
theorem dX5_addMachine_63 : decode cX5_addMachine 63 = .ok (.ireturn, 1) := by decide +kernel
theorem dX5_way_0 : decode cX5_way 0 = .ok (.aload_n 0, 1) := by decide +kernel
theorem dX5_way_1 : decode cX5_way 1 = .ok (.getfield 19, 3) := by decide +kernel
theorem dX5_way_4 : decode cX5_way 4 = .ok (.bipush 9, 2) := by decide +kernel
theorem dX5_way_6 : decode cX5_way 6 = .ok (.iload_n 1, 1) := by decide +kernel
theorem dX5_way_7 : decode cX5_way 7 = .ok (.imul, 1) := by decide +kernel
theorem dX5_way_8 : decode cX5_way 8 = .ok (.iload_n 2, 1) := by decide +kernel
theorem dX5_way_9 : decode cX5_way 9 = .ok (.iadd, 1) := by decide +kernel
theorem dX5_way_10 : decode cX5_way 10 = .ok (.iaload, 1) := by decide +kernel
theorem dX5_way_11 : decode cX5_way 11 = .ok (.ireturn, 1) := by decide +kernel
theorem dX5_setMinutes_0 : decode cX5_setMinutes 0 = .ok (.aload_n 0, 1) := by decide +kernel
theorem dX5_setMinutes_1 : decode cX5_setMinutes 1 = .ok (.iconst 0, 1) := by decide +kernel
theorem dX5_setMinutes_2 : decode cX5_setMinutes 2 = .ok (.putfield 50, 3) := by decide +kernel
theorem dX5_setMinutes_5 : decode cX5_setMinutes 5 = .ok (.iload_n 1, 1) := by decide +kernel
theorem dX5_setMinutes_6 : decode cX5_setMinutes 6 = .ok (.iconst (-1), 1) := by decide +kernel
theorem dX5_setMinutes_7 : decode cX5_setMinutes 7 = .ok (.aload_n 0, 1) := by decide +kernel
theorem dX5_setMinutes_8 : decode cX5_setMinutes 8 = .ok (.getfield 54, 3) := by decide +kernel
theorem dX5_setMinutes_11 : decode cX5_setMinutes 11 = .ok (.iconst 1, 1) := by decide +kernel
theorem dX5_setMinutes_12 : decode cX5_setMinutes 12 = .ok (.isub, 1) := by decide +kernel
theorem dX5_setMinutes_13 : decode cX5_setMinutes 13 = .ok (.invokestatic 57, 3) := by decide +kernel
theorem dX5_setMinutes_16 : decode cX5_setMinutes 16 = .ok (.ifCond .eq 17, 3) := by decide +kernel
theorem dX5_setMinutes_19 : decode cX5_setMinutes 19 = .ok (.iload_n 2, 1) := by decide +kernel
theorem dX5_setMinutes_20 : decode cX5_setMinutes 20 = .ok (.iconst (-1), 1) := by decide +kernel
theorem dX5_setMinutes_21 : decode cX5_setMinutes 21 = .ok (.aload_n 0, 1) := by decide +kernel
theorem dX5_setMinutes_22 : decode cX5_setMinutes 22 = .ok (.getfield 54, 3) := by decide +kernel
theorem dX5_setMinutes_25 : decode cX5_setMinutes 25 = .ok (.iconst 1, 1) := by decide +kernel
theorem dX5_setMinutes_26 : decode cX5_setMinutes 26 = .ok (.isub, 1) := by decide +kernel
theorem dX5_setMinutes_27 : decode cX5_setMinutes 27 = .ok (.invokestatic 57, 3) := by decide +kernel
theorem dX5_setMinutes_30 : decode cX5_setMinutes 30 = .ok (.ifCond .ne 9, 3) := by decide +kernel
theorem dX5_setMinutes_33 : decode cX5_setMinutes 33 = .ok (.aload_n 0, 1) := by decide +kernel
theorem dX5_setMinutes_34 : decode cX5_setMinutes 34 = .ok (.iconst 1, 1) := by decide +kernel
theorem dX5_setMinutes_35 : decode cX5_setMinutes 35 = .ok (.invokevirtual 66, 3) := by decide +kernel
theorem dX5_setMinutes_38 : decode cX5_setMinutes 38 = .ok (.ireturn, 1) := by decide +kernel
theorem dX5_setMinutes_39 : decode cX5_setMinutes 39 = .ok (.iload_n 1, 1) := by decide +kernel
theorem dX5_setMinutes_40 : decode cX5_setMinutes 40 = .ok (.iload_n 2, 1) := by decide +kernel
theorem dX5_setMinutes_41 : decode cX5_setMinutes 41 = .ok (.if_icmp .eq 14, 3) := by decide +kernel
theorem dX5_setMinutes_44 : decode cX5_setMinutes 44 = .ok (.iload_n 3, 1) := by decide +kernel
theorem dX5_setMinutes_45 : decode cX5_setMinutes 45 = .ok (.iconst 1, 1) := by decide +kernel
theorem dX5_setMinutes_46 : decode cX5_setMinutes 46 = .ok (.sipush 200, 3) := by decide +kernel
theorem dX5_setMinutes_49 : decode cX5_setMinutes 49 = .ok (.invokestatic 57, 3) := by decide +kernel
theorem dX5_setMinutes_52 : decode cX5_setMinutes 52 = .ok (.ifCond .ne 9, 3) := by decide +kernel
theorem dX5_setMinutes_55 : decode cX5_setMinutes 55 = .ok (.aload_n 0, 1) := by decide +kernel
theorem dX5_setMinutes_56 : decode cX5_setMinutes 56 = .ok (.iconst 2, 1) := by decide +kernel
theorem dX5_setMinutes_57 : decode cX5_setMinutes 57 = .ok (.invokevirtual 66, 3) := by decide +kernel
theorem dX5_setMinutes_60 : decode cX5_setMinutes 60 = .ok (.ireturn, 1) := by decide +kernel
theorem dX5_setMinutes_61 : decode cX5_setMinutes 61 = .ok (.iload_n 1, 1) := by decide +kernel
theorem dX5_setMinutes_62 : decode cX5_setMinutes 62 = .ok (.ifCond .ge 8, 3) := by decide +kernel
theorem dX5_setMinutes_65 : decode cX5_setMinutes 65 = .ok (.bipush 8, 2) := by decide +kernel
theorem dX5_setMinutes_67 : decode cX5_setMinutes 67 = .ok (.goto 4, 3) := by decide +kernel
theorem dX5_setMinutes_70 : decode cX5_setMinutes 70 = .ok (.iload_n 1, 1) := by decide +kernel
theorem dX5_setMinutes_71 : decode cX5_setMinutes 71 = .ok (.istore 4, 2) := by decide +kernel
theorem dX5_setMinutes_73 : decode cX5_setMinutes 73 = .ok (.iload_n 2, 1) := by decide +kernel
theorem dX5_setMinutes_74 : decode cX5_setMinutes 74 = .ok (.ifCond .ge 8, 3) := by decide +kernel
theorem dX5_setMinutes_77 : decode cX5_setMinutes 77 = .ok (.bipush 8, 2) := by decide +kernel
theorem dX5_setMinutes_79 : decode cX5_setMinutes 79 = .ok (.goto 4, 3) := by decide +kernel
theorem dX5_setMinutes_82 : decode cX5_setMinutes 82 = .ok (.iload_n 2, 1) := by decide +kernel
theorem dX5_setMinutes_83 : decode cX5_setMinutes 83 = .ok (.istore 5, 2) := by decide +kernel
theorem dX5_setMinutes_85 : decode cX5_setMinutes 85 = .ok (.aload_n 0, 1) := by decide +kernel
theorem dX5_setMinutes_86 : decode cX5_setMinutes 86 = .ok (.iload 4, 2) := by decide +kernel
theorem dX5_setMinutes_88 : decode cX5_setMinutes 88 = .ok (.iload 5, 2) := by decide +kernel
theorem dX5_setMinutes_90 : decode cX5_setMinutes 90 = .ok (.invokevirtual 70, 3) := by decide +kernel
theorem dX5_setMinutes_93 : decode cX5_setMinutes 93 = .ok (.istore 6, 2) := by decide +kernel
theorem dX5_setMinutes_95 : decode cX5_setMinutes 95 = .ok (.aload_n 0, 1) := by decide +kernel
theorem dX5_setMinutes_96 : decode cX5_setMinutes 96 = .ok (.getfield 19, 3) := by decide +kernel
theorem dX5_setMinutes_99 : decode cX5_setMinutes 99 = .ok (.bipush 9, 2) := by decide +kernel
theorem dX5_setMinutes_101 : decode cX5_setMinutes 101 = .ok (.iload 4, 2) := by decide +kernel
theorem dX5_setMinutes_103 : decode cX5_setMinutes 103 = .ok (.imul, 1) := by decide +kernel
theorem dX5_setMinutes_104 : decode cX5_setMinutes 104 = .ok (.iload 5, 2) := by decide +kernel
theorem dX5_setMinutes_106 : decode cX5_setMinutes 106 = .ok (.iadd, 1) := by decide +kernel
theorem dX5_setMinutes_107 : decode cX5_setMinutes 107 = .ok (.iload_n 3, 1) := by decide +kernel
theorem dX5_setMinutes_108 : decode cX5_setMinutes 108 = .ok (.iastore, 1) := by decide +kernel
theorem dX5_setMinutes_109 : decode cX5_setMinutes 109 = .ok (.aload_n 0, 1) := by decide +kernel
theorem dX5_setMinutes_110 : decode cX5_setMinutes 110 = .ok (.getfield 19, 3) := by decide +kernel
theorem dX5_setMinutes_113 : decode cX5_setMinutes 113 = .ok (.bipush 9, 2) := by decide +kernel
theorem dX5_setMinutes_115 : decode cX5_setMinutes 115 = .ok (.iload 5, 2) := by decide +kernel
theorem dX5_setMinutes_117 : decode cX5_setMinutes 117 = .ok (.imul, 1) := by decide +kernel
theorem dX5_setMinutes_118 : decode cX5_setMinutes 118 = .ok (.iload 4, 2) := by decide +kernel
theorem dX5_setMinutes_120 : decode cX5_setMinutes 120 = .ok (.iadd, 1) := by decide +kernel
theorem dX5_setMinutes_121 : decode cX5_setMinutes 121 = .ok (.iload_n 3, 1) := by decide +kernel
theorem dX5_setMinutes_122 : decode cX5_setMinutes 122 = .ok (.iastore, 1) := by decide +kernel
theorem dX5_setMinutes_123 : decode cX5_setMinutes 123 = .ok (.iload 6, 2) := by decide +kernel
theorem dX5_setMinutes_125 : decode cX5_setMinutes 125 = .ok (.ireturn, 1) := by decide +kernel
theorem dX5_setSlot_0 : decode cX5_setSlot 0 = .ok (.aload_n 0, 1) := by decide +kernel
theorem dX5_setSlot_1 : decode cX5_setSlot 1 = .ok (.iconst 0, 1) := by decide +kernel
theorem dX5_setSlot_2 : decode cX5_setSlot 2 = .ok (.putfield 50, 3) := by decide +kernel
theorem dX5_setSlot_5 : decode cX5_setSlot 5 = .ok (.aload_n 0, 1) := by decide +kernel
theorem dX5_setSlot_6 : decode cX5_setSlot 6 = .ok (.iload_n 1, 1) := by decide +kernel
theorem dX5_setSlot_7 : decode cX5_setSlot 7 = .ok (.iload_n 2, 1) := by decide +kernel
theorem dX5_setSlot_8 : decode cX5_setSlot 8 = .ok (.invokevirtual 74, 3) := by decide +kernel
theorem dX5_setSlot_11 : decode cX5_setSlot 11 = .ok (.ifCond .ne 9, 3) := by decide +kernel
theorem dX5_setSlot_14 : decode cX5_setSlot 14 = .ok (.aload_n 0, 1) := by decide +kernel
theorem dX5_setSlot_15 : decode cX5_setSlot 15 = .ok (.iconst 1, 1) := by decide +kernel
theorem dX5_setSlot_16 : decode cX5_setSlot 16 = .ok (.invokevirtual 66, 3) := by decide +kernel
theorem dX5_setSlot_19 : decode cX5_setSlot 19 = .ok (.ireturn, 1) := by decide +kernel
theorem dX5_setSlot_20 : decode cX5_setSlot 20 = .ok (.iload_n 3, 1) := by decide +kernel
theorem dX5_setSlot_21 : decode cX5_setSlot 21 = .ok (.iconst 0, 1) := by decide +kernel
theorem dX5_setSlot_22 : decode cX5_setSlot 22 = .ok (.bipush 30, 2) := by decide +kernel
theorem dX5_setSlot_24 : decode cX5_setSlot 24 = .ok (.invokestatic 57, 3) := by decide +kernel
theorem dX5_setSlot_27 : decode cX5_setSlot 27 = .ok (.ifCond .eq 14, 3) := by decide +kernel
theorem dX5_setSlot_30 : decode cX5_setSlot 30 = .ok (.iload 4, 2) := by decide +kernel
theorem dX5_setSlot_32 : decode cX5_setSlot 32 = .ok (.iconst 0, 1) := by decide +kernel
theorem dX5_setSlot_33 : decode cX5_setSlot 33 = .ok (.bipush 20, 2) := by decide +kernel
theorem dX5_setSlot_35 : decode cX5_setSlot 35 = .ok (.invokestatic 57, 3) := by decide +kernel
theorem dX5_setSlot_38 : decode cX5_setSlot 38 = .ok (.ifCond .ne 9, 3) := by decide +kernel
theorem dX5_setSlot_41 : decode cX5_setSlot 41 = .ok (.aload_n 0, 1) := by decide +kernel
theorem dX5_setSlot_42 : decode cX5_setSlot 42 = .ok (.iconst 2, 1) := by decide +kernel
theorem dX5_setSlot_43 : decode cX5_setSlot 43 = .ok (.invokevirtual 66, 3) := by decide +kernel
theorem dX5_setSlot_46 : decode cX5_setSlot 46 = .ok (.ireturn, 1) := by decide +kernel
theorem dX5_setSlot_47 : decode cX5_setSlot 47 = .ok (.bipush 6, 2) := by decide +kernel
theorem dX5_setSlot_49 : decode cX5_setSlot 49 = .ok (.iload_n 1, 1) := by decide +kernel
theorem dX5_setSlot_50 : decode cX5_setSlot 50 = .ok (.imul, 1) := by decide +kernel
theorem dX5_setSlot_51 : decode cX5_setSlot 51 = .ok (.iload_n 2, 1) := by decide +kernel
theorem dX5_setSlot_52 : decode cX5_setSlot 52 = .ok (.iadd, 1) := by decide +kernel
theorem dX5_setSlot_53 : decode cX5_setSlot 53 = .ok (.istore 5, 2) := by decide +kernel
theorem dX5_setSlot_55 : decode cX5_setSlot 55 = .ok (.aload_n 0, 1) := by decide +kernel
theorem dX5_setSlot_56 : decode cX5_setSlot 56 = .ok (.getfield 22, 3) := by decide +kernel
theorem dX5_setSlot_59 : decode cX5_setSlot 59 = .ok (.iload 5, 2) := by decide +kernel
theorem dX5_setSlot_61 : decode cX5_setSlot 61 = .ok (.iaload, 1) := by decide +kernel
theorem dX5_setSlot_62 : decode cX5_setSlot 62 = .ok (.istore 6, 2) := by decide +kernel
theorem dX5_setSlot_64 : decode cX5_setSlot 64 = .ok (.aload_n 0, 1) := by decide +kernel
theorem dX5_setSlot_65 : decode cX5_setSlot 65 = .ok (.getfield 22, 3) := by decide +kernel
theorem dX5_setSlot_68 : decode cX5_setSlot 68 = .ok (.iload 5, 2) := by decide +kernel
theorem dX5_setSlot_70 : decode cX5_setSlot 70 = .ok (.iload_n 3, 1) := by decide +kernel
theorem dX5_setSlot_71 : decode cX5_setSlot 71 = .ok (.iastore, 1) := by decide +kernel
theorem dX5_setSlot_72 : decode cX5_setSlot 72 = .ok (.aload_n 0, 1) := by decide +kernel
theorem dX5_setSlot_73 : decode cX5_setSlot 73 = .ok (.getfield 31, 3) := by decide +kernel
theorem dX5_setSlot_76 : decode cX5_setSlot 76 = .ok (.iload 5, 2) := by decide +kernel
theorem dX5_setSlot_78 : decode cX5_setSlot 78 = .ok (.iload 4, 2) := by decide +kernel
theorem dX5_setSlot_80 : decode cX5_setSlot 80 = .ok (.iastore, 1) := by decide +kernel
theorem dX5_setSlot_81 : decode cX5_setSlot 81 = .ok (.aload_n 0, 1) := by decide +kernel
theorem dX5_setSlot_82 : decode cX5_setSlot 82 = .ok (.getfield 25, 3) := by decide +kernel
theorem dX5_setSlot_85 : decode cX5_setSlot 85 = .ok (.iload 5, 2) := by decide +kernel
theorem dX5_setSlot_87 : decode cX5_setSlot 87 = .ok (.aload_n 0, 1) := by decide +kernel
theorem dX5_setSlot_88 : decode cX5_setSlot 88 = .ok (.getfield 25, 3) := by decide +kernel
theorem dX5_setSlot_91 : decode cX5_setSlot 91 = .ok (.iload 5, 2) := by decide +kernel
theorem dX5_setSlot_93 : decode cX5_setSlot 93 = .ok (.iaload, 1) := by decide +kernel
theorem dX5_setSlot_94 : decode cX5_setSlot 94 = .ok (.iload_n 3, 1) := by decide +kernel
theorem dX5_setSlot_95 : decode cX5_setSlot 95 = .ok (.invokestatic 78, 3) := by decide +kernel
theorem dX5_setSlot_98 : decode cX5_setSlot 98 = .ok (.iastore, 1) := by decide +kernel
theorem dX5_setSlot_99 : decode cX5_setSlot 99 = .ok (.iload 6, 2) := by decide +kernel
theorem dX5_setSlot_101 : decode cX5_setSlot 101 = .ok (.ireturn, 1) := by decide +kernel
theorem dX5_planPrice_0 : decode cX5_planPrice 0 = .ok (.aload_n 0, 1) := by decide +kernel
theorem dX5_planPrice_1 : decode cX5_planPrice 1 = .ok (.iconst 0, 1) := by decide +kernel
theorem dX5_planPrice_2 : decode cX5_planPrice 2 = .ok (.putfield 50, 3) := by decide +kernel
theorem dX5_planPrice_5 : decode cX5_planPrice 5 = .ok (.aload_n 0, 1) := by decide +kernel
theorem dX5_planPrice_6 : decode cX5_planPrice 6 = .ok (.iload_n 1, 1) := by decide +kernel
theorem dX5_planPrice_7 : decode cX5_planPrice 7 = .ok (.iload_n 2, 1) := by decide +kernel
theorem dX5_planPrice_8 : decode cX5_planPrice 8 = .ok (.invokevirtual 74, 3) := by decide +kernel
theorem dX5_planPrice_11 : decode cX5_planPrice 11 = .ok (.ifCond .ne 9, 3) := by decide +kernel
theorem dX5_planPrice_14 : decode cX5_planPrice 14 = .ok (.aload_n 0, 1) := by decide +kernel
theorem dX5_planPrice_15 : decode cX5_planPrice 15 = .ok (.iconst 1, 1) := by decide +kernel
theorem dX5_planPrice_16 : decode cX5_planPrice 16 = .ok (.invokevirtual 66, 3) := by decide +kernel
theorem dX5_planPrice_19 : decode cX5_planPrice 19 = .ok (.ireturn, 1) := by decide +kernel
theorem dX5_planPrice_20 : decode cX5_planPrice 20 = .ok (.iload_n 3, 1) := by decide +kernel
theorem dX5_planPrice_21 : decode cX5_planPrice 21 = .ok (.aload_n 0, 1) := by decide +kernel
theorem dX5_planPrice_22 : decode cX5_planPrice 22 = .ok (.getfield 83, 3) := by decide +kernel
theorem dX5_planPrice_25 : decode cX5_planPrice 25 = .ok (.sipush 999, 3) := by decide +kernel
theorem dX5_planPrice_28 : decode cX5_planPrice 28 = .ok (.invokestatic 57, 3) := by decide +kernel
theorem dX5_planPrice_31 : decode cX5_planPrice 31 = .ok (.ifCond .eq 15, 3) := by decide +kernel
theorem dX5_planPrice_34 : decode cX5_planPrice 34 = .ok (.iload 4, 2) := by decide +kernel
theorem dX5_planPrice_36 : decode cX5_planPrice 36 = .ok (.iconst 1, 1) := by decide +kernel
theorem dX5_planPrice_37 : decode cX5_planPrice 37 = .ok (.sipush 1000, 3) := by decide +kernel
theorem dX5_planPrice_40 : decode cX5_planPrice 40 = .ok (.invokestatic 57, 3) := by decide +kernel
theorem dX5_planPrice_43 : decode cX5_planPrice 43 = .ok (.ifCond .ne 9, 3) := by decide +kernel
theorem dX5_planPrice_46 : decode cX5_planPrice 46 = .ok (.aload_n 0, 1) := by decide +kernel
theorem dX5_planPrice_47 : decode cX5_planPrice 47 = .ok (.iconst 2, 1) := by decide +kernel
theorem dX5_planPrice_48 : decode cX5_planPrice 48 = .ok (.invokevirtual 66, 3) := by decide +kernel
theorem dX5_planPrice_51 : decode cX5_planPrice 51 = .ok (.ireturn, 1) := by decide +kernel
theorem dX5_planPrice_52 : decode cX5_planPrice 52 = .ok (.iload_n 3, 1) := by decide +kernel
theorem dX5_planPrice_53 : decode cX5_planPrice 53 = .ok (.aload_n 0, 1) := by decide +kernel
theorem dX5_planPrice_54 : decode cX5_planPrice 54 = .ok (.getfield 83, 3) := by decide +kernel
theorem dX5_planPrice_57 : decode cX5_planPrice 57 = .ok (.if_icmp .eq 18, 3) := by decide +kernel
theorem dX5_planPrice_60 : decode cX5_planPrice 60 = .ok (.aload_n 0, 1) := by decide +kernel
theorem dX5_planPrice_61 : decode cX5_planPrice 61 = .ok (.getfield 86, 3) := by decide +kernel
theorem dX5_planPrice_64 : decode cX5_planPrice 64 = .ok (.bipush 20, 2) := by decide +kernel
theorem dX5_planPrice_66 : decode cX5_planPrice 66 = .ok (.if_icmp .ne 9, 3) := by decide +kernel
theorem dX5_planPrice_69 : decode cX5_planPrice 69 = .ok (.aload_n 0, 1) := by decide +kernel
theorem dX5_planPrice_70 : decode cX5_planPrice 70 = .ok (.iconst 3, 1) := by decide +kernel
theorem dX5_planPrice_71 : decode cX5_planPrice 71 = .ok (.invokevirtual 66, 3) := by decide +kernel
theorem dX5_planPrice_74 : decode cX5_planPrice 74 = .ok (.ireturn, 1) := by decide +kernel
theorem dX5_planPrice_75 : decode cX5_planPrice 75 = .ok (.bipush 6, 2) := by decide +kernel
theorem dX5_planPrice_77 : decode cX5_planPrice 77 = .ok (.iload_n 1, 1) := by decide +kernel
theorem dX5_planPrice_78 : decode cX5_planPrice 78 = .ok (.imul, 1) := by decide +kernel
theorem dX5_planPrice_79 : decode cX5_planPrice 79 = .ok (.iload_n 2, 1) := by decide +kernel
theorem dX5_planPrice_80 : decode cX5_planPrice 80 = .ok (.iadd, 1) := by decide +kernel
theorem dX5_planPrice_81 : decode cX5_planPrice 81 = .ok (.istore 5, 2) := by decide +kernel
theorem dX5_planPrice_83 : decode cX5_planPrice 83 = .ok (.iload_n 3, 1) := by decide +kernel
theorem dX5_planPrice_84 : decode cX5_planPrice 84 = .ok (.aload_n 0, 1) := by decide +kernel
theorem dX5_planPrice_85 : decode cX5_planPrice 85 = .ok (.getfield 83, 3) := by decide +kernel
theorem dX5_planPrice_88 : decode cX5_planPrice 88 = .ok (.if_icmp .ne 17, 3) := by decide +kernel
theorem dX5_planPrice_91 : decode cX5_planPrice 91 = .ok (.aload_n 0, 1) := by decide +kernel
theorem dX5_planPrice_92 : decode cX5_planPrice 92 = .ok (.getfield 28, 3) := by decide +kernel
theorem dX5_planPrice_95 : decode cX5_planPrice 95 = .ok (.iload 5, 2) := by decide +kernel
theorem dX5_planPrice_97 : decode cX5_planPrice 97 = .ok (.iload 4, 2) := by decide +kernel
theorem dX5_planPrice_99 : decode cX5_planPrice 99 = .ok (.iastore, 1) := by decide +kernel
theorem dX5_planPrice_100 : decode cX5_planPrice 100 = .ok (.aload_n 0, 1) := by decide +kernel
theorem dX5_planPrice_101 : decode cX5_planPrice 101 = .ok (.getfield 86, 3) := by decide +kernel
theorem dX5_planPrice_104 : decode cX5_planPrice 104 = .ok (.ireturn, 1) := by decide +kernel
theorem dX5_planPrice_105 : decode cX5_planPrice 105 = .ok (.aload_n 0, 1) := by decide +kernel
theorem dX5_planPrice_106 : decode cX5_planPrice 106 = .ok (.getfield 40, 3) := by decide +kernel
theorem dX5_planPrice_109 : decode cX5_planPrice 109 = .ok (.iconst 3, 1) := by decide +kernel
theorem dX5_planPrice_110 : decode cX5_planPrice 110 = .ok (.aload_n 0, 1) := by decide +kernel
theorem dX5_planPrice_111 : decode cX5_planPrice 111 = .ok (.getfield 86, 3) := by decide +kernel
theorem dX5_planPrice_114 : decode cX5_planPrice 114 = .ok (.imul, 1) := by decide +kernel
theorem dX5_planPrice_115 : decode cX5_planPrice 115 = .ok (.iload_n 3, 1) := by decide +kernel
theorem dX5_planPrice_116 : decode cX5_planPrice 116 = .ok (.iastore, 1) := by decide +kernel
theorem dX5_planPrice_117 : decode cX5_planPrice 117 = .ok (.aload_n 0, 1) := by decide +kernel
theorem dX5_planPrice_118 : decode cX5_planPrice 118 = .ok (.getfield 40, 3) := by decide +kernel
theorem dX5_planPrice_121 : decode cX5_planPrice 121 = .ok (.iconst 3, 1) := by decide +kernel
theorem dX5_planPrice_122 : decode cX5_planPrice 122 = .ok (.aload_n 0, 1) := by decide +kernel
theorem dX5_planPrice_123 : decode cX5_planPrice 123 = .ok (.getfield 86, 3) := by decide +kernel
theorem dX5_planPrice_126 : decode cX5_planPrice 126 = .ok (.imul, 1) := by decide +kernel
theorem dX5_planPrice_127 : decode cX5_planPrice 127 = .ok (.iconst 1, 1) := by decide +kernel
theorem dX5_planPrice_128 : decode cX5_planPrice 128 = .ok (.iadd, 1) := by decide +kernel
theorem dX5_planPrice_129 : decode cX5_planPrice 129 = .ok (.iload 5, 2) := by decide +kernel
theorem dX5_planPrice_131 : decode cX5_planPrice 131 = .ok (.iastore, 1) := by decide +kernel
theorem dX5_planPrice_132 : decode cX5_planPrice 132 = .ok (.aload_n 0, 1) := by decide +kernel
theorem dX5_planPrice_133 : decode cX5_planPrice 133 = .ok (.getfield 40, 3) := by decide +kernel
theorem dX5_planPrice_136 : decode cX5_planPrice 136 = .ok (.iconst 3, 1) := by decide +kernel
theorem dX5_planPrice_137 : decode cX5_planPrice 137 = .ok (.aload_n 0, 1) := by decide +kernel
theorem dX5_planPrice_138 : decode cX5_planPrice 138 = .ok (.getfield 86, 3) := by decide +kernel
theorem dX5_planPrice_141 : decode cX5_planPrice 141 = .ok (.imul, 1) := by decide +kernel
theorem dX5_planPrice_142 : decode cX5_planPrice 142 = .ok (.iconst 2, 1) := by decide +kernel
theorem dX5_planPrice_143 : decode cX5_planPrice 143 = .ok (.iadd, 1) := by decide +kernel
theorem dX5_planPrice_144 : decode cX5_planPrice 144 = .ok (.iload 4, 2) := by decide +kernel
theorem dX5_planPrice_146 : decode cX5_planPrice 146 = .ok (.iastore, 1) := by decide +kernel
theorem dX5_planPrice_147 : decode cX5_planPrice 147 = .ok (.aload_n 0, 1) := by decide +kernel
theorem dX5_planPrice_148 : decode cX5_planPrice 148 = .ok (.dup, 1) := by decide +kernel
theorem dX5_planPrice_149 : decode cX5_planPrice 149 = .ok (.getfield 86, 3) := by decide +kernel
theorem dX5_planPrice_152 : decode cX5_planPrice 152 = .ok (.iconst 1, 1) := by decide +kernel
theorem dX5_planPrice_153 : decode cX5_planPrice 153 = .ok (.iadd, 1) := by decide +kernel
theorem dX5_planPrice_154 : decode cX5_planPrice 154 = .ok (.putfield 86, 3) := by decide +kernel
theorem dX5_planPrice_157 : decode cX5_planPrice 157 = .ok (.aload_n 0, 1) := by decide +kernel
theorem dX5_planPrice_158 : decode cX5_planPrice 158 = .ok (.getfield 86, 3) := by decide +kernel
theorem dX5_planPrice_161 : decode cX5_planPrice 161 = .ok (.ireturn, 1) := by decide +kernel
theorem dX5_machineCount_0 : decode cX5_machineCount 0 = .ok (.aload_n 0, 1) := by decide +kernel
theorem dX5_machineCount_1 : decode cX5_machineCount 1 = .ok (.iconst 0, 1) := by decide +kernel
theorem dX5_machineCount_2 : decode cX5_machineCount 2 = .ok (.putfield 50, 3) := by decide +kernel
theorem dX5_machineCount_5 : decode cX5_machineCount 5 = .ok (.aload_n 0, 1) := by decide +kernel
theorem dX5_machineCount_6 : decode cX5_machineCount 6 = .ok (.getfield 54, 3) := by decide +kernel
theorem dX5_machineCount_9 : decode cX5_machineCount 9 = .ok (.ireturn, 1) := by decide +kernel
theorem dX5_slotOf_0 : decode cX5_slotOf 0 = .ok (.iload_n 2, 1) := by decide +kernel
theorem dX5_slotOf_1 : decode cX5_slotOf 1 = .ok (.tableswitch 70 0 4 #[35, 42, 49, 56, 63], 35) := by decide +kernel
theorem dX5_slotOf_36 : decode cX5_slotOf 36 = .ok (.aload_n 0, 1) := by decide +kernel
theorem dX5_slotOf_37 : decode cX5_slotOf 37 = .ok (.getfield 22, 3) := by decide +kernel
theorem dX5_slotOf_40 : decode cX5_slotOf 40 = .ok (.iload_n 1, 1) := by decide +kernel
theorem dX5_slotOf_41 : decode cX5_slotOf 41 = .ok (.iaload, 1) := by decide +kernel
theorem dX5_slotOf_42 : decode cX5_slotOf 42 = .ok (.ireturn, 1) := by decide +kernel
theorem dX5_slotOf_43 : decode cX5_slotOf 43 = .ok (.aload_n 0, 1) := by decide +kernel
theorem dX5_slotOf_44 : decode cX5_slotOf 44 = .ok (.getfield 25, 3) := by decide +kernel
theorem dX5_slotOf_47 : decode cX5_slotOf 47 = .ok (.iload_n 1, 1) := by decide +kernel
theorem dX5_slotOf_48 : decode cX5_slotOf 48 = .ok (.iaload, 1) := by decide +kernel
theorem dX5_slotOf_49 : decode cX5_slotOf 49 = .ok (.ireturn, 1) := by decide +kernel
theorem dX5_slotOf_50 : decode cX5_slotOf 50 = .ok (.aload_n 0, 1) := by decide +kernel
theorem dX5_slotOf_51 : decode cX5_slotOf 51 = .ok (.getfield 28, 3) := by decide +kernel
theorem dX5_slotOf_54 : decode cX5_slotOf 54 = .ok (.iload_n 1, 1) := by decide +kernel
theorem dX5_slotOf_55 : decode cX5_slotOf 55 = .ok (.iaload, 1) := by decide +kernel
theorem dX5_slotOf_56 : decode cX5_slotOf 56 = .ok (.ireturn, 1) := by decide +kernel
theorem dX5_slotOf_57 : decode cX5_slotOf 57 = .ok (.aload_n 0, 1) := by decide +kernel
theorem dX5_slotOf_58 : decode cX5_slotOf 58 = .ok (.getfield 31, 3) := by decide +kernel
theorem dX5_slotOf_61 : decode cX5_slotOf 61 = .ok (.iload_n 1, 1) := by decide +kernel
theorem dX5_slotOf_62 : decode cX5_slotOf 62 = .ok (.iaload, 1) := by decide +kernel
theorem dX5_slotOf_63 : decode cX5_slotOf 63 = .ok (.ireturn, 1) := by decide +kernel
theorem dX5_slotOf_64 : decode cX5_slotOf 64 = .ok (.aload_n 0, 1) := by decide +kernel
theorem dX5_slotOf_65 : decode cX5_slotOf 65 = .ok (.getfield 34, 3) := by decide +kernel
theorem dX5_slotOf_68 : decode cX5_slotOf 68 = .ok (.iload_n 1, 1) := by decide +kernel
theorem dX5_slotOf_69 : decode cX5_slotOf 69 = .ok (.iaload, 1) := by decide +kernel
theorem dX5_slotOf_70 : decode cX5_slotOf 70 = .ok (.ireturn, 1) := by decide +kernel
theorem dX5_slotOf_71 : decode cX5_slotOf 71 = .ok (.aload_n 0, 1) := by decide +kernel
theorem dX5_slotOf_72 : decode cX5_slotOf 72 = .ok (.getfield 37, 3) := by decide +kernel
theorem dX5_slotOf_75 : decode cX5_slotOf 75 = .ok (.iload_n 1, 1) := by decide +kernel
theorem dX5_slotOf_76 : decode cX5_slotOf 76 = .ok (.iaload, 1) := by decide +kernel
theorem dX5_slotOf_77 : decode cX5_slotOf 77 = .ok (.ireturn, 1) := by decide +kernel
theorem dX5_slot_0 : decode cX5_slot 0 = .ok (.aload_n 0, 1) := by decide +kernel
theorem dX5_slot_1 : decode cX5_slot 1 = .ok (.iconst 0, 1) := by decide +kernel
theorem dX5_slot_2 : decode cX5_slot 2 = .ok (.putfield 50, 3) := by decide +kernel
theorem dX5_slot_5 : decode cX5_slot 5 = .ok (.aload_n 0, 1) := by decide +kernel
theorem dX5_slot_6 : decode cX5_slot 6 = .ok (.iload_n 1, 1) := by decide +kernel
theorem dX5_slot_7 : decode cX5_slot 7 = .ok (.iload_n 2, 1) := by decide +kernel
theorem dX5_slot_8 : decode cX5_slot 8 = .ok (.invokevirtual 74, 3) := by decide +kernel
theorem dX5_slot_11 : decode cX5_slot 11 = .ok (.ifCond .eq 26, 3) := by decide +kernel
theorem dX5_slot_14 : decode cX5_slot 14 = .ok (.iload_n 3, 1) := by decide +kernel
theorem dX5_slot_15 : decode cX5_slot 15 = .ok (.iconst 0, 1) := by decide +kernel
theorem dX5_slot_16 : decode cX5_slot 16 = .ok (.iconst 5, 1) := by decide +kernel
theorem dX5_slot_17 : decode cX5_slot 17 = .ok (.invokestatic 57, 3) := by decide +kernel
theorem dX5_slot_20 : decode cX5_slot 20 = .ok (.ifCond .eq 17, 3) := by decide +kernel
theorem dX5_slot_23 : decode cX5_slot 23 = .ok (.aload_n 0, 1) := by decide +kernel
theorem dX5_slot_24 : decode cX5_slot 24 = .ok (.bipush 6, 2) := by decide +kernel
theorem dX5_slot_26 : decode cX5_slot 26 = .ok (.iload_n 1, 1) := by decide +kernel
theorem dX5_slot_27 : decode cX5_slot 27 = .ok (.imul, 1) := by decide +kernel
theorem dX5_slot_28 : decode cX5_slot 28 = .ok (.iload_n 2, 1) := by decide +kernel
theorem dX5_slot_29 : decode cX5_slot 29 = .ok (.iadd, 1) := by decide +kernel
theorem dX5_slot_30 : decode cX5_slot 30 = .ok (.iload_n 3, 1) := by decide +kernel
theorem dX5_slot_31 : decode cX5_slot 31 = .ok (.invokevirtual 89, 3) := by decide +kernel
theorem dX5_slot_34 : decode cX5_slot 34 = .ok (.goto 8, 3) := by decide +kernel
theorem dX5_slot_37 : decode cX5_slot 37 = .ok (.aload_n 0, 1) := by decide +kernel
theorem dX5_slot_38 : decode cX5_slot 38 = .ok (.iconst 1, 1) := by decide +kernel
theorem dX5_slot_39 : decode cX5_slot 39 = .ok (.invokevirtual 66, 3) := by decide +kernel
theorem dX5_slot_42 : decode cX5_slot 42 = .ok (.ireturn, 1) := by decide +kernel
theorem dX5_lacks_0 : decode cX5_lacks 0 = .ok (.iconst 0, 1) := by decide +kernel
theorem dX5_lacks_1 : decode cX5_lacks 1 = .ok (.istore_n 2, 1) := by decide +kernel
theorem dX5_lacks_2 : decode cX5_lacks 2 = .ok (.bipush 6, 2) := by decide +kernel
theorem dX5_lacks_4 : decode cX5_lacks 4 = .ok (.iload_n 1, 1) := by decide +kernel
theorem dX5_lacks_5 : decode cX5_lacks 5 = .ok (.imul, 1) := by decide +kernel
theorem dX5_lacks_6 : decode cX5_lacks 6 = .ok (.istore_n 3, 1) := by decide +kernel
theorem dX5_lacks_7 : decode cX5_lacks 7 = .ok (.iload_n 3, 1) := by decide +kernel
theorem dX5_lacks_8 : decode cX5_lacks 8 = .ok (.bipush 6, 2) := by decide +kernel
theorem dX5_lacks_10 : decode cX5_lacks 10 = .ok (.iload_n 1, 1) := by decide +kernel
theorem dX5_lacks_11 : decode cX5_lacks 11 = .ok (.iconst 1, 1) := by decide +kernel
theorem dX5_lacks_12 : decode cX5_lacks 12 = .ok (.iadd, 1) := by decide +kernel
theorem dX5_lacks_13 : decode cX5_lacks 13 = .ok (.imul, 1) := by decide +kernel
theorem dX5_lacks_14 : decode cX5_lacks 14 = .ok (.if_icmp .ge 25, 3) := by decide +kernel
theorem dX5_lacks_17 : decode cX5_lacks 17 = .ok (.iload_n 2, 1) := by decide +kernel
theorem dX5_lacks_18 : decode cX5_lacks 18 = .ok (.aload_n 0, 1) := by decide +kernel
theorem dX5_lacks_19 : decode cX5_lacks 19 = .ok (.getfield 22, 3) := by decide +kernel
theorem dX5_lacks_22 : decode cX5_lacks 22 = .ok (.iload_n 3, 1) := by decide +kernel
theorem dX5_lacks_23 : decode cX5_lacks 23 = .ok (.iaload, 1) := by decide +kernel
theorem dX5_lacks_24 : decode cX5_lacks 24 = .ok (.aload_n 0, 1) := by decide +kernel
theorem dX5_lacks_25 : decode cX5_lacks 25 = .ok (.getfield 25, 3) := by decide +kernel
theorem dX5_lacks_28 : decode cX5_lacks 28 = .ok (.iload_n 3, 1) := by decide +kernel
theorem dX5_lacks_29 : decode cX5_lacks 29 = .ok (.iaload, 1) := by decide +kernel
theorem dX5_lacks_30 : decode cX5_lacks 30 = .ok (.isub, 1) := by decide +kernel
theorem dX5_lacks_31 : decode cX5_lacks 31 = .ok (.iadd, 1) := by decide +kernel
theorem dX5_lacks_32 : decode cX5_lacks 32 = .ok (.istore_n 2, 1) := by decide +kernel
theorem dX5_lacks_33 : decode cX5_lacks 33 = .ok (.iinc 3 1, 3) := by decide +kernel
theorem dX5_lacks_36 : decode cX5_lacks 36 = .ok (.goto (-29), 3) := by decide +kernel
theorem dX5_lacks_39 : decode cX5_lacks 39 = .ok (.iload_n 2, 1) := by decide +kernel
theorem dX5_lacks_40 : decode cX5_lacks 40 = .ok (.ireturn, 1) := by decide +kernel
theorem dX5_gain_0 : decode cX5_gain 0 = .ok (.aload_n 0, 1) := by decide +kernel
theorem dX5_gain_1 : decode cX5_gain 1 = .ok (.getfield 13, 3) := by decide +kernel
theorem dX5_gain_4 : decode cX5_gain 4 = .ok (.iload_n 1, 1) := by decide +kernel
theorem dX5_gain_5 : decode cX5_gain 5 = .ok (.iaload, 1) := by decide +kernel
theorem dX5_gain_6 : decode cX5_gain 6 = .ok (.istore_n 2, 1) := by decide +kernel
theorem dX5_gain_7 : decode cX5_gain 7 = .ok (.bipush 6, 2) := by decide +kernel
theorem dX5_gain_9 : decode cX5_gain 9 = .ok (.iload_n 1, 1) := by decide +kernel
theorem dX5_gain_10 : decode cX5_gain 10 = .ok (.imul, 1) := by decide +kernel
theorem dX5_gain_11 : decode cX5_gain 11 = .ok (.istore_n 3, 1) := by decide +kernel
theorem dX5_gain_12 : decode cX5_gain 12 = .ok (.iload_n 3, 1) := by decide +kernel
theorem dX5_gain_13 : decode cX5_gain 13 = .ok (.bipush 6, 2) := by decide +kernel
theorem dX5_gain_15 : decode cX5_gain 15 = .ok (.iload_n 1, 1) := by decide +kernel
theorem dX5_gain_16 : decode cX5_gain 16 = .ok (.iconst 1, 1) := by decide +kernel
theorem dX5_gain_17 : decode cX5_gain 17 = .ok (.iadd, 1) := by decide +kernel
theorem dX5_gain_18 : decode cX5_gain 18 = .ok (.imul, 1) := by decide +kernel
theorem dX5_gain_19 : decode cX5_gain 19 = .ok (.if_icmp .ge 32, 3) := by decide +kernel
theorem dX5_gain_22 : decode cX5_gain 22 = .ok (.iload_n 2, 1) := by decide +kernel
theorem dX5_gain_23 : decode cX5_gain 23 = .ok (.aload_n 0, 1) := by decide +kernel
theorem dX5_gain_24 : decode cX5_gain 24 = .ok (.getfield 22, 3) := by decide +kernel
theorem dX5_gain_27 : decode cX5_gain 27 = .ok (.iload_n 3, 1) := by decide +kernel
theorem dX5_gain_28 : decode cX5_gain 28 = .ok (.iaload, 1) := by decide +kernel
theorem dX5_gain_29 : decode cX5_gain 29 = .ok (.aload_n 0, 1) := by decide +kernel
theorem dX5_gain_30 : decode cX5_gain 30 = .ok (.getfield 25, 3) := by decide +kernel
theorem dX5_gain_33 : decode cX5_gain 33 = .ok (.iload_n 3, 1) := by decide +kernel
theorem dX5_gain_34 : decode cX5_gain 34 = .ok (.iaload, 1) := by decide +kernel
theorem dX5_gain_35 : decode cX5_gain 35 = .ok (.isub, 1) := by decide +kernel
theorem dX5_gain_36 : decode cX5_gain 36 = .ok (.aload_n 0, 1) := by decide +kernel
theorem dX5_gain_37 : decode cX5_gain 37 = .ok (.getfield 28, 3) := by decide +kernel
theorem dX5_gain_40 : decode cX5_gain 40 = .ok (.iload_n 3, 1) := by decide +kernel
theorem dX5_gain_41 : decode cX5_gain 41 = .ok (.iaload, 1) := by decide +kernel
theorem dX5_gain_42 : decode cX5_gain 42 = .ok (.imul, 1) := by decide +kernel
theorem dX5_gain_43 : decode cX5_gain 43 = .ok (.iadd, 1) := by decide +kernel
theorem dX5_gain_44 : decode cX5_gain 44 = .ok (.istore_n 2, 1) := by decide +kernel
theorem dX5_gain_45 : decode cX5_gain 45 = .ok (.iinc 3 1, 3) := by decide +kernel
theorem dX5_gain_48 : decode cX5_gain 48 = .ok (.goto (-36), 3) := by decide +kernel
theorem dX5_gain_51 : decode cX5_gain 51 = .ok (.iload_n 2, 1) := by decide +kernel
theorem dX5_gain_52 : decode cX5_gain 52 = .ok (.ireturn, 1) := by decide +kernel
theorem dX5_told_0 : decode cX5_told 0 = .ok (.iload_n 2, 1) := by decide +kernel
theorem dX5_told_1 : decode cX5_told 1 = .ok (.ifCond .ne 12, 3) := by decide +kernel
theorem dX5_told_4 : decode cX5_told 4 = .ok (.aload_n 0, 1) := by decide +kernel
theorem dX5_told_5 : decode cX5_told 5 = .ok (.getfield 13, 3) := by decide +kernel
theorem dX5_told_8 : decode cX5_told 8 = .ok (.iload_n 1, 1) := by decide +kernel
theorem dX5_told_9 : decode cX5_told 9 = .ok (.iaload, 1) := by decide +kernel
theorem dX5_told_10 : decode cX5_told 10 = .ok (.goto 49, 3) := by decide +kernel
theorem dX5_told_13 : decode cX5_told 13 = .ok (.iload_n 2, 1) := by decide +kernel
theorem dX5_told_14 : decode cX5_told 14 = .ok (.iconst 1, 1) := by decide +kernel
theorem dX5_told_15 : decode cX5_told 15 = .ok (.if_icmp .ne 12, 3) := by decide +kernel
theorem dX5_told_18 : decode cX5_told 18 = .ok (.aload_n 0, 1) := by decide +kernel
theorem dX5_told_19 : decode cX5_told 19 = .ok (.getfield 9, 3) := by decide +kernel
theorem dX5_told_22 : decode cX5_told 22 = .ok (.iload_n 1, 1) := by decide +kernel
theorem dX5_told_23 : decode cX5_told 23 = .ok (.iaload, 1) := by decide +kernel
theorem dX5_told_24 : decode cX5_told 24 = .ok (.goto 35, 3) := by decide +kernel
theorem dX5_told_27 : decode cX5_told 27 = .ok (.iload_n 2, 1) := by decide +kernel
theorem dX5_told_28 : decode cX5_told 28 = .ok (.iconst 2, 1) := by decide +kernel
theorem dX5_told_29 : decode cX5_told 29 = .ok (.if_icmp .ne 11, 3) := by decide +kernel
theorem dX5_told_32 : decode cX5_told 32 = .ok (.aload_n 0, 1) := by decide +kernel
theorem dX5_told_33 : decode cX5_told 33 = .ok (.iload_n 1, 1) := by decide +kernel
theorem dX5_told_34 : decode cX5_told 34 = .ok (.invokevirtual 92, 3) := by decide +kernel
theorem dX5_told_37 : decode cX5_told 37 = .ok (.goto 22, 3) := by decide +kernel
theorem dX5_told_40 : decode cX5_told 40 = .ok (.iload_n 2, 1) := by decide +kernel
theorem dX5_told_41 : decode cX5_told 41 = .ok (.iconst 3, 1) := by decide +kernel
theorem dX5_told_42 : decode cX5_told 42 = .ok (.if_icmp .ne 11, 3) := by decide +kernel
theorem dX5_told_45 : decode cX5_told 45 = .ok (.aload_n 0, 1) := by decide +kernel
theorem dX5_told_46 : decode cX5_told 46 = .ok (.iload_n 1, 1) := by decide +kernel
theorem dX5_told_47 : decode cX5_told 47 = .ok (.invokevirtual 95, 3) := by decide +kernel
theorem dX5_told_50 : decode cX5_told 50 = .ok (.goto 9, 3) := by decide +kernel
theorem dX5_told_53 : decode cX5_told 53 = .ok (.aload_n 0, 1) := by decide +kernel
theorem dX5_told_54 : decode cX5_told 54 = .ok (.getfield 16, 3) := by decide +kernel
theorem dX5_told_57 : decode cX5_told 57 = .ok (.iload_n 1, 1) := by decide +kernel
theorem dX5_told_58 : decode cX5_told 58 = .ok (.iaload, 1) := by decide +kernel
theorem dX5_told_59 : decode cX5_told 59 = .ok (.ireturn, 1) := by decide +kernel
theorem dX5_machine_0 : decode cX5_machine 0 = .ok (.aload_n 0, 1) := by decide +kernel
theorem dX5_machine_1 : decode cX5_machine 1 = .ok (.iconst 0, 1) := by decide +kernel
theorem dX5_machine_2 : decode cX5_machine 2 = .ok (.putfield 50, 3) := by decide +kernel
theorem dX5_machine_5 : decode cX5_machine 5 = .ok (.aload_n 0, 1) := by decide +kernel
theorem dX5_machine_6 : decode cX5_machine 6 = .ok (.iload_n 1, 1) := by decide +kernel
theorem dX5_machine_7 : decode cX5_machine 7 = .ok (.invokevirtual 61, 3) := by decide +kernel
theorem dX5_machine_10 : decode cX5_machine 10 = .ok (.ifCond .eq 21, 3) := by decide +kernel
theorem dX5_machine_13 : decode cX5_machine 13 = .ok (.iload_n 2, 1) := by decide +kernel
theorem dX5_machine_14 : decode cX5_machine 14 = .ok (.iconst 0, 1) := by decide +kernel
theorem dX5_machine_15 : decode cX5_machine 15 = .ok (.iconst 4, 1) := by decide +kernel
theorem dX5_machine_16 : decode cX5_machine 16 = .ok (.invokestatic 57, 3) := by decide +kernel
theorem dX5_machine_19 : decode cX5_machine 19 = .ok (.ifCond .eq 12, 3) := by decide +kernel
theorem dX5_machine_22 : decode cX5_machine 22 = .ok (.aload_n 0, 1) := by decide +kernel
theorem dX5_machine_23 : decode cX5_machine 23 = .ok (.iload_n 1, 1) := by decide +kernel
theorem dX5_machine_24 : decode cX5_machine 24 = .ok (.iload_n 2, 1) := by decide +kernel
theorem dX5_machine_25 : decode cX5_machine 25 = .ok (.invokevirtual 98, 3) := by decide +kernel
theorem dX5_machine_28 : decode cX5_machine 28 = .ok (.goto 8, 3) := by decide +kernel
theorem dX5_machine_31 : decode cX5_machine 31 = .ok (.aload_n 0, 1) := by decide +kernel
theorem dX5_machine_32 : decode cX5_machine 32 = .ok (.iconst 1, 1) := by decide +kernel
theorem dX5_machine_33 : decode cX5_machine 33 = .ok (.invokevirtual 66, 3) := by decide +kernel
theorem dX5_machine_36 : decode cX5_machine 36 = .ok (.ireturn, 1) := by decide +kernel
theorem dX5_runsOut_0 : decode cX5_runsOut 0 = .ok (.aload_n 0, 1) := by decide +kernel
theorem dX5_runsOut_1 : decode cX5_runsOut 1 = .ok (.iconst 0, 1) := by decide +kernel
theorem dX5_runsOut_2 : decode cX5_runsOut 2 = .ok (.putfield 50, 3) := by decide +kernel
theorem dX5_runsOut_5 : decode cX5_runsOut 5 = .ok (.aload_n 0, 1) := by decide +kernel
theorem dX5_runsOut_6 : decode cX5_runsOut 6 = .ok (.iload_n 1, 1) := by decide +kernel
theorem dX5_runsOut_7 : decode cX5_runsOut 7 = .ok (.iload_n 2, 1) := by decide +kernel
theorem dX5_runsOut_8 : decode cX5_runsOut 8 = .ok (.invokevirtual 74, 3) := by decide +kernel
theorem dX5_runsOut_11 : decode cX5_runsOut 11 = .ok (.ifCond .ne 9, 3) := by decide +kernel
theorem dX5_runsOut_14 : decode cX5_runsOut 14 = .ok (.aload_n 0, 1) := by decide +kernel
theorem dX5_runsOut_15 : decode cX5_runsOut 15 = .ok (.iconst 1, 1) := by decide +kernel
theorem dX5_runsOut_16 : decode cX5_runsOut 16 = .ok (.invokevirtual 66, 3) := by decide +kernel
theorem dX5_runsOut_19 : decode cX5_runsOut 19 = .ok (.ireturn, 1) := by decide +kernel
theorem dX5_runsOut_20 : decode cX5_runsOut 20 = .ok (.bipush 6, 2) := by decide +kernel
theorem dX5_runsOut_22 : decode cX5_runsOut 22 = .ok (.iload_n 1, 1) := by decide +kernel
theorem dX5_runsOut_23 : decode cX5_runsOut 23 = .ok (.imul, 1) := by decide +kernel
theorem dX5_runsOut_24 : decode cX5_runsOut 24 = .ok (.iload_n 2, 1) := by decide +kernel
theorem dX5_runsOut_25 : decode cX5_runsOut 25 = .ok (.iadd, 1) := by decide +kernel
theorem dX5_runsOut_26 : decode cX5_runsOut 26 = .ok (.istore_n 3, 1) := by decide +kernel
theorem dX5_runsOut_27 : decode cX5_runsOut 27 = .ok (.aload_n 0, 1) := by decide +kernel
theorem dX5_runsOut_28 : decode cX5_runsOut 28 = .ok (.getfield 25, 3) := by decide +kernel
theorem dX5_runsOut_31 : decode cX5_runsOut 31 = .ok (.iload_n 3, 1) := by decide +kernel
theorem dX5_runsOut_32 : decode cX5_runsOut 32 = .ok (.iaload, 1) := by decide +kernel
theorem dX5_runsOut_33 : decode cX5_runsOut 33 = .ok (.ifCond .eq 12, 3) := by decide +kernel
theorem dX5_runsOut_36 : decode cX5_runsOut 36 = .ok (.aload_n 0, 1) := by decide +kernel
theorem dX5_runsOut_37 : decode cX5_runsOut 37 = .ok (.getfield 31, 3) := by decide +kernel
theorem dX5_runsOut_40 : decode cX5_runsOut 40 = .ok (.iload_n 3, 1) := by decide +kernel
theorem dX5_runsOut_41 : decode cX5_runsOut 41 = .ok (.iaload, 1) := by decide +kernel
theorem dX5_runsOut_42 : decode cX5_runsOut 42 = .ok (.ifCond .ne 5, 3) := by decide +kernel
theorem dX5_runsOut_45 : decode cX5_runsOut 45 = .ok (.iconst (-1), 1) := by decide +kernel
theorem dX5_runsOut_46 : decode cX5_runsOut 46 = .ok (.ireturn, 1) := by decide +kernel
theorem dX5_runsOut_47 : decode cX5_runsOut 47 = .ok (.aload_n 0, 1) := by decide +kernel
theorem dX5_runsOut_48 : decode cX5_runsOut 48 = .ok (.getfield 83, 3) := by decide +kernel
theorem dX5_runsOut_51 : decode cX5_runsOut 51 = .ok (.istore 4, 2) := by decide +kernel
theorem dX5_runsOut_53 : decode cX5_runsOut 53 = .ok (.aload_n 0, 1) := by decide +kernel
theorem dX5_runsOut_54 : decode cX5_runsOut 54 = .ok (.getfield 25, 3) := by decide +kernel
theorem dX5_runsOut_57 : decode cX5_runsOut 57 = .ok (.iload_n 3, 1) := by decide +kernel
theorem dX5_runsOut_58 : decode cX5_runsOut 58 = .ok (.iaload, 1) := by decide +kernel
theorem dX5_runsOut_59 : decode cX5_runsOut 59 = .ok (.aload_n 0, 1) := by decide +kernel
theorem dX5_runsOut_60 : decode cX5_runsOut 60 = .ok (.getfield 31, 3) := by decide +kernel
theorem dX5_runsOut_63 : decode cX5_runsOut 63 = .ok (.iload_n 3, 1) := by decide +kernel
theorem dX5_runsOut_64 : decode cX5_runsOut 64 = .ok (.iaload, 1) := by decide +kernel
theorem dX5_runsOut_65 : decode cX5_runsOut 65 = .ok (.isub, 1) := by decide +kernel
theorem dX5_runsOut_66 : decode cX5_runsOut 66 = .ok (.istore 5, 2) := by decide +kernel
theorem dX5_runsOut_68 : decode cX5_runsOut 68 = .ok (.iload 5, 2) := by decide +kernel
theorem dX5_runsOut_70 : decode cX5_runsOut 70 = .ok (.ifCond .le 20, 3) := by decide +kernel
theorem dX5_runsOut_73 : decode cX5_runsOut 73 = .ok (.iinc 4 1, 3) := by decide +kernel
theorem dX5_runsOut_76 : decode cX5_runsOut 76 = .ok (.iload 5, 2) := by decide +kernel
theorem dX5_runsOut_78 : decode cX5_runsOut 78 = .ok (.aload_n 0, 1) := by decide +kernel
theorem dX5_runsOut_79 : decode cX5_runsOut 79 = .ok (.getfield 31, 3) := by decide +kernel
theorem dX5_runsOut_82 : decode cX5_runsOut 82 = .ok (.iload_n 3, 1) := by decide +kernel
theorem dX5_runsOut_83 : decode cX5_runsOut 83 = .ok (.iaload, 1) := by decide +kernel
theorem dX5_runsOut_84 : decode cX5_runsOut 84 = .ok (.isub, 1) := by decide +kernel
theorem dX5_runsOut_85 : decode cX5_runsOut 85 = .ok (.istore 5, 2) := by decide +kernel
theorem dX5_runsOut_87 : decode cX5_runsOut 87 = .ok (.goto (-19), 3) := by decide +kernel
theorem dX5_runsOut_90 : decode cX5_runsOut 90 = .ok (.iload 4, 2) := by decide +kernel
theorem dX5_runsOut_92 : decode cX5_runsOut 92 = .ok (.ireturn, 1) := by decide +kernel
theorem dX5_sell_0 : decode cX5_sell 0 = .ok (.iload_n 1, 1) := by decide +kernel
theorem dX5_sell_1 : decode cX5_sell 1 = .ok (.bipush 6, 2) := by decide +kernel
theorem dX5_sell_3 : decode cX5_sell 3 = .ok (.idiv, 1) := by decide +kernel
theorem dX5_sell_4 : decode cX5_sell 4 = .ok (.istore_n 2, 1) := by decide +kernel
theorem dX5_sell_5 : decode cX5_sell 5 = .ok (.aload_n 0, 1) := by decide +kernel
theorem dX5_sell_6 : decode cX5_sell 6 = .ok (.getfield 25, 3) := by decide +kernel
theorem dX5_sell_9 : decode cX5_sell 9 = .ok (.iload_n 1, 1) := by decide +kernel
theorem dX5_sell_10 : decode cX5_sell 10 = .ok (.iaload, 1) := by decide +kernel
theorem dX5_sell_11 : decode cX5_sell 11 = .ok (.ifCond .le 29, 3) := by decide +kernel
theorem dX5_sell_14 : decode cX5_sell 14 = .ok (.aload_n 0, 1) := by decide +kernel
theorem dX5_sell_15 : decode cX5_sell 15 = .ok (.getfield 13, 3) := by decide +kernel
theorem dX5_sell_18 : decode cX5_sell 18 = .ok (.iload_n 2, 1) := by decide +kernel
theorem dX5_sell_19 : decode cX5_sell 19 = .ok (.iaload, 1) := by decide +kernel
theorem dX5_sell_20 : decode cX5_sell 20 = .ok (.aload_n 0, 1) := by decide +kernel
theorem dX5_sell_21 : decode cX5_sell 21 = .ok (.getfield 28, 3) := by decide +kernel
theorem dX5_sell_24 : decode cX5_sell 24 = .ok (.iload_n 1, 1) := by decide +kernel
theorem dX5_sell_25 : decode cX5_sell 25 = .ok (.iaload, 1) := by decide +kernel
theorem dX5_sell_26 : decode cX5_sell 26 = .ok (.iadd, 1) := by decide +kernel
theorem dX5_sell_27 : decode cX5_sell 27 = .ok (.aload_n 0, 1) := by decide +kernel
theorem dX5_sell_28 : decode cX5_sell 28 = .ok (.getfield 9, 3) := by decide +kernel
theorem dX5_sell_31 : decode cX5_sell 31 = .ok (.iload_n 2, 1) := by decide +kernel
theorem dX5_sell_32 : decode cX5_sell 32 = .ok (.iaload, 1) := by decide +kernel
theorem dX5_sell_33 : decode cX5_sell 33 = .ok (.if_icmp .gt 7, 3) := by decide +kernel
theorem dX5_sell_36 : decode cX5_sell 36 = .ok (.iconst 1, 1) := by decide +kernel
theorem dX5_sell_37 : decode cX5_sell 37 = .ok (.goto 4, 3) := by decide +kernel
theorem dX5_sell_40 : decode cX5_sell 40 = .ok (.iconst 0, 1) := by decide +kernel
theorem dX5_sell_41 : decode cX5_sell 41 = .ok (.istore_n 3, 1) := by decide +kernel
theorem dX5_sell_42 : decode cX5_sell 42 = .ok (.iload_n 3, 1) := by decide +kernel
theorem dX5_sell_43 : decode cX5_sell 43 = .ok (.ifCond .eq 41, 3) := by decide +kernel
theorem dX5_sell_46 : decode cX5_sell 46 = .ok (.aload_n 0, 1) := by decide +kernel
theorem dX5_sell_47 : decode cX5_sell 47 = .ok (.getfield 25, 3) := by decide +kernel
theorem dX5_sell_50 : decode cX5_sell 50 = .ok (.iload_n 1, 1) := by decide +kernel
theorem dX5_sell_51 : decode cX5_sell 51 = .ok (.dup2, 1) := by decide +kernel
theorem dX5_sell_52 : decode cX5_sell 52 = .ok (.iaload, 1) := by decide +kernel
theorem dX5_sell_53 : decode cX5_sell 53 = .ok (.iconst 1, 1) := by decide +kernel
theorem dX5_sell_54 : decode cX5_sell 54 = .ok (.isub, 1) := by decide +kernel
theorem dX5_sell_55 : decode cX5_sell 55 = .ok (.iastore, 1) := by decide +kernel
theorem dX5_sell_56 : decode cX5_sell 56 = .ok (.aload_n 0, 1) := by decide +kernel
theorem dX5_sell_57 : decode cX5_sell 57 = .ok (.getfield 13, 3) := by decide +kernel
theorem dX5_sell_60 : decode cX5_sell 60 = .ok (.iload_n 2, 1) := by decide +kernel
theorem dX5_sell_61 : decode cX5_sell 61 = .ok (.dup2, 1) := by decide +kernel
theorem dX5_sell_62 : decode cX5_sell 62 = .ok (.iaload, 1) := by decide +kernel
theorem dX5_sell_63 : decode cX5_sell 63 = .ok (.aload_n 0, 1) := by decide +kernel
theorem dX5_sell_64 : decode cX5_sell 64 = .ok (.getfield 28, 3) := by decide +kernel
theorem dX5_sell_67 : decode cX5_sell 67 = .ok (.iload_n 1, 1) := by decide +kernel
theorem dX5_sell_68 : decode cX5_sell 68 = .ok (.iaload, 1) := by decide +kernel
theorem dX5_sell_69 : decode cX5_sell 69 = .ok (.iadd, 1) := by decide +kernel
theorem dX5_sell_70 : decode cX5_sell 70 = .ok (.iastore, 1) := by decide +kernel
theorem dX5_sell_71 : decode cX5_sell 71 = .ok (.aload_n 0, 1) := by decide +kernel
theorem dX5_sell_72 : decode cX5_sell 72 = .ok (.getfield 34, 3) := by decide +kernel
theorem dX5_sell_75 : decode cX5_sell 75 = .ok (.iload_n 1, 1) := by decide +kernel
theorem dX5_sell_76 : decode cX5_sell 76 = .ok (.dup2, 1) := by decide +kernel
theorem dX5_sell_77 : decode cX5_sell 77 = .ok (.iaload, 1) := by decide +kernel
theorem dX5_sell_78 : decode cX5_sell 78 = .ok (.iconst 1, 1) := by decide +kernel
theorem dX5_sell_79 : decode cX5_sell 79 = .ok (.iadd, 1) := by decide +kernel
theorem dX5_sell_80 : decode cX5_sell 80 = .ok (.iastore, 1) := by decide +kernel
theorem dX5_sell_81 : decode cX5_sell 81 = .ok (.goto 13, 3) := by decide +kernel
theorem dX5_sell_84 : decode cX5_sell 84 = .ok (.aload_n 0, 1) := by decide +kernel
theorem dX5_sell_85 : decode cX5_sell 85 = .ok (.getfield 37, 3) := by decide +kernel
theorem dX5_sell_88 : decode cX5_sell 88 = .ok (.iload_n 1, 1) := by decide +kernel
theorem dX5_sell_89 : decode cX5_sell 89 = .ok (.dup2, 1) := by decide +kernel
theorem dX5_sell_90 : decode cX5_sell 90 = .ok (.iaload, 1) := by decide +kernel
theorem dX5_sell_91 : decode cX5_sell 91 = .ok (.iconst 1, 1) := by decide +kernel
theorem dX5_sell_92 : decode cX5_sell 92 = .ok (.iadd, 1) := by decide +kernel
theorem dX5_sell_93 : decode cX5_sell 93 = .ok (.iastore, 1) := by decide +kernel
theorem dX5_sell_94 : decode cX5_sell 94 = .ok (.iload_n 3, 1) := by decide +kernel
theorem dX5_sell_95 : decode cX5_sell 95 = .ok (.ireturn, 1) := by decide +kernel
theorem dX5_change_0 : decode cX5_change 0 = .ok (.iconst 0, 1) := by decide +kernel
theorem dX5_change_1 : decode cX5_change 1 = .ok (.istore_n 1, 1) := by decide +kernel
theorem dX5_change_2 : decode cX5_change 2 = .ok (.iconst 0, 1) := by decide +kernel
theorem dX5_change_3 : decode cX5_change 3 = .ok (.istore_n 2, 1) := by decide +kernel
theorem dX5_change_4 : decode cX5_change 4 = .ok (.iload_n 2, 1) := by decide +kernel
theorem dX5_change_5 : decode cX5_change 5 = .ok (.aload_n 0, 1) := by decide +kernel
theorem dX5_change_6 : decode cX5_change 6 = .ok (.getfield 86, 3) := by decide +kernel
theorem dX5_change_9 : decode cX5_change 9 = .ok (.if_icmp .ge 88, 3) := by decide +kernel
theorem dX5_change_12 : decode cX5_change 12 = .ok (.aload_n 0, 1) := by decide +kernel
theorem dX5_change_13 : decode cX5_change 13 = .ok (.getfield 40, 3) := by decide +kernel
theorem dX5_change_16 : decode cX5_change 16 = .ok (.iconst 3, 1) := by decide +kernel
theorem dX5_change_17 : decode cX5_change 17 = .ok (.iload_n 2, 1) := by decide +kernel
theorem dX5_change_18 : decode cX5_change 18 = .ok (.imul, 1) := by decide +kernel
theorem dX5_change_19 : decode cX5_change 19 = .ok (.iaload, 1) := by decide +kernel
theorem dX5_change_20 : decode cX5_change 20 = .ok (.aload_n 0, 1) := by decide +kernel
theorem dX5_change_21 : decode cX5_change 21 = .ok (.getfield 83, 3) := by decide +kernel
theorem dX5_change_24 : decode cX5_change 24 = .ok (.if_icmp .ne 31, 3) := by decide +kernel
theorem dX5_change_27 : decode cX5_change 27 = .ok (.aload_n 0, 1) := by decide +kernel
theorem dX5_change_28 : decode cX5_change 28 = .ok (.getfield 28, 3) := by decide +kernel
theorem dX5_change_31 : decode cX5_change 31 = .ok (.aload_n 0, 1) := by decide +kernel
theorem dX5_change_32 : decode cX5_change 32 = .ok (.getfield 40, 3) := by decide +kernel
theorem dX5_change_35 : decode cX5_change 35 = .ok (.iconst 3, 1) := by decide +kernel
theorem dX5_change_36 : decode cX5_change 36 = .ok (.iload_n 2, 1) := by decide +kernel
theorem dX5_change_37 : decode cX5_change 37 = .ok (.imul, 1) := by decide +kernel
theorem dX5_change_38 : decode cX5_change 38 = .ok (.iconst 1, 1) := by decide +kernel
theorem dX5_change_39 : decode cX5_change 39 = .ok (.iadd, 1) := by decide +kernel
theorem dX5_change_40 : decode cX5_change 40 = .ok (.iaload, 1) := by decide +kernel
theorem dX5_change_41 : decode cX5_change 41 = .ok (.aload_n 0, 1) := by decide +kernel
theorem dX5_change_42 : decode cX5_change 42 = .ok (.getfield 40, 3) := by decide +kernel
theorem dX5_change_45 : decode cX5_change 45 = .ok (.iconst 3, 1) := by decide +kernel
theorem dX5_change_46 : decode cX5_change 46 = .ok (.iload_n 2, 1) := by decide +kernel
theorem dX5_change_47 : decode cX5_change 47 = .ok (.imul, 1) := by decide +kernel
theorem dX5_change_48 : decode cX5_change 48 = .ok (.iconst 2, 1) := by decide +kernel
theorem dX5_change_49 : decode cX5_change 49 = .ok (.iadd, 1) := by decide +kernel
theorem dX5_change_50 : decode cX5_change 50 = .ok (.iaload, 1) := by decide +kernel
theorem dX5_change_51 : decode cX5_change 51 = .ok (.iastore, 1) := by decide +kernel
theorem dX5_change_52 : decode cX5_change 52 = .ok (.goto 39, 3) := by decide +kernel
theorem dX5_change_55 : decode cX5_change 55 = .ok (.iconst 0, 1) := by decide +kernel
theorem dX5_change_56 : decode cX5_change 56 = .ok (.istore_n 3, 1) := by decide +kernel
theorem dX5_change_57 : decode cX5_change 57 = .ok (.iload_n 3, 1) := by decide +kernel
theorem dX5_change_58 : decode cX5_change 58 = .ok (.iconst 3, 1) := by decide +kernel
theorem dX5_change_59 : decode cX5_change 59 = .ok (.if_icmp .ge 29, 3) := by decide +kernel
theorem dX5_change_62 : decode cX5_change 62 = .ok (.aload_n 0, 1) := by decide +kernel
theorem dX5_change_63 : decode cX5_change 63 = .ok (.getfield 40, 3) := by decide +kernel
theorem dX5_change_66 : decode cX5_change 66 = .ok (.iconst 3, 1) := by decide +kernel
theorem dX5_change_67 : decode cX5_change 67 = .ok (.iload_n 1, 1) := by decide +kernel
theorem dX5_change_68 : decode cX5_change 68 = .ok (.imul, 1) := by decide +kernel
theorem dX5_change_69 : decode cX5_change 69 = .ok (.iload_n 3, 1) := by decide +kernel
theorem dX5_change_70 : decode cX5_change 70 = .ok (.iadd, 1) := by decide +kernel
theorem dX5_change_71 : decode cX5_change 71 = .ok (.aload_n 0, 1) := by decide +kernel
theorem dX5_change_72 : decode cX5_change 72 = .ok (.getfield 40, 3) := by decide +kernel
theorem dX5_change_75 : decode cX5_change 75 = .ok (.iconst 3, 1) := by decide +kernel
theorem dX5_change_76 : decode cX5_change 76 = .ok (.iload_n 2, 1) := by decide +kernel
theorem dX5_change_77 : decode cX5_change 77 = .ok (.imul, 1) := by decide +kernel
theorem dX5_change_78 : decode cX5_change 78 = .ok (.iload_n 3, 1) := by decide +kernel
theorem dX5_change_79 : decode cX5_change 79 = .ok (.iadd, 1) := by decide +kernel
theorem dX5_change_80 : decode cX5_change 80 = .ok (.iaload, 1) := by decide +kernel
theorem dX5_change_81 : decode cX5_change 81 = .ok (.iastore, 1) := by decide +kernel
theorem dX5_change_82 : decode cX5_change 82 = .ok (.iinc 3 1, 3) := by decide +kernel
theorem dX5_change_85 : decode cX5_change 85 = .ok (.goto (-28), 3) := by decide +kernel
theorem dX5_change_88 : decode cX5_change 88 = .ok (.iinc 1 1, 3) := by decide +kernel
theorem dX5_change_91 : decode cX5_change 91 = .ok (.iinc 2 1, 3) := by decide +kernel
theorem dX5_change_94 : decode cX5_change 94 = .ok (.goto (-90), 3) := by decide +kernel
theorem dX5_change_97 : decode cX5_change 97 = .ok (.aload_n 0, 1) := by decide +kernel
theorem dX5_change_98 : decode cX5_change 98 = .ok (.iload_n 1, 1) := by decide +kernel
theorem dX5_change_99 : decode cX5_change 99 = .ok (.putfield 86, 3) := by decide +kernel
theorem dX5_change_102 : decode cX5_change 102 = .ok (.return_, 1) := by decide +kernel
theorem dX5_pass_0 : decode cX5_pass 0 = .ok (.aload_n 0, 1) := by decide +kernel
theorem dX5_pass_1 : decode cX5_pass 1 = .ok (.iconst 0, 1) := by decide +kernel
theorem dX5_pass_2 : decode cX5_pass 2 = .ok (.putfield 50, 3) := by decide +kernel
theorem dX5_pass_5 : decode cX5_pass 5 = .ok (.iload_n 1, 1) := by decide +kernel
theorem dX5_pass_6 : decode cX5_pass 6 = .ok (.iconst 1, 1) := by decide +kernel
theorem dX5_pass_7 : decode cX5_pass 7 = .ok (.bipush 30, 2) := by decide +kernel
theorem dX5_pass_9 : decode cX5_pass 9 = .ok (.invokestatic 57, 3) := by decide +kernel
theorem dX5_pass_12 : decode cX5_pass 12 = .ok (.ifCond .ne 9, 3) := by decide +kernel
theorem dX5_pass_15 : decode cX5_pass 15 = .ok (.aload_n 0, 1) := by decide +kernel
theorem dX5_pass_16 : decode cX5_pass 16 = .ok (.iconst 1, 1) := by decide +kernel
theorem dX5_pass_17 : decode cX5_pass 17 = .ok (.invokevirtual 66, 3) := by decide +kernel
theorem dX5_pass_20 : decode cX5_pass 20 = .ok (.ireturn, 1) := by decide +kernel
theorem dX5_pass_21 : decode cX5_pass 21 = .ok (.aload_n 0, 1) := by decide +kernel
theorem dX5_pass_22 : decode cX5_pass 22 = .ok (.getfield 83, 3) := by decide +kernel
theorem dX5_pass_25 : decode cX5_pass 25 = .ok (.iload_n 1, 1) := by decide +kernel
theorem dX5_pass_26 : decode cX5_pass 26 = .ok (.iadd, 1) := by decide +kernel
theorem dX5_pass_27 : decode cX5_pass 27 = .ok (.sipush 999, 3) := by decide +kernel
theorem dX5_pass_30 : decode cX5_pass 30 = .ok (.if_icmp .le 9, 3) := by decide +kernel
theorem dX5_pass_33 : decode cX5_pass 33 = .ok (.aload_n 0, 1) := by decide +kernel
theorem dX5_pass_34 : decode cX5_pass 34 = .ok (.iconst 2, 1) := by decide +kernel
theorem dX5_pass_35 : decode cX5_pass 35 = .ok (.invokevirtual 66, 3) := by decide +kernel
theorem dX5_pass_38 : decode cX5_pass 38 = .ok (.ireturn, 1) := by decide +kernel
theorem dX5_pass_39 : decode cX5_pass 39 = .ok (.iconst 0, 1) := by decide +kernel
theorem dX5_pass_40 : decode cX5_pass 40 = .ok (.istore_n 2, 1) := by decide +kernel
theorem dX5_pass_41 : decode cX5_pass 41 = .ok (.iconst 0, 1) := by decide +kernel
theorem dX5_pass_42 : decode cX5_pass 42 = .ok (.istore_n 3, 1) := by decide +kernel
theorem dX5_pass_43 : decode cX5_pass 43 = .ok (.iload_n 3, 1) := by decide +kernel
theorem dX5_pass_44 : decode cX5_pass 44 = .ok (.iload_n 1, 1) := by decide +kernel
theorem dX5_pass_45 : decode cX5_pass 45 = .ok (.if_icmp .ge 82, 3) := by decide +kernel
theorem dX5_pass_48 : decode cX5_pass 48 = .ok (.iconst 0, 1) := by decide +kernel
theorem dX5_pass_49 : decode cX5_pass 49 = .ok (.istore 4, 2) := by decide +kernel
theorem dX5_pass_51 : decode cX5_pass 51 = .ok (.iload 4, 2) := by decide +kernel
theorem dX5_pass_53 : decode cX5_pass 53 = .ok (.bipush 6, 2) := by decide +kernel
theorem dX5_pass_55 : decode cX5_pass 55 = .ok (.aload_n 0, 1) := by decide +kernel
theorem dX5_pass_56 : decode cX5_pass 56 = .ok (.getfield 54, 3) := by decide +kernel
theorem dX5_pass_59 : decode cX5_pass 59 = .ok (.imul, 1) := by decide +kernel
theorem dX5_pass_60 : decode cX5_pass 60 = .ok (.if_icmp .ge 47, 3) := by decide +kernel
theorem dX5_pass_63 : decode cX5_pass 63 = .ok (.iconst 0, 1) := by decide +kernel
theorem dX5_pass_64 : decode cX5_pass 64 = .ok (.istore 5, 2) := by decide +kernel
theorem dX5_pass_66 : decode cX5_pass 66 = .ok (.iload 5, 2) := by decide +kernel
theorem dX5_pass_68 : decode cX5_pass 68 = .ok (.aload_n 0, 1) := by decide +kernel
theorem dX5_pass_69 : decode cX5_pass 69 = .ok (.getfield 31, 3) := by decide +kernel
theorem dX5_pass_72 : decode cX5_pass 72 = .ok (.iload 4, 2) := by decide +kernel
theorem dX5_pass_74 : decode cX5_pass 74 = .ok (.iaload, 1) := by decide +kernel
theorem dX5_pass_75 : decode cX5_pass 75 = .ok (.if_icmp .ge 26, 3) := by decide +kernel
theorem dX5_pass_78 : decode cX5_pass 78 = .ok (.iload_n 2, 1) := by decide +kernel
theorem dX5_pass_79 : decode cX5_pass 79 = .ok (.aload_n 0, 1) := by decide +kernel
theorem dX5_pass_80 : decode cX5_pass 80 = .ok (.iload 4, 2) := by decide +kernel
theorem dX5_pass_82 : decode cX5_pass 82 = .ok (.invokevirtual 101, 3) := by decide +kernel
theorem dX5_pass_85 : decode cX5_pass 85 = .ok (.ifCond .eq 7, 3) := by decide +kernel
theorem dX5_pass_88 : decode cX5_pass 88 = .ok (.iconst 1, 1) := by decide +kernel
theorem dX5_pass_89 : decode cX5_pass 89 = .ok (.goto 4, 3) := by decide +kernel
theorem dX5_pass_92 : decode cX5_pass 92 = .ok (.iconst 0, 1) := by decide +kernel
theorem dX5_pass_93 : decode cX5_pass 93 = .ok (.iadd, 1) := by decide +kernel
theorem dX5_pass_94 : decode cX5_pass 94 = .ok (.istore_n 2, 1) := by decide +kernel
theorem dX5_pass_95 : decode cX5_pass 95 = .ok (.iinc 5 1, 3) := by decide +kernel
theorem dX5_pass_98 : decode cX5_pass 98 = .ok (.goto (-32), 3) := by decide +kernel
theorem dX5_pass_101 : decode cX5_pass 101 = .ok (.iinc 4 1, 3) := by decide +kernel
theorem dX5_pass_104 : decode cX5_pass 104 = .ok (.goto (-53), 3) := by decide +kernel
theorem dX5_pass_107 : decode cX5_pass 107 = .ok (.aload_n 0, 1) := by decide +kernel
theorem dX5_pass_108 : decode cX5_pass 108 = .ok (.dup, 1) := by decide +kernel
theorem dX5_pass_109 : decode cX5_pass 109 = .ok (.getfield 83, 3) := by decide +kernel
theorem dX5_pass_112 : decode cX5_pass 112 = .ok (.iconst 1, 1) := by decide +kernel
theorem dX5_pass_113 : decode cX5_pass 113 = .ok (.iadd, 1) := by decide +kernel
theorem dX5_pass_114 : decode cX5_pass 114 = .ok (.putfield 83, 3) := by decide +kernel
theorem dX5_pass_117 : decode cX5_pass 117 = .ok (.aload_n 0, 1) := by decide +kernel
theorem dX5_pass_118 : decode cX5_pass 118 = .ok (.invokevirtual 104, 3) := by decide +kernel
theorem dX5_pass_121 : decode cX5_pass 121 = .ok (.iinc 3 1, 3) := by decide +kernel
theorem dX5_pass_124 : decode cX5_pass 124 = .ok (.goto (-81), 3) := by decide +kernel
theorem dX5_pass_127 : decode cX5_pass 127 = .ok (.iload_n 2, 1) := by decide +kernel
theorem dX5_pass_128 : decode cX5_pass 128 = .ok (.ireturn, 1) := by decide +kernel
theorem dX5_today_0 : decode cX5_today 0 = .ok (.aload_n 0, 1) := by decide +kernel
theorem dX5_today_1 : decode cX5_today 1 = .ok (.iconst 0, 1) := by decide +kernel
theorem dX5_today_2 : decode cX5_today 2 = .ok (.putfield 50, 3) := by decide +kernel
theorem dX5_today_5 : decode cX5_today 5 = .ok (.aload_n 0, 1) := by decide +kernel
theorem dX5_today_6 : decode cX5_today 6 = .ok (.getfield 83, 3) := by decide +kernel
theorem dX5_today_9 : decode cX5_today 9 = .ok (.ireturn, 1) := by decide +kernel
theorem dX5_planned_0 : decode cX5_planned 0 = .ok (.aload_n 0, 1) := by decide +kernel
theorem dX5_planned_1 : decode cX5_planned 1 = .ok (.iconst 0, 1) := by decide +kernel
theorem dX5_planned_2 : decode cX5_planned 2 = .ok (.putfield 50, 3) := by decide +kernel
theorem dX5_planned_5 : decode cX5_planned 5 = .ok (.aload_n 0, 1) := by decide +kernel
theorem dX5_planned_6 : decode cX5_planned 6 = .ok (.getfield 86, 3) := by decide +kernel
theorem dX5_planned_9 : decode cX5_planned 9 = .ok (.ireturn, 1) := by decide +kernel
theorem dX5_restOf_0 : decode cX5_restOf 0 = .ok (.aload_n 0, 1) := by decide +kernel
theorem dX5_restOf_1 : decode cX5_restOf 1 = .ok (.getfield 47, 3) := by decide +kernel
theorem dX5_restOf_4 : decode cX5_restOf 4 = .ok (.bipush 9, 2) := by decide +kernel
theorem dX5_restOf_6 : decode cX5_restOf 6 = .ok (.iload_n 1, 1) := by decide +kernel
theorem dX5_restOf_7 : decode cX5_restOf 7 = .ok (.imul, 1) := by decide +kernel
theorem dX5_restOf_8 : decode cX5_restOf 8 = .ok (.iload_n 2, 1) := by decide +kernel
theorem dX5_restOf_9 : decode cX5_restOf 9 = .ok (.iadd, 1) := by decide +kernel
theorem dX5_restOf_10 : decode cX5_restOf 10 = .ok (.iaload, 1) := by decide +kernel
theorem dX5_restOf_11 : decode cX5_restOf 11 = .ok (.ireturn, 1) := by decide +kernel
theorem dX5_tabulate_0 : decode cX5_tabulate 0 = .ok (.iconst 0, 1) := by decide +kernel
theorem dX5_tabulate_1 : decode cX5_tabulate 1 = .ok (.istore_n 2, 1) := by decide +kernel
theorem dX5_tabulate_2 : decode cX5_tabulate 2 = .ok (.iload_n 2, 1) := by decide +kernel
theorem dX5_tabulate_3 : decode cX5_tabulate 3 = .ok (.iload_n 1, 1) := by decide +kernel
theorem dX5_tabulate_4 : decode cX5_tabulate 4 = .ok (.if_icmp .gt 108, 3) := by decide +kernel
theorem dX5_tabulate_7 : decode cX5_tabulate 7 = .ok (.iconst 0, 1) := by decide +kernel
theorem dX5_tabulate_8 : decode cX5_tabulate 8 = .ok (.istore_n 3, 1) := by decide +kernel
theorem dX5_tabulate_9 : decode cX5_tabulate 9 = .ok (.iload_n 3, 1) := by decide +kernel
theorem dX5_tabulate_10 : decode cX5_tabulate 10 = .ok (.bipush 8, 2) := by decide +kernel
theorem dX5_tabulate_12 : decode cX5_tabulate 12 = .ok (.if_icmp .gt 94, 3) := by decide +kernel
theorem dX5_tabulate_15 : decode cX5_tabulate 15 = .ok (.iload_n 2, 1) := by decide +kernel
theorem dX5_tabulate_16 : decode cX5_tabulate 16 = .ok (.ifCond .ne 13, 3) := by decide +kernel
theorem dX5_tabulate_19 : decode cX5_tabulate 19 = .ok (.aload_n 0, 1) := by decide +kernel
theorem dX5_tabulate_20 : decode cX5_tabulate 20 = .ok (.iload_n 3, 1) := by decide +kernel
theorem dX5_tabulate_21 : decode cX5_tabulate 21 = .ok (.bipush 8, 2) := by decide +kernel
theorem dX5_tabulate_23 : decode cX5_tabulate 23 = .ok (.invokevirtual 70, 3) := by decide +kernel
theorem dX5_tabulate_26 : decode cX5_tabulate 26 = .ok (.goto 5, 3) := by decide +kernel
theorem dX5_tabulate_29 : decode cX5_tabulate 29 = .ok (.ldc 109, 2) := by decide +kernel
theorem dX5_tabulate_31 : decode cX5_tabulate 31 = .ok (.istore 4, 2) := by decide +kernel
theorem dX5_tabulate_33 : decode cX5_tabulate 33 = .ok (.iconst 0, 1) := by decide +kernel
theorem dX5_tabulate_34 : decode cX5_tabulate 34 = .ok (.istore 5, 2) := by decide +kernel
theorem dX5_tabulate_36 : decode cX5_tabulate 36 = .ok (.iload 5, 2) := by decide +kernel
theorem dX5_tabulate_38 : decode cX5_tabulate 38 = .ok (.bipush 8, 2) := by decide +kernel
theorem dX5_tabulate_40 : decode cX5_tabulate 40 = .ok (.if_icmp .ge 47, 3) := by decide +kernel
theorem dX5_tabulate_43 : decode cX5_tabulate 43 = .ok (.iload_n 2, 1) := by decide +kernel
theorem dX5_tabulate_44 : decode cX5_tabulate 44 = .ok (.iload 5, 2) := by decide +kernel
theorem dX5_tabulate_46 : decode cX5_tabulate 46 = .ok (.invokestatic 110, 3) := by decide +kernel
theorem dX5_tabulate_49 : decode cX5_tabulate 49 = .ok (.ifCond .eq 32, 3) := by decide +kernel
theorem dX5_tabulate_52 : decode cX5_tabulate 52 = .ok (.iload 4, 2) := by decide +kernel
theorem dX5_tabulate_54 : decode cX5_tabulate 54 = .ok (.aload_n 0, 1) := by decide +kernel
theorem dX5_tabulate_55 : decode cX5_tabulate 55 = .ok (.iload_n 3, 1) := by decide +kernel
theorem dX5_tabulate_56 : decode cX5_tabulate 56 = .ok (.iload 5, 2) := by decide +kernel
theorem dX5_tabulate_58 : decode cX5_tabulate 58 = .ok (.invokevirtual 70, 3) := by decide +kernel
theorem dX5_tabulate_61 : decode cX5_tabulate 61 = .ok (.aload_n 0, 1) := by decide +kernel
theorem dX5_tabulate_62 : decode cX5_tabulate 62 = .ok (.iload_n 2, 1) := by decide +kernel
theorem dX5_tabulate_63 : decode cX5_tabulate 63 = .ok (.iconst 1, 1) := by decide +kernel
theorem dX5_tabulate_64 : decode cX5_tabulate 64 = .ok (.iload 5, 2) := by decide +kernel
theorem dX5_tabulate_66 : decode cX5_tabulate 66 = .ok (.ishl, 1) := by decide +kernel
theorem dX5_tabulate_67 : decode cX5_tabulate 67 = .ok (.iconst (-1), 1) := by decide +kernel
theorem dX5_tabulate_68 : decode cX5_tabulate 68 = .ok (.ixor, 1) := by decide +kernel
theorem dX5_tabulate_69 : decode cX5_tabulate 69 = .ok (.iand, 1) := by decide +kernel
theorem dX5_tabulate_70 : decode cX5_tabulate 70 = .ok (.iload 5, 2) := by decide +kernel
theorem dX5_tabulate_72 : decode cX5_tabulate 72 = .ok (.invokevirtual 113, 3) := by decide +kernel
theorem dX5_tabulate_75 : decode cX5_tabulate 75 = .ok (.iadd, 1) := by decide +kernel
theorem dX5_tabulate_76 : decode cX5_tabulate 76 = .ok (.invokestatic 78, 3) := by decide +kernel
theorem dX5_tabulate_79 : decode cX5_tabulate 79 = .ok (.istore 4, 2) := by decide +kernel
theorem dX5_tabulate_81 : decode cX5_tabulate 81 = .ok (.iinc 5 1, 3) := by decide +kernel
theorem dX5_tabulate_84 : decode cX5_tabulate 84 = .ok (.goto (-48), 3) := by decide +kernel
theorem dX5_tabulate_87 : decode cX5_tabulate 87 = .ok (.aload_n 0, 1) := by decide +kernel
theorem dX5_tabulate_88 : decode cX5_tabulate 88 = .ok (.getfield 47, 3) := by decide +kernel
theorem dX5_tabulate_91 : decode cX5_tabulate 91 = .ok (.bipush 9, 2) := by decide +kernel
theorem dX5_tabulate_93 : decode cX5_tabulate 93 = .ok (.iload_n 2, 1) := by decide +kernel
theorem dX5_tabulate_94 : decode cX5_tabulate 94 = .ok (.imul, 1) := by decide +kernel
theorem dX5_tabulate_95 : decode cX5_tabulate 95 = .ok (.iload_n 3, 1) := by decide +kernel
theorem dX5_tabulate_96 : decode cX5_tabulate 96 = .ok (.iadd, 1) := by decide +kernel
theorem dX5_tabulate_97 : decode cX5_tabulate 97 = .ok (.iload 4, 2) := by decide +kernel
theorem dX5_tabulate_99 : decode cX5_tabulate 99 = .ok (.iastore, 1) := by decide +kernel
theorem dX5_tabulate_100 : decode cX5_tabulate 100 = .ok (.iinc 3 1, 3) := by decide +kernel
theorem dX5_tabulate_103 : decode cX5_tabulate 103 = .ok (.goto (-94), 3) := by decide +kernel
theorem dX5_tabulate_106 : decode cX5_tabulate 106 = .ok (.iinc 2 1, 3) := by decide +kernel
theorem dX5_tabulate_109 : decode cX5_tabulate 109 = .ok (.goto (-107), 3) := by decide +kernel
theorem dX5_tabulate_112 : decode cX5_tabulate 112 = .ok (.return_, 1) := by decide +kernel
theorem dX5_nextOf_0 : decode cX5_nextOf 0 = .ok (.iconst 0, 1) := by decide +kernel
theorem dX5_nextOf_1 : decode cX5_nextOf 1 = .ok (.istore_n 3, 1) := by decide +kernel
theorem dX5_nextOf_2 : decode cX5_nextOf 2 = .ok (.iload_n 1, 1) := by decide +kernel
theorem dX5_nextOf_3 : decode cX5_nextOf 3 = .ok (.iload_n 3, 1) := by decide +kernel
theorem dX5_nextOf_4 : decode cX5_nextOf 4 = .ok (.invokestatic 110, 3) := by decide +kernel
theorem dX5_nextOf_7 : decode cX5_nextOf 7 = .ok (.ifCond .eq 31, 3) := by decide +kernel
theorem dX5_nextOf_10 : decode cX5_nextOf 10 = .ok (.aload_n 0, 1) := by decide +kernel
theorem dX5_nextOf_11 : decode cX5_nextOf 11 = .ok (.iload_n 2, 1) := by decide +kernel
theorem dX5_nextOf_12 : decode cX5_nextOf 12 = .ok (.iload_n 3, 1) := by decide +kernel
theorem dX5_nextOf_13 : decode cX5_nextOf 13 = .ok (.invokevirtual 70, 3) := by decide +kernel
theorem dX5_nextOf_16 : decode cX5_nextOf 16 = .ok (.aload_n 0, 1) := by decide +kernel
theorem dX5_nextOf_17 : decode cX5_nextOf 17 = .ok (.iload_n 1, 1) := by decide +kernel
theorem dX5_nextOf_18 : decode cX5_nextOf 18 = .ok (.iconst 1, 1) := by decide +kernel
theorem dX5_nextOf_19 : decode cX5_nextOf 19 = .ok (.iload_n 3, 1) := by decide +kernel
theorem dX5_nextOf_20 : decode cX5_nextOf 20 = .ok (.ishl, 1) := by decide +kernel
theorem dX5_nextOf_21 : decode cX5_nextOf 21 = .ok (.iconst (-1), 1) := by decide +kernel
theorem dX5_nextOf_22 : decode cX5_nextOf 22 = .ok (.ixor, 1) := by decide +kernel
theorem dX5_nextOf_23 : decode cX5_nextOf 23 = .ok (.iand, 1) := by decide +kernel
theorem dX5_nextOf_24 : decode cX5_nextOf 24 = .ok (.iload_n 3, 1) := by decide +kernel
theorem dX5_nextOf_25 : decode cX5_nextOf 25 = .ok (.invokevirtual 113, 3) := by decide +kernel
theorem dX5_nextOf_28 : decode cX5_nextOf 28 = .ok (.iadd, 1) := by decide +kernel
theorem dX5_nextOf_29 : decode cX5_nextOf 29 = .ok (.aload_n 0, 1) := by decide +kernel
theorem dX5_nextOf_30 : decode cX5_nextOf 30 = .ok (.iload_n 1, 1) := by decide +kernel
theorem dX5_nextOf_31 : decode cX5_nextOf 31 = .ok (.iload_n 2, 1) := by decide +kernel
theorem dX5_nextOf_32 : decode cX5_nextOf 32 = .ok (.invokevirtual 113, 3) := by decide +kernel
theorem dX5_nextOf_35 : decode cX5_nextOf 35 = .ok (.if_icmp .eq 9, 3) := by decide +kernel
theorem dX5_nextOf_38 : decode cX5_nextOf 38 = .ok (.iinc 3 1, 3) := by decide +kernel
theorem dX5_nextOf_41 : decode cX5_nextOf 41 = .ok (.goto (-39), 3) := by decide +kernel
theorem dX5_nextOf_44 : decode cX5_nextOf 44 = .ok (.iload_n 3, 1) := by decide +kernel
theorem dX5_nextOf_45 : decode cX5_nextOf 45 = .ok (.ireturn, 1) := by decide +kernel
theorem dX5_drive_0 : decode cX5_drive 0 = .ok (.aload_n 0, 1) := by decide +kernel
theorem dX5_drive_1 : decode cX5_drive 1 = .ok (.iconst 0, 1) := by decide +kernel
theorem dX5_drive_2 : decode cX5_drive 2 = .ok (.putfield 50, 3) := by decide +kernel
theorem dX5_drive_5 : decode cX5_drive 5 = .ok (.aload_n 0, 1) := by decide +kernel
theorem dX5_drive_6 : decode cX5_drive 6 = .ok (.iload_n 1, 1) := by decide +kernel
theorem dX5_drive_7 : decode cX5_drive 7 = .ok (.invokevirtual 116, 3) := by decide +kernel
theorem dX5_drive_10 : decode cX5_drive 10 = .ok (.ifCond .ne 9, 3) := by decide +kernel
theorem dX5_drive_13 : decode cX5_drive 13 = .ok (.aload_n 0, 1) := by decide +kernel
theorem dX5_drive_14 : decode cX5_drive 14 = .ok (.iconst 1, 1) := by decide +kernel
theorem dX5_drive_15 : decode cX5_drive 15 = .ok (.invokevirtual 66, 3) := by decide +kernel
theorem dX5_drive_18 : decode cX5_drive 18 = .ok (.ireturn, 1) := by decide +kernel
theorem dX5_drive_19 : decode cX5_drive 19 = .ok (.aload_n 0, 1) := by decide +kernel
theorem dX5_drive_20 : decode cX5_drive 20 = .ok (.iload_n 1, 1) := by decide +kernel
theorem dX5_drive_21 : decode cX5_drive 21 = .ok (.invokevirtual 119, 3) := by decide +kernel
theorem dX5_drive_24 : decode cX5_drive 24 = .ok (.aload_n 0, 1) := by decide +kernel
theorem dX5_drive_25 : decode cX5_drive 25 = .ok (.iload_n 1, 1) := by decide +kernel
theorem dX5_drive_26 : decode cX5_drive 26 = .ok (.bipush 8, 2) := by decide +kernel
theorem dX5_drive_28 : decode cX5_drive 28 = .ok (.invokevirtual 113, 3) := by decide +kernel
theorem dX5_drive_31 : decode cX5_drive 31 = .ok (.ireturn, 1) := by decide +kernel
theorem dX5_visit_0 : decode cX5_visit 0 = .ok (.aload_n 0, 1) := by decide +kernel
theorem dX5_visit_1 : decode cX5_visit 1 = .ok (.iconst 0, 1) := by decide +kernel
theorem dX5_visit_2 : decode cX5_visit 2 = .ok (.putfield 50, 3) := by decide +kernel
theorem dX5_visit_5 : decode cX5_visit 5 = .ok (.aload_n 0, 1) := by decide +kernel
theorem dX5_visit_6 : decode cX5_visit 6 = .ok (.iload_n 1, 1) := by decide +kernel
theorem dX5_visit_7 : decode cX5_visit 7 = .ok (.invokevirtual 116, 3) := by decide +kernel
theorem dX5_visit_10 : decode cX5_visit 10 = .ok (.ifCond .ne 9, 3) := by decide +kernel
theorem dX5_visit_13 : decode cX5_visit 13 = .ok (.aload_n 0, 1) := by decide +kernel
theorem dX5_visit_14 : decode cX5_visit 14 = .ok (.iconst 1, 1) := by decide +kernel
theorem dX5_visit_15 : decode cX5_visit 15 = .ok (.invokevirtual 66, 3) := by decide +kernel
theorem dX5_visit_18 : decode cX5_visit 18 = .ok (.ireturn, 1) := by decide +kernel
theorem dX5_visit_19 : decode cX5_visit 19 = .ok (.iload_n 2, 1) := by decide +kernel
theorem dX5_visit_20 : decode cX5_visit 20 = .ok (.iconst 0, 1) := by decide +kernel
theorem dX5_visit_21 : decode cX5_visit 21 = .ok (.iload_n 1, 1) := by decide +kernel
theorem dX5_visit_22 : decode cX5_visit 22 = .ok (.invokestatic 123, 3) := by decide +kernel
theorem dX5_visit_25 : decode cX5_visit 25 = .ok (.iconst 1, 1) := by decide +kernel
theorem dX5_visit_26 : decode cX5_visit 26 = .ok (.isub, 1) := by decide +kernel
theorem dX5_visit_27 : decode cX5_visit 27 = .ok (.invokestatic 57, 3) := by decide +kernel
theorem dX5_visit_30 : decode cX5_visit 30 = .ok (.ifCond .ne 9, 3) := by decide +kernel
theorem dX5_visit_33 : decode cX5_visit 33 = .ok (.aload_n 0, 1) := by decide +kernel
theorem dX5_visit_34 : decode cX5_visit 34 = .ok (.iconst 2, 1) := by decide +kernel
theorem dX5_visit_35 : decode cX5_visit 35 = .ok (.invokevirtual 66, 3) := by decide +kernel
theorem dX5_visit_38 : decode cX5_visit 38 = .ok (.ireturn, 1) := by decide +kernel
theorem dX5_visit_39 : decode cX5_visit 39 = .ok (.aload_n 0, 1) := by decide +kernel
theorem dX5_visit_40 : decode cX5_visit 40 = .ok (.iload_n 1, 1) := by decide +kernel
theorem dX5_visit_41 : decode cX5_visit 41 = .ok (.invokevirtual 119, 3) := by decide +kernel
theorem dX5_visit_44 : decode cX5_visit 44 = .ok (.iload_n 1, 1) := by decide +kernel
theorem dX5_visit_45 : decode cX5_visit 45 = .ok (.istore_n 3, 1) := by decide +kernel
theorem dX5_visit_46 : decode cX5_visit 46 = .ok (.bipush 8, 2) := by decide +kernel
theorem dX5_visit_48 : decode cX5_visit 48 = .ok (.istore 4, 2) := by decide +kernel
theorem dX5_visit_50 : decode cX5_visit 50 = .ok (.iconst 0, 1) := by decide +kernel
theorem dX5_visit_51 : decode cX5_visit 51 = .ok (.istore 5, 2) := by decide +kernel
theorem dX5_visit_53 : decode cX5_visit 53 = .ok (.iload 5, 2) := by decide +kernel
theorem dX5_visit_55 : decode cX5_visit 55 = .ok (.iload_n 2, 1) := by decide +kernel
theorem dX5_visit_56 : decode cX5_visit 56 = .ok (.if_icmp .gt 27, 3) := by decide +kernel
theorem dX5_visit_59 : decode cX5_visit 59 = .ok (.aload_n 0, 1) := by decide +kernel
theorem dX5_visit_60 : decode cX5_visit 60 = .ok (.iload_n 3, 1) := by decide +kernel
theorem dX5_visit_61 : decode cX5_visit 61 = .ok (.iload 4, 2) := by decide +kernel
theorem dX5_visit_63 : decode cX5_visit 63 = .ok (.invokevirtual 126, 3) := by decide +kernel
theorem dX5_visit_66 : decode cX5_visit 66 = .ok (.istore 4, 2) := by decide +kernel
theorem dX5_visit_68 : decode cX5_visit 68 = .ok (.iload_n 3, 1) := by decide +kernel
theorem dX5_visit_69 : decode cX5_visit 69 = .ok (.iconst 1, 1) := by decide +kernel
theorem dX5_visit_70 : decode cX5_visit 70 = .ok (.iload 4, 2) := by decide +kernel
theorem dX5_visit_72 : decode cX5_visit 72 = .ok (.ishl, 1) := by decide +kernel
theorem dX5_visit_73 : decode cX5_visit 73 = .ok (.iconst (-1), 1) := by decide +kernel
theorem dX5_visit_74 : decode cX5_visit 74 = .ok (.ixor, 1) := by decide +kernel
theorem dX5_visit_75 : decode cX5_visit 75 = .ok (.iand, 1) := by decide +kernel
theorem dX5_visit_76 : decode cX5_visit 76 = .ok (.istore_n 3, 1) := by decide +kernel
theorem dX5_visit_77 : decode cX5_visit 77 = .ok (.iinc 5 1, 3) := by decide +kernel
theorem dX5_visit_80 : decode cX5_visit 80 = .ok (.goto (-27), 3) := by decide +kernel
theorem dX5_visit_83 : decode cX5_visit 83 = .ok (.iload 4, 2) := by decide +kernel
theorem dX5_visit_85 : decode cX5_visit 85 = .ok (.ireturn, 1) := by decide +kernel
theorem dX5_minutesOf_0 : decode cX5_minutesOf 0 = .ok (.aload_n 0, 1) := by decide +kernel
theorem dX5_minutesOf_1 : decode cX5_minutesOf 1 = .ok (.iload_n 1, 1) := by decide +kernel
theorem dX5_minutesOf_2 : decode cX5_minutesOf 2 = .ok (.bipush 8, 2) := by decide +kernel
theorem dX5_minutesOf_4 : decode cX5_minutesOf 4 = .ok (.invokevirtual 113, 3) := by decide +kernel
theorem dX5_minutesOf_7 : decode cX5_minutesOf 7 = .ok (.istore_n 2, 1) := by decide +kernel
theorem dX5_minutesOf_8 : decode cX5_minutesOf 8 = .ok (.iconst 0, 1) := by decide +kernel
theorem dX5_minutesOf_9 : decode cX5_minutesOf 9 = .ok (.istore_n 3, 1) := by decide +kernel
theorem dX5_minutesOf_10 : decode cX5_minutesOf 10 = .ok (.iload_n 3, 1) := by decide +kernel
theorem dX5_minutesOf_11 : decode cX5_minutesOf 11 = .ok (.aload_n 0, 1) := by decide +kernel
theorem dX5_minutesOf_12 : decode cX5_minutesOf 12 = .ok (.getfield 54, 3) := by decide +kernel
theorem dX5_minutesOf_15 : decode cX5_minutesOf 15 = .ok (.if_icmp .ge 35, 3) := by decide +kernel
theorem dX5_minutesOf_18 : decode cX5_minutesOf 18 = .ok (.iload_n 2, 1) := by decide +kernel
theorem dX5_minutesOf_19 : decode cX5_minutesOf 19 = .ok (.iload_n 1, 1) := by decide +kernel
theorem dX5_minutesOf_20 : decode cX5_minutesOf 20 = .ok (.iload_n 3, 1) := by decide +kernel
theorem dX5_minutesOf_21 : decode cX5_minutesOf 21 = .ok (.invokestatic 110, 3) := by decide +kernel
theorem dX5_minutesOf_24 : decode cX5_minutesOf 24 = .ok (.ifCond .eq 17, 3) := by decide +kernel
theorem dX5_minutesOf_27 : decode cX5_minutesOf 27 = .ok (.iconst 3, 1) := by decide +kernel
theorem dX5_minutesOf_28 : decode cX5_minutesOf 28 = .ok (.aload_n 0, 1) := by decide +kernel
theorem dX5_minutesOf_29 : decode cX5_minutesOf 29 = .ok (.iload_n 3, 1) := by decide +kernel
theorem dX5_minutesOf_30 : decode cX5_minutesOf 30 = .ok (.invokevirtual 92, 3) := by decide +kernel
theorem dX5_minutesOf_33 : decode cX5_minutesOf 33 = .ok (.iconst 4, 1) := by decide +kernel
theorem dX5_minutesOf_34 : decode cX5_minutesOf 34 = .ok (.iadd, 1) := by decide +kernel
theorem dX5_minutesOf_35 : decode cX5_minutesOf 35 = .ok (.iconst 5, 1) := by decide +kernel
theorem dX5_minutesOf_36 : decode cX5_minutesOf 36 = .ok (.idiv, 1) := by decide +kernel
theorem dX5_minutesOf_37 : decode cX5_minutesOf 37 = .ok (.iadd, 1) := by decide +kernel
theorem dX5_minutesOf_38 : decode cX5_minutesOf 38 = .ok (.goto 4, 3) := by decide +kernel
theorem dX5_minutesOf_41 : decode cX5_minutesOf 41 = .ok (.iconst 0, 1) := by decide +kernel
theorem dX5_minutesOf_42 : decode cX5_minutesOf 42 = .ok (.iadd, 1) := by decide +kernel
theorem dX5_minutesOf_43 : decode cX5_minutesOf 43 = .ok (.istore_n 2, 1) := by decide +kernel
theorem dX5_minutesOf_44 : decode cX5_minutesOf 44 = .ok (.iinc 3 1, 3) := by decide +kernel
theorem dX5_minutesOf_47 : decode cX5_minutesOf 47 = .ok (.goto (-37), 3) := by decide +kernel
theorem dX5_minutesOf_50 : decode cX5_minutesOf 50 = .ok (.iload_n 2, 1) := by decide +kernel
theorem dX5_minutesOf_51 : decode cX5_minutesOf 51 = .ok (.ireturn, 1) := by decide +kernel
theorem dX5_minutes_0 : decode cX5_minutes 0 = .ok (.aload_n 0, 1) := by decide +kernel
theorem dX5_minutes_1 : decode cX5_minutes 1 = .ok (.iconst 0, 1) := by decide +kernel
theorem dX5_minutes_2 : decode cX5_minutes 2 = .ok (.putfield 50, 3) := by decide +kernel
theorem dX5_minutes_5 : decode cX5_minutes 5 = .ok (.aload_n 0, 1) := by decide +kernel
theorem dX5_minutes_6 : decode cX5_minutes 6 = .ok (.iload_n 1, 1) := by decide +kernel
theorem dX5_minutes_7 : decode cX5_minutes 7 = .ok (.invokevirtual 116, 3) := by decide +kernel
theorem dX5_minutes_10 : decode cX5_minutes 10 = .ok (.ifCond .ne 9, 3) := by decide +kernel
theorem dX5_minutes_13 : decode cX5_minutes 13 = .ok (.aload_n 0, 1) := by decide +kernel
theorem dX5_minutes_14 : decode cX5_minutes 14 = .ok (.iconst 1, 1) := by decide +kernel
theorem dX5_minutes_15 : decode cX5_minutes 15 = .ok (.invokevirtual 66, 3) := by decide +kernel
theorem dX5_minutes_18 : decode cX5_minutes 18 = .ok (.ireturn, 1) := by decide +kernel
theorem dX5_minutes_19 : decode cX5_minutes 19 = .ok (.aload_n 0, 1) := by decide +kernel
theorem dX5_minutes_20 : decode cX5_minutes 20 = .ok (.iload_n 1, 1) := by decide +kernel
theorem dX5_minutes_21 : decode cX5_minutes 21 = .ok (.invokevirtual 119, 3) := by decide +kernel
theorem dX5_minutes_24 : decode cX5_minutes 24 = .ok (.aload_n 0, 1) := by decide +kernel
theorem dX5_minutes_25 : decode cX5_minutes 25 = .ok (.iload_n 1, 1) := by decide +kernel
theorem dX5_minutes_26 : decode cX5_minutes 26 = .ok (.invokevirtual 129, 3) := by decide +kernel
theorem dX5_minutes_29 : decode cX5_minutes 29 = .ok (.ireturn, 1) := by decide +kernel
theorem dX5_best_0 : decode cX5_best 0 = .ok (.aload_n 0, 1) := by decide +kernel
theorem dX5_best_1 : decode cX5_best 1 = .ok (.iconst 0, 1) := by decide +kernel
theorem dX5_best_2 : decode cX5_best 2 = .ok (.putfield 50, 3) := by decide +kernel
theorem dX5_best_5 : decode cX5_best 5 = .ok (.iload_n 1, 1) := by decide +kernel
theorem dX5_best_6 : decode cX5_best 6 = .ok (.iconst 0, 1) := by decide +kernel
theorem dX5_best_7 : decode cX5_best 7 = .ok (.sipush 5000, 3) := by decide +kernel
theorem dX5_best_10 : decode cX5_best 10 = .ok (.invokestatic 57, 3) := by decide +kernel
theorem dX5_best_13 : decode cX5_best 13 = .ok (.ifCond .eq 14, 3) := by decide +kernel
theorem dX5_best_16 : decode cX5_best 16 = .ok (.iload_n 2, 1) := by decide +kernel
theorem dX5_best_17 : decode cX5_best 17 = .ok (.iconst 0, 1) := by decide +kernel
theorem dX5_best_18 : decode cX5_best 18 = .ok (.sipush 2000, 3) := by decide +kernel
theorem dX5_best_21 : decode cX5_best 21 = .ok (.invokestatic 57, 3) := by decide +kernel
theorem dX5_best_24 : decode cX5_best 24 = .ok (.ifCond .ne 9, 3) := by decide +kernel
theorem dX5_best_27 : decode cX5_best 27 = .ok (.aload_n 0, 1) := by decide +kernel
theorem dX5_best_28 : decode cX5_best 28 = .ok (.iconst 1, 1) := by decide +kernel
theorem dX5_best_29 : decode cX5_best 29 = .ok (.invokevirtual 66, 3) := by decide +kernel
theorem dX5_best_32 : decode cX5_best 32 = .ok (.ireturn, 1) := by decide +kernel
theorem dX5_best_33 : decode cX5_best 33 = .ok (.iconst 1, 1) := by decide +kernel
theorem dX5_best_34 : decode cX5_best 34 = .ok (.aload_n 0, 1) := by decide +kernel
theorem dX5_best_35 : decode cX5_best 35 = .ok (.getfield 54, 3) := by decide +kernel
theorem dX5_best_38 : decode cX5_best 38 = .ok (.ishl, 1) := by decide +kernel
theorem dX5_best_39 : decode cX5_best 39 = .ok (.iconst 1, 1) := by decide +kernel
theorem dX5_best_40 : decode cX5_best 40 = .ok (.isub, 1) := by decide +kernel
theorem dX5_best_41 : decode cX5_best 41 = .ok (.istore_n 3, 1) := by decide +kernel
theorem dX5_best_42 : decode cX5_best 42 = .ok (.aload_n 0, 1) := by decide +kernel
theorem dX5_best_43 : decode cX5_best 43 = .ok (.iload_n 3, 1) := by decide +kernel
theorem dX5_best_44 : decode cX5_best 44 = .ok (.invokevirtual 119, 3) := by decide +kernel
theorem dX5_best_47 : decode cX5_best 47 = .ok (.iconst 0, 1) := by decide +kernel
theorem dX5_best_48 : decode cX5_best 48 = .ok (.istore 4, 2) := by decide +kernel
theorem dX5_best_50 : decode cX5_best 50 = .ok (.iconst 0, 1) := by decide +kernel
theorem dX5_best_51 : decode cX5_best 51 = .ok (.istore 5, 2) := by decide +kernel
theorem dX5_best_53 : decode cX5_best 53 = .ok (.iconst 0, 1) := by decide +kernel
theorem dX5_best_54 : decode cX5_best 54 = .ok (.istore 6, 2) := by decide +kernel
theorem dX5_best_56 : decode cX5_best 56 = .ok (.iconst 1, 1) := by decide +kernel
theorem dX5_best_57 : decode cX5_best 57 = .ok (.istore 7, 2) := by decide +kernel
theorem dX5_best_59 : decode cX5_best 59 = .ok (.iload 7, 2) := by decide +kernel
theorem dX5_best_61 : decode cX5_best 61 = .ok (.iload_n 3, 1) := by decide +kernel
theorem dX5_best_62 : decode cX5_best 62 = .ok (.if_icmp .gt 124, 3) := by decide +kernel
theorem dX5_best_65 : decode cX5_best 65 = .ok (.iconst 0, 1) := by decide +kernel
theorem dX5_best_66 : decode cX5_best 66 = .ok (.istore 8, 2) := by decide +kernel
theorem dX5_best_68 : decode cX5_best 68 = .ok (.iconst 0, 1) := by decide +kernel
theorem dX5_best_69 : decode cX5_best 69 = .ok (.istore 9, 2) := by decide +kernel
theorem dX5_best_71 : decode cX5_best 71 = .ok (.iconst 0, 1) := by decide +kernel
theorem dX5_best_72 : decode cX5_best 72 = .ok (.istore 10, 2) := by decide +kernel
theorem dX5_best_74 : decode cX5_best 74 = .ok (.iload 10, 2) := by decide +kernel
theorem dX5_best_76 : decode cX5_best 76 = .ok (.aload_n 0, 1) := by decide +kernel
theorem dX5_best_77 : decode cX5_best 77 = .ok (.getfield 54, 3) := by decide +kernel
theorem dX5_best_80 : decode cX5_best 80 = .ok (.if_icmp .ge 44, 3) := by decide +kernel
theorem dX5_best_83 : decode cX5_best 83 = .ok (.iload 7, 2) := by decide +kernel
theorem dX5_best_85 : decode cX5_best 85 = .ok (.iload 10, 2) := by decide +kernel
theorem dX5_best_87 : decode cX5_best 87 = .ok (.invokestatic 110, 3) := by decide +kernel
theorem dX5_best_90 : decode cX5_best 90 = .ok (.ifCond .ne 6, 3) := by decide +kernel
theorem dX5_best_93 : decode cX5_best 93 = .ok (.goto 25, 3) := by decide +kernel
theorem dX5_best_96 : decode cX5_best 96 = .ok (.iload 8, 2) := by decide +kernel
theorem dX5_best_98 : decode cX5_best 98 = .ok (.aload_n 0, 1) := by decide +kernel
theorem dX5_best_99 : decode cX5_best 99 = .ok (.iload 10, 2) := by decide +kernel
theorem dX5_best_101 : decode cX5_best 101 = .ok (.invokevirtual 95, 3) := by decide +kernel
theorem dX5_best_104 : decode cX5_best 104 = .ok (.iadd, 1) := by decide +kernel
theorem dX5_best_105 : decode cX5_best 105 = .ok (.istore 8, 2) := by decide +kernel
theorem dX5_best_107 : decode cX5_best 107 = .ok (.iload 9, 2) := by decide +kernel
theorem dX5_best_109 : decode cX5_best 109 = .ok (.aload_n 0, 1) := by decide +kernel
theorem dX5_best_110 : decode cX5_best 110 = .ok (.iload 10, 2) := by decide +kernel
theorem dX5_best_112 : decode cX5_best 112 = .ok (.invokevirtual 92, 3) := by decide +kernel
theorem dX5_best_115 : decode cX5_best 115 = .ok (.iadd, 1) := by decide +kernel
theorem dX5_best_116 : decode cX5_best 116 = .ok (.istore 9, 2) := by decide +kernel
theorem dX5_best_118 : decode cX5_best 118 = .ok (.iinc 10 1, 3) := by decide +kernel
theorem dX5_best_121 : decode cX5_best 121 = .ok (.goto (-47), 3) := by decide +kernel
theorem dX5_best_124 : decode cX5_best 124 = .ok (.aload_n 0, 1) := by decide +kernel
theorem dX5_best_125 : decode cX5_best 125 = .ok (.iload 7, 2) := by decide +kernel
theorem dX5_best_127 : decode cX5_best 127 = .ok (.invokevirtual 129, 3) := by decide +kernel
theorem dX5_best_130 : decode cX5_best 130 = .ok (.istore 10, 2) := by decide +kernel
theorem dX5_best_132 : decode cX5_best 132 = .ok (.iload 10, 2) := by decide +kernel
theorem dX5_best_134 : decode cX5_best 134 = .ok (.iload_n 1, 1) := by decide +kernel
theorem dX5_best_135 : decode cX5_best 135 = .ok (.if_icmp .gt 45, 3) := by decide +kernel
theorem dX5_best_138 : decode cX5_best 138 = .ok (.iload 9, 2) := by decide +kernel
theorem dX5_best_140 : decode cX5_best 140 = .ok (.iload_n 2, 1) := by decide +kernel
theorem dX5_best_141 : decode cX5_best 141 = .ok (.if_icmp .gt 39, 3) := by decide +kernel
theorem dX5_best_144 : decode cX5_best 144 = .ok (.iload 8, 2) := by decide +kernel
theorem dX5_best_146 : decode cX5_best 146 = .ok (.iload 5, 2) := by decide +kernel
theorem dX5_best_148 : decode cX5_best 148 = .ok (.if_icmp .lt 32, 3) := by decide +kernel
theorem dX5_best_151 : decode cX5_best 151 = .ok (.iload 8, 2) := by decide +kernel
theorem dX5_best_153 : decode cX5_best 153 = .ok (.iload 5, 2) := by decide +kernel
theorem dX5_best_155 : decode cX5_best 155 = .ok (.if_icmp .ne 13, 3) := by decide +kernel
theorem dX5_best_158 : decode cX5_best 158 = .ok (.iload 10, 2) := by decide +kernel
theorem dX5_best_160 : decode cX5_best 160 = .ok (.iload 6, 2) := by decide +kernel
theorem dX5_best_162 : decode cX5_best 162 = .ok (.if_icmp .lt 6, 3) := by decide +kernel
theorem dX5_best_165 : decode cX5_best 165 = .ok (.goto 15, 3) := by decide +kernel
theorem dX5_best_168 : decode cX5_best 168 = .ok (.iload 7, 2) := by decide +kernel
theorem dX5_best_170 : decode cX5_best 170 = .ok (.istore 4, 2) := by decide +kernel
theorem dX5_best_172 : decode cX5_best 172 = .ok (.iload 8, 2) := by decide +kernel
theorem dX5_best_174 : decode cX5_best 174 = .ok (.istore 5, 2) := by decide +kernel
theorem dX5_best_176 : decode cX5_best 176 = .ok (.iload 10, 2) := by decide +kernel
theorem dX5_best_178 : decode cX5_best 178 = .ok (.istore 6, 2) := by decide +kernel
theorem dX5_best_180 : decode cX5_best 180 = .ok (.iinc 7 1, 3) := by decide +kernel
theorem dX5_best_183 : decode cX5_best 183 = .ok (.goto (-124), 3) := by decide +kernel
theorem dX5_best_186 : decode cX5_best 186 = .ok (.iload 4, 2) := by decide +kernel
theorem dX5_best_188 : decode cX5_best 188 = .ok (.ireturn, 1) := by decide +kernel
theorem dX5_go_0 : decode cX5_go 0 = .ok (.aload_n 0, 1) := by decide +kernel
theorem dX5_go_1 : decode cX5_go 1 = .ok (.iconst 0, 1) := by decide +kernel
theorem dX5_go_2 : decode cX5_go 2 = .ok (.putfield 50, 3) := by decide +kernel
theorem dX5_go_5 : decode cX5_go 5 = .ok (.aload_n 0, 1) := by decide +kernel
theorem dX5_go_6 : decode cX5_go 6 = .ok (.iload_n 1, 1) := by decide +kernel
theorem dX5_go_7 : decode cX5_go 7 = .ok (.invokevirtual 116, 3) := by decide +kernel
theorem dX5_go_10 : decode cX5_go 10 = .ok (.ifCond .eq 14, 3) := by decide +kernel
theorem dX5_go_13 : decode cX5_go 13 = .ok (.iload_n 2, 1) := by decide +kernel
theorem dX5_go_14 : decode cX5_go 14 = .ok (.iconst 0, 1) := by decide +kernel
theorem dX5_go_15 : decode cX5_go 15 = .ok (.sipush 2000, 3) := by decide +kernel
theorem dX5_go_18 : decode cX5_go 18 = .ok (.invokestatic 57, 3) := by decide +kernel
theorem dX5_go_21 : decode cX5_go 21 = .ok (.ifCond .ne 9, 3) := by decide +kernel
theorem dX5_go_24 : decode cX5_go 24 = .ok (.aload_n 0, 1) := by decide +kernel
theorem dX5_go_25 : decode cX5_go 25 = .ok (.iconst 1, 1) := by decide +kernel
theorem dX5_go_26 : decode cX5_go 26 = .ok (.invokevirtual 66, 3) := by decide +kernel
theorem dX5_go_29 : decode cX5_go 29 = .ok (.ireturn, 1) := by decide +kernel
theorem dX5_go_30 : decode cX5_go 30 = .ok (.aload_n 0, 1) := by decide +kernel
theorem dX5_go_31 : decode cX5_go 31 = .ok (.iload_n 1, 1) := by decide +kernel
theorem dX5_go_32 : decode cX5_go 32 = .ok (.invokevirtual 119, 3) := by decide +kernel
theorem dX5_go_35 : decode cX5_go 35 = .ok (.aload_n 0, 1) := by decide +kernel
theorem dX5_go_36 : decode cX5_go 36 = .ok (.getfield 43, 3) := by decide +kernel
theorem dX5_go_39 : decode cX5_go 39 = .ok (.iconst 1, 1) := by decide +kernel
theorem dX5_go_40 : decode cX5_go 40 = .ok (.dup2, 1) := by decide +kernel
theorem dX5_go_41 : decode cX5_go 41 = .ok (.laload, 1) := by decide +kernel
theorem dX5_go_42 : decode cX5_go 42 = .ok (.aload_n 0, 1) := by decide +kernel
theorem dX5_go_43 : decode cX5_go 43 = .ok (.iload_n 1, 1) := by decide +kernel
theorem dX5_go_44 : decode cX5_go 44 = .ok (.invokevirtual 129, 3) := by decide +kernel
theorem dX5_go_47 : decode cX5_go 47 = .ok (.i2l, 1) := by decide +kernel
theorem dX5_go_48 : decode cX5_go 48 = .ok (.ladd, 1) := by decide +kernel
theorem dX5_go_49 : decode cX5_go 49 = .ok (.lastore, 1) := by decide +kernel
theorem dX5_go_50 : decode cX5_go 50 = .ok (.aload_n 0, 1) := by decide +kernel
theorem dX5_go_51 : decode cX5_go 51 = .ok (.getfield 43, 3) := by decide +kernel
theorem dX5_go_54 : decode cX5_go 54 = .ok (.iconst 3, 1) := by decide +kernel
theorem dX5_go_55 : decode cX5_go 55 = .ok (.dup2, 1) := by decide +kernel
theorem dX5_go_56 : decode cX5_go 56 = .ok (.laload, 1) := by decide +kernel
theorem dX5_go_57 : decode cX5_go 57 = .ok (.lconst 1, 1) := by decide +kernel
theorem dX5_go_58 : decode cX5_go 58 = .ok (.ladd, 1) := by decide +kernel
theorem dX5_go_59 : decode cX5_go 59 = .ok (.lastore, 1) := by decide +kernel
theorem dX5_go_60 : decode cX5_go 60 = .ok (.iload_n 2, 1) := by decide +kernel
theorem dX5_go_61 : decode cX5_go 61 = .ok (.istore_n 3, 1) := by decide +kernel
theorem dX5_go_62 : decode cX5_go 62 = .ok (.bipush 8, 2) := by decide +kernel
theorem dX5_go_64 : decode cX5_go 64 = .ok (.istore 4, 2) := by decide +kernel
theorem dX5_go_66 : decode cX5_go 66 = .ok (.iload_n 1, 1) := by decide +kernel
theorem dX5_go_67 : decode cX5_go 67 = .ok (.istore 5, 2) := by decide +kernel
theorem dX5_go_69 : decode cX5_go 69 = .ok (.iload 5, 2) := by decide +kernel
theorem dX5_go_71 : decode cX5_go 71 = .ok (.ifCond .eq 126, 3) := by decide +kernel
theorem dX5_go_74 : decode cX5_go 74 = .ok (.aload_n 0, 1) := by decide +kernel
theorem dX5_go_75 : decode cX5_go 75 = .ok (.iload 5, 2) := by decide +kernel
theorem dX5_go_77 : decode cX5_go 77 = .ok (.iload 4, 2) := by decide +kernel
theorem dX5_go_79 : decode cX5_go 79 = .ok (.invokevirtual 126, 3) := by decide +kernel
theorem dX5_go_82 : decode cX5_go 82 = .ok (.istore 4, 2) := by decide +kernel
theorem dX5_go_84 : decode cX5_go 84 = .ok (.iload 5, 2) := by decide +kernel
theorem dX5_go_86 : decode cX5_go 86 = .ok (.iconst 1, 1) := by decide +kernel
theorem dX5_go_87 : decode cX5_go 87 = .ok (.iload 4, 2) := by decide +kernel
theorem dX5_go_89 : decode cX5_go 89 = .ok (.ishl, 1) := by decide +kernel
theorem dX5_go_90 : decode cX5_go 90 = .ok (.iconst (-1), 1) := by decide +kernel
theorem dX5_go_91 : decode cX5_go 91 = .ok (.ixor, 1) := by decide +kernel
theorem dX5_go_92 : decode cX5_go 92 = .ok (.iand, 1) := by decide +kernel
theorem dX5_go_93 : decode cX5_go 93 = .ok (.istore 5, 2) := by decide +kernel
theorem dX5_go_95 : decode cX5_go 95 = .ok (.aload_n 0, 1) := by decide +kernel
theorem dX5_go_96 : decode cX5_go 96 = .ok (.getfield 43, 3) := by decide +kernel
theorem dX5_go_99 : decode cX5_go 99 = .ok (.iconst 0, 1) := by decide +kernel
theorem dX5_go_100 : decode cX5_go 100 = .ok (.dup2, 1) := by decide +kernel
theorem dX5_go_101 : decode cX5_go 101 = .ok (.laload, 1) := by decide +kernel
theorem dX5_go_102 : decode cX5_go 102 = .ok (.aload_n 0, 1) := by decide +kernel
theorem dX5_go_103 : decode cX5_go 103 = .ok (.getfield 13, 3) := by decide +kernel
theorem dX5_go_106 : decode cX5_go 106 = .ok (.iload 4, 2) := by decide +kernel
theorem dX5_go_108 : decode cX5_go 108 = .ok (.iaload, 1) := by decide +kernel
theorem dX5_go_109 : decode cX5_go 109 = .ok (.i2l, 1) := by decide +kernel
theorem dX5_go_110 : decode cX5_go 110 = .ok (.ladd, 1) := by decide +kernel
theorem dX5_go_111 : decode cX5_go 111 = .ok (.lastore, 1) := by decide +kernel
theorem dX5_go_112 : decode cX5_go 112 = .ok (.aload_n 0, 1) := by decide +kernel
theorem dX5_go_113 : decode cX5_go 113 = .ok (.getfield 13, 3) := by decide +kernel
theorem dX5_go_116 : decode cX5_go 116 = .ok (.iload 4, 2) := by decide +kernel
theorem dX5_go_118 : decode cX5_go 118 = .ok (.iconst 0, 1) := by decide +kernel
theorem dX5_go_119 : decode cX5_go 119 = .ok (.iastore, 1) := by decide +kernel
theorem dX5_go_120 : decode cX5_go 120 = .ok (.aload_n 0, 1) := by decide +kernel
theorem dX5_go_121 : decode cX5_go 121 = .ok (.getfield 16, 3) := by decide +kernel
theorem dX5_go_124 : decode cX5_go 124 = .ok (.iload 4, 2) := by decide +kernel
theorem dX5_go_126 : decode cX5_go 126 = .ok (.dup2, 1) := by decide +kernel
theorem dX5_go_127 : decode cX5_go 127 = .ok (.iaload, 1) := by decide +kernel
theorem dX5_go_128 : decode cX5_go 128 = .ok (.iconst 1, 1) := by decide +kernel
theorem dX5_go_129 : decode cX5_go 129 = .ok (.iadd, 1) := by decide +kernel
theorem dX5_go_130 : decode cX5_go 130 = .ok (.iastore, 1) := by decide +kernel
theorem dX5_go_131 : decode cX5_go 131 = .ok (.bipush 6, 2) := by decide +kernel
theorem dX5_go_133 : decode cX5_go 133 = .ok (.iload 4, 2) := by decide +kernel
theorem dX5_go_135 : decode cX5_go 135 = .ok (.imul, 1) := by decide +kernel
theorem dX5_go_136 : decode cX5_go 136 = .ok (.istore 6, 2) := by decide +kernel
theorem dX5_go_138 : decode cX5_go 138 = .ok (.iload 6, 2) := by decide +kernel
theorem dX5_go_140 : decode cX5_go 140 = .ok (.bipush 6, 2) := by decide +kernel
theorem dX5_go_142 : decode cX5_go 142 = .ok (.iload 4, 2) := by decide +kernel
theorem dX5_go_144 : decode cX5_go 144 = .ok (.iconst 1, 1) := by decide +kernel
theorem dX5_go_145 : decode cX5_go 145 = .ok (.iadd, 1) := by decide +kernel
theorem dX5_go_146 : decode cX5_go 146 = .ok (.imul, 1) := by decide +kernel
theorem dX5_go_147 : decode cX5_go 147 = .ok (.if_icmp .ge 47, 3) := by decide +kernel
theorem dX5_go_150 : decode cX5_go 150 = .ok (.iload_n 3, 1) := by decide +kernel
theorem dX5_go_151 : decode cX5_go 151 = .ok (.aload_n 0, 1) := by decide +kernel
theorem dX5_go_152 : decode cX5_go 152 = .ok (.getfield 22, 3) := by decide +kernel
theorem dX5_go_155 : decode cX5_go 155 = .ok (.iload 6, 2) := by decide +kernel
theorem dX5_go_157 : decode cX5_go 157 = .ok (.iaload, 1) := by decide +kernel
theorem dX5_go_158 : decode cX5_go 158 = .ok (.aload_n 0, 1) := by decide +kernel
theorem dX5_go_159 : decode cX5_go 159 = .ok (.getfield 25, 3) := by decide +kernel
theorem dX5_go_162 : decode cX5_go 162 = .ok (.iload 6, 2) := by decide +kernel
theorem dX5_go_164 : decode cX5_go 164 = .ok (.iaload, 1) := by decide +kernel
theorem dX5_go_165 : decode cX5_go 165 = .ok (.isub, 1) := by decide +kernel
theorem dX5_go_166 : decode cX5_go 166 = .ok (.invokestatic 78, 3) := by decide +kernel
theorem dX5_go_169 : decode cX5_go 169 = .ok (.istore 7, 2) := by decide +kernel
theorem dX5_go_171 : decode cX5_go 171 = .ok (.aload_n 0, 1) := by decide +kernel
theorem dX5_go_172 : decode cX5_go 172 = .ok (.getfield 25, 3) := by decide +kernel
theorem dX5_go_175 : decode cX5_go 175 = .ok (.iload 6, 2) := by decide +kernel
theorem dX5_go_177 : decode cX5_go 177 = .ok (.dup2, 1) := by decide +kernel
theorem dX5_go_178 : decode cX5_go 178 = .ok (.iaload, 1) := by decide +kernel
theorem dX5_go_179 : decode cX5_go 179 = .ok (.iload 7, 2) := by decide +kernel
theorem dX5_go_181 : decode cX5_go 181 = .ok (.iadd, 1) := by decide +kernel
theorem dX5_go_182 : decode cX5_go 182 = .ok (.iastore, 1) := by decide +kernel
theorem dX5_go_183 : decode cX5_go 183 = .ok (.iload_n 3, 1) := by decide +kernel
theorem dX5_go_184 : decode cX5_go 184 = .ok (.iload 7, 2) := by decide +kernel
theorem dX5_go_186 : decode cX5_go 186 = .ok (.isub, 1) := by decide +kernel
theorem dX5_go_187 : decode cX5_go 187 = .ok (.istore_n 3, 1) := by decide +kernel
theorem dX5_go_188 : decode cX5_go 188 = .ok (.iinc 6 1, 3) := by decide +kernel
theorem dX5_go_191 : decode cX5_go 191 = .ok (.goto (-53), 3) := by decide +kernel
theorem dX5_go_194 : decode cX5_go 194 = .ok (.goto (-125), 3) := by decide +kernel
theorem dX5_go_197 : decode cX5_go 197 = .ok (.aload_n 0, 1) := by decide +kernel
theorem dX5_go_198 : decode cX5_go 198 = .ok (.getfield 43, 3) := by decide +kernel
theorem dX5_go_201 : decode cX5_go 201 = .ok (.iconst 2, 1) := by decide +kernel
theorem dX5_go_202 : decode cX5_go 202 = .ok (.dup2, 1) := by decide +kernel
theorem dX5_go_203 : decode cX5_go 203 = .ok (.laload, 1) := by decide +kernel
theorem dX5_go_204 : decode cX5_go 204 = .ok (.iload_n 2, 1) := by decide +kernel
theorem dX5_go_205 : decode cX5_go 205 = .ok (.iload_n 3, 1) := by decide +kernel
theorem dX5_go_206 : decode cX5_go 206 = .ok (.isub, 1) := by decide +kernel
theorem dX5_go_207 : decode cX5_go 207 = .ok (.i2l, 1) := by decide +kernel
theorem dX5_go_208 : decode cX5_go 208 = .ok (.ladd, 1) := by decide +kernel
theorem dX5_go_209 : decode cX5_go 209 = .ok (.lastore, 1) := by decide +kernel
theorem dX5_go_210 : decode cX5_go 210 = .ok (.iload_n 3, 1) := by decide +kernel
theorem dX5_go_211 : decode cX5_go 211 = .ok (.ireturn, 1) := by decide +kernel
theorem dX5_total_0 : decode cX5_total 0 = .ok (.aload_n 0, 1) := by decide +kernel
theorem dX5_total_1 : decode cX5_total 1 = .ok (.iload_n 1, 1) := by decide +kernel
theorem dX5_total_2 : decode cX5_total 2 = .ok (.iconst 0, 1) := by decide +kernel
theorem dX5_total_3 : decode cX5_total 3 = .ok (.iconst 3, 1) := by decide +kernel
theorem dX5_total_4 : decode cX5_total 4 = .ok (.invokestatic 57, 3) := by decide +kernel
theorem dX5_total_7 : decode cX5_total 7 = .ok (.ifCond .eq 7, 3) := by decide +kernel
theorem dX5_total_10 : decode cX5_total 10 = .ok (.iconst 0, 1) := by decide +kernel
theorem dX5_total_11 : decode cX5_total 11 = .ok (.goto 4, 3) := by decide +kernel
theorem dX5_total_14 : decode cX5_total 14 = .ok (.iconst 1, 1) := by decide +kernel
theorem dX5_total_15 : decode cX5_total 15 = .ok (.putfield 50, 3) := by decide +kernel
theorem dX5_total_18 : decode cX5_total 18 = .ok (.aload_n 0, 1) := by decide +kernel
theorem dX5_total_19 : decode cX5_total 19 = .ok (.getfield 50, 3) := by decide +kernel
theorem dX5_total_22 : decode cX5_total 22 = .ok (.ifCond .ne 12, 3) := by decide +kernel
theorem dX5_total_25 : decode cX5_total 25 = .ok (.aload_n 0, 1) := by decide +kernel
theorem dX5_total_26 : decode cX5_total 26 = .ok (.getfield 43, 3) := by decide +kernel
theorem dX5_total_29 : decode cX5_total 29 = .ok (.iload_n 1, 1) := by decide +kernel
theorem dX5_total_30 : decode cX5_total 30 = .ok (.laload, 1) := by decide +kernel
theorem dX5_total_31 : decode cX5_total 31 = .ok (.goto 4, 3) := by decide +kernel
theorem dX5_total_34 : decode cX5_total 34 = .ok (.lconst 0, 1) := by decide +kernel
theorem dX5_total_35 : decode cX5_total 35 = .ok (.lreturn, 1) := by decide +kernel
theorem dX5_filled_0 : decode cX5_filled 0 = .ok (.aload_n 0, 1) := by decide +kernel
theorem dX5_filled_1 : decode cX5_filled 1 = .ok (.iconst 0, 1) := by decide +kernel
theorem dX5_filled_2 : decode cX5_filled 2 = .ok (.putfield 50, 3) := by decide +kernel
theorem dX5_filled_5 : decode cX5_filled 5 = .ok (.iconst 0, 1) := by decide +kernel
theorem dX5_filled_6 : decode cX5_filled 6 = .ok (.istore_n 1, 1) := by decide +kernel
theorem dX5_filled_7 : decode cX5_filled 7 = .ok (.iconst 0, 1) := by decide +kernel
theorem dX5_filled_8 : decode cX5_filled 8 = .ok (.istore_n 2, 1) := by decide +kernel
theorem dX5_filled_9 : decode cX5_filled 9 = .ok (.iconst 0, 1) := by decide +kernel
theorem dX5_filled_10 : decode cX5_filled 10 = .ok (.istore_n 3, 1) := by decide +kernel
theorem dX5_filled_11 : decode cX5_filled 11 = .ok (.iload_n 3, 1) := by decide +kernel
theorem dX5_filled_12 : decode cX5_filled 12 = .ok (.bipush 6, 2) := by decide +kernel
theorem dX5_filled_14 : decode cX5_filled 14 = .ok (.aload_n 0, 1) := by decide +kernel
theorem dX5_filled_15 : decode cX5_filled 15 = .ok (.getfield 54, 3) := by decide +kernel
theorem dX5_filled_18 : decode cX5_filled 18 = .ok (.imul, 1) := by decide +kernel
theorem dX5_filled_19 : decode cX5_filled 19 = .ok (.if_icmp .ge 27, 3) := by decide +kernel
theorem dX5_filled_22 : decode cX5_filled 22 = .ok (.iload_n 1, 1) := by decide +kernel
theorem dX5_filled_23 : decode cX5_filled 23 = .ok (.aload_n 0, 1) := by decide +kernel
theorem dX5_filled_24 : decode cX5_filled 24 = .ok (.getfield 25, 3) := by decide +kernel
theorem dX5_filled_27 : decode cX5_filled 27 = .ok (.iload_n 3, 1) := by decide +kernel
theorem dX5_filled_28 : decode cX5_filled 28 = .ok (.iaload, 1) := by decide +kernel
theorem dX5_filled_29 : decode cX5_filled 29 = .ok (.iadd, 1) := by decide +kernel
theorem dX5_filled_30 : decode cX5_filled 30 = .ok (.istore_n 1, 1) := by decide +kernel
theorem dX5_filled_31 : decode cX5_filled 31 = .ok (.iload_n 2, 1) := by decide +kernel
theorem dX5_filled_32 : decode cX5_filled 32 = .ok (.aload_n 0, 1) := by decide +kernel
theorem dX5_filled_33 : decode cX5_filled 33 = .ok (.getfield 22, 3) := by decide +kernel
theorem dX5_filled_36 : decode cX5_filled 36 = .ok (.iload_n 3, 1) := by decide +kernel
theorem dX5_filled_37 : decode cX5_filled 37 = .ok (.iaload, 1) := by decide +kernel
theorem dX5_filled_38 : decode cX5_filled 38 = .ok (.iadd, 1) := by decide +kernel
theorem dX5_filled_39 : decode cX5_filled 39 = .ok (.istore_n 2, 1) := by decide +kernel
theorem dX5_filled_40 : decode cX5_filled 40 = .ok (.iinc 3 1, 3) := by decide +kernel
theorem dX5_filled_43 : decode cX5_filled 43 = .ok (.goto (-32), 3) := by decide +kernel
theorem dX5_filled_46 : decode cX5_filled 46 = .ok (.iload_n 2, 1) := by decide +kernel
theorem dX5_filled_47 : decode cX5_filled 47 = .ok (.ifCond .ne 7, 3) := by decide +kernel
theorem dX5_filled_50 : decode cX5_filled 50 = .ok (.dconst 1, 1) := by decide +kernel
theorem dX5_filled_51 : decode cX5_filled 51 = .ok (.goto 8, 3) := by decide +kernel
theorem dX5_filled_54 : decode cX5_filled 54 = .ok (.iload_n 1, 1) := by decide +kernel
theorem dX5_filled_55 : decode cX5_filled 55 = .ok (.i2d, 1) := by decide +kernel
theorem dX5_filled_56 : decode cX5_filled 56 = .ok (.iload_n 2, 1) := by decide +kernel
theorem dX5_filled_57 : decode cX5_filled 57 = .ok (.i2d, 1) := by decide +kernel
theorem dX5_filled_58 : decode cX5_filled 58 = .ok (.ddiv, 1) := by decide +kernel
theorem dX5_filled_59 : decode cX5_filled 59 = .ok (.dreturn, 1) := by decide +kernel
theorem dX5_digest_0 : decode cX5_digest 0 = .ok (.aload_n 0, 1) := by decide +kernel
theorem dX5_digest_1 : decode cX5_digest 1 = .ok (.iconst 0, 1) := by decide +kernel
theorem dX5_digest_2 : decode cX5_digest 2 = .ok (.putfield 50, 3) := by decide +kernel
theorem dX5_digest_5 : decode cX5_digest 5 = .ok (.ldc2_w 132, 3) := by decide +kernel
theorem dX5_digest_8 : decode cX5_digest 8 = .ok (.aload_n 0, 1) := by decide +kernel
theorem dX5_digest_9 : decode cX5_digest 9 = .ok (.getfield 83, 3) := by decide +kernel
theorem dX5_digest_12 : decode cX5_digest 12 = .ok (.i2l, 1) := by decide +kernel
theorem dX5_digest_13 : decode cX5_digest 13 = .ok (.ladd, 1) := by decide +kernel
theorem dX5_digest_14 : decode cX5_digest 14 = .ok (.ldc2_w 134, 3) := by decide +kernel
theorem dX5_digest_17 : decode cX5_digest 17 = .ok (.lmul, 1) := by decide +kernel
theorem dX5_digest_18 : decode cX5_digest 18 = .ok (.aload_n 0, 1) := by decide +kernel
theorem dX5_digest_19 : decode cX5_digest 19 = .ok (.getfield 54, 3) := by decide +kernel
theorem dX5_digest_22 : decode cX5_digest 22 = .ok (.i2l, 1) := by decide +kernel
theorem dX5_digest_23 : decode cX5_digest 23 = .ok (.ladd, 1) := by decide +kernel
theorem dX5_digest_24 : decode cX5_digest 24 = .ok (.lstore_n 1, 1) := by decide +kernel
theorem dX5_digest_25 : decode cX5_digest 25 = .ok (.iconst 0, 1) := by decide +kernel
theorem dX5_digest_26 : decode cX5_digest 26 = .ok (.istore_n 3, 1) := by decide +kernel
theorem dX5_digest_27 : decode cX5_digest 27 = .ok (.iload_n 3, 1) := by decide +kernel
theorem dX5_digest_28 : decode cX5_digest 28 = .ok (.aload_n 0, 1) := by decide +kernel
theorem dX5_digest_29 : decode cX5_digest 29 = .ok (.getfield 54, 3) := by decide +kernel
theorem dX5_digest_32 : decode cX5_digest 32 = .ok (.if_icmp .ge 54, 3) := by decide +kernel
theorem dX5_digest_35 : decode cX5_digest 35 = .ok (.lload_n 1, 1) := by decide +kernel
theorem dX5_digest_36 : decode cX5_digest 36 = .ok (.ldc2_w 134, 3) := by decide +kernel
theorem dX5_digest_39 : decode cX5_digest 39 = .ok (.lmul, 1) := by decide +kernel
theorem dX5_digest_40 : decode cX5_digest 40 = .ok (.aload_n 0, 1) := by decide +kernel
theorem dX5_digest_41 : decode cX5_digest 41 = .ok (.bipush 8, 2) := by decide +kernel
theorem dX5_digest_43 : decode cX5_digest 43 = .ok (.iload_n 3, 1) := by decide +kernel
theorem dX5_digest_44 : decode cX5_digest 44 = .ok (.invokevirtual 70, 3) := by decide +kernel
theorem dX5_digest_47 : decode cX5_digest 47 = .ok (.i2l, 1) := by decide +kernel
theorem dX5_digest_48 : decode cX5_digest 48 = .ok (.ladd, 1) := by decide +kernel
theorem dX5_digest_49 : decode cX5_digest 49 = .ok (.lstore_n 1, 1) := by decide +kernel
theorem dX5_digest_50 : decode cX5_digest 50 = .ok (.iconst 0, 1) := by decide +kernel
theorem dX5_digest_51 : decode cX5_digest 51 = .ok (.istore 4, 2) := by decide +kernel
theorem dX5_digest_53 : decode cX5_digest 53 = .ok (.iload 4, 2) := by decide +kernel
theorem dX5_digest_55 : decode cX5_digest 55 = .ok (.iload_n 3, 1) := by decide +kernel
theorem dX5_digest_56 : decode cX5_digest 56 = .ok (.if_icmp .ge 24, 3) := by decide +kernel
theorem dX5_digest_59 : decode cX5_digest 59 = .ok (.lload_n 1, 1) := by decide +kernel
theorem dX5_digest_60 : decode cX5_digest 60 = .ok (.ldc2_w 134, 3) := by decide +kernel
theorem dX5_digest_63 : decode cX5_digest 63 = .ok (.lmul, 1) := by decide +kernel
theorem dX5_digest_64 : decode cX5_digest 64 = .ok (.aload_n 0, 1) := by decide +kernel
theorem dX5_digest_65 : decode cX5_digest 65 = .ok (.iload 4, 2) := by decide +kernel
theorem dX5_digest_67 : decode cX5_digest 67 = .ok (.iload_n 3, 1) := by decide +kernel
theorem dX5_digest_68 : decode cX5_digest 68 = .ok (.invokevirtual 70, 3) := by decide +kernel
theorem dX5_digest_71 : decode cX5_digest 71 = .ok (.i2l, 1) := by decide +kernel
theorem dX5_digest_72 : decode cX5_digest 72 = .ok (.ladd, 1) := by decide +kernel
theorem dX5_digest_73 : decode cX5_digest 73 = .ok (.lstore_n 1, 1) := by decide +kernel
theorem dX5_digest_74 : decode cX5_digest 74 = .ok (.iinc 4 1, 3) := by decide +kernel
theorem dX5_digest_77 : decode cX5_digest 77 = .ok (.goto (-24), 3) := by decide +kernel
theorem dX5_digest_80 : decode cX5_digest 80 = .ok (.iinc 3 1, 3) := by decide +kernel
theorem dX5_digest_83 : decode cX5_digest 83 = .ok (.goto (-56), 3) := by decide +kernel
theorem dX5_digest_86 : decode cX5_digest 86 = .ok (.iconst 0, 1) := by decide +kernel
theorem dX5_digest_87 : decode cX5_digest 87 = .ok (.istore_n 3, 1) := by decide +kernel
theorem dX5_digest_88 : decode cX5_digest 88 = .ok (.iload_n 3, 1) := by decide +kernel
theorem dX5_digest_89 : decode cX5_digest 89 = .ok (.aload_n 0, 1) := by decide +kernel
theorem dX5_digest_90 : decode cX5_digest 90 = .ok (.getfield 54, 3) := by decide +kernel
theorem dX5_digest_93 : decode cX5_digest 93 = .ok (.if_icmp .ge 94, 3) := by decide +kernel
theorem dX5_digest_96 : decode cX5_digest 96 = .ok (.iconst 0, 1) := by decide +kernel
theorem dX5_digest_97 : decode cX5_digest 97 = .ok (.istore 4, 2) := by decide +kernel
theorem dX5_digest_99 : decode cX5_digest 99 = .ok (.iload 4, 2) := by decide +kernel
theorem dX5_digest_101 : decode cX5_digest 101 = .ok (.iconst 5, 1) := by decide +kernel
theorem dX5_digest_102 : decode cX5_digest 102 = .ok (.if_icmp .ge 24, 3) := by decide +kernel
theorem dX5_digest_105 : decode cX5_digest 105 = .ok (.lload_n 1, 1) := by decide +kernel
theorem dX5_digest_106 : decode cX5_digest 106 = .ok (.ldc2_w 134, 3) := by decide +kernel
theorem dX5_digest_109 : decode cX5_digest 109 = .ok (.lmul, 1) := by decide +kernel
theorem dX5_digest_110 : decode cX5_digest 110 = .ok (.aload_n 0, 1) := by decide +kernel
theorem dX5_digest_111 : decode cX5_digest 111 = .ok (.iload_n 3, 1) := by decide +kernel
theorem dX5_digest_112 : decode cX5_digest 112 = .ok (.iload 4, 2) := by decide +kernel
theorem dX5_digest_114 : decode cX5_digest 114 = .ok (.invokevirtual 98, 3) := by decide +kernel
theorem dX5_digest_117 : decode cX5_digest 117 = .ok (.i2l, 1) := by decide +kernel
theorem dX5_digest_118 : decode cX5_digest 118 = .ok (.ladd, 1) := by decide +kernel
theorem dX5_digest_119 : decode cX5_digest 119 = .ok (.lstore_n 1, 1) := by decide +kernel
theorem dX5_digest_120 : decode cX5_digest 120 = .ok (.iinc 4 1, 3) := by decide +kernel
theorem dX5_digest_123 : decode cX5_digest 123 = .ok (.goto (-24), 3) := by decide +kernel
theorem dX5_digest_126 : decode cX5_digest 126 = .ok (.bipush 6, 2) := by decide +kernel
theorem dX5_digest_128 : decode cX5_digest 128 = .ok (.iload_n 3, 1) := by decide +kernel
theorem dX5_digest_129 : decode cX5_digest 129 = .ok (.imul, 1) := by decide +kernel
theorem dX5_digest_130 : decode cX5_digest 130 = .ok (.istore 4, 2) := by decide +kernel
theorem dX5_digest_132 : decode cX5_digest 132 = .ok (.iload 4, 2) := by decide +kernel
theorem dX5_digest_134 : decode cX5_digest 134 = .ok (.bipush 6, 2) := by decide +kernel
theorem dX5_digest_136 : decode cX5_digest 136 = .ok (.iload_n 3, 1) := by decide +kernel
theorem dX5_digest_137 : decode cX5_digest 137 = .ok (.iconst 1, 1) := by decide +kernel
theorem dX5_digest_138 : decode cX5_digest 138 = .ok (.iadd, 1) := by decide +kernel
theorem dX5_digest_139 : decode cX5_digest 139 = .ok (.imul, 1) := by decide +kernel
theorem dX5_digest_140 : decode cX5_digest 140 = .ok (.if_icmp .ge 41, 3) := by decide +kernel
theorem dX5_digest_143 : decode cX5_digest 143 = .ok (.iconst 0, 1) := by decide +kernel
theorem dX5_digest_144 : decode cX5_digest 144 = .ok (.istore 5, 2) := by decide +kernel
theorem dX5_digest_146 : decode cX5_digest 146 = .ok (.iload 5, 2) := by decide +kernel
theorem dX5_digest_148 : decode cX5_digest 148 = .ok (.bipush 6, 2) := by decide +kernel
theorem dX5_digest_150 : decode cX5_digest 150 = .ok (.if_icmp .ge 25, 3) := by decide +kernel
theorem dX5_digest_153 : decode cX5_digest 153 = .ok (.lload_n 1, 1) := by decide +kernel
theorem dX5_digest_154 : decode cX5_digest 154 = .ok (.ldc2_w 134, 3) := by decide +kernel
theorem dX5_digest_157 : decode cX5_digest 157 = .ok (.lmul, 1) := by decide +kernel
theorem dX5_digest_158 : decode cX5_digest 158 = .ok (.aload_n 0, 1) := by decide +kernel
theorem dX5_digest_159 : decode cX5_digest 159 = .ok (.iload 4, 2) := by decide +kernel
theorem dX5_digest_161 : decode cX5_digest 161 = .ok (.iload 5, 2) := by decide +kernel
theorem dX5_digest_163 : decode cX5_digest 163 = .ok (.invokevirtual 89, 3) := by decide +kernel
theorem dX5_digest_166 : decode cX5_digest 166 = .ok (.i2l, 1) := by decide +kernel
theorem dX5_digest_167 : decode cX5_digest 167 = .ok (.ladd, 1) := by decide +kernel
theorem dX5_digest_168 : decode cX5_digest 168 = .ok (.lstore_n 1, 1) := by decide +kernel
theorem dX5_digest_169 : decode cX5_digest 169 = .ok (.iinc 5 1, 3) := by decide +kernel
theorem dX5_digest_172 : decode cX5_digest 172 = .ok (.goto (-26), 3) := by decide +kernel
theorem dX5_digest_175 : decode cX5_digest 175 = .ok (.iinc 4 1, 3) := by decide +kernel
theorem dX5_digest_178 : decode cX5_digest 178 = .ok (.goto (-46), 3) := by decide +kernel
theorem dX5_digest_181 : decode cX5_digest 181 = .ok (.iinc 3 1, 3) := by decide +kernel
theorem dX5_digest_184 : decode cX5_digest 184 = .ok (.goto (-96), 3) := by decide +kernel
theorem dX5_digest_187 : decode cX5_digest 187 = .ok (.lload_n 1, 1) := by decide +kernel
theorem dX5_digest_188 : decode cX5_digest 188 = .ok (.ldc2_w 134, 3) := by decide +kernel
theorem dX5_digest_191 : decode cX5_digest 191 = .ok (.lmul, 1) := by decide +kernel
theorem dX5_digest_192 : decode cX5_digest 192 = .ok (.aload_n 0, 1) := by decide +kernel
theorem dX5_digest_193 : decode cX5_digest 193 = .ok (.getfield 86, 3) := by decide +kernel
theorem dX5_digest_196 : decode cX5_digest 196 = .ok (.i2l, 1) := by decide +kernel
theorem dX5_digest_197 : decode cX5_digest 197 = .ok (.ladd, 1) := by decide +kernel
theorem dX5_digest_198 : decode cX5_digest 198 = .ok (.lstore_n 1, 1) := by decide +kernel
theorem dX5_digest_199 : decode cX5_digest 199 = .ok (.aload_n 0, 1) := by decide +kernel
theorem dX5_digest_200 : decode cX5_digest 200 = .ok (.getfield 43, 3) := by decide +kernel
theorem dX5_digest_203 : decode cX5_digest 203 = .ok (.astore_n 3, 1) := by decide +kernel
theorem dX5_digest_204 : decode cX5_digest 204 = .ok (.aload_n 3, 1) := by decide +kernel
theorem dX5_digest_205 : decode cX5_digest 205 = .ok (.arraylength, 1) := by decide +kernel
theorem dX5_digest_206 : decode cX5_digest 206 = .ok (.istore 4, 2) := by decide +kernel
theorem dX5_digest_208 : decode cX5_digest 208 = .ok (.iconst 0, 1) := by decide +kernel
theorem dX5_digest_209 : decode cX5_digest 209 = .ok (.istore 5, 2) := by decide +kernel
theorem dX5_digest_211 : decode cX5_digest 211 = .ok (.iload 5, 2) := by decide +kernel
theorem dX5_digest_213 : decode cX5_digest 213 = .ok (.iload 4, 2) := by decide +kernel
theorem dX5_digest_215 : decode cX5_digest 215 = .ok (.if_icmp .ge 24, 3) := by decide +kernel
theorem dX5_digest_218 : decode cX5_digest 218 = .ok (.aload_n 3, 1) := by decide +kernel
theorem dX5_digest_219 : decode cX5_digest 219 = .ok (.iload 5, 2) := by decide +kernel
theorem dX5_digest_221 : decode cX5_digest 221 = .ok (.laload, 1) := by decide +kernel
theorem dX5_digest_222 : decode cX5_digest 222 = .ok (.lstore 6, 2) := by decide +kernel
theorem dX5_digest_224 : decode cX5_digest 224 = .ok (.lload_n 1, 1) := by decide +kernel
theorem dX5_digest_225 : decode cX5_digest 225 = .ok (.ldc2_w 134, 3) := by decide +kernel
theorem dX5_digest_228 : decode cX5_digest 228 = .ok (.lmul, 1) := by decide +kernel
theorem dX5_digest_229 : decode cX5_digest 229 = .ok (.lload 6, 2) := by decide +kernel
theorem dX5_digest_231 : decode cX5_digest 231 = .ok (.ladd, 1) := by decide +kernel
theorem dX5_digest_232 : decode cX5_digest 232 = .ok (.lstore_n 1, 1) := by decide +kernel
theorem dX5_digest_233 : decode cX5_digest 233 = .ok (.iinc 5 1, 3) := by decide +kernel
theorem dX5_digest_236 : decode cX5_digest 236 = .ok (.goto (-25), 3) := by decide +kernel
theorem dX5_digest_239 : decode cX5_digest 239 = .ok (.lload_n 1, 1) := by decide +kernel
theorem dX5_digest_240 : decode cX5_digest 240 = .ok (.lreturn, 1) := by decide +kernel
theorem dJ6_bitCount_0f7a4_0 : decode cJ6_bitCount_0f7a4 0 = .ok (.iload_n 0, 1) := by decide +kernel
theorem dJ6_bitCount_0f7a4_1 : decode cJ6_bitCount_0f7a4 1 = .ok (.iload_n 0, 1) := by decide +kernel
theorem dJ6_bitCount_0f7a4_2 : decode cJ6_bitCount_0f7a4 2 = .ok (.iconst 1, 1) := by decide +kernel
theorem dJ6_bitCount_0f7a4_3 : decode cJ6_bitCount_0f7a4 3 = .ok (.iushr, 1) := by decide +kernel
theorem dJ6_bitCount_0f7a4_4 : decode cJ6_bitCount_0f7a4 4 = .ok (.ldc_w 265, 3) := by decide +kernel
theorem dJ6_bitCount_0f7a4_7 : decode cJ6_bitCount_0f7a4 7 = .ok (.iand, 1) := by decide +kernel
theorem dJ6_bitCount_0f7a4_8 : decode cJ6_bitCount_0f7a4 8 = .ok (.isub, 1) := by decide +kernel
theorem dJ6_bitCount_0f7a4_9 : decode cJ6_bitCount_0f7a4 9 = .ok (.istore_n 0, 1) := by decide +kernel
theorem dJ6_bitCount_0f7a4_10 : decode cJ6_bitCount_0f7a4 10 = .ok (.iload_n 0, 1) := by decide +kernel
theorem dJ6_bitCount_0f7a4_11 : decode cJ6_bitCount_0f7a4 11 = .ok (.ldc_w 266, 3) := by decide +kernel
theorem dJ6_bitCount_0f7a4_14 : decode cJ6_bitCount_0f7a4 14 = .ok (.iand, 1) := by decide +kernel
theorem dJ6_bitCount_0f7a4_15 : decode cJ6_bitCount_0f7a4 15 = .ok (.iload_n 0, 1) := by decide +kernel
theorem dJ6_bitCount_0f7a4_16 : decode cJ6_bitCount_0f7a4 16 = .ok (.iconst 2, 1) := by decide +kernel
theorem dJ6_bitCount_0f7a4_17 : decode cJ6_bitCount_0f7a4 17 = .ok (.iushr, 1) := by decide +kernel
theorem dJ6_bitCount_0f7a4_18 : decode cJ6_bitCount_0f7a4 18 = .ok (.ldc_w 266, 3) := by decide +kernel
theorem dJ6_bitCount_0f7a4_21 : decode cJ6_bitCount_0f7a4 21 = .ok (.iand, 1) := by decide +kernel
theorem dJ6_bitCount_0f7a4_22 : decode cJ6_bitCount_0f7a4 22 = .ok (.iadd, 1) := by decide +kernel
theorem dJ6_bitCount_0f7a4_23 : decode cJ6_bitCount_0f7a4 23 = .ok (.istore_n 0, 1) := by decide +kernel
theorem dJ6_bitCount_0f7a4_24 : decode cJ6_bitCount_0f7a4 24 = .ok (.iload_n 0, 1) := by decide +kernel
theorem dJ6_bitCount_0f7a4_25 : decode cJ6_bitCount_0f7a4 25 = .ok (.iload_n 0, 1) := by decide +kernel
theorem dJ6_bitCount_0f7a4_26 : decode cJ6_bitCount_0f7a4 26 = .ok (.iconst 4, 1) := by decide +kernel
theorem dJ6_bitCount_0f7a4_27 : decode cJ6_bitCount_0f7a4 27 = .ok (.iushr, 1) := by decide +kernel
theorem dJ6_bitCount_0f7a4_28 : decode cJ6_bitCount_0f7a4 28 = .ok (.iadd, 1) := by decide +kernel
theorem dJ6_bitCount_0f7a4_29 : decode cJ6_bitCount_0f7a4 29 = .ok (.ldc_w 267, 3) := by decide +kernel
theorem dJ6_bitCount_0f7a4_32 : decode cJ6_bitCount_0f7a4 32 = .ok (.iand, 1) := by decide +kernel
theorem dJ6_bitCount_0f7a4_33 : decode cJ6_bitCount_0f7a4 33 = .ok (.istore_n 0, 1) := by decide +kernel
theorem dJ6_bitCount_0f7a4_34 : decode cJ6_bitCount_0f7a4 34 = .ok (.iload_n 0, 1) := by decide +kernel
theorem dJ6_bitCount_0f7a4_35 : decode cJ6_bitCount_0f7a4 35 = .ok (.iload_n 0, 1) := by decide +kernel
theorem dJ6_bitCount_0f7a4_36 : decode cJ6_bitCount_0f7a4 36 = .ok (.bipush 8, 2) := by decide +kernel
theorem dJ6_bitCount_0f7a4_38 : decode cJ6_bitCount_0f7a4 38 = .ok (.iushr, 1) := by decide +kernel
theorem dJ6_bitCount_0f7a4_39 : decode cJ6_bitCount_0f7a4 39 = .ok (.iadd, 1) := by decide +kernel
theorem dJ6_bitCount_0f7a4_40 : decode cJ6_bitCount_0f7a4 40 = .ok (.istore_n 0, 1) := by decide +kernel
theorem dJ6_bitCount_0f7a4_41 : decode cJ6_bitCount_0f7a4 41 = .ok (.iload_n 0, 1) := by decide +kernel
theorem dJ6_bitCount_0f7a4_42 : decode cJ6_bitCount_0f7a4 42 = .ok (.iload_n 0, 1) := by decide +kernel
theorem dJ6_bitCount_0f7a4_43 : decode cJ6_bitCount_0f7a4 43 = .ok (.bipush 16, 2) := by decide +kernel
theorem dJ6_bitCount_0f7a4_45 : decode cJ6_bitCount_0f7a4 45 = .ok (.iushr, 1) := by decide +kernel
theorem dJ6_bitCount_0f7a4_46 : decode cJ6_bitCount_0f7a4 46 = .ok (.iadd, 1) := by decide +kernel
theorem dJ6_bitCount_0f7a4_47 : decode cJ6_bitCount_0f7a4 47 = .ok (.istore_n 0, 1) := by decide +kernel
theorem dJ6_bitCount_0f7a4_48 : decode cJ6_bitCount_0f7a4 48 = .ok (.iload_n 0, 1) := by decide +kernel
theorem dJ6_bitCount_0f7a4_49 : decode cJ6_bitCount_0f7a4 49 = .ok (.bipush 63, 2) := by decide +kernel
theorem dJ6_bitCount_0f7a4_51 : decode cJ6_bitCount_0f7a4 51 = .ok (.iand, 1) := by decide +kernel
theorem dJ6_bitCount_0f7a4_52 : decode cJ6_bitCount_0f7a4 52 = .ok (.ireturn, 1) := by decide +kernel
theorem dJ9_max_7cf53_0 : decode cJ9_max_7cf53 0 = .ok (.iload_n 0, 1) := by decide +kernel
theorem dJ9_max_7cf53_1 : decode cJ9_max_7cf53 1 = .ok (.iload_n 1, 1) := by decide +kernel
theorem dJ9_max_7cf53_2 : decode cJ9_max_7cf53 2 = .ok (.if_icmp .lt 7, 3) := by decide +kernel
theorem dJ9_max_7cf53_5 : decode cJ9_max_7cf53 5 = .ok (.iload_n 0, 1) := by decide +kernel
theorem dJ9_max_7cf53_6 : decode cJ9_max_7cf53 6 = .ok (.goto 4, 3) := by decide +kernel
theorem dJ9_max_7cf53_9 : decode cJ9_max_7cf53 9 = .ok (.iload_n 1, 1) := by decide +kernel
theorem dJ9_max_7cf53_10 : decode cJ9_max_7cf53 10 = .ok (.ireturn, 1) := by decide +kernel
theorem dJ9_min_7cf53_0 : decode cJ9_min_7cf53 0 = .ok (.iload_n 0, 1) := by decide +kernel
theorem dJ9_min_7cf53_1 : decode cJ9_min_7cf53 1 = .ok (.iload_n 1, 1) := by decide +kernel
theorem dJ9_min_7cf53_2 : decode cJ9_min_7cf53 2 = .ok (.if_icmp .gt 7, 3) := by decide +kernel
theorem dJ9_min_7cf53_5 : decode cJ9_min_7cf53 5 = .ok (.iload_n 0, 1) := by decide +kernel
theorem dJ9_min_7cf53_6 : decode cJ9_min_7cf53 6 = .ok (.goto 4, 3) := by decide +kernel
theorem dJ9_min_7cf53_9 : decode cJ9_min_7cf53 9 = .ok (.iload_n 1, 1) := by decide +kernel
theorem dJ9_min_7cf53_10 : decode cJ9_min_7cf53 10 = .ok (.ireturn, 1) := by decide +kernel
theorem dJxa1e45_init_da8c8_0 : decode cJxa1e45_init_da8c8 0 = .ok (.aload_n 0, 1) := by decide +kernel
theorem dJxa1e45_init_da8c8_1 : decode cJxa1e45_init_da8c8 1 = .ok (.invokespecial 1, 3) := by decide +kernel
theorem dJxa1e45_init_da8c8_4 : decode cJxa1e45_init_da8c8 4 = .ok (.return_, 1) := by decide +kernel
theorem dJxc12de_init_da8c8_0 : decode cJxc12de_init_da8c8 0 = .ok (.aload_n 0, 1) := by decide +kernel
theorem dJxc12de_init_da8c8_1 : decode cJxc12de_init_da8c8 1 = .ok (.invokespecial 1, 3) := by decide +kernel
theorem dJxc12de_init_da8c8_4 : decode cJxc12de_init_da8c8 4 = .ok (.aload_n 0, 1) := by decide +kernel
theorem dJxc12de_init_da8c8_5 : decode cJxc12de_init_da8c8 5 = .ok (.iconst 0, 1) := by decide +kernel
theorem dJxc12de_init_da8c8_6 : decode cJxc12de_init_da8c8 6 = .ok (.putfield 7, 3) := by decide +kernel
theorem dJxc12de_init_da8c8_9 : decode cJxc12de_init_da8c8 9 = .ok (.return_, 1) := by decide +kernel
theorem dJx4a65c_init_da8c8_0 : decode cJx4a65c_init_da8c8 0 = .ok (.aload_n 0, 1) := by decide +kernel
theorem dJx4a65c_init_da8c8_1 : decode cJx4a65c_init_da8c8 1 = .ok (.invokespecial 1, 3) := by decide +kernel
theorem dJx4a65c_init_da8c8_4 : decode cJx4a65c_init_da8c8 4 = .ok (.aload_n 0, 1) := by decide +kernel
theorem dJx4a65c_init_da8c8_5 : decode cJx4a65c_init_da8c8 5 = .ok (.getstatic 39, 3) := by decide +kernel
theorem dJx4a65c_init_da8c8_8 : decode cJx4a65c_init_da8c8 8 = .ok (.putfield 9, 3) := by decide +kernel
theorem dJx4a65c_init_da8c8_11 : decode cJx4a65c_init_da8c8 11 = .ok (.return_, 1) := by decide +kernel
theorem dJx4a65c_grow_92f84_0 : decode cJx4a65c_grow_92f84 0 = .ok (.aload_n 0, 1) := by decide +kernel
theorem dJx4a65c_grow_92f84_1 : decode cJx4a65c_grow_92f84 1 = .ok (.getfield 9, 3) := by decide +kernel
theorem dJx4a65c_grow_92f84_4 : decode cJx4a65c_grow_92f84 4 = .ok (.arraylength, 1) := by decide +kernel
theorem dJx4a65c_grow_92f84_5 : decode cJx4a65c_grow_92f84 5 = .ok (.istore_n 2, 1) := by decide +kernel
theorem dJx4a65c_grow_92f84_6 : decode cJx4a65c_grow_92f84 6 = .ok (.iload_n 2, 1) := by decide +kernel
theorem dJx4a65c_grow_92f84_7 : decode cJx4a65c_grow_92f84 7 = .ok (.ifCond .gt 13, 3) := by decide +kernel
theorem dJx4a65c_grow_92f84_10 : decode cJx4a65c_grow_92f84 10 = .ok (.aload_n 0, 1) := by decide +kernel
theorem dJx4a65c_grow_92f84_11 : decode cJx4a65c_grow_92f84 11 = .ok (.getfield 9, 3) := by decide +kernel
theorem dJx4a65c_grow_92f84_14 : decode cJx4a65c_grow_92f84 14 = .ok (.getstatic 39, 3) := by decide +kernel
theorem dJx4a65c_grow_92f84_17 : decode cJx4a65c_grow_92f84 17 = .ok (.if_acmp .eq 28, 3) := by decide +kernel
theorem dJx4a65c_grow_92f84_20 : decode cJx4a65c_grow_92f84 20 = .ok (.iload_n 2, 1) := by decide +kernel
theorem dJx4a65c_grow_92f84_21 : decode cJx4a65c_grow_92f84 21 = .ok (.iload_n 1, 1) := by decide +kernel
theorem dJx4a65c_grow_92f84_22 : decode cJx4a65c_grow_92f84 22 = .ok (.iload_n 2, 1) := by decide +kernel
theorem dJx4a65c_grow_92f84_23 : decode cJx4a65c_grow_92f84 23 = .ok (.isub, 1) := by decide +kernel
theorem dJx4a65c_grow_92f84_24 : decode cJx4a65c_grow_92f84 24 = .ok (.iload_n 2, 1) := by decide +kernel
theorem dJx4a65c_grow_92f84_25 : decode cJx4a65c_grow_92f84 25 = .ok (.iconst 1, 1) := by decide +kernel
theorem dJx4a65c_grow_92f84_26 : decode cJx4a65c_grow_92f84 26 = .ok (.ishr, 1) := by decide +kernel
theorem dJx4a65c_grow_92f84_27 : decode cJx4a65c_grow_92f84 27 = .ok (.invokestatic 73, 3) := by decide +kernel
theorem dJx4a65c_grow_92f84_30 : decode cJx4a65c_grow_92f84 30 = .ok (.istore_n 3, 1) := by decide +kernel
theorem dJx4a65c_grow_92f84_31 : decode cJx4a65c_grow_92f84 31 = .ok (.aload_n 0, 1) := by decide +kernel
theorem dJx4a65c_grow_92f84_32 : decode cJx4a65c_grow_92f84 32 = .ok (.aload_n 0, 1) := by decide +kernel
theorem dJx4a65c_grow_92f84_33 : decode cJx4a65c_grow_92f84 33 = .ok (.getfield 9, 3) := by decide +kernel
theorem dJx4a65c_grow_92f84_36 : decode cJx4a65c_grow_92f84 36 = .ok (.iload_n 3, 1) := by decide +kernel
theorem dJx4a65c_grow_92f84_37 : decode cJx4a65c_grow_92f84 37 = .ok (.invokestatic 66, 3) := by decide +kernel
theorem dJx4a65c_grow_92f84_40 : decode cJx4a65c_grow_92f84 40 = .ok (.dup_x1, 1) := by decide +kernel
theorem dJx4a65c_grow_92f84_41 : decode cJx4a65c_grow_92f84 41 = .ok (.putfield 9, 3) := by decide +kernel
theorem dJx4a65c_grow_92f84_44 : decode cJx4a65c_grow_92f84 44 = .ok (.areturn, 1) := by decide +kernel
theorem dJx4a65c_grow_92f84_45 : decode cJx4a65c_grow_92f84 45 = .ok (.aload_n 0, 1) := by decide +kernel
theorem dJx4a65c_grow_92f84_46 : decode cJx4a65c_grow_92f84 46 = .ok (.bipush 10, 2) := by decide +kernel
theorem dJx4a65c_grow_92f84_48 : decode cJx4a65c_grow_92f84 48 = .ok (.iload_n 1, 1) := by decide +kernel
theorem dJx4a65c_grow_92f84_49 : decode cJx4a65c_grow_92f84 49 = .ok (.invokestatic 79, 3) := by decide +kernel
theorem dJx4a65c_grow_92f84_52 : decode cJx4a65c_grow_92f84 52 = .ok (.anewarray 7, 3) := by decide +kernel
theorem dJx4a65c_grow_92f84_55 : decode cJx4a65c_grow_92f84 55 = .ok (.dup_x1, 1) := by decide +kernel
theorem dJx4a65c_grow_92f84_56 : decode cJx4a65c_grow_92f84 56 = .ok (.putfield 9, 3) := by decide +kernel
theorem dJx4a65c_grow_92f84_59 : decode cJx4a65c_grow_92f84 59 = .ok (.areturn, 1) := by decide +kernel
theorem dJx4a65c_grow_d5877_0 : decode cJx4a65c_grow_d5877 0 = .ok (.aload_n 0, 1) := by decide +kernel
theorem dJx4a65c_grow_d5877_1 : decode cJx4a65c_grow_d5877 1 = .ok (.aload_n 0, 1) := by decide +kernel
theorem dJx4a65c_grow_d5877_2 : decode cJx4a65c_grow_d5877 2 = .ok (.getfield 48, 3) := by decide +kernel
theorem dJx4a65c_grow_d5877_5 : decode cJx4a65c_grow_d5877 5 = .ok (.iconst 1, 1) := by decide +kernel
theorem dJx4a65c_grow_d5877_6 : decode cJx4a65c_grow_d5877 6 = .ok (.iadd, 1) := by decide +kernel
theorem dJx4a65c_grow_d5877_7 : decode cJx4a65c_grow_d5877 7 = .ok (.invokevirtual 69, 3) := by decide +kernel
theorem dJx4a65c_grow_d5877_10 : decode cJx4a65c_grow_d5877 10 = .ok (.areturn, 1) := by decide +kernel
theorem dJx4a65c_size_8abf5_0 : decode cJx4a65c_size_8abf5 0 = .ok (.aload_n 0, 1) := by decide +kernel
theorem dJx4a65c_size_8abf5_1 : decode cJx4a65c_size_8abf5 1 = .ok (.getfield 48, 3) := by decide +kernel
theorem dJx4a65c_size_8abf5_4 : decode cJx4a65c_size_8abf5 4 = .ok (.ireturn, 1) := by decide +kernel
theorem dJx4a65c_elementData_915e3_0 : decode cJx4a65c_elementData_915e3 0 = .ok (.aload_n 0, 1) := by decide +kernel
theorem dJx4a65c_elementData_915e3_1 : decode cJx4a65c_elementData_915e3 1 = .ok (.getfield 9, 3) := by decide +kernel
theorem dJx4a65c_elementData_915e3_4 : decode cJx4a65c_elementData_915e3 4 = .ok (.iload_n 1, 1) := by decide +kernel
theorem dJx4a65c_elementData_915e3_5 : decode cJx4a65c_elementData_915e3 5 = .ok (.aaload, 1) := by decide +kernel
theorem dJx4a65c_elementData_915e3_6 : decode cJx4a65c_elementData_915e3 6 = .ok (.areturn, 1) := by decide +kernel
theorem dJx4a65c_get_915e3_0 : decode cJx4a65c_get_915e3 0 = .ok (.iload_n 1, 1) := by decide +kernel
theorem dJx4a65c_get_915e3_1 : decode cJx4a65c_get_915e3 1 = .ok (.aload_n 0, 1) := by decide +kernel
theorem dJx4a65c_get_915e3_2 : decode cJx4a65c_get_915e3 2 = .ok (.getfield 48, 3) := by decide +kernel
theorem dJx4a65c_get_915e3_5 : decode cJx4a65c_get_915e3 5 = .ok (.invokestatic 118, 3) := by decide +kernel
theorem dJx4a65c_get_915e3_8 : decode cJx4a65c_get_915e3 8 = .ok (.pop, 1) := by decide +kernel
theorem dJx4a65c_get_915e3_9 : decode cJx4a65c_get_915e3 9 = .ok (.aload_n 0, 1) := by decide +kernel
theorem dJx4a65c_get_915e3_10 : decode cJx4a65c_get_915e3 10 = .ok (.iload_n 1, 1) := by decide +kernel
theorem dJx4a65c_get_915e3_11 : decode cJx4a65c_get_915e3 11 = .ok (.invokevirtual 123, 3) := by decide +kernel
theorem dJx4a65c_get_915e3_14 : decode cJx4a65c_get_915e3 14 = .ok (.areturn, 1) := by decide +kernel
theorem dJx4a65c_add_72be8_0 : decode cJx4a65c_add_72be8 0 = .ok (.iload_n 3, 1) := by decide +kernel
theorem dJx4a65c_add_72be8_1 : decode cJx4a65c_add_72be8 1 = .ok (.aload_n 2, 1) := by decide +kernel
theorem dJx4a65c_add_72be8_2 : decode cJx4a65c_add_72be8 2 = .ok (.arraylength, 1) := by decide +kernel
theorem dJx4a65c_add_72be8_3 : decode cJx4a65c_add_72be8 3 = .ok (.if_icmp .ne 8, 3) := by decide +kernel
theorem dJx4a65c_add_72be8_6 : decode cJx4a65c_add_72be8 6 = .ok (.aload_n 0, 1) := by decide +kernel
theorem dJx4a65c_add_72be8_7 : decode cJx4a65c_add_72be8 7 = .ok (.invokevirtual 129, 3) := by decide +kernel
theorem dJx4a65c_add_72be8_10 : decode cJx4a65c_add_72be8 10 = .ok (.astore_n 2, 1) := by decide +kernel
theorem dJx4a65c_add_72be8_11 : decode cJx4a65c_add_72be8 11 = .ok (.aload_n 2, 1) := by decide +kernel
theorem dJx4a65c_add_72be8_12 : decode cJx4a65c_add_72be8 12 = .ok (.iload_n 3, 1) := by decide +kernel
theorem dJx4a65c_add_72be8_13 : decode cJx4a65c_add_72be8 13 = .ok (.aload_n 1, 1) := by decide +kernel
theorem dJx4a65c_add_72be8_14 : decode cJx4a65c_add_72be8 14 = .ok (.aastore, 1) := by decide +kernel
theorem dJx4a65c_add_72be8_15 : decode cJx4a65c_add_72be8 15 = .ok (.aload_n 0, 1) := by decide +kernel
theorem dJx4a65c_add_72be8_16 : decode cJx4a65c_add_72be8 16 = .ok (.iload_n 3, 1) := by decide +kernel
theorem dJx4a65c_add_72be8_17 : decode cJx4a65c_add_72be8 17 = .ok (.iconst 1, 1) := by decide +kernel
theorem dJx4a65c_add_72be8_18 : decode cJx4a65c_add_72be8 18 = .ok (.iadd, 1) := by decide +kernel
theorem dJx4a65c_add_72be8_19 : decode cJx4a65c_add_72be8 19 = .ok (.putfield 48, 3) := by decide +kernel
theorem dJx4a65c_add_72be8_22 : decode cJx4a65c_add_72be8 22 = .ok (.return_, 1) := by decide +kernel
theorem dJx4a65c_add_9ea2d_0 : decode cJx4a65c_add_9ea2d 0 = .ok (.aload_n 0, 1) := by decide +kernel
theorem dJx4a65c_add_9ea2d_1 : decode cJx4a65c_add_9ea2d 1 = .ok (.dup, 1) := by decide +kernel
theorem dJx4a65c_add_9ea2d_2 : decode cJx4a65c_add_9ea2d 2 = .ok (.getfield 63, 3) := by decide +kernel
theorem dJx4a65c_add_9ea2d_5 : decode cJx4a65c_add_9ea2d 5 = .ok (.iconst 1, 1) := by decide +kernel
theorem dJx4a65c_add_9ea2d_6 : decode cJx4a65c_add_9ea2d 6 = .ok (.iadd, 1) := by decide +kernel
theorem dJx4a65c_add_9ea2d_7 : decode cJx4a65c_add_9ea2d 7 = .ok (.putfield 63, 3) := by decide +kernel
theorem dJx4a65c_add_9ea2d_10 : decode cJx4a65c_add_9ea2d 10 = .ok (.aload_n 0, 1) := by decide +kernel
theorem dJx4a65c_add_9ea2d_11 : decode cJx4a65c_add_9ea2d 11 = .ok (.aload_n 1, 1) := by decide +kernel
theorem dJx4a65c_add_9ea2d_12 : decode cJx4a65c_add_9ea2d 12 = .ok (.aload_n 0, 1) := by decide +kernel
theorem dJx4a65c_add_9ea2d_13 : decode cJx4a65c_add_9ea2d 13 = .ok (.getfield 9, 3) := by decide +kernel
theorem dJx4a65c_add_9ea2d_16 : decode cJx4a65c_add_9ea2d 16 = .ok (.aload_n 0, 1) := by decide +kernel
theorem dJx4a65c_add_9ea2d_17 : decode cJx4a65c_add_9ea2d 17 = .ok (.getfield 48, 3) := by decide +kernel
theorem dJx4a65c_add_9ea2d_20 : decode cJx4a65c_add_9ea2d 20 = .ok (.invokevirtual 131, 3) := by decide +kernel
theorem dJx4a65c_add_9ea2d_23 : decode cJx4a65c_add_9ea2d 23 = .ok (.iconst 1, 1) := by decide +kernel
theorem dJx4a65c_add_9ea2d_24 : decode cJx4a65c_add_9ea2d 24 = .ok (.ireturn, 1) := by decide +kernel
theorem dJx4a65c_remove_915e3_0 : decode cJx4a65c_remove_915e3 0 = .ok (.iload_n 1, 1) := by decide +kernel
theorem dJx4a65c_remove_915e3_1 : decode cJx4a65c_remove_915e3 1 = .ok (.aload_n 0, 1) := by decide +kernel
theorem dJx4a65c_remove_915e3_2 : decode cJx4a65c_remove_915e3 2 = .ok (.getfield 48, 3) := by decide +kernel
theorem dJx4a65c_remove_915e3_5 : decode cJx4a65c_remove_915e3 5 = .ok (.invokestatic 118, 3) := by decide +kernel
theorem dJx4a65c_remove_915e3_8 : decode cJx4a65c_remove_915e3 8 = .ok (.pop, 1) := by decide +kernel
theorem dJx4a65c_remove_915e3_9 : decode cJx4a65c_remove_915e3 9 = .ok (.aload_n 0, 1) := by decide +kernel
theorem dJx4a65c_remove_915e3_10 : decode cJx4a65c_remove_915e3 10 = .ok (.getfield 9, 3) := by decide +kernel
theorem dJx4a65c_remove_915e3_13 : decode cJx4a65c_remove_915e3 13 = .ok (.astore_n 2, 1) := by decide +kernel
theorem dJx4a65c_remove_915e3_14 : decode cJx4a65c_remove_915e3 14 = .ok (.aload_n 2, 1) := by decide +kernel
theorem dJx4a65c_remove_915e3_15 : decode cJx4a65c_remove_915e3 15 = .ok (.iload_n 1, 1) := by decide +kernel
theorem dJx4a65c_remove_915e3_16 : decode cJx4a65c_remove_915e3 16 = .ok (.aaload, 1) := by decide +kernel
theorem dJx4a65c_remove_915e3_17 : decode cJx4a65c_remove_915e3 17 = .ok (.astore_n 3, 1) := by decide +kernel
theorem dJx4a65c_remove_915e3_18 : decode cJx4a65c_remove_915e3 18 = .ok (.aload_n 0, 1) := by decide +kernel
theorem dJx4a65c_remove_915e3_19 : decode cJx4a65c_remove_915e3 19 = .ok (.aload_n 2, 1) := by decide +kernel
theorem dJx4a65c_remove_915e3_20 : decode cJx4a65c_remove_915e3 20 = .ok (.iload_n 1, 1) := by decide +kernel
theorem dJx4a65c_remove_915e3_21 : decode cJx4a65c_remove_915e3 21 = .ok (.invokevirtual 144, 3) := by decide +kernel
theorem dJx4a65c_remove_915e3_24 : decode cJx4a65c_remove_915e3 24 = .ok (.aload_n 3, 1) := by decide +kernel
theorem dJx4a65c_remove_915e3_25 : decode cJx4a65c_remove_915e3 25 = .ok (.areturn, 1) := by decide +kernel
theorem dJx4a65c_fastRemove_b59b0_0 : decode cJx4a65c_fastRemove_b59b0 0 = .ok (.aload_n 0, 1) := by decide +kernel
theorem dJx4a65c_fastRemove_b59b0_1 : decode cJx4a65c_fastRemove_b59b0 1 = .ok (.dup, 1) := by decide +kernel
theorem dJx4a65c_fastRemove_b59b0_2 : decode cJx4a65c_fastRemove_b59b0 2 = .ok (.getfield 63, 3) := by decide +kernel
theorem dJx4a65c_fastRemove_b59b0_5 : decode cJx4a65c_fastRemove_b59b0 5 = .ok (.iconst 1, 1) := by decide +kernel
theorem dJx4a65c_fastRemove_b59b0_6 : decode cJx4a65c_fastRemove_b59b0 6 = .ok (.iadd, 1) := by decide +kernel
theorem dJx4a65c_fastRemove_b59b0_7 : decode cJx4a65c_fastRemove_b59b0 7 = .ok (.putfield 63, 3) := by decide +kernel
theorem dJx4a65c_fastRemove_b59b0_10 : decode cJx4a65c_fastRemove_b59b0 10 = .ok (.aload_n 0, 1) := by decide +kernel
theorem dJx4a65c_fastRemove_b59b0_11 : decode cJx4a65c_fastRemove_b59b0 11 = .ok (.getfield 48, 3) := by decide +kernel
theorem dJx4a65c_fastRemove_b59b0_14 : decode cJx4a65c_fastRemove_b59b0 14 = .ok (.iconst 1, 1) := by decide +kernel
theorem dJx4a65c_fastRemove_b59b0_15 : decode cJx4a65c_fastRemove_b59b0 15 = .ok (.isub, 1) := by decide +kernel
theorem dJx4a65c_fastRemove_b59b0_16 : decode cJx4a65c_fastRemove_b59b0 16 = .ok (.dup, 1) := by decide +kernel
theorem dJx4a65c_fastRemove_b59b0_17 : decode cJx4a65c_fastRemove_b59b0 17 = .ok (.istore_n 3, 1) := by decide +kernel
theorem dJx4a65c_fastRemove_b59b0_18 : decode cJx4a65c_fastRemove_b59b0 18 = .ok (.iload_n 2, 1) := by decide +kernel
theorem dJx4a65c_fastRemove_b59b0_19 : decode cJx4a65c_fastRemove_b59b0 19 = .ok (.if_icmp .le 15, 3) := by decide +kernel
theorem dJx4a65c_fastRemove_b59b0_22 : decode cJx4a65c_fastRemove_b59b0 22 = .ok (.aload_n 1, 1) := by decide +kernel
theorem dJx4a65c_fastRemove_b59b0_23 : decode cJx4a65c_fastRemove_b59b0 23 = .ok (.iload_n 2, 1) := by decide +kernel
theorem dJx4a65c_fastRemove_b59b0_24 : decode cJx4a65c_fastRemove_b59b0 24 = .ok (.iconst 1, 1) := by decide +kernel
theorem dJx4a65c_fastRemove_b59b0_25 : decode cJx4a65c_fastRemove_b59b0 25 = .ok (.iadd, 1) := by decide +kernel
theorem dJx4a65c_fastRemove_b59b0_26 : decode cJx4a65c_fastRemove_b59b0 26 = .ok (.aload_n 1, 1) := by decide +kernel
theorem dJx4a65c_fastRemove_b59b0_27 : decode cJx4a65c_fastRemove_b59b0 27 = .ok (.iload_n 2, 1) := by decide +kernel
theorem dJx4a65c_fastRemove_b59b0_28 : decode cJx4a65c_fastRemove_b59b0 28 = .ok (.iload_n 3, 1) := by decide +kernel
theorem dJx4a65c_fastRemove_b59b0_29 : decode cJx4a65c_fastRemove_b59b0 29 = .ok (.iload_n 2, 1) := by decide +kernel
theorem dJx4a65c_fastRemove_b59b0_30 : decode cJx4a65c_fastRemove_b59b0 30 = .ok (.isub, 1) := by decide +kernel
theorem dJx4a65c_fastRemove_b59b0_31 : decode cJx4a65c_fastRemove_b59b0 31 = .ok (.invokestatic 112, 3) := by decide +kernel
theorem dJx4a65c_fastRemove_b59b0_34 : decode cJx4a65c_fastRemove_b59b0 34 = .ok (.aload_n 1, 1) := by decide +kernel
theorem dJx4a65c_fastRemove_b59b0_35 : decode cJx4a65c_fastRemove_b59b0 35 = .ok (.aload_n 0, 1) := by decide +kernel
theorem dJx4a65c_fastRemove_b59b0_36 : decode cJx4a65c_fastRemove_b59b0 36 = .ok (.iload_n 3, 1) := by decide +kernel
theorem dJx4a65c_fastRemove_b59b0_37 : decode cJx4a65c_fastRemove_b59b0 37 = .ok (.dup_x1, 1) := by decide +kernel
theorem dJx4a65c_fastRemove_b59b0_38 : decode cJx4a65c_fastRemove_b59b0 38 = .ok (.putfield 48, 3) := by decide +kernel
theorem dJx4a65c_fastRemove_b59b0_41 : decode cJx4a65c_fastRemove_b59b0 41 = .ok (.aconst_null, 1) := by decide +kernel
theorem dJx4a65c_fastRemove_b59b0_42 : decode cJx4a65c_fastRemove_b59b0 42 = .ok (.aastore, 1) := by decide +kernel
theorem dJx4a65c_fastRemove_b59b0_43 : decode cJx4a65c_fastRemove_b59b0 43 = .ok (.return_, 1) := by decide +kernel
theorem dJ7_copyOf_1904c_0 : decode cJ7_copyOf_1904c 0 = .ok (.aload_n 0, 1) := by decide +kernel
theorem dJ7_copyOf_1904c_1 : decode cJ7_copyOf_1904c 1 = .ok (.iload_n 1, 1) := by decide +kernel
theorem dJ7_copyOf_1904c_2 : decode cJ7_copyOf_1904c 2 = .ok (.aload_n 0, 1) := by decide +kernel
theorem dJ7_copyOf_1904c_3 : decode cJ7_copyOf_1904c 3 = .ok (.invokevirtual 86, 3) := by decide +kernel
theorem dJ7_copyOf_1904c_6 : decode cJ7_copyOf_1904c 6 = .ok (.invokestatic 300, 3) := by decide +kernel
theorem dJ7_copyOf_1904c_9 : decode cJ7_copyOf_1904c 9 = .ok (.areturn, 1) := by decide +kernel
theorem dJ7_copyOf_6403c_0 : decode cJ7_copyOf_6403c 0 = .ok (.aload_n 2, 1) := by decide +kernel
theorem dJ7_copyOf_6403c_1 : decode cJ7_copyOf_6403c 1 = .ok (.ldc 110, 2) := by decide +kernel
theorem dJ7_copyOf_6403c_3 : decode cJ7_copyOf_6403c 3 = .ok (.if_acmp .ne 10, 3) := by decide +kernel
theorem dJ7_copyOf_6403c_6 : decode cJ7_copyOf_6403c 6 = .ok (.iload_n 1, 1) := by decide +kernel
theorem dJ7_copyOf_6403c_7 : decode cJ7_copyOf_6403c 7 = .ok (.anewarray 2, 3) := by decide +kernel
theorem dJ7_copyOf_6403c_10 : decode cJ7_copyOf_6403c 10 = .ok (.goto 14, 3) := by decide +kernel
theorem dJ7_copyOf_6403c_13 : decode cJ7_copyOf_6403c 13 = .ok (.aload_n 2, 1) := by decide +kernel
theorem dJ7_copyOf_6403c_14 : decode cJ7_copyOf_6403c 14 = .ok (.invokevirtual 90, 3) := by decide +kernel
theorem dJ7_copyOf_6403c_17 : decode cJ7_copyOf_6403c 17 = .ok (.iload_n 1, 1) := by decide +kernel
theorem dJ7_copyOf_6403c_18 : decode cJ7_copyOf_6403c 18 = .ok (.invokestatic 95, 3) := by decide +kernel
theorem dJ7_copyOf_6403c_21 : decode cJ7_copyOf_6403c 21 = .ok (.checkcast 110, 3) := by decide +kernel
theorem dJ7_copyOf_6403c_24 : decode cJ7_copyOf_6403c 24 = .ok (.astore_n 3, 1) := by decide +kernel
theorem dJ7_copyOf_6403c_25 : decode cJ7_copyOf_6403c 25 = .ok (.aload_n 0, 1) := by decide +kernel
theorem dJ7_copyOf_6403c_26 : decode cJ7_copyOf_6403c 26 = .ok (.iconst 0, 1) := by decide +kernel
theorem dJ7_copyOf_6403c_27 : decode cJ7_copyOf_6403c 27 = .ok (.aload_n 3, 1) := by decide +kernel
theorem dJ7_copyOf_6403c_28 : decode cJ7_copyOf_6403c 28 = .ok (.iconst 0, 1) := by decide +kernel
theorem dJ7_copyOf_6403c_29 : decode cJ7_copyOf_6403c 29 = .ok (.aload_n 0, 1) := by decide +kernel
theorem dJ7_copyOf_6403c_30 : decode cJ7_copyOf_6403c 30 = .ok (.arraylength, 1) := by decide +kernel
theorem dJ7_copyOf_6403c_31 : decode cJ7_copyOf_6403c 31 = .ok (.iload_n 1, 1) := by decide +kernel
theorem dJ7_copyOf_6403c_32 : decode cJ7_copyOf_6403c 32 = .ok (.invokestatic 304, 3) := by decide +kernel
theorem dJ7_copyOf_6403c_35 : decode cJ7_copyOf_6403c 35 = .ok (.invokestatic 150, 3) := by decide +kernel
theorem dJ7_copyOf_6403c_38 : decode cJ7_copyOf_6403c 38 = .ok (.aload_n 3, 1) := by decide +kernel
theorem dJ7_copyOf_6403c_39 : decode cJ7_copyOf_6403c 39 = .ok (.areturn, 1) := by decide +kernel
theorem dJ15_checkIndex_7cf53_0 : decode cJ15_checkIndex_7cf53 0 = .ok (.iload_n 0, 1) := by decide +kernel
theorem dJ15_checkIndex_7cf53_1 : decode cJ15_checkIndex_7cf53 1 = .ok (.iload_n 1, 1) := by decide +kernel
theorem dJ15_checkIndex_7cf53_2 : decode cJ15_checkIndex_7cf53 2 = .ok (.aconst_null, 1) := by decide +kernel
theorem dJ15_checkIndex_7cf53_3 : decode cJ15_checkIndex_7cf53 3 = .ok (.invokestatic 105, 3) := by decide +kernel
theorem dJ15_checkIndex_7cf53_6 : decode cJ15_checkIndex_7cf53 6 = .ok (.ireturn, 1) := by decide +kernel
theorem dJ8_newLength_cabcc_0 : decode cJ8_newLength_cabcc 0 = .ok (.iload_n 0, 1) := by decide +kernel
theorem dJ8_newLength_cabcc_1 : decode cJ8_newLength_cabcc 1 = .ok (.iload_n 1, 1) := by decide +kernel
theorem dJ8_newLength_cabcc_2 : decode cJ8_newLength_cabcc 2 = .ok (.iload_n 2, 1) := by decide +kernel
theorem dJ8_newLength_cabcc_3 : decode cJ8_newLength_cabcc 3 = .ok (.invokestatic 194, 3) := by decide +kernel
theorem dJ8_newLength_cabcc_6 : decode cJ8_newLength_cabcc 6 = .ok (.iadd, 1) := by decide +kernel
theorem dJ8_newLength_cabcc_7 : decode cJ8_newLength_cabcc 7 = .ok (.istore_n 3, 1) := by decide +kernel
theorem dJ8_newLength_cabcc_8 : decode cJ8_newLength_cabcc 8 = .ok (.iconst 0, 1) := by decide +kernel
theorem dJ8_newLength_cabcc_9 : decode cJ8_newLength_cabcc 9 = .ok (.iload_n 3, 1) := by decide +kernel
theorem dJ8_newLength_cabcc_10 : decode cJ8_newLength_cabcc 10 = .ok (.if_icmp .ge 11, 3) := by decide +kernel
theorem dJ8_newLength_cabcc_13 : decode cJ8_newLength_cabcc 13 = .ok (.iload_n 3, 1) := by decide +kernel
theorem dJ8_newLength_cabcc_14 : decode cJ8_newLength_cabcc 14 = .ok (.ldc 200, 2) := by decide +kernel
theorem dJ8_newLength_cabcc_16 : decode cJ8_newLength_cabcc 16 = .ok (.if_icmp .gt 5, 3) := by decide +kernel
theorem dJ8_newLength_cabcc_19 : decode cJ8_newLength_cabcc 19 = .ok (.iload_n 3, 1) := by decide +kernel
theorem dJ8_newLength_cabcc_20 : decode cJ8_newLength_cabcc 20 = .ok (.ireturn, 1) := by decide +kernel
theorem dJ8_newLength_cabcc_21 : decode cJ8_newLength_cabcc 21 = .ok (.iload_n 0, 1) := by decide +kernel
theorem dJ8_newLength_cabcc_22 : decode cJ8_newLength_cabcc 22 = .ok (.iload_n 1, 1) := by decide +kernel
theorem dJ8_newLength_cabcc_23 : decode cJ8_newLength_cabcc 23 = .ok (.invokestatic 201, 3) := by decide +kernel
theorem dJ8_newLength_cabcc_26 : decode cJ8_newLength_cabcc 26 = .ok (.ireturn, 1) := by decide +kernel
theorem dJ8_hugeLength_7cf53_0 : decode cJ8_hugeLength_7cf53 0 = .ok (.iload_n 0, 1) := by decide +kernel
theorem dJ8_hugeLength_7cf53_1 : decode cJ8_hugeLength_7cf53 1 = .ok (.iload_n 1, 1) := by decide +kernel
theorem dJ8_hugeLength_7cf53_2 : decode cJ8_hugeLength_7cf53 2 = .ok (.iadd, 1) := by decide +kernel
theorem dJ8_hugeLength_7cf53_3 : decode cJ8_hugeLength_7cf53 3 = .ok (.istore_n 2, 1) := by decide +kernel
theorem dJ8_hugeLength_7cf53_4 : decode cJ8_hugeLength_7cf53 4 = .ok (.iload_n 2, 1) := by decide +kernel
theorem dJ8_hugeLength_7cf53_5 : decode cJ8_hugeLength_7cf53 5 = .ok (.ifCond .ge 44, 3) := by decide +kernel
theorem dJ8_hugeLength_7cf53_8 : decode cJ8_hugeLength_7cf53 8 = .ok (.new 204, 3) := by decide +kernel
theorem dJ8_hugeLength_7cf53_11 : decode cJ8_hugeLength_7cf53 11 = .ok (.dup, 1) := by decide +kernel
theorem dJ8_hugeLength_7cf53_12 : decode cJ8_hugeLength_7cf53 12 = .ok (.new 89, 3) := by decide +kernel
theorem dJ8_hugeLength_7cf53_15 : decode cJ8_hugeLength_7cf53 15 = .ok (.dup, 1) := by decide +kernel
theorem dJ8_hugeLength_7cf53_16 : decode cJ8_hugeLength_7cf53 16 = .ok (.invokespecial 91, 3) := by decide +kernel
theorem dJ8_hugeLength_7cf53_19 : decode cJ8_hugeLength_7cf53 19 = .ok (.ldc 206, 2) := by decide +kernel
theorem dJ8_hugeLength_7cf53_21 : decode cJ8_hugeLength_7cf53 21 = .ok (.invokevirtual 94, 3) := by decide +kernel
theorem dJ8_hugeLength_7cf53_24 : decode cJ8_hugeLength_7cf53 24 = .ok (.iload_n 0, 1) := by decide +kernel
theorem dJ8_hugeLength_7cf53_25 : decode cJ8_hugeLength_7cf53 25 = .ok (.invokevirtual 98, 3) := by decide +kernel
theorem dJ8_hugeLength_7cf53_28 : decode cJ8_hugeLength_7cf53 28 = .ok (.ldc 208, 2) := by decide +kernel
theorem dJ8_hugeLength_7cf53_30 : decode cJ8_hugeLength_7cf53 30 = .ok (.invokevirtual 94, 3) := by decide +kernel
theorem dJ8_hugeLength_7cf53_33 : decode cJ8_hugeLength_7cf53 33 = .ok (.iload_n 1, 1) := by decide +kernel
theorem dJ8_hugeLength_7cf53_34 : decode cJ8_hugeLength_7cf53 34 = .ok (.invokevirtual 98, 3) := by decide +kernel
theorem dJ8_hugeLength_7cf53_37 : decode cJ8_hugeLength_7cf53 37 = .ok (.ldc 210, 2) := by decide +kernel
theorem dJ8_hugeLength_7cf53_39 : decode cJ8_hugeLength_7cf53 39 = .ok (.invokevirtual 94, 3) := by decide +kernel
theorem dJ8_hugeLength_7cf53_42 : decode cJ8_hugeLength_7cf53 42 = .ok (.invokevirtual 101, 3) := by decide +kernel
theorem dJ8_hugeLength_7cf53_45 : decode cJ8_hugeLength_7cf53 45 = .ok (.invokespecial 212, 3) := by decide +kernel
theorem dJ8_hugeLength_7cf53_48 : decode cJ8_hugeLength_7cf53 48 = .ok (.athrow, 1) := by decide +kernel
theorem dJ8_hugeLength_7cf53_49 : decode cJ8_hugeLength_7cf53 49 = .ok (.iload_n 2, 1) := by decide +kernel
theorem dJ8_hugeLength_7cf53_50 : decode cJ8_hugeLength_7cf53 50 = .ok (.ldc 200, 2) := by decide +kernel
theorem dJ8_hugeLength_7cf53_52 : decode cJ8_hugeLength_7cf53 52 = .ok (.if_icmp .gt 6, 3) := by decide +kernel
theorem dJ8_hugeLength_7cf53_55 : decode cJ8_hugeLength_7cf53 55 = .ok (.ldc 200, 2) := by decide +kernel
theorem dJ8_hugeLength_7cf53_57 : decode cJ8_hugeLength_7cf53 57 = .ok (.ireturn, 1) := by decide +kernel
theorem dJ8_hugeLength_7cf53_58 : decode cJ8_hugeLength_7cf53 58 = .ok (.iload_n 2, 1) := by decide +kernel
theorem dJ8_hugeLength_7cf53_59 : decode cJ8_hugeLength_7cf53 59 = .ok (.ireturn, 1) := by decide +kernel
theorem dJ3_checkIndex_8e157_0 : decode cJ3_checkIndex_8e157 0 = .ok (.iload_n 0, 1) := by decide +kernel
theorem dJ3_checkIndex_8e157_1 : decode cJ3_checkIndex_8e157 1 = .ok (.ifCond .lt 8, 3) := by decide +kernel
theorem dJ3_checkIndex_8e157_4 : decode cJ3_checkIndex_8e157 4 = .ok (.iload_n 0, 1) := by decide +kernel
theorem dJ3_checkIndex_8e157_5 : decode cJ3_checkIndex_8e157 5 = .ok (.iload_n 1, 1) := by decide +kernel
theorem dJ3_checkIndex_8e157_6 : decode cJ3_checkIndex_8e157 6 = .ok (.if_icmp .lt 10, 3) := by decide +kernel
theorem dJ3_checkIndex_8e157_9 : decode cJ3_checkIndex_8e157 9 = .ok (.aload_n 2, 1) := by decide +kernel
theorem dJ3_checkIndex_8e157_10 : decode cJ3_checkIndex_8e157 10 = .ok (.iload_n 0, 1) := by decide +kernel
theorem dJ3_checkIndex_8e157_11 : decode cJ3_checkIndex_8e157 11 = .ok (.iload_n 1, 1) := by decide +kernel
theorem dJ3_checkIndex_8e157_12 : decode cJ3_checkIndex_8e157 12 = .ok (.invokestatic 95, 3) := by decide +kernel
theorem dJ3_checkIndex_8e157_15 : decode cJ3_checkIndex_8e157 15 = .ok (.athrow, 1) := by decide +kernel
theorem dJ3_checkIndex_8e157_16 : decode cJ3_checkIndex_8e157 16 = .ok (.iload_n 0, 1) := by decide +kernel
theorem dJ3_checkIndex_8e157_17 : decode cJ3_checkIndex_8e157 17 = .ok (.ireturn, 1) := by decide +kernel
theorem dL_addMachine_0 : decode cL_addMachine 0 = .ok (.aload_n 2, 1) := by decide +kernel
theorem dL_addMachine_1 : decode cL_addMachine 1 = .ok (.iconst 0, 1) := by decide +kernel
theorem dL_addMachine_2 : decode cL_addMachine 2 = .ok (.aload_n 0, 1) := by decide +kernel
theorem dL_addMachine_3 : decode cL_addMachine 3 = .ok (.iload_n 1, 1) := by decide +kernel
theorem dL_addMachine_4 : decode cL_addMachine 4 = .ok (.invokevirtual 7, 3) := by decide +kernel
theorem dL_addMachine_7 : decode cL_addMachine 7 = .ok (.i2l, 1) := by decide +kernel
theorem dL_addMachine_8 : decode cL_addMachine 8 = .ok (.lastore, 1) := by decide +kernel
theorem dL_addMachine_9 : decode cL_addMachine 9 = .ok (.goto 9, 3) := by decide +kernel
theorem dL_addMachine_12 : decode cL_addMachine 12 = .ok (.astore_n 3, 1) := by decide +kernel
theorem dL_addMachine_13 : decode cL_addMachine 13 = .ok (.iconst 1, 1) := by decide +kernel
theorem dL_addMachine_14 : decode cL_addMachine 14 = .ok (.ireturn, 1) := by decide +kernel
theorem dL_addMachine_15 : decode cL_addMachine 15 = .ok (.astore_n 3, 1) := by decide +kernel
theorem dL_addMachine_16 : decode cL_addMachine 16 = .ok (.iconst 2, 1) := by decide +kernel
theorem dL_addMachine_17 : decode cL_addMachine 17 = .ok (.ireturn, 1) := by decide +kernel
theorem dL_addMachine_18 : decode cL_addMachine 18 = .ok (.iconst 0, 1) := by decide +kernel
theorem dL_addMachine_19 : decode cL_addMachine 19 = .ok (.ireturn, 1) := by decide +kernel
theorem dL_setMinutes_0 : decode cL_setMinutes 0 = .ok (.aload 4, 2) := by decide +kernel
theorem dL_setMinutes_2 : decode cL_setMinutes 2 = .ok (.iconst 0, 1) := by decide +kernel
theorem dL_setMinutes_3 : decode cL_setMinutes 3 = .ok (.aload_n 0, 1) := by decide +kernel
theorem dL_setMinutes_4 : decode cL_setMinutes 4 = .ok (.iload_n 1, 1) := by decide +kernel
theorem dL_setMinutes_5 : decode cL_setMinutes 5 = .ok (.iload_n 2, 1) := by decide +kernel
theorem dL_setMinutes_6 : decode cL_setMinutes 6 = .ok (.iload_n 3, 1) := by decide +kernel
theorem dL_setMinutes_7 : decode cL_setMinutes 7 = .ok (.invokevirtual 17, 3) := by decide +kernel
theorem dL_setMinutes_10 : decode cL_setMinutes 10 = .ok (.i2l, 1) := by decide +kernel
theorem dL_setMinutes_11 : decode cL_setMinutes 11 = .ok (.lastore, 1) := by decide +kernel
theorem dL_setMinutes_12 : decode cL_setMinutes 12 = .ok (.goto 11, 3) := by decide +kernel
theorem dL_setMinutes_15 : decode cL_setMinutes 15 = .ok (.astore 5, 2) := by decide +kernel
theorem dL_setMinutes_17 : decode cL_setMinutes 17 = .ok (.iconst 1, 1) := by decide +kernel
theorem dL_setMinutes_18 : decode cL_setMinutes 18 = .ok (.ireturn, 1) := by decide +kernel
theorem dL_setMinutes_19 : decode cL_setMinutes 19 = .ok (.astore 5, 2) := by decide +kernel
theorem dL_setMinutes_21 : decode cL_setMinutes 21 = .ok (.iconst 2, 1) := by decide +kernel
theorem dL_setMinutes_22 : decode cL_setMinutes 22 = .ok (.ireturn, 1) := by decide +kernel
theorem dL_setMinutes_23 : decode cL_setMinutes 23 = .ok (.iconst 0, 1) := by decide +kernel
theorem dL_setMinutes_24 : decode cL_setMinutes 24 = .ok (.ireturn, 1) := by decide +kernel
theorem dL_setSlot_0 : decode cL_setSlot 0 = .ok (.aload 5, 2) := by decide +kernel
theorem dL_setSlot_2 : decode cL_setSlot 2 = .ok (.iconst 0, 1) := by decide +kernel
theorem dL_setSlot_3 : decode cL_setSlot 3 = .ok (.aload_n 0, 1) := by decide +kernel
theorem dL_setSlot_4 : decode cL_setSlot 4 = .ok (.iload_n 1, 1) := by decide +kernel
theorem dL_setSlot_5 : decode cL_setSlot 5 = .ok (.iload_n 2, 1) := by decide +kernel
theorem dL_setSlot_6 : decode cL_setSlot 6 = .ok (.iload_n 3, 1) := by decide +kernel
theorem dL_setSlot_7 : decode cL_setSlot 7 = .ok (.iload 4, 2) := by decide +kernel
theorem dL_setSlot_9 : decode cL_setSlot 9 = .ok (.invokevirtual 23, 3) := by decide +kernel
theorem dL_setSlot_12 : decode cL_setSlot 12 = .ok (.i2l, 1) := by decide +kernel
theorem dL_setSlot_13 : decode cL_setSlot 13 = .ok (.lastore, 1) := by decide +kernel
theorem dL_setSlot_14 : decode cL_setSlot 14 = .ok (.goto 11, 3) := by decide +kernel
theorem dL_setSlot_17 : decode cL_setSlot 17 = .ok (.astore 6, 2) := by decide +kernel
theorem dL_setSlot_19 : decode cL_setSlot 19 = .ok (.iconst 1, 1) := by decide +kernel
theorem dL_setSlot_20 : decode cL_setSlot 20 = .ok (.ireturn, 1) := by decide +kernel
theorem dL_setSlot_21 : decode cL_setSlot 21 = .ok (.astore 6, 2) := by decide +kernel
theorem dL_setSlot_23 : decode cL_setSlot 23 = .ok (.iconst 2, 1) := by decide +kernel
theorem dL_setSlot_24 : decode cL_setSlot 24 = .ok (.ireturn, 1) := by decide +kernel
theorem dL_setSlot_25 : decode cL_setSlot 25 = .ok (.iconst 0, 1) := by decide +kernel
theorem dL_setSlot_26 : decode cL_setSlot 26 = .ok (.ireturn, 1) := by decide +kernel
theorem dL_planPrice_0 : decode cL_planPrice 0 = .ok (.aload 5, 2) := by decide +kernel
theorem dL_planPrice_2 : decode cL_planPrice 2 = .ok (.iconst 0, 1) := by decide +kernel
theorem dL_planPrice_3 : decode cL_planPrice 3 = .ok (.aload_n 0, 1) := by decide +kernel
theorem dL_planPrice_4 : decode cL_planPrice 4 = .ok (.iload_n 1, 1) := by decide +kernel
theorem dL_planPrice_5 : decode cL_planPrice 5 = .ok (.iload_n 2, 1) := by decide +kernel
theorem dL_planPrice_6 : decode cL_planPrice 6 = .ok (.iload_n 3, 1) := by decide +kernel
theorem dL_planPrice_7 : decode cL_planPrice 7 = .ok (.iload 4, 2) := by decide +kernel
theorem dL_planPrice_9 : decode cL_planPrice 9 = .ok (.invokevirtual 27, 3) := by decide +kernel
theorem dL_planPrice_12 : decode cL_planPrice 12 = .ok (.i2l, 1) := by decide +kernel
theorem dL_planPrice_13 : decode cL_planPrice 13 = .ok (.lastore, 1) := by decide +kernel
theorem dL_planPrice_14 : decode cL_planPrice 14 = .ok (.goto 15, 3) := by decide +kernel
theorem dL_planPrice_17 : decode cL_planPrice 17 = .ok (.astore 6, 2) := by decide +kernel
theorem dL_planPrice_19 : decode cL_planPrice 19 = .ok (.iconst 1, 1) := by decide +kernel
theorem dL_planPrice_20 : decode cL_planPrice 20 = .ok (.ireturn, 1) := by decide +kernel
theorem dL_planPrice_21 : decode cL_planPrice 21 = .ok (.astore 6, 2) := by decide +kernel
theorem dL_planPrice_23 : decode cL_planPrice 23 = .ok (.iconst 2, 1) := by decide +kernel
theorem dL_planPrice_24 : decode cL_planPrice 24 = .ok (.ireturn, 1) := by decide +kernel
theorem dL_planPrice_25 : decode cL_planPrice 25 = .ok (.astore 6, 2) := by decide +kernel
theorem dL_planPrice_27 : decode cL_planPrice 27 = .ok (.iconst 3, 1) := by decide +kernel
theorem dL_planPrice_28 : decode cL_planPrice 28 = .ok (.ireturn, 1) := by decide +kernel
theorem dL_planPrice_29 : decode cL_planPrice 29 = .ok (.iconst 0, 1) := by decide +kernel
theorem dL_planPrice_30 : decode cL_planPrice 30 = .ok (.ireturn, 1) := by decide +kernel
theorem dL_slot_0 : decode cL_slot 0 = .ok (.aload 4, 2) := by decide +kernel
theorem dL_slot_2 : decode cL_slot 2 = .ok (.iconst 0, 1) := by decide +kernel
theorem dL_slot_3 : decode cL_slot 3 = .ok (.aload_n 0, 1) := by decide +kernel
theorem dL_slot_4 : decode cL_slot 4 = .ok (.iload_n 1, 1) := by decide +kernel
theorem dL_slot_5 : decode cL_slot 5 = .ok (.iload_n 2, 1) := by decide +kernel
theorem dL_slot_6 : decode cL_slot 6 = .ok (.iload_n 3, 1) := by decide +kernel
theorem dL_slot_7 : decode cL_slot 7 = .ok (.invokevirtual 30, 3) := by decide +kernel
theorem dL_slot_10 : decode cL_slot 10 = .ok (.i2l, 1) := by decide +kernel
theorem dL_slot_11 : decode cL_slot 11 = .ok (.lastore, 1) := by decide +kernel
theorem dL_slot_12 : decode cL_slot 12 = .ok (.goto 7, 3) := by decide +kernel
theorem dL_slot_15 : decode cL_slot 15 = .ok (.astore 5, 2) := by decide +kernel
theorem dL_slot_17 : decode cL_slot 17 = .ok (.iconst 1, 1) := by decide +kernel
theorem dL_slot_18 : decode cL_slot 18 = .ok (.ireturn, 1) := by decide +kernel
theorem dL_slot_19 : decode cL_slot 19 = .ok (.iconst 0, 1) := by decide +kernel
theorem dL_slot_20 : decode cL_slot 20 = .ok (.ireturn, 1) := by decide +kernel
theorem dL_machine_0 : decode cL_machine 0 = .ok (.aload_n 3, 1) := by decide +kernel
theorem dL_machine_1 : decode cL_machine 1 = .ok (.iconst 0, 1) := by decide +kernel
theorem dL_machine_2 : decode cL_machine 2 = .ok (.aload_n 0, 1) := by decide +kernel
theorem dL_machine_3 : decode cL_machine 3 = .ok (.iload_n 1, 1) := by decide +kernel
theorem dL_machine_4 : decode cL_machine 4 = .ok (.iload_n 2, 1) := by decide +kernel
theorem dL_machine_5 : decode cL_machine 5 = .ok (.invokevirtual 33, 3) := by decide +kernel
theorem dL_machine_8 : decode cL_machine 8 = .ok (.i2l, 1) := by decide +kernel
theorem dL_machine_9 : decode cL_machine 9 = .ok (.lastore, 1) := by decide +kernel
theorem dL_machine_10 : decode cL_machine 10 = .ok (.goto 7, 3) := by decide +kernel
theorem dL_machine_13 : decode cL_machine 13 = .ok (.astore 4, 2) := by decide +kernel
theorem dL_machine_15 : decode cL_machine 15 = .ok (.iconst 1, 1) := by decide +kernel
theorem dL_machine_16 : decode cL_machine 16 = .ok (.ireturn, 1) := by decide +kernel
theorem dL_machine_17 : decode cL_machine 17 = .ok (.iconst 0, 1) := by decide +kernel
theorem dL_machine_18 : decode cL_machine 18 = .ok (.ireturn, 1) := by decide +kernel
theorem dL_runsOut_0 : decode cL_runsOut 0 = .ok (.aload_n 3, 1) := by decide +kernel
theorem dL_runsOut_1 : decode cL_runsOut 1 = .ok (.iconst 0, 1) := by decide +kernel
theorem dL_runsOut_2 : decode cL_runsOut 2 = .ok (.aload_n 0, 1) := by decide +kernel
theorem dL_runsOut_3 : decode cL_runsOut 3 = .ok (.iload_n 1, 1) := by decide +kernel
theorem dL_runsOut_4 : decode cL_runsOut 4 = .ok (.iload_n 2, 1) := by decide +kernel
theorem dL_runsOut_5 : decode cL_runsOut 5 = .ok (.invokevirtual 37, 3) := by decide +kernel
theorem dL_runsOut_8 : decode cL_runsOut 8 = .ok (.i2l, 1) := by decide +kernel
theorem dL_runsOut_9 : decode cL_runsOut 9 = .ok (.lastore, 1) := by decide +kernel
theorem dL_runsOut_10 : decode cL_runsOut 10 = .ok (.goto 7, 3) := by decide +kernel
theorem dL_runsOut_13 : decode cL_runsOut 13 = .ok (.astore 4, 2) := by decide +kernel
theorem dL_runsOut_15 : decode cL_runsOut 15 = .ok (.iconst 1, 1) := by decide +kernel
theorem dL_runsOut_16 : decode cL_runsOut 16 = .ok (.ireturn, 1) := by decide +kernel
theorem dL_runsOut_17 : decode cL_runsOut 17 = .ok (.iconst 0, 1) := by decide +kernel
theorem dL_runsOut_18 : decode cL_runsOut 18 = .ok (.ireturn, 1) := by decide +kernel
theorem dL_pass_0 : decode cL_pass 0 = .ok (.aload_n 2, 1) := by decide +kernel
theorem dL_pass_1 : decode cL_pass 1 = .ok (.iconst 0, 1) := by decide +kernel
theorem dL_pass_2 : decode cL_pass 2 = .ok (.aload_n 0, 1) := by decide +kernel
theorem dL_pass_3 : decode cL_pass 3 = .ok (.iload_n 1, 1) := by decide +kernel
theorem dL_pass_4 : decode cL_pass 4 = .ok (.invokevirtual 40, 3) := by decide +kernel
theorem dL_pass_7 : decode cL_pass 7 = .ok (.i2l, 1) := by decide +kernel
theorem dL_pass_8 : decode cL_pass 8 = .ok (.lastore, 1) := by decide +kernel
theorem dL_pass_9 : decode cL_pass 9 = .ok (.goto 9, 3) := by decide +kernel
theorem dL_pass_12 : decode cL_pass 12 = .ok (.astore_n 3, 1) := by decide +kernel
theorem dL_pass_13 : decode cL_pass 13 = .ok (.iconst 1, 1) := by decide +kernel
theorem dL_pass_14 : decode cL_pass 14 = .ok (.ireturn, 1) := by decide +kernel
theorem dL_pass_15 : decode cL_pass 15 = .ok (.astore_n 3, 1) := by decide +kernel
theorem dL_pass_16 : decode cL_pass 16 = .ok (.iconst 2, 1) := by decide +kernel
theorem dL_pass_17 : decode cL_pass 17 = .ok (.ireturn, 1) := by decide +kernel
theorem dL_pass_18 : decode cL_pass 18 = .ok (.iconst 0, 1) := by decide +kernel
theorem dL_pass_19 : decode cL_pass 19 = .ok (.ireturn, 1) := by decide +kernel
theorem dL_drive_0 : decode cL_drive 0 = .ok (.aload_n 2, 1) := by decide +kernel
theorem dL_drive_1 : decode cL_drive 1 = .ok (.iconst 0, 1) := by decide +kernel
theorem dL_drive_2 : decode cL_drive 2 = .ok (.aload_n 0, 1) := by decide +kernel
theorem dL_drive_3 : decode cL_drive 3 = .ok (.iload_n 1, 1) := by decide +kernel
theorem dL_drive_4 : decode cL_drive 4 = .ok (.invokevirtual 43, 3) := by decide +kernel
theorem dL_drive_7 : decode cL_drive 7 = .ok (.i2l, 1) := by decide +kernel
theorem dL_drive_8 : decode cL_drive 8 = .ok (.lastore, 1) := by decide +kernel
theorem dL_drive_9 : decode cL_drive 9 = .ok (.goto 6, 3) := by decide +kernel
theorem dL_drive_12 : decode cL_drive 12 = .ok (.astore_n 3, 1) := by decide +kernel
theorem dL_drive_13 : decode cL_drive 13 = .ok (.iconst 1, 1) := by decide +kernel
theorem dL_drive_14 : decode cL_drive 14 = .ok (.ireturn, 1) := by decide +kernel
theorem dL_drive_15 : decode cL_drive 15 = .ok (.iconst 0, 1) := by decide +kernel
theorem dL_drive_16 : decode cL_drive 16 = .ok (.ireturn, 1) := by decide +kernel
theorem dL_visit_0 : decode cL_visit 0 = .ok (.aload_n 3, 1) := by decide +kernel
theorem dL_visit_1 : decode cL_visit 1 = .ok (.iconst 0, 1) := by decide +kernel
theorem dL_visit_2 : decode cL_visit 2 = .ok (.aload_n 0, 1) := by decide +kernel
theorem dL_visit_3 : decode cL_visit 3 = .ok (.iload_n 1, 1) := by decide +kernel
theorem dL_visit_4 : decode cL_visit 4 = .ok (.iload_n 2, 1) := by decide +kernel
theorem dL_visit_5 : decode cL_visit 5 = .ok (.invokevirtual 46, 3) := by decide +kernel
theorem dL_visit_8 : decode cL_visit 8 = .ok (.i2l, 1) := by decide +kernel
theorem dL_visit_9 : decode cL_visit 9 = .ok (.lastore, 1) := by decide +kernel
theorem dL_visit_10 : decode cL_visit 10 = .ok (.goto 11, 3) := by decide +kernel
theorem dL_visit_13 : decode cL_visit 13 = .ok (.astore 4, 2) := by decide +kernel
theorem dL_visit_15 : decode cL_visit 15 = .ok (.iconst 1, 1) := by decide +kernel
theorem dL_visit_16 : decode cL_visit 16 = .ok (.ireturn, 1) := by decide +kernel
theorem dL_visit_17 : decode cL_visit 17 = .ok (.astore 4, 2) := by decide +kernel
theorem dL_visit_19 : decode cL_visit 19 = .ok (.iconst 2, 1) := by decide +kernel
theorem dL_visit_20 : decode cL_visit 20 = .ok (.ireturn, 1) := by decide +kernel
theorem dL_visit_21 : decode cL_visit 21 = .ok (.iconst 0, 1) := by decide +kernel
theorem dL_visit_22 : decode cL_visit 22 = .ok (.ireturn, 1) := by decide +kernel
theorem dL_minutes_0 : decode cL_minutes 0 = .ok (.aload_n 2, 1) := by decide +kernel
theorem dL_minutes_1 : decode cL_minutes 1 = .ok (.iconst 0, 1) := by decide +kernel
theorem dL_minutes_2 : decode cL_minutes 2 = .ok (.aload_n 0, 1) := by decide +kernel
theorem dL_minutes_3 : decode cL_minutes 3 = .ok (.iload_n 1, 1) := by decide +kernel
theorem dL_minutes_4 : decode cL_minutes 4 = .ok (.invokevirtual 49, 3) := by decide +kernel
theorem dL_minutes_7 : decode cL_minutes 7 = .ok (.i2l, 1) := by decide +kernel
theorem dL_minutes_8 : decode cL_minutes 8 = .ok (.lastore, 1) := by decide +kernel
theorem dL_minutes_9 : decode cL_minutes 9 = .ok (.goto 6, 3) := by decide +kernel
theorem dL_minutes_12 : decode cL_minutes 12 = .ok (.astore_n 3, 1) := by decide +kernel
theorem dL_minutes_13 : decode cL_minutes 13 = .ok (.iconst 1, 1) := by decide +kernel
theorem dL_minutes_14 : decode cL_minutes 14 = .ok (.ireturn, 1) := by decide +kernel
theorem dL_minutes_15 : decode cL_minutes 15 = .ok (.iconst 0, 1) := by decide +kernel
theorem dL_minutes_16 : decode cL_minutes 16 = .ok (.ireturn, 1) := by decide +kernel
theorem dL_best_0 : decode cL_best 0 = .ok (.aload_n 3, 1) := by decide +kernel
theorem dL_best_1 : decode cL_best 1 = .ok (.iconst 0, 1) := by decide +kernel
theorem dL_best_2 : decode cL_best 2 = .ok (.aload_n 0, 1) := by decide +kernel
theorem dL_best_3 : decode cL_best 3 = .ok (.iload_n 1, 1) := by decide +kernel
theorem dL_best_4 : decode cL_best 4 = .ok (.iload_n 2, 1) := by decide +kernel
theorem dL_best_5 : decode cL_best 5 = .ok (.invokevirtual 52, 3) := by decide +kernel
theorem dL_best_8 : decode cL_best 8 = .ok (.i2l, 1) := by decide +kernel
theorem dL_best_9 : decode cL_best 9 = .ok (.lastore, 1) := by decide +kernel
theorem dL_best_10 : decode cL_best 10 = .ok (.goto 7, 3) := by decide +kernel
theorem dL_best_13 : decode cL_best 13 = .ok (.astore 4, 2) := by decide +kernel
theorem dL_best_15 : decode cL_best 15 = .ok (.iconst 1, 1) := by decide +kernel
theorem dL_best_16 : decode cL_best 16 = .ok (.ireturn, 1) := by decide +kernel
theorem dL_best_17 : decode cL_best 17 = .ok (.iconst 0, 1) := by decide +kernel
theorem dL_best_18 : decode cL_best 18 = .ok (.ireturn, 1) := by decide +kernel
theorem dL_go_0 : decode cL_go 0 = .ok (.aload_n 3, 1) := by decide +kernel
theorem dL_go_1 : decode cL_go 1 = .ok (.iconst 0, 1) := by decide +kernel
theorem dL_go_2 : decode cL_go 2 = .ok (.aload_n 0, 1) := by decide +kernel
theorem dL_go_3 : decode cL_go 3 = .ok (.iload_n 1, 1) := by decide +kernel
theorem dL_go_4 : decode cL_go 4 = .ok (.iload_n 2, 1) := by decide +kernel
theorem dL_go_5 : decode cL_go 5 = .ok (.invokevirtual 55, 3) := by decide +kernel
theorem dL_go_8 : decode cL_go 8 = .ok (.i2l, 1) := by decide +kernel
theorem dL_go_9 : decode cL_go 9 = .ok (.lastore, 1) := by decide +kernel
theorem dL_go_10 : decode cL_go 10 = .ok (.goto 7, 3) := by decide +kernel
theorem dL_go_13 : decode cL_go 13 = .ok (.astore 4, 2) := by decide +kernel
theorem dL_go_15 : decode cL_go 15 = .ok (.iconst 1, 1) := by decide +kernel
theorem dL_go_16 : decode cL_go 16 = .ok (.ireturn, 1) := by decide +kernel
theorem dL_go_17 : decode cL_go 17 = .ok (.iconst 0, 1) := by decide +kernel
theorem dL_go_18 : decode cL_go 18 = .ok (.ireturn, 1) := by decide +kernel
theorem dL_total_0 : decode cL_total 0 = .ok (.aload_n 2, 1) := by decide +kernel
theorem dL_total_1 : decode cL_total 1 = .ok (.iconst 0, 1) := by decide +kernel
theorem dL_total_2 : decode cL_total 2 = .ok (.aload_n 0, 1) := by decide +kernel
theorem dL_total_3 : decode cL_total 3 = .ok (.iload_n 1, 1) := by decide +kernel
theorem dL_total_4 : decode cL_total 4 = .ok (.invokevirtual 58, 3) := by decide +kernel
theorem dL_total_7 : decode cL_total 7 = .ok (.lastore, 1) := by decide +kernel
theorem dL_total_8 : decode cL_total 8 = .ok (.goto 6, 3) := by decide +kernel
theorem dL_total_11 : decode cL_total 11 = .ok (.astore_n 3, 1) := by decide +kernel
theorem dL_total_12 : decode cL_total 12 = .ok (.iconst 1, 1) := by decide +kernel
theorem dL_total_13 : decode cL_total 13 = .ok (.ireturn, 1) := by decide +kernel
theorem dL_total_14 : decode cL_total 14 = .ok (.iconst 0, 1) := by decide +kernel
theorem dL_total_15 : decode cL_total 15 = .ok (.ireturn, 1) := by decide +kernel
theorem dL_law_0 : decode cL_law 0 = .ok (.new 8, 3) := by decide +kernel
theorem dL_law_3 : decode cL_law 3 = .ok (.dup, 1) := by decide +kernel
theorem dL_law_4 : decode cL_law 4 = .ok (.invokespecial 62, 3) := by decide +kernel
theorem dL_law_7 : decode cL_law 7 = .ok (.astore_n 1, 1) := by decide +kernel
theorem dL_law_8 : decode cL_law 8 = .ok (.new 63, 3) := by decide +kernel
theorem dL_law_11 : decode cL_law 11 = .ok (.dup, 1) := by decide +kernel
theorem dL_law_12 : decode cL_law 12 = .ok (.invokespecial 65, 3) := by decide +kernel
theorem dL_law_15 : decode cL_law 15 = .ok (.astore_n 2, 1) := by decide +kernel
theorem dL_law_16 : decode cL_law 16 = .ok (.iconst 1, 1) := by decide +kernel
theorem dL_law_17 : decode cL_law 17 = .ok (.newarray .long, 2) := by decide +kernel
theorem dL_law_19 : decode cL_law 19 = .ok (.astore_n 3, 1) := by decide +kernel
theorem dL_law_20 : decode cL_law 20 = .ok (.iconst 0, 1) := by decide +kernel
theorem dL_law_21 : decode cL_law 21 = .ok (.istore 4, 2) := by decide +kernel
theorem dL_law_23 : decode cL_law 23 = .ok (.iload 4, 2) := by decide +kernel
theorem dL_law_25 : decode cL_law 25 = .ok (.aload_n 0, 1) := by decide +kernel
theorem dL_law_26 : decode cL_law 26 = .ok (.arraylength, 1) := by decide +kernel
theorem dL_law_27 : decode cL_law 27 = .ok (.iconst 5, 1) := by decide +kernel
theorem dL_law_28 : decode cL_law 28 = .ok (.isub, 1) := by decide +kernel
theorem dL_law_29 : decode cL_law 29 = .ok (.if_icmp .gt 1162, 3) := by decide +kernel
theorem dL_law_32 : decode cL_law 32 = .ok (.aload_n 0, 1) := by decide +kernel
theorem dL_law_33 : decode cL_law 33 = .ok (.iload 4, 2) := by decide +kernel
theorem dL_law_35 : decode cL_law 35 = .ok (.iaload, 1) := by decide +kernel
theorem dL_law_36 : decode cL_law 36 = .ok (.bipush 31, 2) := by decide +kernel
theorem dL_law_38 : decode cL_law 38 = .ok (.iand, 1) := by decide +kernel
theorem dL_law_39 : decode cL_law 39 = .ok (.tableswitch 1146 0 18 #[89, 145, 225, 317, 409, 422, 502, 570, 638, 694, 707, 720, 776, 844, 900, 968, 1036, 1091, 1132], 89) := by decide +kernel
theorem dL_law_128 : decode cL_law 128 = .ok (.aload_n 1, 1) := by decide +kernel
theorem dL_law_129 : decode cL_law 129 = .ok (.aload_n 0, 1) := by decide +kernel
theorem dL_law_130 : decode cL_law 130 = .ok (.iload 4, 2) := by decide +kernel
theorem dL_law_132 : decode cL_law 132 = .ok (.iconst 1, 1) := by decide +kernel
theorem dL_law_133 : decode cL_law 133 = .ok (.iadd, 1) := by decide +kernel
theorem dL_law_134 : decode cL_law 134 = .ok (.iaload, 1) := by decide +kernel
theorem dL_law_135 : decode cL_law 135 = .ok (.aload_n 3, 1) := by decide +kernel
theorem dL_law_136 : decode cL_law 136 = .ok (.invokestatic 66, 3) := by decide +kernel
theorem dL_law_139 : decode cL_law 139 = .ok (.istore 5, 2) := by decide +kernel
theorem dL_law_141 : decode cL_law 141 = .ok (.aload_n 2, 1) := by decide +kernel
theorem dL_law_142 : decode cL_law 142 = .ok (.aload_n 0, 1) := by decide +kernel
theorem dL_law_143 : decode cL_law 143 = .ok (.iload 4, 2) := by decide +kernel
theorem dL_law_145 : decode cL_law 145 = .ok (.iconst 1, 1) := by decide +kernel
theorem dL_law_146 : decode cL_law 146 = .ok (.iadd, 1) := by decide +kernel
theorem dL_law_147 : decode cL_law 147 = .ok (.iaload, 1) := by decide +kernel
theorem dL_law_148 : decode cL_law 148 = .ok (.invokevirtual 71, 3) := by decide +kernel
theorem dL_law_151 : decode cL_law 151 = .ok (.istore 6, 2) := by decide +kernel
theorem dL_law_153 : decode cL_law 153 = .ok (.aload_n 2, 1) := by decide +kernel
theorem dL_law_154 : decode cL_law 154 = .ok (.invokevirtual 72, 3) := by decide +kernel
theorem dL_law_157 : decode cL_law 157 = .ok (.iload 5, 2) := by decide +kernel
theorem dL_law_159 : decode cL_law 159 = .ok (.if_icmp .eq 5, 3) := by decide +kernel
theorem dL_law_162 : decode cL_law 162 = .ok (.iconst 0, 1) := by decide +kernel
theorem dL_law_163 : decode cL_law 163 = .ok (.ireturn, 1) := by decide +kernel
theorem dL_law_164 : decode cL_law 164 = .ok (.iload 5, 2) := by decide +kernel
theorem dL_law_166 : decode cL_law 166 = .ok (.ifCond .ne 15, 3) := by decide +kernel
theorem dL_law_169 : decode cL_law 169 = .ok (.aload_n 3, 1) := by decide +kernel
theorem dL_law_170 : decode cL_law 170 = .ok (.iconst 0, 1) := by decide +kernel
theorem dL_law_171 : decode cL_law 171 = .ok (.laload, 1) := by decide +kernel
theorem dL_law_172 : decode cL_law 172 = .ok (.iload 6, 2) := by decide +kernel
theorem dL_law_174 : decode cL_law 174 = .ok (.i2l, 1) := by decide +kernel
theorem dL_law_175 : decode cL_law 175 = .ok (.lcmp, 1) := by decide +kernel
theorem dL_law_176 : decode cL_law 176 = .ok (.ifCond .eq 5, 3) := by decide +kernel
theorem dL_law_179 : decode cL_law 179 = .ok (.iconst 0, 1) := by decide +kernel
theorem dL_law_180 : decode cL_law 180 = .ok (.ireturn, 1) := by decide +kernel
theorem dL_law_181 : decode cL_law 181 = .ok (.goto 1004, 3) := by decide +kernel
theorem dL_law_184 : decode cL_law 184 = .ok (.aload_n 1, 1) := by decide +kernel
theorem dL_law_185 : decode cL_law 185 = .ok (.aload_n 0, 1) := by decide +kernel
theorem dL_law_186 : decode cL_law 186 = .ok (.iload 4, 2) := by decide +kernel
theorem dL_law_188 : decode cL_law 188 = .ok (.iconst 1, 1) := by decide +kernel
theorem dL_law_189 : decode cL_law 189 = .ok (.iadd, 1) := by decide +kernel
theorem dL_law_190 : decode cL_law 190 = .ok (.iaload, 1) := by decide +kernel
theorem dL_law_191 : decode cL_law 191 = .ok (.aload_n 0, 1) := by decide +kernel
theorem dL_law_192 : decode cL_law 192 = .ok (.iload 4, 2) := by decide +kernel
theorem dL_law_194 : decode cL_law 194 = .ok (.iconst 2, 1) := by decide +kernel
theorem dL_law_195 : decode cL_law 195 = .ok (.iadd, 1) := by decide +kernel
theorem dL_law_196 : decode cL_law 196 = .ok (.iaload, 1) := by decide +kernel
theorem dL_law_197 : decode cL_law 197 = .ok (.aload_n 0, 1) := by decide +kernel
theorem dL_law_198 : decode cL_law 198 = .ok (.iload 4, 2) := by decide +kernel
theorem dL_law_200 : decode cL_law 200 = .ok (.iconst 3, 1) := by decide +kernel
theorem dL_law_201 : decode cL_law 201 = .ok (.iadd, 1) := by decide +kernel
theorem dL_law_202 : decode cL_law 202 = .ok (.iaload, 1) := by decide +kernel
theorem dL_law_203 : decode cL_law 203 = .ok (.aload_n 3, 1) := by decide +kernel
theorem dL_law_204 : decode cL_law 204 = .ok (.invokestatic 76, 3) := by decide +kernel
theorem dL_law_207 : decode cL_law 207 = .ok (.istore 5, 2) := by decide +kernel
theorem dL_law_209 : decode cL_law 209 = .ok (.aload_n 2, 1) := by decide +kernel
theorem dL_law_210 : decode cL_law 210 = .ok (.aload_n 0, 1) := by decide +kernel
theorem dL_law_211 : decode cL_law 211 = .ok (.iload 4, 2) := by decide +kernel
theorem dL_law_213 : decode cL_law 213 = .ok (.iconst 1, 1) := by decide +kernel
theorem dL_law_214 : decode cL_law 214 = .ok (.iadd, 1) := by decide +kernel
theorem dL_law_215 : decode cL_law 215 = .ok (.iaload, 1) := by decide +kernel
theorem dL_law_216 : decode cL_law 216 = .ok (.aload_n 0, 1) := by decide +kernel
theorem dL_law_217 : decode cL_law 217 = .ok (.iload 4, 2) := by decide +kernel
theorem dL_law_219 : decode cL_law 219 = .ok (.iconst 2, 1) := by decide +kernel
theorem dL_law_220 : decode cL_law 220 = .ok (.iadd, 1) := by decide +kernel
theorem dL_law_221 : decode cL_law 221 = .ok (.iaload, 1) := by decide +kernel
theorem dL_law_222 : decode cL_law 222 = .ok (.aload_n 0, 1) := by decide +kernel
theorem dL_law_223 : decode cL_law 223 = .ok (.iload 4, 2) := by decide +kernel
theorem dL_law_225 : decode cL_law 225 = .ok (.iconst 3, 1) := by decide +kernel
theorem dL_law_226 : decode cL_law 226 = .ok (.iadd, 1) := by decide +kernel
theorem dL_law_227 : decode cL_law 227 = .ok (.iaload, 1) := by decide +kernel
theorem dL_law_228 : decode cL_law 228 = .ok (.invokevirtual 79, 3) := by decide +kernel
theorem dL_law_231 : decode cL_law 231 = .ok (.istore 6, 2) := by decide +kernel
theorem dL_law_233 : decode cL_law 233 = .ok (.aload_n 2, 1) := by decide +kernel
theorem dL_law_234 : decode cL_law 234 = .ok (.invokevirtual 72, 3) := by decide +kernel
theorem dL_law_237 : decode cL_law 237 = .ok (.iload 5, 2) := by decide +kernel
theorem dL_law_239 : decode cL_law 239 = .ok (.if_icmp .eq 5, 3) := by decide +kernel
theorem dL_law_242 : decode cL_law 242 = .ok (.iconst 0, 1) := by decide +kernel
theorem dL_law_243 : decode cL_law 243 = .ok (.ireturn, 1) := by decide +kernel
theorem dL_law_244 : decode cL_law 244 = .ok (.iload 5, 2) := by decide +kernel
theorem dL_law_246 : decode cL_law 246 = .ok (.ifCond .ne 15, 3) := by decide +kernel
theorem dL_law_249 : decode cL_law 249 = .ok (.aload_n 3, 1) := by decide +kernel
theorem dL_law_250 : decode cL_law 250 = .ok (.iconst 0, 1) := by decide +kernel
theorem dL_law_251 : decode cL_law 251 = .ok (.laload, 1) := by decide +kernel
theorem dL_law_252 : decode cL_law 252 = .ok (.iload 6, 2) := by decide +kernel
theorem dL_law_254 : decode cL_law 254 = .ok (.i2l, 1) := by decide +kernel
theorem dL_law_255 : decode cL_law 255 = .ok (.lcmp, 1) := by decide +kernel
theorem dL_law_256 : decode cL_law 256 = .ok (.ifCond .eq 5, 3) := by decide +kernel
theorem dL_law_259 : decode cL_law 259 = .ok (.iconst 0, 1) := by decide +kernel
theorem dL_law_260 : decode cL_law 260 = .ok (.ireturn, 1) := by decide +kernel
theorem dL_law_261 : decode cL_law 261 = .ok (.goto 924, 3) := by decide +kernel
theorem dL_law_264 : decode cL_law 264 = .ok (.aload_n 1, 1) := by decide +kernel
theorem dL_law_265 : decode cL_law 265 = .ok (.aload_n 0, 1) := by decide +kernel
theorem dL_law_266 : decode cL_law 266 = .ok (.iload 4, 2) := by decide +kernel
theorem dL_law_268 : decode cL_law 268 = .ok (.iconst 1, 1) := by decide +kernel
theorem dL_law_269 : decode cL_law 269 = .ok (.iadd, 1) := by decide +kernel
theorem dL_law_270 : decode cL_law 270 = .ok (.iaload, 1) := by decide +kernel
theorem dL_law_271 : decode cL_law 271 = .ok (.aload_n 0, 1) := by decide +kernel
theorem dL_law_272 : decode cL_law 272 = .ok (.iload 4, 2) := by decide +kernel
theorem dL_law_274 : decode cL_law 274 = .ok (.iconst 2, 1) := by decide +kernel
theorem dL_law_275 : decode cL_law 275 = .ok (.iadd, 1) := by decide +kernel
theorem dL_law_276 : decode cL_law 276 = .ok (.iaload, 1) := by decide +kernel
theorem dL_law_277 : decode cL_law 277 = .ok (.aload_n 0, 1) := by decide +kernel
theorem dL_law_278 : decode cL_law 278 = .ok (.iload 4, 2) := by decide +kernel
theorem dL_law_280 : decode cL_law 280 = .ok (.iconst 3, 1) := by decide +kernel
theorem dL_law_281 : decode cL_law 281 = .ok (.iadd, 1) := by decide +kernel
theorem dL_law_282 : decode cL_law 282 = .ok (.iaload, 1) := by decide +kernel
theorem dL_law_283 : decode cL_law 283 = .ok (.aload_n 0, 1) := by decide +kernel
theorem dL_law_284 : decode cL_law 284 = .ok (.iload 4, 2) := by decide +kernel
theorem dL_law_286 : decode cL_law 286 = .ok (.iconst 4, 1) := by decide +kernel
theorem dL_law_287 : decode cL_law 287 = .ok (.iadd, 1) := by decide +kernel
theorem dL_law_288 : decode cL_law 288 = .ok (.iaload, 1) := by decide +kernel
theorem dL_law_289 : decode cL_law 289 = .ok (.aload_n 3, 1) := by decide +kernel
theorem dL_law_290 : decode cL_law 290 = .ok (.invokestatic 80, 3) := by decide +kernel
theorem dL_law_293 : decode cL_law 293 = .ok (.istore 5, 2) := by decide +kernel
theorem dL_law_295 : decode cL_law 295 = .ok (.aload_n 2, 1) := by decide +kernel
theorem dL_law_296 : decode cL_law 296 = .ok (.aload_n 0, 1) := by decide +kernel
theorem dL_law_297 : decode cL_law 297 = .ok (.iload 4, 2) := by decide +kernel
theorem dL_law_299 : decode cL_law 299 = .ok (.iconst 1, 1) := by decide +kernel
theorem dL_law_300 : decode cL_law 300 = .ok (.iadd, 1) := by decide +kernel
theorem dL_law_301 : decode cL_law 301 = .ok (.iaload, 1) := by decide +kernel
theorem dL_law_302 : decode cL_law 302 = .ok (.aload_n 0, 1) := by decide +kernel
theorem dL_law_303 : decode cL_law 303 = .ok (.iload 4, 2) := by decide +kernel
theorem dL_law_305 : decode cL_law 305 = .ok (.iconst 2, 1) := by decide +kernel
theorem dL_law_306 : decode cL_law 306 = .ok (.iadd, 1) := by decide +kernel
theorem dL_law_307 : decode cL_law 307 = .ok (.iaload, 1) := by decide +kernel
theorem dL_law_308 : decode cL_law 308 = .ok (.aload_n 0, 1) := by decide +kernel
theorem dL_law_309 : decode cL_law 309 = .ok (.iload 4, 2) := by decide +kernel
theorem dL_law_311 : decode cL_law 311 = .ok (.iconst 3, 1) := by decide +kernel
theorem dL_law_312 : decode cL_law 312 = .ok (.iadd, 1) := by decide +kernel
theorem dL_law_313 : decode cL_law 313 = .ok (.iaload, 1) := by decide +kernel
theorem dL_law_314 : decode cL_law 314 = .ok (.aload_n 0, 1) := by decide +kernel
theorem dL_law_315 : decode cL_law 315 = .ok (.iload 4, 2) := by decide +kernel
theorem dL_law_317 : decode cL_law 317 = .ok (.iconst 4, 1) := by decide +kernel
theorem dL_law_318 : decode cL_law 318 = .ok (.iadd, 1) := by decide +kernel
theorem dL_law_319 : decode cL_law 319 = .ok (.iaload, 1) := by decide +kernel
theorem dL_law_320 : decode cL_law 320 = .ok (.invokevirtual 83, 3) := by decide +kernel
theorem dL_law_323 : decode cL_law 323 = .ok (.istore 6, 2) := by decide +kernel
theorem dL_law_325 : decode cL_law 325 = .ok (.aload_n 2, 1) := by decide +kernel
theorem dL_law_326 : decode cL_law 326 = .ok (.invokevirtual 72, 3) := by decide +kernel
theorem dL_law_329 : decode cL_law 329 = .ok (.iload 5, 2) := by decide +kernel
theorem dL_law_331 : decode cL_law 331 = .ok (.if_icmp .eq 5, 3) := by decide +kernel
theorem dL_law_334 : decode cL_law 334 = .ok (.iconst 0, 1) := by decide +kernel
theorem dL_law_335 : decode cL_law 335 = .ok (.ireturn, 1) := by decide +kernel
theorem dL_law_336 : decode cL_law 336 = .ok (.iload 5, 2) := by decide +kernel
theorem dL_law_338 : decode cL_law 338 = .ok (.ifCond .ne 15, 3) := by decide +kernel
theorem dL_law_341 : decode cL_law 341 = .ok (.aload_n 3, 1) := by decide +kernel
theorem dL_law_342 : decode cL_law 342 = .ok (.iconst 0, 1) := by decide +kernel
theorem dL_law_343 : decode cL_law 343 = .ok (.laload, 1) := by decide +kernel
theorem dL_law_344 : decode cL_law 344 = .ok (.iload 6, 2) := by decide +kernel
theorem dL_law_346 : decode cL_law 346 = .ok (.i2l, 1) := by decide +kernel
theorem dL_law_347 : decode cL_law 347 = .ok (.lcmp, 1) := by decide +kernel
theorem dL_law_348 : decode cL_law 348 = .ok (.ifCond .eq 5, 3) := by decide +kernel
theorem dL_law_351 : decode cL_law 351 = .ok (.iconst 0, 1) := by decide +kernel
theorem dL_law_352 : decode cL_law 352 = .ok (.ireturn, 1) := by decide +kernel
theorem dL_law_353 : decode cL_law 353 = .ok (.goto 832, 3) := by decide +kernel
theorem dL_law_356 : decode cL_law 356 = .ok (.aload_n 1, 1) := by decide +kernel
theorem dL_law_357 : decode cL_law 357 = .ok (.aload_n 0, 1) := by decide +kernel
theorem dL_law_358 : decode cL_law 358 = .ok (.iload 4, 2) := by decide +kernel
theorem dL_law_360 : decode cL_law 360 = .ok (.iconst 1, 1) := by decide +kernel
theorem dL_law_361 : decode cL_law 361 = .ok (.iadd, 1) := by decide +kernel
theorem dL_law_362 : decode cL_law 362 = .ok (.iaload, 1) := by decide +kernel
theorem dL_law_363 : decode cL_law 363 = .ok (.aload_n 0, 1) := by decide +kernel
theorem dL_law_364 : decode cL_law 364 = .ok (.iload 4, 2) := by decide +kernel
theorem dL_law_366 : decode cL_law 366 = .ok (.iconst 2, 1) := by decide +kernel
theorem dL_law_367 : decode cL_law 367 = .ok (.iadd, 1) := by decide +kernel
theorem dL_law_368 : decode cL_law 368 = .ok (.iaload, 1) := by decide +kernel
theorem dL_law_369 : decode cL_law 369 = .ok (.aload_n 0, 1) := by decide +kernel
theorem dL_law_370 : decode cL_law 370 = .ok (.iload 4, 2) := by decide +kernel
theorem dL_law_372 : decode cL_law 372 = .ok (.iconst 3, 1) := by decide +kernel
theorem dL_law_373 : decode cL_law 373 = .ok (.iadd, 1) := by decide +kernel
theorem dL_law_374 : decode cL_law 374 = .ok (.iaload, 1) := by decide +kernel
theorem dL_law_375 : decode cL_law 375 = .ok (.aload_n 0, 1) := by decide +kernel
theorem dL_law_376 : decode cL_law 376 = .ok (.iload 4, 2) := by decide +kernel
theorem dL_law_378 : decode cL_law 378 = .ok (.iconst 4, 1) := by decide +kernel
theorem dL_law_379 : decode cL_law 379 = .ok (.iadd, 1) := by decide +kernel
theorem dL_law_380 : decode cL_law 380 = .ok (.iaload, 1) := by decide +kernel
theorem dL_law_381 : decode cL_law 381 = .ok (.aload_n 3, 1) := by decide +kernel
theorem dL_law_382 : decode cL_law 382 = .ok (.invokestatic 84, 3) := by decide +kernel
theorem dL_law_385 : decode cL_law 385 = .ok (.istore 5, 2) := by decide +kernel
theorem dL_law_387 : decode cL_law 387 = .ok (.aload_n 2, 1) := by decide +kernel
theorem dL_law_388 : decode cL_law 388 = .ok (.aload_n 0, 1) := by decide +kernel
theorem dL_law_389 : decode cL_law 389 = .ok (.iload 4, 2) := by decide +kernel
theorem dL_law_391 : decode cL_law 391 = .ok (.iconst 1, 1) := by decide +kernel
theorem dL_law_392 : decode cL_law 392 = .ok (.iadd, 1) := by decide +kernel
theorem dL_law_393 : decode cL_law 393 = .ok (.iaload, 1) := by decide +kernel
theorem dL_law_394 : decode cL_law 394 = .ok (.aload_n 0, 1) := by decide +kernel
theorem dL_law_395 : decode cL_law 395 = .ok (.iload 4, 2) := by decide +kernel
theorem dL_law_397 : decode cL_law 397 = .ok (.iconst 2, 1) := by decide +kernel
theorem dL_law_398 : decode cL_law 398 = .ok (.iadd, 1) := by decide +kernel
theorem dL_law_399 : decode cL_law 399 = .ok (.iaload, 1) := by decide +kernel
theorem dL_law_400 : decode cL_law 400 = .ok (.aload_n 0, 1) := by decide +kernel
theorem dL_law_401 : decode cL_law 401 = .ok (.iload 4, 2) := by decide +kernel
theorem dL_law_403 : decode cL_law 403 = .ok (.iconst 3, 1) := by decide +kernel
theorem dL_law_404 : decode cL_law 404 = .ok (.iadd, 1) := by decide +kernel
theorem dL_law_405 : decode cL_law 405 = .ok (.iaload, 1) := by decide +kernel
theorem dL_law_406 : decode cL_law 406 = .ok (.aload_n 0, 1) := by decide +kernel
theorem dL_law_407 : decode cL_law 407 = .ok (.iload 4, 2) := by decide +kernel
theorem dL_law_409 : decode cL_law 409 = .ok (.iconst 4, 1) := by decide +kernel
theorem dL_law_410 : decode cL_law 410 = .ok (.iadd, 1) := by decide +kernel
theorem dL_law_411 : decode cL_law 411 = .ok (.iaload, 1) := by decide +kernel
theorem dL_law_412 : decode cL_law 412 = .ok (.invokevirtual 86, 3) := by decide +kernel
theorem dL_law_415 : decode cL_law 415 = .ok (.istore 6, 2) := by decide +kernel
theorem dL_law_417 : decode cL_law 417 = .ok (.aload_n 2, 1) := by decide +kernel
theorem dL_law_418 : decode cL_law 418 = .ok (.invokevirtual 72, 3) := by decide +kernel
theorem dL_law_421 : decode cL_law 421 = .ok (.iload 5, 2) := by decide +kernel
theorem dL_law_423 : decode cL_law 423 = .ok (.if_icmp .eq 5, 3) := by decide +kernel
theorem dL_law_426 : decode cL_law 426 = .ok (.iconst 0, 1) := by decide +kernel
theorem dL_law_427 : decode cL_law 427 = .ok (.ireturn, 1) := by decide +kernel
theorem dL_law_428 : decode cL_law 428 = .ok (.iload 5, 2) := by decide +kernel
theorem dL_law_430 : decode cL_law 430 = .ok (.ifCond .ne 15, 3) := by decide +kernel
theorem dL_law_433 : decode cL_law 433 = .ok (.aload_n 3, 1) := by decide +kernel
theorem dL_law_434 : decode cL_law 434 = .ok (.iconst 0, 1) := by decide +kernel
theorem dL_law_435 : decode cL_law 435 = .ok (.laload, 1) := by decide +kernel
theorem dL_law_436 : decode cL_law 436 = .ok (.iload 6, 2) := by decide +kernel
theorem dL_law_438 : decode cL_law 438 = .ok (.i2l, 1) := by decide +kernel
theorem dL_law_439 : decode cL_law 439 = .ok (.lcmp, 1) := by decide +kernel
theorem dL_law_440 : decode cL_law 440 = .ok (.ifCond .eq 5, 3) := by decide +kernel
theorem dL_law_443 : decode cL_law 443 = .ok (.iconst 0, 1) := by decide +kernel
theorem dL_law_444 : decode cL_law 444 = .ok (.ireturn, 1) := by decide +kernel
theorem dL_law_445 : decode cL_law 445 = .ok (.goto 740, 3) := by decide +kernel
theorem dL_law_448 : decode cL_law 448 = .ok (.aload_n 1, 1) := by decide +kernel
theorem dL_law_449 : decode cL_law 449 = .ok (.invokevirtual 87, 3) := by decide +kernel
theorem dL_law_452 : decode cL_law 452 = .ok (.aload_n 2, 1) := by decide +kernel
theorem dL_law_453 : decode cL_law 453 = .ok (.invokevirtual 90, 3) := by decide +kernel
theorem dL_law_456 : decode cL_law 456 = .ok (.if_icmp .eq 729, 3) := by decide +kernel
theorem dL_law_459 : decode cL_law 459 = .ok (.iconst 0, 1) := by decide +kernel
theorem dL_law_460 : decode cL_law 460 = .ok (.ireturn, 1) := by decide +kernel
theorem dL_law_461 : decode cL_law 461 = .ok (.aload_n 1, 1) := by decide +kernel
theorem dL_law_462 : decode cL_law 462 = .ok (.aload_n 0, 1) := by decide +kernel
theorem dL_law_463 : decode cL_law 463 = .ok (.iload 4, 2) := by decide +kernel
theorem dL_law_465 : decode cL_law 465 = .ok (.iconst 1, 1) := by decide +kernel
theorem dL_law_466 : decode cL_law 466 = .ok (.iadd, 1) := by decide +kernel
theorem dL_law_467 : decode cL_law 467 = .ok (.iaload, 1) := by decide +kernel
theorem dL_law_468 : decode cL_law 468 = .ok (.aload_n 0, 1) := by decide +kernel
theorem dL_law_469 : decode cL_law 469 = .ok (.iload 4, 2) := by decide +kernel
theorem dL_law_471 : decode cL_law 471 = .ok (.iconst 2, 1) := by decide +kernel
theorem dL_law_472 : decode cL_law 472 = .ok (.iadd, 1) := by decide +kernel
theorem dL_law_473 : decode cL_law 473 = .ok (.iaload, 1) := by decide +kernel
theorem dL_law_474 : decode cL_law 474 = .ok (.aload_n 0, 1) := by decide +kernel
theorem dL_law_475 : decode cL_law 475 = .ok (.iload 4, 2) := by decide +kernel
theorem dL_law_477 : decode cL_law 477 = .ok (.iconst 3, 1) := by decide +kernel
theorem dL_law_478 : decode cL_law 478 = .ok (.iadd, 1) := by decide +kernel
theorem dL_law_479 : decode cL_law 479 = .ok (.iaload, 1) := by decide +kernel
theorem dL_law_480 : decode cL_law 480 = .ok (.aload_n 3, 1) := by decide +kernel
theorem dL_law_481 : decode cL_law 481 = .ok (.invokestatic 91, 3) := by decide +kernel
theorem dL_law_484 : decode cL_law 484 = .ok (.istore 5, 2) := by decide +kernel
theorem dL_law_486 : decode cL_law 486 = .ok (.aload_n 2, 1) := by decide +kernel
theorem dL_law_487 : decode cL_law 487 = .ok (.aload_n 0, 1) := by decide +kernel
theorem dL_law_488 : decode cL_law 488 = .ok (.iload 4, 2) := by decide +kernel
theorem dL_law_490 : decode cL_law 490 = .ok (.iconst 1, 1) := by decide +kernel
theorem dL_law_491 : decode cL_law 491 = .ok (.iadd, 1) := by decide +kernel
theorem dL_law_492 : decode cL_law 492 = .ok (.iaload, 1) := by decide +kernel
theorem dL_law_493 : decode cL_law 493 = .ok (.aload_n 0, 1) := by decide +kernel
theorem dL_law_494 : decode cL_law 494 = .ok (.iload 4, 2) := by decide +kernel
theorem dL_law_496 : decode cL_law 496 = .ok (.iconst 2, 1) := by decide +kernel
theorem dL_law_497 : decode cL_law 497 = .ok (.iadd, 1) := by decide +kernel
theorem dL_law_498 : decode cL_law 498 = .ok (.iaload, 1) := by decide +kernel
theorem dL_law_499 : decode cL_law 499 = .ok (.aload_n 0, 1) := by decide +kernel
theorem dL_law_500 : decode cL_law 500 = .ok (.iload 4, 2) := by decide +kernel
theorem dL_law_502 : decode cL_law 502 = .ok (.iconst 3, 1) := by decide +kernel
theorem dL_law_503 : decode cL_law 503 = .ok (.iadd, 1) := by decide +kernel
theorem dL_law_504 : decode cL_law 504 = .ok (.iaload, 1) := by decide +kernel
theorem dL_law_505 : decode cL_law 505 = .ok (.invokevirtual 93, 3) := by decide +kernel
theorem dL_law_508 : decode cL_law 508 = .ok (.istore 6, 2) := by decide +kernel
theorem dL_law_510 : decode cL_law 510 = .ok (.aload_n 2, 1) := by decide +kernel
theorem dL_law_511 : decode cL_law 511 = .ok (.invokevirtual 72, 3) := by decide +kernel
theorem dL_law_514 : decode cL_law 514 = .ok (.iload 5, 2) := by decide +kernel
theorem dL_law_516 : decode cL_law 516 = .ok (.if_icmp .eq 5, 3) := by decide +kernel
theorem dL_law_519 : decode cL_law 519 = .ok (.iconst 0, 1) := by decide +kernel
theorem dL_law_520 : decode cL_law 520 = .ok (.ireturn, 1) := by decide +kernel
theorem dL_law_521 : decode cL_law 521 = .ok (.iload 5, 2) := by decide +kernel
theorem dL_law_523 : decode cL_law 523 = .ok (.ifCond .ne 15, 3) := by decide +kernel
theorem dL_law_526 : decode cL_law 526 = .ok (.aload_n 3, 1) := by decide +kernel
theorem dL_law_527 : decode cL_law 527 = .ok (.iconst 0, 1) := by decide +kernel
theorem dL_law_528 : decode cL_law 528 = .ok (.laload, 1) := by decide +kernel
theorem dL_law_529 : decode cL_law 529 = .ok (.iload 6, 2) := by decide +kernel
theorem dL_law_531 : decode cL_law 531 = .ok (.i2l, 1) := by decide +kernel
theorem dL_law_532 : decode cL_law 532 = .ok (.lcmp, 1) := by decide +kernel
theorem dL_law_533 : decode cL_law 533 = .ok (.ifCond .eq 5, 3) := by decide +kernel
theorem dL_law_536 : decode cL_law 536 = .ok (.iconst 0, 1) := by decide +kernel
theorem dL_law_537 : decode cL_law 537 = .ok (.ireturn, 1) := by decide +kernel
theorem dL_law_538 : decode cL_law 538 = .ok (.goto 647, 3) := by decide +kernel
theorem dL_law_541 : decode cL_law 541 = .ok (.aload_n 1, 1) := by decide +kernel
theorem dL_law_542 : decode cL_law 542 = .ok (.aload_n 0, 1) := by decide +kernel
theorem dL_law_543 : decode cL_law 543 = .ok (.iload 4, 2) := by decide +kernel
theorem dL_law_545 : decode cL_law 545 = .ok (.iconst 1, 1) := by decide +kernel
theorem dL_law_546 : decode cL_law 546 = .ok (.iadd, 1) := by decide +kernel
theorem dL_law_547 : decode cL_law 547 = .ok (.iaload, 1) := by decide +kernel
theorem dL_law_548 : decode cL_law 548 = .ok (.aload_n 0, 1) := by decide +kernel
theorem dL_law_549 : decode cL_law 549 = .ok (.iload 4, 2) := by decide +kernel
theorem dL_law_551 : decode cL_law 551 = .ok (.iconst 2, 1) := by decide +kernel
theorem dL_law_552 : decode cL_law 552 = .ok (.iadd, 1) := by decide +kernel
theorem dL_law_553 : decode cL_law 553 = .ok (.iaload, 1) := by decide +kernel
theorem dL_law_554 : decode cL_law 554 = .ok (.aload_n 3, 1) := by decide +kernel
theorem dL_law_555 : decode cL_law 555 = .ok (.invokestatic 94, 3) := by decide +kernel
theorem dL_law_558 : decode cL_law 558 = .ok (.istore 5, 2) := by decide +kernel
theorem dL_law_560 : decode cL_law 560 = .ok (.aload_n 2, 1) := by decide +kernel
theorem dL_law_561 : decode cL_law 561 = .ok (.aload_n 0, 1) := by decide +kernel
theorem dL_law_562 : decode cL_law 562 = .ok (.iload 4, 2) := by decide +kernel
theorem dL_law_564 : decode cL_law 564 = .ok (.iconst 1, 1) := by decide +kernel
theorem dL_law_565 : decode cL_law 565 = .ok (.iadd, 1) := by decide +kernel
theorem dL_law_566 : decode cL_law 566 = .ok (.iaload, 1) := by decide +kernel
theorem dL_law_567 : decode cL_law 567 = .ok (.aload_n 0, 1) := by decide +kernel
theorem dL_law_568 : decode cL_law 568 = .ok (.iload 4, 2) := by decide +kernel
theorem dL_law_570 : decode cL_law 570 = .ok (.iconst 2, 1) := by decide +kernel
theorem dL_law_571 : decode cL_law 571 = .ok (.iadd, 1) := by decide +kernel
theorem dL_law_572 : decode cL_law 572 = .ok (.iaload, 1) := by decide +kernel
theorem dL_law_573 : decode cL_law 573 = .ok (.invokevirtual 97, 3) := by decide +kernel
theorem dL_law_576 : decode cL_law 576 = .ok (.istore 6, 2) := by decide +kernel
theorem dL_law_578 : decode cL_law 578 = .ok (.aload_n 2, 1) := by decide +kernel
theorem dL_law_579 : decode cL_law 579 = .ok (.invokevirtual 72, 3) := by decide +kernel
theorem dL_law_582 : decode cL_law 582 = .ok (.iload 5, 2) := by decide +kernel
theorem dL_law_584 : decode cL_law 584 = .ok (.if_icmp .eq 5, 3) := by decide +kernel
theorem dL_law_587 : decode cL_law 587 = .ok (.iconst 0, 1) := by decide +kernel
theorem dL_law_588 : decode cL_law 588 = .ok (.ireturn, 1) := by decide +kernel
theorem dL_law_589 : decode cL_law 589 = .ok (.iload 5, 2) := by decide +kernel
theorem dL_law_591 : decode cL_law 591 = .ok (.ifCond .ne 15, 3) := by decide +kernel
theorem dL_law_594 : decode cL_law 594 = .ok (.aload_n 3, 1) := by decide +kernel
theorem dL_law_595 : decode cL_law 595 = .ok (.iconst 0, 1) := by decide +kernel
theorem dL_law_596 : decode cL_law 596 = .ok (.laload, 1) := by decide +kernel
theorem dL_law_597 : decode cL_law 597 = .ok (.iload 6, 2) := by decide +kernel
theorem dL_law_599 : decode cL_law 599 = .ok (.i2l, 1) := by decide +kernel
theorem dL_law_600 : decode cL_law 600 = .ok (.lcmp, 1) := by decide +kernel
theorem dL_law_601 : decode cL_law 601 = .ok (.ifCond .eq 5, 3) := by decide +kernel
theorem dL_law_604 : decode cL_law 604 = .ok (.iconst 0, 1) := by decide +kernel
theorem dL_law_605 : decode cL_law 605 = .ok (.ireturn, 1) := by decide +kernel
theorem dL_law_606 : decode cL_law 606 = .ok (.goto 579, 3) := by decide +kernel
theorem dL_law_609 : decode cL_law 609 = .ok (.aload_n 1, 1) := by decide +kernel
theorem dL_law_610 : decode cL_law 610 = .ok (.aload_n 0, 1) := by decide +kernel
theorem dL_law_611 : decode cL_law 611 = .ok (.iload 4, 2) := by decide +kernel
theorem dL_law_613 : decode cL_law 613 = .ok (.iconst 1, 1) := by decide +kernel
theorem dL_law_614 : decode cL_law 614 = .ok (.iadd, 1) := by decide +kernel
theorem dL_law_615 : decode cL_law 615 = .ok (.iaload, 1) := by decide +kernel
theorem dL_law_616 : decode cL_law 616 = .ok (.aload_n 0, 1) := by decide +kernel
theorem dL_law_617 : decode cL_law 617 = .ok (.iload 4, 2) := by decide +kernel
theorem dL_law_619 : decode cL_law 619 = .ok (.iconst 2, 1) := by decide +kernel
theorem dL_law_620 : decode cL_law 620 = .ok (.iadd, 1) := by decide +kernel
theorem dL_law_621 : decode cL_law 621 = .ok (.iaload, 1) := by decide +kernel
theorem dL_law_622 : decode cL_law 622 = .ok (.aload_n 3, 1) := by decide +kernel
theorem dL_law_623 : decode cL_law 623 = .ok (.invokestatic 98, 3) := by decide +kernel
theorem dL_law_626 : decode cL_law 626 = .ok (.istore 5, 2) := by decide +kernel
theorem dL_law_628 : decode cL_law 628 = .ok (.aload_n 2, 1) := by decide +kernel
theorem dL_law_629 : decode cL_law 629 = .ok (.aload_n 0, 1) := by decide +kernel
theorem dL_law_630 : decode cL_law 630 = .ok (.iload 4, 2) := by decide +kernel
theorem dL_law_632 : decode cL_law 632 = .ok (.iconst 1, 1) := by decide +kernel
theorem dL_law_633 : decode cL_law 633 = .ok (.iadd, 1) := by decide +kernel
theorem dL_law_634 : decode cL_law 634 = .ok (.iaload, 1) := by decide +kernel
theorem dL_law_635 : decode cL_law 635 = .ok (.aload_n 0, 1) := by decide +kernel
theorem dL_law_636 : decode cL_law 636 = .ok (.iload 4, 2) := by decide +kernel
theorem dL_law_638 : decode cL_law 638 = .ok (.iconst 2, 1) := by decide +kernel
theorem dL_law_639 : decode cL_law 639 = .ok (.iadd, 1) := by decide +kernel
theorem dL_law_640 : decode cL_law 640 = .ok (.iaload, 1) := by decide +kernel
theorem dL_law_641 : decode cL_law 641 = .ok (.invokevirtual 100, 3) := by decide +kernel
theorem dL_law_644 : decode cL_law 644 = .ok (.istore 6, 2) := by decide +kernel
theorem dL_law_646 : decode cL_law 646 = .ok (.aload_n 2, 1) := by decide +kernel
theorem dL_law_647 : decode cL_law 647 = .ok (.invokevirtual 72, 3) := by decide +kernel
theorem dL_law_650 : decode cL_law 650 = .ok (.iload 5, 2) := by decide +kernel
theorem dL_law_652 : decode cL_law 652 = .ok (.if_icmp .eq 5, 3) := by decide +kernel
theorem dL_law_655 : decode cL_law 655 = .ok (.iconst 0, 1) := by decide +kernel
theorem dL_law_656 : decode cL_law 656 = .ok (.ireturn, 1) := by decide +kernel
theorem dL_law_657 : decode cL_law 657 = .ok (.iload 5, 2) := by decide +kernel
theorem dL_law_659 : decode cL_law 659 = .ok (.ifCond .ne 15, 3) := by decide +kernel
theorem dL_law_662 : decode cL_law 662 = .ok (.aload_n 3, 1) := by decide +kernel
theorem dL_law_663 : decode cL_law 663 = .ok (.iconst 0, 1) := by decide +kernel
theorem dL_law_664 : decode cL_law 664 = .ok (.laload, 1) := by decide +kernel
theorem dL_law_665 : decode cL_law 665 = .ok (.iload 6, 2) := by decide +kernel
theorem dL_law_667 : decode cL_law 667 = .ok (.i2l, 1) := by decide +kernel
theorem dL_law_668 : decode cL_law 668 = .ok (.lcmp, 1) := by decide +kernel
theorem dL_law_669 : decode cL_law 669 = .ok (.ifCond .eq 5, 3) := by decide +kernel
theorem dL_law_672 : decode cL_law 672 = .ok (.iconst 0, 1) := by decide +kernel
theorem dL_law_673 : decode cL_law 673 = .ok (.ireturn, 1) := by decide +kernel
theorem dL_law_674 : decode cL_law 674 = .ok (.goto 511, 3) := by decide +kernel
theorem dL_law_677 : decode cL_law 677 = .ok (.aload_n 1, 1) := by decide +kernel
theorem dL_law_678 : decode cL_law 678 = .ok (.aload_n 0, 1) := by decide +kernel
theorem dL_law_679 : decode cL_law 679 = .ok (.iload 4, 2) := by decide +kernel
theorem dL_law_681 : decode cL_law 681 = .ok (.iconst 1, 1) := by decide +kernel
theorem dL_law_682 : decode cL_law 682 = .ok (.iadd, 1) := by decide +kernel
theorem dL_law_683 : decode cL_law 683 = .ok (.iaload, 1) := by decide +kernel
theorem dL_law_684 : decode cL_law 684 = .ok (.aload_n 3, 1) := by decide +kernel
theorem dL_law_685 : decode cL_law 685 = .ok (.invokestatic 101, 3) := by decide +kernel
theorem dL_law_688 : decode cL_law 688 = .ok (.istore 5, 2) := by decide +kernel
theorem dL_law_690 : decode cL_law 690 = .ok (.aload_n 2, 1) := by decide +kernel
theorem dL_law_691 : decode cL_law 691 = .ok (.aload_n 0, 1) := by decide +kernel
theorem dL_law_692 : decode cL_law 692 = .ok (.iload 4, 2) := by decide +kernel
theorem dL_law_694 : decode cL_law 694 = .ok (.iconst 1, 1) := by decide +kernel
theorem dL_law_695 : decode cL_law 695 = .ok (.iadd, 1) := by decide +kernel
theorem dL_law_696 : decode cL_law 696 = .ok (.iaload, 1) := by decide +kernel
theorem dL_law_697 : decode cL_law 697 = .ok (.invokevirtual 103, 3) := by decide +kernel
theorem dL_law_700 : decode cL_law 700 = .ok (.istore 6, 2) := by decide +kernel
theorem dL_law_702 : decode cL_law 702 = .ok (.aload_n 2, 1) := by decide +kernel
theorem dL_law_703 : decode cL_law 703 = .ok (.invokevirtual 72, 3) := by decide +kernel
theorem dL_law_706 : decode cL_law 706 = .ok (.iload 5, 2) := by decide +kernel
theorem dL_law_708 : decode cL_law 708 = .ok (.if_icmp .eq 5, 3) := by decide +kernel
theorem dL_law_711 : decode cL_law 711 = .ok (.iconst 0, 1) := by decide +kernel
theorem dL_law_712 : decode cL_law 712 = .ok (.ireturn, 1) := by decide +kernel
theorem dL_law_713 : decode cL_law 713 = .ok (.iload 5, 2) := by decide +kernel
theorem dL_law_715 : decode cL_law 715 = .ok (.ifCond .ne 15, 3) := by decide +kernel
theorem dL_law_718 : decode cL_law 718 = .ok (.aload_n 3, 1) := by decide +kernel
theorem dL_law_719 : decode cL_law 719 = .ok (.iconst 0, 1) := by decide +kernel
theorem dL_law_720 : decode cL_law 720 = .ok (.laload, 1) := by decide +kernel
theorem dL_law_721 : decode cL_law 721 = .ok (.iload 6, 2) := by decide +kernel
theorem dL_law_723 : decode cL_law 723 = .ok (.i2l, 1) := by decide +kernel
theorem dL_law_724 : decode cL_law 724 = .ok (.lcmp, 1) := by decide +kernel
theorem dL_law_725 : decode cL_law 725 = .ok (.ifCond .eq 5, 3) := by decide +kernel
theorem dL_law_728 : decode cL_law 728 = .ok (.iconst 0, 1) := by decide +kernel
theorem dL_law_729 : decode cL_law 729 = .ok (.ireturn, 1) := by decide +kernel
theorem dL_law_730 : decode cL_law 730 = .ok (.goto 455, 3) := by decide +kernel
theorem dL_law_733 : decode cL_law 733 = .ok (.aload_n 1, 1) := by decide +kernel
theorem dL_law_734 : decode cL_law 734 = .ok (.invokevirtual 104, 3) := by decide +kernel
theorem dL_law_737 : decode cL_law 737 = .ok (.aload_n 2, 1) := by decide +kernel
theorem dL_law_738 : decode cL_law 738 = .ok (.invokevirtual 107, 3) := by decide +kernel
theorem dL_law_741 : decode cL_law 741 = .ok (.if_icmp .eq 444, 3) := by decide +kernel
theorem dL_law_744 : decode cL_law 744 = .ok (.iconst 0, 1) := by decide +kernel
theorem dL_law_745 : decode cL_law 745 = .ok (.ireturn, 1) := by decide +kernel
theorem dL_law_746 : decode cL_law 746 = .ok (.aload_n 1, 1) := by decide +kernel
theorem dL_law_747 : decode cL_law 747 = .ok (.invokevirtual 108, 3) := by decide +kernel
theorem dL_law_750 : decode cL_law 750 = .ok (.aload_n 2, 1) := by decide +kernel
theorem dL_law_751 : decode cL_law 751 = .ok (.invokevirtual 111, 3) := by decide +kernel
theorem dL_law_754 : decode cL_law 754 = .ok (.if_icmp .eq 431, 3) := by decide +kernel
theorem dL_law_757 : decode cL_law 757 = .ok (.iconst 0, 1) := by decide +kernel
theorem dL_law_758 : decode cL_law 758 = .ok (.ireturn, 1) := by decide +kernel
theorem dL_law_759 : decode cL_law 759 = .ok (.aload_n 1, 1) := by decide +kernel
theorem dL_law_760 : decode cL_law 760 = .ok (.aload_n 0, 1) := by decide +kernel
theorem dL_law_761 : decode cL_law 761 = .ok (.iload 4, 2) := by decide +kernel
theorem dL_law_763 : decode cL_law 763 = .ok (.iconst 1, 1) := by decide +kernel
theorem dL_law_764 : decode cL_law 764 = .ok (.iadd, 1) := by decide +kernel
theorem dL_law_765 : decode cL_law 765 = .ok (.iaload, 1) := by decide +kernel
theorem dL_law_766 : decode cL_law 766 = .ok (.aload_n 3, 1) := by decide +kernel
theorem dL_law_767 : decode cL_law 767 = .ok (.invokestatic 112, 3) := by decide +kernel
theorem dL_law_770 : decode cL_law 770 = .ok (.istore 5, 2) := by decide +kernel
theorem dL_law_772 : decode cL_law 772 = .ok (.aload_n 2, 1) := by decide +kernel
theorem dL_law_773 : decode cL_law 773 = .ok (.aload_n 0, 1) := by decide +kernel
theorem dL_law_774 : decode cL_law 774 = .ok (.iload 4, 2) := by decide +kernel
theorem dL_law_776 : decode cL_law 776 = .ok (.iconst 1, 1) := by decide +kernel
theorem dL_law_777 : decode cL_law 777 = .ok (.iadd, 1) := by decide +kernel
theorem dL_law_778 : decode cL_law 778 = .ok (.iaload, 1) := by decide +kernel
theorem dL_law_779 : decode cL_law 779 = .ok (.invokevirtual 114, 3) := by decide +kernel
theorem dL_law_782 : decode cL_law 782 = .ok (.istore 6, 2) := by decide +kernel
theorem dL_law_784 : decode cL_law 784 = .ok (.aload_n 2, 1) := by decide +kernel
theorem dL_law_785 : decode cL_law 785 = .ok (.invokevirtual 72, 3) := by decide +kernel
theorem dL_law_788 : decode cL_law 788 = .ok (.iload 5, 2) := by decide +kernel
theorem dL_law_790 : decode cL_law 790 = .ok (.if_icmp .eq 5, 3) := by decide +kernel
theorem dL_law_793 : decode cL_law 793 = .ok (.iconst 0, 1) := by decide +kernel
theorem dL_law_794 : decode cL_law 794 = .ok (.ireturn, 1) := by decide +kernel
theorem dL_law_795 : decode cL_law 795 = .ok (.iload 5, 2) := by decide +kernel
theorem dL_law_797 : decode cL_law 797 = .ok (.ifCond .ne 15, 3) := by decide +kernel
theorem dL_law_800 : decode cL_law 800 = .ok (.aload_n 3, 1) := by decide +kernel
theorem dL_law_801 : decode cL_law 801 = .ok (.iconst 0, 1) := by decide +kernel
theorem dL_law_802 : decode cL_law 802 = .ok (.laload, 1) := by decide +kernel
theorem dL_law_803 : decode cL_law 803 = .ok (.iload 6, 2) := by decide +kernel
theorem dL_law_805 : decode cL_law 805 = .ok (.i2l, 1) := by decide +kernel
theorem dL_law_806 : decode cL_law 806 = .ok (.lcmp, 1) := by decide +kernel
theorem dL_law_807 : decode cL_law 807 = .ok (.ifCond .eq 5, 3) := by decide +kernel
theorem dL_law_810 : decode cL_law 810 = .ok (.iconst 0, 1) := by decide +kernel
theorem dL_law_811 : decode cL_law 811 = .ok (.ireturn, 1) := by decide +kernel
theorem dL_law_812 : decode cL_law 812 = .ok (.goto 373, 3) := by decide +kernel
theorem dL_law_815 : decode cL_law 815 = .ok (.aload_n 1, 1) := by decide +kernel
theorem dL_law_816 : decode cL_law 816 = .ok (.aload_n 0, 1) := by decide +kernel
theorem dL_law_817 : decode cL_law 817 = .ok (.iload 4, 2) := by decide +kernel
theorem dL_law_819 : decode cL_law 819 = .ok (.iconst 1, 1) := by decide +kernel
theorem dL_law_820 : decode cL_law 820 = .ok (.iadd, 1) := by decide +kernel
theorem dL_law_821 : decode cL_law 821 = .ok (.iaload, 1) := by decide +kernel
theorem dL_law_822 : decode cL_law 822 = .ok (.aload_n 0, 1) := by decide +kernel
theorem dL_law_823 : decode cL_law 823 = .ok (.iload 4, 2) := by decide +kernel
theorem dL_law_825 : decode cL_law 825 = .ok (.iconst 2, 1) := by decide +kernel
theorem dL_law_826 : decode cL_law 826 = .ok (.iadd, 1) := by decide +kernel
theorem dL_law_827 : decode cL_law 827 = .ok (.iaload, 1) := by decide +kernel
theorem dL_law_828 : decode cL_law 828 = .ok (.aload_n 3, 1) := by decide +kernel
theorem dL_law_829 : decode cL_law 829 = .ok (.invokestatic 115, 3) := by decide +kernel
theorem dL_law_832 : decode cL_law 832 = .ok (.istore 5, 2) := by decide +kernel
theorem dL_law_834 : decode cL_law 834 = .ok (.aload_n 2, 1) := by decide +kernel
theorem dL_law_835 : decode cL_law 835 = .ok (.aload_n 0, 1) := by decide +kernel
theorem dL_law_836 : decode cL_law 836 = .ok (.iload 4, 2) := by decide +kernel
theorem dL_law_838 : decode cL_law 838 = .ok (.iconst 1, 1) := by decide +kernel
theorem dL_law_839 : decode cL_law 839 = .ok (.iadd, 1) := by decide +kernel
theorem dL_law_840 : decode cL_law 840 = .ok (.iaload, 1) := by decide +kernel
theorem dL_law_841 : decode cL_law 841 = .ok (.aload_n 0, 1) := by decide +kernel
theorem dL_law_842 : decode cL_law 842 = .ok (.iload 4, 2) := by decide +kernel
theorem dL_law_844 : decode cL_law 844 = .ok (.iconst 2, 1) := by decide +kernel
theorem dL_law_845 : decode cL_law 845 = .ok (.iadd, 1) := by decide +kernel
theorem dL_law_846 : decode cL_law 846 = .ok (.iaload, 1) := by decide +kernel
theorem dL_law_847 : decode cL_law 847 = .ok (.invokevirtual 117, 3) := by decide +kernel
theorem dL_law_850 : decode cL_law 850 = .ok (.istore 6, 2) := by decide +kernel
theorem dL_law_852 : decode cL_law 852 = .ok (.aload_n 2, 1) := by decide +kernel
theorem dL_law_853 : decode cL_law 853 = .ok (.invokevirtual 72, 3) := by decide +kernel
theorem dL_law_856 : decode cL_law 856 = .ok (.iload 5, 2) := by decide +kernel
theorem dL_law_858 : decode cL_law 858 = .ok (.if_icmp .eq 5, 3) := by decide +kernel
theorem dL_law_861 : decode cL_law 861 = .ok (.iconst 0, 1) := by decide +kernel
theorem dL_law_862 : decode cL_law 862 = .ok (.ireturn, 1) := by decide +kernel
theorem dL_law_863 : decode cL_law 863 = .ok (.iload 5, 2) := by decide +kernel
theorem dL_law_865 : decode cL_law 865 = .ok (.ifCond .ne 15, 3) := by decide +kernel
theorem dL_law_868 : decode cL_law 868 = .ok (.aload_n 3, 1) := by decide +kernel
theorem dL_law_869 : decode cL_law 869 = .ok (.iconst 0, 1) := by decide +kernel
theorem dL_law_870 : decode cL_law 870 = .ok (.laload, 1) := by decide +kernel
theorem dL_law_871 : decode cL_law 871 = .ok (.iload 6, 2) := by decide +kernel
theorem dL_law_873 : decode cL_law 873 = .ok (.i2l, 1) := by decide +kernel
theorem dL_law_874 : decode cL_law 874 = .ok (.lcmp, 1) := by decide +kernel
theorem dL_law_875 : decode cL_law 875 = .ok (.ifCond .eq 5, 3) := by decide +kernel
theorem dL_law_878 : decode cL_law 878 = .ok (.iconst 0, 1) := by decide +kernel
theorem dL_law_879 : decode cL_law 879 = .ok (.ireturn, 1) := by decide +kernel
theorem dL_law_880 : decode cL_law 880 = .ok (.goto 305, 3) := by decide +kernel
theorem dL_law_883 : decode cL_law 883 = .ok (.aload_n 1, 1) := by decide +kernel
theorem dL_law_884 : decode cL_law 884 = .ok (.aload_n 0, 1) := by decide +kernel
theorem dL_law_885 : decode cL_law 885 = .ok (.iload 4, 2) := by decide +kernel
theorem dL_law_887 : decode cL_law 887 = .ok (.iconst 1, 1) := by decide +kernel
theorem dL_law_888 : decode cL_law 888 = .ok (.iadd, 1) := by decide +kernel
theorem dL_law_889 : decode cL_law 889 = .ok (.iaload, 1) := by decide +kernel
theorem dL_law_890 : decode cL_law 890 = .ok (.aload_n 3, 1) := by decide +kernel
theorem dL_law_891 : decode cL_law 891 = .ok (.invokestatic 118, 3) := by decide +kernel
theorem dL_law_894 : decode cL_law 894 = .ok (.istore 5, 2) := by decide +kernel
theorem dL_law_896 : decode cL_law 896 = .ok (.aload_n 2, 1) := by decide +kernel
theorem dL_law_897 : decode cL_law 897 = .ok (.aload_n 0, 1) := by decide +kernel
theorem dL_law_898 : decode cL_law 898 = .ok (.iload 4, 2) := by decide +kernel
theorem dL_law_900 : decode cL_law 900 = .ok (.iconst 1, 1) := by decide +kernel
theorem dL_law_901 : decode cL_law 901 = .ok (.iadd, 1) := by decide +kernel
theorem dL_law_902 : decode cL_law 902 = .ok (.iaload, 1) := by decide +kernel
theorem dL_law_903 : decode cL_law 903 = .ok (.invokevirtual 120, 3) := by decide +kernel
theorem dL_law_906 : decode cL_law 906 = .ok (.istore 6, 2) := by decide +kernel
theorem dL_law_908 : decode cL_law 908 = .ok (.aload_n 2, 1) := by decide +kernel
theorem dL_law_909 : decode cL_law 909 = .ok (.invokevirtual 72, 3) := by decide +kernel
theorem dL_law_912 : decode cL_law 912 = .ok (.iload 5, 2) := by decide +kernel
theorem dL_law_914 : decode cL_law 914 = .ok (.if_icmp .eq 5, 3) := by decide +kernel
theorem dL_law_917 : decode cL_law 917 = .ok (.iconst 0, 1) := by decide +kernel
theorem dL_law_918 : decode cL_law 918 = .ok (.ireturn, 1) := by decide +kernel
theorem dL_law_919 : decode cL_law 919 = .ok (.iload 5, 2) := by decide +kernel
theorem dL_law_921 : decode cL_law 921 = .ok (.ifCond .ne 15, 3) := by decide +kernel
theorem dL_law_924 : decode cL_law 924 = .ok (.aload_n 3, 1) := by decide +kernel
theorem dL_law_925 : decode cL_law 925 = .ok (.iconst 0, 1) := by decide +kernel
theorem dL_law_926 : decode cL_law 926 = .ok (.laload, 1) := by decide +kernel
theorem dL_law_927 : decode cL_law 927 = .ok (.iload 6, 2) := by decide +kernel
theorem dL_law_929 : decode cL_law 929 = .ok (.i2l, 1) := by decide +kernel
theorem dL_law_930 : decode cL_law 930 = .ok (.lcmp, 1) := by decide +kernel
theorem dL_law_931 : decode cL_law 931 = .ok (.ifCond .eq 5, 3) := by decide +kernel
theorem dL_law_934 : decode cL_law 934 = .ok (.iconst 0, 1) := by decide +kernel
theorem dL_law_935 : decode cL_law 935 = .ok (.ireturn, 1) := by decide +kernel
theorem dL_law_936 : decode cL_law 936 = .ok (.goto 249, 3) := by decide +kernel
theorem dL_law_939 : decode cL_law 939 = .ok (.aload_n 1, 1) := by decide +kernel
theorem dL_law_940 : decode cL_law 940 = .ok (.aload_n 0, 1) := by decide +kernel
theorem dL_law_941 : decode cL_law 941 = .ok (.iload 4, 2) := by decide +kernel
theorem dL_law_943 : decode cL_law 943 = .ok (.iconst 1, 1) := by decide +kernel
theorem dL_law_944 : decode cL_law 944 = .ok (.iadd, 1) := by decide +kernel
theorem dL_law_945 : decode cL_law 945 = .ok (.iaload, 1) := by decide +kernel
theorem dL_law_946 : decode cL_law 946 = .ok (.aload_n 0, 1) := by decide +kernel
theorem dL_law_947 : decode cL_law 947 = .ok (.iload 4, 2) := by decide +kernel
theorem dL_law_949 : decode cL_law 949 = .ok (.iconst 2, 1) := by decide +kernel
theorem dL_law_950 : decode cL_law 950 = .ok (.iadd, 1) := by decide +kernel
theorem dL_law_951 : decode cL_law 951 = .ok (.iaload, 1) := by decide +kernel
theorem dL_law_952 : decode cL_law 952 = .ok (.aload_n 3, 1) := by decide +kernel
theorem dL_law_953 : decode cL_law 953 = .ok (.invokestatic 121, 3) := by decide +kernel
theorem dL_law_956 : decode cL_law 956 = .ok (.istore 5, 2) := by decide +kernel
theorem dL_law_958 : decode cL_law 958 = .ok (.aload_n 2, 1) := by decide +kernel
theorem dL_law_959 : decode cL_law 959 = .ok (.aload_n 0, 1) := by decide +kernel
theorem dL_law_960 : decode cL_law 960 = .ok (.iload 4, 2) := by decide +kernel
theorem dL_law_962 : decode cL_law 962 = .ok (.iconst 1, 1) := by decide +kernel
theorem dL_law_963 : decode cL_law 963 = .ok (.iadd, 1) := by decide +kernel
theorem dL_law_964 : decode cL_law 964 = .ok (.iaload, 1) := by decide +kernel
theorem dL_law_965 : decode cL_law 965 = .ok (.aload_n 0, 1) := by decide +kernel
theorem dL_law_966 : decode cL_law 966 = .ok (.iload 4, 2) := by decide +kernel
theorem dL_law_968 : decode cL_law 968 = .ok (.iconst 2, 1) := by decide +kernel
theorem dL_law_969 : decode cL_law 969 = .ok (.iadd, 1) := by decide +kernel
theorem dL_law_970 : decode cL_law 970 = .ok (.iaload, 1) := by decide +kernel
theorem dL_law_971 : decode cL_law 971 = .ok (.invokevirtual 123, 3) := by decide +kernel
theorem dL_law_974 : decode cL_law 974 = .ok (.istore 6, 2) := by decide +kernel
theorem dL_law_976 : decode cL_law 976 = .ok (.aload_n 2, 1) := by decide +kernel
theorem dL_law_977 : decode cL_law 977 = .ok (.invokevirtual 72, 3) := by decide +kernel
theorem dL_law_980 : decode cL_law 980 = .ok (.iload 5, 2) := by decide +kernel
theorem dL_law_982 : decode cL_law 982 = .ok (.if_icmp .eq 5, 3) := by decide +kernel
theorem dL_law_985 : decode cL_law 985 = .ok (.iconst 0, 1) := by decide +kernel
theorem dL_law_986 : decode cL_law 986 = .ok (.ireturn, 1) := by decide +kernel
theorem dL_law_987 : decode cL_law 987 = .ok (.iload 5, 2) := by decide +kernel
theorem dL_law_989 : decode cL_law 989 = .ok (.ifCond .ne 15, 3) := by decide +kernel
theorem dL_law_992 : decode cL_law 992 = .ok (.aload_n 3, 1) := by decide +kernel
theorem dL_law_993 : decode cL_law 993 = .ok (.iconst 0, 1) := by decide +kernel
theorem dL_law_994 : decode cL_law 994 = .ok (.laload, 1) := by decide +kernel
theorem dL_law_995 : decode cL_law 995 = .ok (.iload 6, 2) := by decide +kernel
theorem dL_law_997 : decode cL_law 997 = .ok (.i2l, 1) := by decide +kernel
theorem dL_law_998 : decode cL_law 998 = .ok (.lcmp, 1) := by decide +kernel
theorem dL_law_999 : decode cL_law 999 = .ok (.ifCond .eq 5, 3) := by decide +kernel
theorem dL_law_1002 : decode cL_law 1002 = .ok (.iconst 0, 1) := by decide +kernel
theorem dL_law_1003 : decode cL_law 1003 = .ok (.ireturn, 1) := by decide +kernel
theorem dL_law_1004 : decode cL_law 1004 = .ok (.goto 181, 3) := by decide +kernel
theorem dL_law_1007 : decode cL_law 1007 = .ok (.aload_n 1, 1) := by decide +kernel
theorem dL_law_1008 : decode cL_law 1008 = .ok (.aload_n 0, 1) := by decide +kernel
theorem dL_law_1009 : decode cL_law 1009 = .ok (.iload 4, 2) := by decide +kernel
theorem dL_law_1011 : decode cL_law 1011 = .ok (.iconst 1, 1) := by decide +kernel
theorem dL_law_1012 : decode cL_law 1012 = .ok (.iadd, 1) := by decide +kernel
theorem dL_law_1013 : decode cL_law 1013 = .ok (.iaload, 1) := by decide +kernel
theorem dL_law_1014 : decode cL_law 1014 = .ok (.aload_n 0, 1) := by decide +kernel
theorem dL_law_1015 : decode cL_law 1015 = .ok (.iload 4, 2) := by decide +kernel
theorem dL_law_1017 : decode cL_law 1017 = .ok (.iconst 2, 1) := by decide +kernel
theorem dL_law_1018 : decode cL_law 1018 = .ok (.iadd, 1) := by decide +kernel
theorem dL_law_1019 : decode cL_law 1019 = .ok (.iaload, 1) := by decide +kernel
theorem dL_law_1020 : decode cL_law 1020 = .ok (.aload_n 3, 1) := by decide +kernel
theorem dL_law_1021 : decode cL_law 1021 = .ok (.invokestatic 124, 3) := by decide +kernel
theorem dL_law_1024 : decode cL_law 1024 = .ok (.istore 5, 2) := by decide +kernel
theorem dL_law_1026 : decode cL_law 1026 = .ok (.aload_n 2, 1) := by decide +kernel
theorem dL_law_1027 : decode cL_law 1027 = .ok (.aload_n 0, 1) := by decide +kernel
theorem dL_law_1028 : decode cL_law 1028 = .ok (.iload 4, 2) := by decide +kernel
theorem dL_law_1030 : decode cL_law 1030 = .ok (.iconst 1, 1) := by decide +kernel
theorem dL_law_1031 : decode cL_law 1031 = .ok (.iadd, 1) := by decide +kernel
theorem dL_law_1032 : decode cL_law 1032 = .ok (.iaload, 1) := by decide +kernel
theorem dL_law_1033 : decode cL_law 1033 = .ok (.aload_n 0, 1) := by decide +kernel
theorem dL_law_1034 : decode cL_law 1034 = .ok (.iload 4, 2) := by decide +kernel
theorem dL_law_1036 : decode cL_law 1036 = .ok (.iconst 2, 1) := by decide +kernel
theorem dL_law_1037 : decode cL_law 1037 = .ok (.iadd, 1) := by decide +kernel
theorem dL_law_1038 : decode cL_law 1038 = .ok (.iaload, 1) := by decide +kernel
theorem dL_law_1039 : decode cL_law 1039 = .ok (.invokevirtual 126, 3) := by decide +kernel
theorem dL_law_1042 : decode cL_law 1042 = .ok (.istore 6, 2) := by decide +kernel
theorem dL_law_1044 : decode cL_law 1044 = .ok (.aload_n 2, 1) := by decide +kernel
theorem dL_law_1045 : decode cL_law 1045 = .ok (.invokevirtual 72, 3) := by decide +kernel
theorem dL_law_1048 : decode cL_law 1048 = .ok (.iload 5, 2) := by decide +kernel
theorem dL_law_1050 : decode cL_law 1050 = .ok (.if_icmp .eq 5, 3) := by decide +kernel
theorem dL_law_1053 : decode cL_law 1053 = .ok (.iconst 0, 1) := by decide +kernel
theorem dL_law_1054 : decode cL_law 1054 = .ok (.ireturn, 1) := by decide +kernel
theorem dL_law_1055 : decode cL_law 1055 = .ok (.iload 5, 2) := by decide +kernel
theorem dL_law_1057 : decode cL_law 1057 = .ok (.ifCond .ne 15, 3) := by decide +kernel
theorem dL_law_1060 : decode cL_law 1060 = .ok (.aload_n 3, 1) := by decide +kernel
theorem dL_law_1061 : decode cL_law 1061 = .ok (.iconst 0, 1) := by decide +kernel
theorem dL_law_1062 : decode cL_law 1062 = .ok (.laload, 1) := by decide +kernel
theorem dL_law_1063 : decode cL_law 1063 = .ok (.iload 6, 2) := by decide +kernel
theorem dL_law_1065 : decode cL_law 1065 = .ok (.i2l, 1) := by decide +kernel
theorem dL_law_1066 : decode cL_law 1066 = .ok (.lcmp, 1) := by decide +kernel
theorem dL_law_1067 : decode cL_law 1067 = .ok (.ifCond .eq 5, 3) := by decide +kernel
theorem dL_law_1070 : decode cL_law 1070 = .ok (.iconst 0, 1) := by decide +kernel
theorem dL_law_1071 : decode cL_law 1071 = .ok (.ireturn, 1) := by decide +kernel
theorem dL_law_1072 : decode cL_law 1072 = .ok (.goto 113, 3) := by decide +kernel
theorem dL_law_1075 : decode cL_law 1075 = .ok (.aload_n 1, 1) := by decide +kernel
theorem dL_law_1076 : decode cL_law 1076 = .ok (.aload_n 0, 1) := by decide +kernel
theorem dL_law_1077 : decode cL_law 1077 = .ok (.iload 4, 2) := by decide +kernel
theorem dL_law_1079 : decode cL_law 1079 = .ok (.iconst 1, 1) := by decide +kernel
theorem dL_law_1080 : decode cL_law 1080 = .ok (.iadd, 1) := by decide +kernel
theorem dL_law_1081 : decode cL_law 1081 = .ok (.iaload, 1) := by decide +kernel
theorem dL_law_1082 : decode cL_law 1082 = .ok (.aload_n 3, 1) := by decide +kernel
theorem dL_law_1083 : decode cL_law 1083 = .ok (.invokestatic 127, 3) := by decide +kernel
theorem dL_law_1086 : decode cL_law 1086 = .ok (.istore 5, 2) := by decide +kernel
theorem dL_law_1088 : decode cL_law 1088 = .ok (.aload_n 2, 1) := by decide +kernel
theorem dL_law_1089 : decode cL_law 1089 = .ok (.aload_n 0, 1) := by decide +kernel
theorem dL_law_1090 : decode cL_law 1090 = .ok (.iload 4, 2) := by decide +kernel
theorem dL_law_1092 : decode cL_law 1092 = .ok (.iconst 1, 1) := by decide +kernel
theorem dL_law_1093 : decode cL_law 1093 = .ok (.iadd, 1) := by decide +kernel
theorem dL_law_1094 : decode cL_law 1094 = .ok (.iaload, 1) := by decide +kernel
theorem dL_law_1095 : decode cL_law 1095 = .ok (.invokevirtual 129, 3) := by decide +kernel
theorem dL_law_1098 : decode cL_law 1098 = .ok (.lstore 6, 2) := by decide +kernel
theorem dL_law_1100 : decode cL_law 1100 = .ok (.aload_n 2, 1) := by decide +kernel
theorem dL_law_1101 : decode cL_law 1101 = .ok (.invokevirtual 72, 3) := by decide +kernel
theorem dL_law_1104 : decode cL_law 1104 = .ok (.iload 5, 2) := by decide +kernel
theorem dL_law_1106 : decode cL_law 1106 = .ok (.if_icmp .eq 5, 3) := by decide +kernel
theorem dL_law_1109 : decode cL_law 1109 = .ok (.iconst 0, 1) := by decide +kernel
theorem dL_law_1110 : decode cL_law 1110 = .ok (.ireturn, 1) := by decide +kernel
theorem dL_law_1111 : decode cL_law 1111 = .ok (.iload 5, 2) := by decide +kernel
theorem dL_law_1113 : decode cL_law 1113 = .ok (.ifCond .ne 14, 3) := by decide +kernel
theorem dL_law_1116 : decode cL_law 1116 = .ok (.aload_n 3, 1) := by decide +kernel
theorem dL_law_1117 : decode cL_law 1117 = .ok (.iconst 0, 1) := by decide +kernel
theorem dL_law_1118 : decode cL_law 1118 = .ok (.laload, 1) := by decide +kernel
theorem dL_law_1119 : decode cL_law 1119 = .ok (.lload 6, 2) := by decide +kernel
theorem dL_law_1121 : decode cL_law 1121 = .ok (.lcmp, 1) := by decide +kernel
theorem dL_law_1122 : decode cL_law 1122 = .ok (.ifCond .eq 5, 3) := by decide +kernel
theorem dL_law_1125 : decode cL_law 1125 = .ok (.iconst 0, 1) := by decide +kernel
theorem dL_law_1126 : decode cL_law 1126 = .ok (.ireturn, 1) := by decide +kernel
theorem dL_law_1127 : decode cL_law 1127 = .ok (.goto 58, 3) := by decide +kernel
theorem dL_law_1130 : decode cL_law 1130 = .ok (.aload_n 1, 1) := by decide +kernel
theorem dL_law_1131 : decode cL_law 1131 = .ok (.invokevirtual 130, 3) := by decide +kernel
theorem dL_law_1134 : decode cL_law 1134 = .ok (.dstore 5, 2) := by decide +kernel
theorem dL_law_1136 : decode cL_law 1136 = .ok (.aload_n 2, 1) := by decide +kernel
theorem dL_law_1137 : decode cL_law 1137 = .ok (.invokevirtual 134, 3) := by decide +kernel
theorem dL_law_1140 : decode cL_law 1140 = .ok (.dstore 7, 2) := by decide +kernel
theorem dL_law_1142 : decode cL_law 1142 = .ok (.dload 5, 2) := by decide +kernel
theorem dL_law_1144 : decode cL_law 1144 = .ok (.dload 7, 2) := by decide +kernel
theorem dL_law_1146 : decode cL_law 1146 = .ok (.dcmp .l, 1) := by decide +kernel
theorem dL_law_1147 : decode cL_law 1147 = .ok (.ifCond .eq 21, 3) := by decide +kernel
theorem dL_law_1150 : decode cL_law 1150 = .ok (.dload 5, 2) := by decide +kernel
theorem dL_law_1152 : decode cL_law 1152 = .ok (.dload 5, 2) := by decide +kernel
theorem dL_law_1154 : decode cL_law 1154 = .ok (.dcmp .l, 1) := by decide +kernel
theorem dL_law_1155 : decode cL_law 1155 = .ok (.ifCond .eq 11, 3) := by decide +kernel
theorem dL_law_1158 : decode cL_law 1158 = .ok (.dload 7, 2) := by decide +kernel
theorem dL_law_1160 : decode cL_law 1160 = .ok (.dload 7, 2) := by decide +kernel
theorem dL_law_1162 : decode cL_law 1162 = .ok (.dcmp .l, 1) := by decide +kernel
theorem dL_law_1163 : decode cL_law 1163 = .ok (.ifCond .ne 5, 3) := by decide +kernel
theorem dL_law_1166 : decode cL_law 1166 = .ok (.iconst 0, 1) := by decide +kernel
theorem dL_law_1167 : decode cL_law 1167 = .ok (.ireturn, 1) := by decide +kernel
theorem dL_law_1168 : decode cL_law 1168 = .ok (.goto 17, 3) := by decide +kernel
theorem dL_law_1171 : decode cL_law 1171 = .ok (.aload_n 1, 1) := by decide +kernel
theorem dL_law_1172 : decode cL_law 1172 = .ok (.invokevirtual 135, 3) := by decide +kernel
theorem dL_law_1175 : decode cL_law 1175 = .ok (.aload_n 2, 1) := by decide +kernel
theorem dL_law_1176 : decode cL_law 1176 = .ok (.invokevirtual 139, 3) := by decide +kernel
theorem dL_law_1179 : decode cL_law 1179 = .ok (.lcmp, 1) := by decide +kernel
theorem dL_law_1180 : decode cL_law 1180 = .ok (.ifCond .eq 5, 3) := by decide +kernel
theorem dL_law_1183 : decode cL_law 1183 = .ok (.iconst 0, 1) := by decide +kernel
theorem dL_law_1184 : decode cL_law 1184 = .ok (.ireturn, 1) := by decide +kernel
theorem dL_law_1185 : decode cL_law 1185 = .ok (.iinc 4 5, 3) := by decide +kernel
theorem dL_law_1188 : decode cL_law 1188 = .ok (.goto (-1165), 3) := by decide +kernel
theorem dL_law_1191 : decode cL_law 1191 = .ok (.iconst 1, 1) := by decide +kernel
theorem dL_law_1192 : decode cL_law 1192 = .ok (.ireturn, 1) := by decide +kernel
abbrev vwCl : List vw_C := [(RJx4a65c, TJx4a65c, 3), (RX0, TX0, 4), (RX1, TX1, 3), (RX2, TX2, 2), (RX3, TX3, 6), (RX4, TX4, 11), (RX5, TX5, 17)]
end
section
/-! The general rows of this proof: the words of the tables, what every method is given (xE), a cell written (xUp), a cell made (xNw), calls that only read and calls that write. -/
def xWok (w : Cond) : Bool := goodWord w || (match w with
  | .methodLinkNest .. => true
  | .fieldLinkNest .. => true
  | .declares _ => true
  | .castable .. => true
  | _ => false)
def xTs : List Cond := lw_tbl.filter xWok
theorem xTs_of {w : Cond} (h : w ∈ lw_tbl) (k : xWok w = true) : w ∈ xTs := List.mem_filter.mpr ⟨h, k⟩
theorem xTs_t {w : Cond} (i : Nat) (h : tables_1[i]? = some w) (k : xWok w = true) : w ∈ xTs := xTs_of (List.mem_append_right _ (List.mem_of_getElem? h)) k
theorem xTs_s {w : Cond} (i : Nat) (h : (k2_sels lw_privs)[i]? = some w) (k : xWok w = true) : w ∈ xTs := xTs_of (List.mem_append_left _ (List.mem_of_getElem? h)) k
theorem xGood {w : Cond} (h : w ∈ xTs) (k : goodWord w = true) : w ∈ xTs ∧ ((w.onTables && w.keeps) = true ∨ ∃ ty, w = .arrayClass ty) := ⟨h, good_of_word k⟩
def xWd (U : State) : Prop := ∀ w ∈ xTs, w.before #[] U = true
theorem xWd.warm {s U : State} (hW : s.WarmedH U.vm) (h : xWd s) : xWd U := by
  intro w hw
  have h1 := h w hw
  have h2 : xWok w = true := (List.mem_filter.mp hw).2
  by_cases g : goodWord w = true
  · exact word_at hW (good_of_word g) h1
  · have g' : goodWord w = false := by cases hg : goodWord w <;> first | rfl | exact absurd hg g
    unfold xWok at h2
    rw [g', Bool.false_or] at h2
    cases w <;> first | exact va_Nw.warmM hW h1 | exact va_Nw.warmF hW h1 | exact va_Nw.warmD hW h1 | exact va_Nw.warmC hW h1 | (simp at h2)
theorem xWd.all {s : State} (h : xWd s) (args : Array Value) : ∀ w ∈ xTs, w.before args s = true := by
  intro w hw
  have h1 := h w hw
  have h2 : xWok w = true := (List.mem_filter.mp hw).2
  by_cases g : goodWord w = true
  · exact word_at (State.WarmedH.refl s) (good_of_word g) h1
  · have g' : goodWord w = false := by cases hg : goodWord w <;> first | rfl | exact absurd hg g
    unfold xWok at h2
    rw [g', Bool.false_or] at h2
    cases w <;> first | exact va_tabs rfl rfl h1 | (simp at h2)
/-- the array types of the worlds -/
def xTy (cA : Nat → ClassId) : List (ClassId × FieldType) := [(cA 0, .int), (cA 1, .long), (cA 2, .object "java/lang/Object"), (cA 3, .object "VendingRounds$Slot")]
def xStr : List (Nat × String) := [(43, "the limit is not 100 to 100000"), (54, "there are 8 machines"), (75, "there is no such machine"), (78, "a and b are the same"), (80, "minutes is not 1 to 200"), (235, "product is not 0 to 5"), (94, "capacity is not 0 to 30"), (96, "demand is not 0 to 20"), (118, "day is less than today, or greater than 999"), (120, "price is not 1 to 1000"), (125, "20 changes are planned for later days"), (132, "what is not 0 to 5"), (142, "what is not 0 to 4"), (145, "days is not 1 to 30"), (147, "it would be later than day 999"), (237, "machines contains something that is no machine"), (166, "there is no such place in the order"), (180, "limit is not 0 to 5000"), (239, "load is not 0 to 2000"), (204, "what is not 0 to 3")]
/-- what every method is given of the machine: the words, the classes, the statics that nobody writes, the texts -/
def xE (D : va_G) (cA : Nat → ClassId) (e0 : Nat) (A : Nat → Prop) (H0 : Heap) (U : State) : Prop :=
  xWd U ∧ va_K D vwCl (xTy cA) U ∧ vx_Zq Bundle.tN "UNASSIGNED_STACK" Bundle.steD A U H0 ∧ vx_Zq Bundle.tN "SUPPRESSED_SENTINEL" Bundle.listD A U H0 ∧ va_Z "java/util/ArrayList" "DEFAULTCAPACITY_EMPTY_ELEMENTDATA" "[Ljava/lang/Object;" (.ref e0) A U H0 ∧ va_T (.object "java/lang/Object") e0 0 (fun _ => .null) A U H0 ∧ va_AO "java/lang/Object" U ∧ va_AO "VendingRounds$Slot" U ∧ (∃ mi, va_Mi "[Ljava/lang/Object;" mi U) ∧ ∀ q ∈ xStr, ∃ a, vk_R RX4 q.1 q.2 a U
theorem xE.warm {D : va_G} {cA : Nat → ClassId} {e0 : Nat} {A : Nat → Prop} {H0 : Heap} {s U : State} (hW : s.WarmedH U.vm) (h : xE D cA e0 A H0 s) : xE D cA e0 A H0 U := by
  obtain ⟨h1, h2, h3, h4, h5, h6, h7, h8, ⟨mi, h9⟩, h10⟩ := h
  exact ⟨h1.warm hW, va_K.moved hW.alike h2, vx_Zq.moved hW.alike h3, vx_Zq.moved hW.alike h4, va_Z.moved hW.alike h5, va_T.moved hW.alike h6, va_AO.moved hW.alike h7, va_AO.moved hW.alike h8, ⟨mi, va_Mi.moved hW.alike h9⟩, fun q hq => (h10 q hq).imp (fun _ h => vk_R.warm hW h)⟩
theorem xE.kept {D : va_G} {cA : Nat → ClassId} {e0 : Nat} {A : Nat → Prop} {H0 H : Heap} {s : State} (h : xE D cA e0 A H0 s) (hq : ∀ a : Nat, a < H0.size → ¬ A a → H[a]? = H0[a]?) : xE D cA e0 A H s := by
  obtain ⟨h1, h2, h3, h4, h5, h6, h7, h8, h9, h10⟩ := h
  exact ⟨h1, h2, vx_Zq.kept h3 hq, vx_Zq.kept h4 hq, va_Z.kept h5 hq, va_T.kept h6 hq, h7, h8, h9, h10⟩
theorem xE.narrow {D : va_G} {cA : Nat → ClassId} {e0 : Nat} {A B : Nat → Prop} {H0 : Heap} {s : State} (h : xE D cA e0 A H0 s) (hAB : ∀ q, B q → A q) : xE D cA e0 B H0 s := by
  obtain ⟨h1, h2, h3, h4, h5, h6, h7, h8, h9, h10⟩ := h
  exact ⟨h1, h2, vx_Zq.narrow h3 hAB, vx_Zq.narrow h4 hAB, va_Z.narrow h5 hAB, va_T.narrow h6 hAB, h7, h8, h9, h10⟩
/-- a method's start: its arguments, the heap, what it is given -/
abbrev xPc (D : va_G) (cA : Nat → ClassId) (e0 : Nat) (A : Nat → Prop) (H0 : Heap) (As : List Value) : Array Value → State → Prop := va_Pc As (fun U => U.heap = H0 ∧ xE D cA e0 A H0 U)
theorem xpS {D : va_G} {cA : Nat → ClassId} {e0 : Nat} {A : Nat → Prop} {s : State} {H : Heap} {locs : List Loc} {As : List Value} (hE : xE D cA e0 A s.heap s) (hS : va_S A s.heap H locs) : PreS s H (xPc D cA e0 A H As) As :=
  ⟨fun a U g mk q => ⟨q.1, q.2.1, q.2.2.warm (U := U.calling g mk a) (State.WarmedH.refl U)⟩, fun U hU hW => ⟨rfl, hU, (hE.kept hS.2.1).warm hW⟩⟩
theorem xpV {D : va_G} {cA : Nat → ClassId} {e0 : Nat} {A : Nat → Prop} {s : State} {H : Heap} {locs : List Loc} {As : List Value} {b ci : Nat} {fs : List Value} {q : vw_C} (hE : xE D cA e0 A s.heap s) (hS : va_S A s.heap H locs) (hb : va_at D vwCl (b, .inr (ci, fs)) H) (hc : vwCl[ci]? = some q) : PreV s H q.1 b (xPc D cA e0 A H (.ref b :: As)) As :=
  ⟨fun a U g mk q => ⟨q.1, q.2.1, q.2.2.warm (U := U.calling g mk a) (State.WarmedH.refl U)⟩, va_recv (ws := [(b, .inr (ci, fs))]) hE.2.1 (fun k x hx => by
    have hz : k < 1 := (List.getElem?_eq_some_iff.mp hx).1
    obtain rfl : k = 0 := by omega
    cases hx
    exact hb) hc (q0 := 0) rfl, fun U hU hW => ⟨rfl, hU, (hE.kept hS.2.1).warm hW⟩⟩
/-- one cell as a world -/
theorem xP1 {D : va_G} {H : Heap} {a : Nat} {e : va_E} (h : va_at D vwCl (a, e) H) : va_P D vwCl [(a, e)] H := fun k x hx => by
  have hz : k < 1 := (List.getElem?_eq_some_iff.mp hx).1
  obtain rfl : k = 0 := by omega
  cases hx
  exact h
/-- H1 is H but for the cell a, which now holds e -/
def xUp (D : va_G) (a : Nat) (e : va_E) (H H1 : Heap) : Prop := va_at D vwCl (a, e) H1 ∧ H1.size = H.size ∧ ∀ q, q ≠ a → H1[q]? = H[q]?
/-- H1 is H and one cell more, q, which holds e -/
def xNw (D : va_G) (q : Nat) (e : va_E) (H H1 : Heap) : Prop := va_at D vwCl (q, e) H1 ∧ q = H.size ∧ H1.size = H.size + 1 ∧ ∀ x, x < H.size → H1[x]? = H[x]?
section XB
variable {p : Program} {l : Launch} {e : Env} {R : Room} {s : State} {m : MethodId} {args : Array Value} {below : List Frame} {meth : Method} {c : Code} {H : Heap} {locs : List Loc} {cells slots : Nat} {Q : State → Prop}
variable {cc : ByteArray} {pc : Nat} {ls : Array Slot} {rest : List Value} {D : va_G} {A : Nat → Prop} {a : Nat} {tys : List (ClassId × FieldType)} {H0 : Heap}
theorem xtop {x y : Int32} (h : x = y) (k : W p l e R s m args below meth c H locs cells slots Q (F0 m pc ls (.int y :: rest))) : W p l e R s m args below meth c H locs cells slots Q (F0 m pc ls (.int x :: rest)) := h ▸ k
theorem xtopL {x y : Int64} (h : x = y) (k : W p l e R s m args below meth c H locs cells slots Q (F0 m pc ls (.long y :: rest))) : W p l e R s m args below meth c H locs cells slots Q (F0 m pc ls (.long x :: rest)) := h ▸ k
theorem xtopv {x y : Value} (h : x = y) (k : W p l e R s m args below meth c H locs cells slots Q (F0 m pc ls (y :: rest))) : W p l e R s m args below meth c H locs cells slots Q (F0 m pc ls (x :: rest)) := h ▸ k
theorem xput (hexec : p.tables.exec = Jvm.exec) (hb : c.code = cc) {own ref C : String} {T : u_T} {N ci index : Nat} {Ts : List Cond} (hts : ∀ w ∈ Ts, w.before args s = true) (hin : ∀ w ∈ u_ws C T N, w ∈ Ts) (ty0 : Nat → FieldType) (hty : ∀ k, k < N → parseFieldDescriptor (T k).2.2.1 = some (ty0 k)) (hnm : ∀ a, a < N → ∀ b, b < N → a ≠ b → (T a).2.1 ≠ (T b).2.1) (hown : s.vm.findClass own = some m.cls) (hK : va_K D vwCl tys s) (hS0 : va_S A H0 H locs) {fs : List Value} (he : va_at D vwCl (a, .inr (ci, fs)) H) (hAa : A a) (hc : vwCl[ci]? = some (C, T, N)) (k : Nat) (hk : k < N) (hlink : (Cond.fieldLink own index ref (T k).2.1 (T k).2.2.1).before args s = true) (hsame : ∀ x, s.fieldFound? (T k).1 (T k).2.1 (T k).2.2.1 = some x → s.fieldFound? ref (T k).2.1 (T k).2.2.1 = some x) (hfin : (T k).2.2.2 = false) {ty : FieldType} {v : Value} (hd : parseFieldDescriptor (T k).2.2.1 = some ty) (hn : narrow ty v = v) (hfit : fits ty v = true) (hl : k < fs.length)
    (hdg : decode cc pc = .ok (.putfield index, 3)) (kk : ∀ (H1 : Heap) (locs1 : List Loc), xUp D a (.inr (ci, fs.set k v)) H H1 → va_S A H0 H1 locs1 → W p l e R s m args below meth c H1 locs1 cells slots Q (F0 m (pc + 3) ls rest)) : W p l e R s m args below meth c H locs cells slots Q (F0 m pc ls (v :: .ref a :: rest)) := by
  have hap := va_apart (own := own) hts hin ty0 hty hnm hK hc
  obtain ⟨r, h1, cell, q1, q2, q3, q4⟩ := he
  obtain rfl : r = (C, T, N) := Option.some.inj (h1.symm.trans hc)
  obtain ⟨hS, hfc, kC, hkC, hkind⟩ := hK.1 ci _ hc
  obtain ⟨cf, kf, fi, f, hi, hsl⟩ := hS k hk
  have hlay := hts _ (hin _ (u_in_lay hk))
  unfold u_lay at hlay
  rw [if_neg (by rw [hfin]; decide)] at hlay
  have hst := (u_facts hfc hkC (u_lays hts hin hk) hi).1
  have h6 := u_store hfc hkC hkind hlay hi hd hn hfit
  refine W.putK hexec hb (f := f) ⟨hown, hlink, ⟨_, _, _, hsame _ hi⟩, hst⟩ (by rw [q2]; exact h6) q1 q3 (by rw [hsl]; exact k2_hasslot (q4 k hk)) rfl rfl hdg fun H' e1 e2 e3 => ?_
  rw [hsl] at e1 ⊢
  exact kk H' _ ⟨⟨_, hc, t_OB.to (V := updV (vp_V fs) k v) ⟨_, e1, q2, q3, t_set q4 hap hk v⟩ (fun j _ => vp_updV_set hl v j)⟩, e2, e3⟩ (hS0.put e2 e3 hAa)
theorem xputF (hexec : p.tables.exec = Jvm.exec) (hb : c.code = cc) {own ref C : String} {T : u_T} {N ci index : Nat} {Ts : List Cond} (hts : ∀ w ∈ Ts, w.before args s = true) (hin : ∀ w ∈ u_ws C T N, w ∈ Ts) (ty0 : Nat → FieldType) (hty : ∀ k, k < N → parseFieldDescriptor (T k).2.2.1 = some (ty0 k)) (hnm : ∀ a, a < N → ∀ b, b < N → a ≠ b → (T a).2.1 ≠ (T b).2.1) (hown : s.vm.findClass own = some m.cls) (hK : va_K D vwCl tys s) (hS0 : va_S A H0 H locs) {fs : List Value} (he : va_at D vwCl (a, .inr (ci, fs)) H) (hAa : A a) (hc : vwCl[ci]? = some (C, T, N)) (k : Nat) (hk : k < N) (hlink : (Cond.fieldLink own index ref (T k).2.1 (T k).2.2.1).before args s = true) (hsame : ∀ x, s.fieldFound? (T k).1 (T k).2.1 (T k).2.2.1 = some x → s.fieldFound? ref (T k).2.1 (T k).2.2.1 = some x) (hfin : (T k).2.2.2 = true) (hin2 : meth.name = "<init>") (hdecl : (T k).1 = own) {ty : FieldType} {v : Value} (hd : parseFieldDescriptor (T k).2.2.1 = some ty) (hn : narrow ty v = v) (hfit : fits ty v = true) (hl : k < fs.length)
    (hdg : decode cc pc = .ok (.putfield index, 3)) (kk : ∀ (H1 : Heap) (locs1 : List Loc), xUp D a (.inr (ci, fs.set k v)) H H1 → va_S A H0 H1 locs1 → W p l e R s m args below meth c H1 locs1 cells slots Q (F0 m (pc + 3) ls rest)) : W p l e R s m args below meth c H locs cells slots Q (F0 m pc ls (v :: .ref a :: rest)) := by
  have hap := va_apart (own := own) hts hin ty0 hty hnm hK hc
  obtain ⟨r, h1, cell, q1, q2, q3, q4⟩ := he
  obtain rfl : r = (C, T, N) := Option.some.inj (h1.symm.trans hc)
  obtain ⟨hS, hfc, kC, hkC, hkind⟩ := hK.1 ci _ hc
  obtain ⟨cf, kf, fi, f, hi, hsl⟩ := hS k hk
  have hlay := hts _ (hin _ (u_in_lay hk))
  unfold u_lay at hlay
  rw [if_pos hfin] at hlay
  have hst := (u_facts hfc hkC (u_lays hts hin hk) hi).1
  have hcf : m.cls = cf := by
    obtain ⟨_, _, c', _, _, _, -, -, hf', -, -, -, hown2, -⟩ := Cond.laysFinal_spec hlay
    have e1 : c' = cf := by have := hi.symm.trans hf'; simp at this; exact this.1.symm
    rw [hdecl] at hown2
    rw [← e1]; exact Option.some.inj (hown.symm.trans hown2)
  have h6 := u_fits hfc hkC hkind (Or.inr hlay) hi hd hn hfit
  refine W.putFinK hexec hb hown hlink (hsame _ hi) hst hcf hin2 (by rw [q2]; exact h6) q1 q3 (by rw [hsl]; exact k2_hasslot (q4 k hk)) rfl rfl hdg fun H' e1 e2 e3 => ?_
  rw [hsl] at e1 ⊢
  exact kk H' _ ⟨⟨_, hc, t_OB.to (V := updV (vp_V fs) k v) ⟨_, e1, q2, q3, t_set q4 hap hk v⟩ (fun j _ => vp_updV_set hl v j)⟩, e2, e3⟩ (hS0.put e2 e3 hAa)
theorem xiast (hexec : p.tables.exec = Jvm.exec) (hb : c.code = cc) (hK : va_K D vwCl tys s) (hS : va_S A H0 H locs) (t0 : Nat) {cA : ClassId} {n : Nat} {f : Nat → Int32} (ha : va_at D vwCl (a, .inl (cA, n, .inl f)) H) (hAa : A a) (ht : tys[t0]? = some (cA, .int)) {i : Int32} {x : Int32} (hin : vp_in i n) (hdg : decode cc pc = .ok (.iastore, 1))
    (kk : ∀ (H1 : Heap) (locs1 : List Loc), xUp D a (.inl (cA, n, .inl (upd f i.toNatClampNeg x))) H H1 → va_S A H0 H1 locs1 → W p l e R s m args below meth c H1 locs1 cells slots Q (F0 m (pc + 1) ls rest)) : W p l e R s m args below meth c H locs cells slots Q (F0 m pc ls (.int x :: .int i :: .ref a :: rest)) := by
  refine W.iast hexec hb ha ((hK.2 t0 _ ht).1 n (fun j => .int (f j))) (fun q => by cases q) (by show ¬ (i < 0 ∨ (arrV _ _ _).slots.size ≤ _); rw [arrV_size]; exact hin) rfl rfl hdg fun H1 e z oq => ?_
  refine kk H1 _ ⟨?_, z, oq⟩ (hS.put z oq hAa)
  show H1[a]? = some (vp_cell _ _)
  rw [e]
  rw [vp_cell_i, vp_cell_i, arrV_store]
  congr 2
  funext q
  by_cases hq : q = i.toNatClampNeg <;> simp [updV, upd, hq]
theorem xlast (hexec : p.tables.exec = Jvm.exec) (hb : c.code = cc) (hK : va_K D vwCl tys s) (hS : va_S A H0 H locs) (t0 : Nat) {cA : ClassId} {n : Nat} {f : Nat → Int64} (ha : va_at D vwCl (a, .inl (cA, n, .inr (.inl f))) H) (hAa : A a) (ht : tys[t0]? = some (cA, .long)) {i : Int32} {x : Int64} (hin : vp_in i n) (hdg : decode cc pc = .ok (.lastore, 1))
    (kk : ∀ (H1 : Heap) (locs1 : List Loc), xUp D a (.inl (cA, n, .inr (.inl (vp_updL f i.toNatClampNeg x)))) H H1 → va_S A H0 H1 locs1 → W p l e R s m args below meth c H1 locs1 cells slots Q (F0 m (pc + 1) ls rest)) : W p l e R s m args below meth c H locs cells slots Q (F0 m pc ls (.long x :: .int i :: .ref a :: rest)) := by
  refine W.last hexec hb ha ((hK.2 t0 _ ht).1 n (fun j => .long (f j))) (fun q => by cases q) (by show ¬ (i < 0 ∨ (arrV _ _ _).slots.size ≤ _); rw [arrV_size]; exact hin) rfl rfl hdg fun H1 e z oq => ?_
  refine kk H1 _ ⟨?_, z, oq⟩ (hS.put z oq hAa)
  show H1[a]? = some (vp_cell _ _)
  rw [e]
  rw [vp_cell_l, vp_cell_l, arrV_store]
  congr 2
  funext q
  by_cases hq : q = i.toNatClampNeg <;> simp [updV, vp_updL, hq]
theorem xnew {c0 : Code} (hexec : p.tables.exec = Jvm.exec) (hb : c0.code = cc) {own C : String} {T : u_T} {N ci index : Nat} {Ts : List Cond} (hts : ∀ w ∈ Ts, w.before args s = true) (hin : ∀ w ∈ u_ws C T N, w ∈ Ts) (ty : Nat → FieldType) (hty : ∀ k, k < N → parseFieldDescriptor (T k).2.2.1 = some (ty k)) (hown : s.vm.findClass own = some m.cls) (hcl : (Cond.classLink own index C).before args s = true) (hinst : (Cond.instantiable C N).before args s = true) (hini : (Cond.initialized C).before args s = true)
    (hK : va_K D vwCl tys s) (hS : va_S A H0 H locs) (hc : vwCl[ci]? = some (C, T, N)) {fs : List Value} (hfs : ∀ j, j < N → defaultValue (ty j) = vp_V fs j) (hcells : cells + 1 ≤ R.cells) (hslots : slots + N ≤ R.slots) (hdg : decode cc pc = .ok (.new index, 3))
    (kk : ∀ (q : Nat) (H1 : Heap), xNw D q (.inr (ci, fs)) H H1 → va_S A H0 H1 locs → W p l e R s m args below meth c0 H1 locs (cells + 1) (slots + N) Q (F0 m (pc + 3) ls (.ref q :: rest))) : W p l e R s m args below meth c0 H locs cells slots Q (F0 m pc ls rest) := by
  have hKn := hK.1 ci _ hc
  refine W.newcK hexec hb hown hcl hinst hini rfl hdg hcells hslots hKn.2.1 rfl fun H1 kC hkC e1 z1 o1 => ?_
  exact kk H.size H1 ⟨⟨_, hc, (u_born ty hts hin hKn hkC e1 hty).to hfs⟩, rfl, z1, o1⟩ ⟨Nat.le_trans hS.1 (by omega), fun x h1 h2 => (o1 x (Nat.lt_of_lt_of_le h1 hS.1)).trans (hS.2.1 x h1 h2), hS.2.2⟩
theorem xnewa (hexec : p.tables.exec = Jvm.exec) (hb : c.code = cc) {atype : ArrayType} (harr : (Cond.arrayClass (newarray.typeOf atype)).before args s = true) {ty : FieldType} (hty : newarray.typeOf atype = ty) (hra : ty = .int ∨ ty = .long) (hK : va_K D vwCl tys s) (hS : va_S A H0 H locs) (t0 : Nat) {cA : ClassId} (ht : tys[t0]? = some (cA, ty))
    {n : Int32} {N' : Nat} {a0 : vp_A} (ha : ∀ cA : ClassId, vp_cell cA a0 = arrV cA N' (fun _ => defaultValue ty)) (hn : ¬ n < 0) (hN : n.toNatClampNeg = N') (hbytes : N' * componentBytes ty ≤ 536870912) (hcells : cells + 1 ≤ R.cells) (hslots : slots + N' ≤ R.slots) (hdg : decode cc pc = .ok (.newarray atype, 2))
    (kk : ∀ (q : Nat) (H1 : Heap), xNw D q (.inl (cA, a0)) H H1 → va_S A H0 H1 locs → W p l e R s m args below meth c H1 locs (cells + 1) (slots + N') Q (F0 m (pc + 2) ls (.ref q :: rest))) : W p l e R s m args below meth c H locs cells slots Q (F0 m pc ls (.int n :: rest)) := by
  subst hty
  refine va_newaK hexec hb harr rfl hdg rfl hn hN hbytes hcells hslots rfl fun H1 cA' e1 z1 o1 hAr hNm => ?_
  have hcc : cA' = cA := by
    have h2 := (hK.2 t0 _ ht).2
    have h3 : s.vm.findClass ("[" ++ (newarray.typeOf atype).toString) = some cA := by
      generalize newarray.typeOf atype = tt at h2 hra
      rcases hra with rfl | rfl
      · exact h2
      · exact h2
    exact Option.some.inj (hNm.symm.trans h3)
  subst hcc
  refine kk H.size H1 ⟨?_, rfl, z1, o1⟩ ⟨Nat.le_trans hS.1 (by omega), fun x h1 h2 => (o1 x (Nat.lt_of_lt_of_le h1 hS.1)).trans (hS.2.1 x h1 h2), hS.2.2⟩
  show H1[H.size]? = some (vp_cell _ _)
  rw [ha]
  exact e1
theorem xnewq (hexec : p.tables.exec = Jvm.exec) (hb : c.code = cc) {own C : String} {index : Nat} (hown : s.vm.findClass own = some m.cls) (hclink : (Cond.classLink own index C).before args s = true) (hover : va_AO C s) (hK : va_K D vwCl tys s) (hS : va_S A H0 H locs) (t0 : Nat) {cA : ClassId} (ht : tys[t0]? = some (cA, .object C))
    {n : Int32} {N' : Nat} (hn : ¬ n < 0) (hN : n.toNatClampNeg = N') (hbytes : N' * 4 ≤ 536870912) (hcells : cells + 1 ≤ R.cells) (hslots : slots + N' ≤ R.slots) (hdg : decode cc pc = .ok (.anewarray index, 3))
    (kk : ∀ (q : Nat) (H1 : Heap), xNw D q (.inl (cA, N', .inr (.inr (.inr (.inr (fun _ => none)))))) H H1 → va_S A H0 H1 locs → W p l e R s m args below meth c H1 locs (cells + 1) (slots + N') Q (F0 m (pc + 3) ls (.ref q :: rest))) : W p l e R s m args below meth c H locs cells slots Q (F0 m pc ls (.int n :: rest)) := by
  subst hN
  refine W.anew hexec hb hown hclink (va_AO.use hover) rfl hdg rfl hn hbytes hcells hslots fun cA' kA comp f1 f2 f3 f4 => ?_
  have hcc : cA' = cA := Option.some.inj (f1.symm.trans (va_nmO (hK.2 t0 _ ht).2 rfl))
  subst hcc
  generalize hH1 : H.push ({ cls := cA', slots := Array.replicate n.toNatClampNeg .null, vm := .none } : Cell) = H1
  have z1 : H1.size = H.size + 1 := by rw [← hH1, Array.size_push]
  have e1 : H1[H.size]? = some (arrV cA' n.toNatClampNeg (fun _ => .null)) := by rw [← hH1, Array.getElem?_push_size, ← arrV_new]
  have o1 : ∀ q : Nat, q < H.size → H1[q]? = H[q]? := fun q hq => by rw [← hH1, Array.getElem?_push, if_neg (Nat.ne_of_lt hq)]
  exact kk H.size H1 ⟨e1, rfl, z1, o1⟩ ⟨Nat.le_trans hS.1 (by omega), fun x h1 h2 => (o1 x (Nat.lt_of_lt_of_le h1 hS.1)).trans (hS.2.1 x h1 h2), hS.2.2⟩
end XB
end
section
/-! The words of the tables that the methods use, each once (by words.py) -/
theorem q_ini_L : Cond.initialized RL ∈ xTs := xTs_t 0 (by decide +kernel) (by decide +kernel)
theorem q_ini_X4 : Cond.initialized RX4 ∈ xTs := xTs_t 1 (by decide +kernel) (by decide +kernel)
theorem q_ini_Jxa1e45 : Cond.initialized RJxa1e45 ∈ xTs := xTs_t 2 (by decide +kernel) (by decide +kernel)
theorem q_ini_Jxc12de : Cond.initialized RJxc12de ∈ xTs := xTs_t 3 (by decide +kernel) (by decide +kernel)
theorem q_ini_Jx4a65c : Cond.initialized RJx4a65c ∈ xTs := xTs_t 4 (by decide +kernel) (by decide +kernel)
theorem q_ini_X2 : Cond.initialized RX2 ∈ xTs := xTs_t 5 (by decide +kernel) (by decide +kernel)
theorem q_ini_X5 : Cond.initialized RX5 ∈ xTs := xTs_t 6 (by decide +kernel) (by decide +kernel)
theorem q_ini_java_lang_Throwable : Cond.initialized "java/lang/Throwable" ∈ xTs := xTs_t 7 (by decide +kernel) (by decide +kernel)
theorem q_ini_java_lang_Exception : Cond.initialized "java/lang/Exception" ∈ xTs := xTs_t 8 (by decide +kernel) (by decide +kernel)
theorem q_ini_java_lang_RuntimeException : Cond.initialized "java/lang/RuntimeException" ∈ xTs := xTs_t 9 (by decide +kernel) (by decide +kernel)
theorem q_ini_java_lang_IllegalArgumentException : Cond.initialized "java/lang/IllegalArgumentException" ∈ xTs := xTs_t 10 (by decide +kernel) (by decide +kernel)
theorem q_ini_java_lang_IllegalStateException : Cond.initialized "java/lang/IllegalStateException" ∈ xTs := xTs_t 11 (by decide +kernel) (by decide +kernel)
theorem q_ini_X0 : Cond.initialized RX0 ∈ xTs := xTs_t 12 (by decide +kernel) (by decide +kernel)
theorem q_ini_X3 : Cond.initialized RX3 ∈ xTs := xTs_t 13 (by decide +kernel) (by decide +kernel)
theorem q_ini_J8 : Cond.initialized RJ8 ∈ xTs := xTs_t 14 (by decide +kernel) (by decide +kernel)
theorem q_ini_J9 : Cond.initialized RJ9 ∈ xTs := xTs_t 15 (by decide +kernel) (by decide +kernel)
theorem q_ini_J7 : Cond.initialized RJ7 ∈ xTs := xTs_t 16 (by decide +kernel) (by decide +kernel)
theorem q_ini_J10 : Cond.initialized RJ10 ∈ xTs := xTs_t 17 (by decide +kernel) (by decide +kernel)
theorem q_ini_java_lang_IndexOutOfBoundsException : Cond.initialized "java/lang/IndexOutOfBoundsException" ∈ xTs := xTs_t 18 (by decide +kernel) (by decide +kernel)
theorem q_ini_J15 : Cond.initialized RJ15 ∈ xTs := xTs_t 19 (by decide +kernel) (by decide +kernel)
theorem q_ini_J3 : Cond.initialized RJ3 ∈ xTs := xTs_t 20 (by decide +kernel) (by decide +kernel)
theorem q_ini_X1 : Cond.initialized RX1 ∈ xTs := xTs_t 21 (by decide +kernel) (by decide +kernel)
theorem q_ini_J6 : Cond.initialized RJ6 ∈ xTs := xTs_t 22 (by decide +kernel) (by decide +kernel)
theorem q_cl_L_8 : Cond.classLink RL 8 RX4 ∈ xTs := xTs_t 23 (by decide +kernel) (by decide +kernel)
theorem q_mk_X4 : Cond.instantiable RX4 11 ∈ xTs := xTs_t 24 (by decide +kernel) (by decide +kernel)
theorem q_ml_L_62 : Cond.methodLink RL 62 yX4_init ∈ xTs := xTs_t 25 (by decide +kernel) (by decide +kernel)
theorem q_im_X4_init : Cond.instanceMethod yX4_init ∈ xTs := xTs_t 26 (by decide +kernel) (by decide +kernel)
theorem q_ml_X4_1 : Cond.methodLink RX4 1 objectInit ∈ xTs := xTs_t 28 (by decide +kernel) (by decide +kernel)
theorem q_im_java_lang_Object__init_ : Cond.instanceMethod objectInit ∈ xTs := xTs_t 29 (by decide +kernel) (by decide +kernel)
theorem q_cl_X4_7 : Cond.classLink RX4 7 RJx4a65c ∈ xTs := xTs_t 31 (by decide +kernel) (by decide +kernel)
theorem q_mk_Jx4a65c : Cond.instantiable RJx4a65c 3 ∈ xTs := xTs_t 32 (by decide +kernel) (by decide +kernel)
theorem q_ml_X4_9 : Cond.methodLink RX4 9 yJx4a65c_init_da8c8 ∈ xTs := xTs_t 33 (by decide +kernel) (by decide +kernel)
theorem q_im_Jx4a65c_init_da8c8 : Cond.instanceMethod yJx4a65c_init_da8c8 ∈ xTs := xTs_t 34 (by decide +kernel) (by decide +kernel)
theorem q_ml_Jx4a65c_1 : Cond.methodLink RJx4a65c 1 yJxc12de_init_da8c8 ∈ xTs := xTs_t 36 (by decide +kernel) (by decide +kernel)
theorem q_im_Jxc12de_init_da8c8 : Cond.instanceMethod yJxc12de_init_da8c8 ∈ xTs := xTs_t 37 (by decide +kernel) (by decide +kernel)
theorem q_ml_Jxc12de_1 : Cond.methodLink RJxc12de 1 yJxa1e45_init_da8c8 ∈ xTs := xTs_t 39 (by decide +kernel) (by decide +kernel)
theorem q_im_Jxa1e45_init_da8c8 : Cond.instanceMethod yJxa1e45_init_da8c8 ∈ xTs := xTs_t 40 (by decide +kernel) (by decide +kernel)
theorem q_ml_Jxa1e45_1 : Cond.methodLink RJxa1e45 1 objectInit ∈ xTs := xTs_t 42 (by decide +kernel) (by decide +kernel)
theorem q_fl_Jx4a65c_39 : Cond.fieldLink RJx4a65c 39 "java/util/ArrayList" "DEFAULTCAPACITY_EMPTY_ELEMENTDATA" "[Ljava/lang/Object;" ∈ xTs := xTs_t 43 (by decide +kernel) (by decide +kernel)
theorem q_fl_Jx4a65c_9 : Cond.fieldLink RJx4a65c 9 "java/util/ArrayList" "elementData" "[Ljava/lang/Object;" ∈ xTs := xTs_t 45 (by decide +kernel) (by decide +kernel)
theorem q_fl_Jx4a65c_48 : Cond.fieldLink RJx4a65c 48 "java/util/ArrayList" "size" "I" ∈ xTs := xTs_t 46 (by decide +kernel) (by decide +kernel)
theorem q_fl_Jxc12de_7 : Cond.fieldLink RJxc12de 7 "java/util/AbstractList" "modCount" "I" ∈ xTs := xTs_t 47 (by decide +kernel) (by decide +kernel)
theorem q_fl_Jx4a65c_63 : Cond.fieldLink RJx4a65c 63 "java/util/ArrayList" "modCount" "I" ∈ xTs := xTs_t 48 (by decide +kernel) (by decide +kernel)
theorem q_sf_modCount : Cond.sameField "java/util/ArrayList" "java/util/AbstractList" "modCount" "I" ∈ xTs := xTs_t 49 (by decide +kernel) (by decide +kernel)
theorem q_cl_X4_19 : Cond.classLink RX4 19 RX2 ∈ xTs := xTs_t 57 (by decide +kernel) (by decide +kernel)
theorem q_mk_X2 : Cond.instantiable RX2 2 ∈ xTs := xTs_t 58 (by decide +kernel) (by decide +kernel)
theorem q_ml_X4_21 : Cond.methodLink RX4 21 yX2_init ∈ xTs := xTs_t 59 (by decide +kernel) (by decide +kernel)
theorem q_im_X2_init : Cond.instanceMethod yX2_init ∈ xTs := xTs_t 60 (by decide +kernel) (by decide +kernel)
theorem q_ml_X2_3 : Cond.methodLink RX2 3 objectInit ∈ xTs := xTs_t 62 (by decide +kernel) (by decide +kernel)
theorem q_fl_X2_11 : Cond.fieldLink RX2 11 "VendingRounds$Roads" "minutes" "[I" ∈ xTs := xTs_t 63 (by decide +kernel) (by decide +kernel)
theorem q_fl_X2_15 : Cond.fieldLink RX2 15 "VendingRounds$Roads" "homeward" "[I" ∈ xTs := xTs_t 64 (by decide +kernel) (by decide +kernel)
theorem q_ac_int : Cond.arrayClass .int ∈ xTs := xTs_t 70 (by decide +kernel) (by decide +kernel)
theorem q_fl_X4_10 : Cond.fieldLink RX4 10 "VendingRounds" "machineList" "Ljava/util/ArrayList;" ∈ xTs := xTs_t 71 (by decide +kernel) (by decide +kernel)
theorem q_fl_X4_16 : Cond.fieldLink RX4 16 "VendingRounds" "changes" "Ljava/util/ArrayList;" ∈ xTs := xTs_t 72 (by decide +kernel) (by decide +kernel)
theorem q_fl_X4_22 : Cond.fieldLink RX4 22 "VendingRounds" "roads" "LVendingRounds$Roads;" ∈ xTs := xTs_t 73 (by decide +kernel) (by decide +kernel)
theorem q_fl_X4_26 : Cond.fieldLink RX4 26 "VendingRounds" "visitTimes" "[I" ∈ xTs := xTs_t 74 (by decide +kernel) (by decide +kernel)
theorem q_fl_X4_30 : Cond.fieldLink RX4 30 "VendingRounds" "lacks" "[I" ∈ xTs := xTs_t 75 (by decide +kernel) (by decide +kernel)
theorem q_fl_X4_33 : Cond.fieldLink RX4 33 "VendingRounds" "gains" "[I" ∈ xTs := xTs_t 76 (by decide +kernel) (by decide +kernel)
theorem q_fl_X4_115 : Cond.fieldLink RX4 115 "VendingRounds" "day" "I" ∈ xTs := xTs_t 77 (by decide +kernel) (by decide +kernel)
theorem q_fl_X4_206 : Cond.fieldLink RX4 206 "VendingRounds" "coinsHome" "J" ∈ xTs := xTs_t 78 (by decide +kernel) (by decide +kernel)
theorem q_fl_X4_189 : Cond.fieldLink RX4 189 "VendingRounds" "minutesSpent" "J" ∈ xTs := xTs_t 79 (by decide +kernel) (by decide +kernel)
theorem q_fl_X4_209 : Cond.fieldLink RX4 209 "VendingRounds" "piecesFilled" "J" ∈ xTs := xTs_t 80 (by decide +kernel) (by decide +kernel)
theorem q_fl_X4_193 : Cond.fieldLink RX4 193 "VendingRounds" "roundsMade" "J" ∈ xTs := xTs_t 81 (by decide +kernel) (by decide +kernel)
theorem q_ml_L_87 : Cond.methodLink RL 87 yX4_machineCount ∈ xTs := xTs_t 105 (by decide +kernel) (by decide +kernel)
theorem q_im_X4_machineCount : Cond.instanceMethod yX4_machineCount ∈ xTs := xTs_t 106 (by decide +kernel) (by decide +kernel)
theorem q_sel_X4_X4_machineCount : Cond.selects RX4 yX4_machineCount yX4_machineCount ∈ xTs := xTs_t 107 (by decide +kernel) (by decide +kernel)
theorem q_ml_X4_48 : Cond.methodLink RX4 48 yJx4a65c_size_8abf5 ∈ xTs := xTs_t 109 (by decide +kernel) (by decide +kernel)
theorem q_im_Jx4a65c_size_8abf5 : Cond.instanceMethod yJx4a65c_size_8abf5 ∈ xTs := xTs_t 110 (by decide +kernel) (by decide +kernel)
theorem q_sel_Jx4a65c_Jx4a65c_size_8abf5 : Cond.selects RJx4a65c yJx4a65c_size_8abf5 yJx4a65c_size_8abf5 ∈ xTs := xTs_t 111 (by decide +kernel) (by decide +kernel)
theorem q_ml_L_104 : Cond.methodLink RL 104 yX4_today ∈ xTs := xTs_t 113 (by decide +kernel) (by decide +kernel)
theorem q_im_X4_today : Cond.instanceMethod yX4_today ∈ xTs := xTs_t 114 (by decide +kernel) (by decide +kernel)
theorem q_sel_X4_X4_today : Cond.selects RX4 yX4_today yX4_today ∈ xTs := xTs_t 115 (by decide +kernel) (by decide +kernel)
theorem q_ml_L_108 : Cond.methodLink RL 108 yX4_planned ∈ xTs := xTs_t 117 (by decide +kernel) (by decide +kernel)
theorem q_im_X4_planned : Cond.instanceMethod yX4_planned ∈ xTs := xTs_t 118 (by decide +kernel) (by decide +kernel)
theorem q_sel_X4_X4_planned : Cond.selects RX4 yX4_planned yX4_planned ∈ xTs := xTs_t 119 (by decide +kernel) (by decide +kernel)
theorem q_ml_L_130 : Cond.methodLink RL 130 yX4_filled ∈ xTs := xTs_t 121 (by decide +kernel) (by decide +kernel)
theorem q_im_X4_filled : Cond.instanceMethod yX4_filled ∈ xTs := xTs_t 122 (by decide +kernel) (by decide +kernel)
theorem q_sel_X4_X4_filled : Cond.selects RX4 yX4_filled yX4_filled ∈ xTs := xTs_t 123 (by decide +kernel) (by decide +kernel)
theorem q_ml_X4_196 : Cond.methodLink RX4 196 yJx4a65c_get_915e3 ∈ xTs := xTs_t 125 (by decide +kernel) (by decide +kernel)
theorem q_im_Jx4a65c_get_915e3 : Cond.instanceMethod yJx4a65c_get_915e3 ∈ xTs := xTs_t 126 (by decide +kernel) (by decide +kernel)
theorem q_sel_Jx4a65c_Jx4a65c_get_915e3 : Cond.selects RJx4a65c yJx4a65c_get_915e3 yJx4a65c_get_915e3 ∈ xTs := xTs_t 127 (by decide +kernel) (by decide +kernel)
theorem q_ml_Jx4a65c_118 : Cond.methodLink RJx4a65c 118 yJ15_checkIndex_7cf53 ∈ xTs := xTs_t 129 (by decide +kernel) (by decide +kernel)
theorem q_st_J15_checkIndex_7cf53 : Cond.static yJ15_checkIndex_7cf53 ∈ xTs := xTs_t 130 (by decide +kernel) (by decide +kernel)
theorem q_ml_J15_105 : Cond.methodLink RJ15 105 yJ3_checkIndex_8e157 ∈ xTs := xTs_t 132 (by decide +kernel) (by decide +kernel)
theorem q_st_J3_checkIndex_8e157 : Cond.static yJ3_checkIndex_8e157 ∈ xTs := xTs_t 133 (by decide +kernel) (by decide +kernel)
theorem q_ml_Jx4a65c_123 : Cond.methodLink RJx4a65c 123 yJx4a65c_elementData_915e3 ∈ xTs := xTs_t 135 (by decide +kernel) (by decide +kernel)
theorem q_im_Jx4a65c_elementData_915e3 : Cond.instanceMethod yJx4a65c_elementData_915e3 ∈ xTs := xTs_t 136 (by decide +kernel) (by decide +kernel)
theorem q_sel_Jx4a65c_Jx4a65c_elementData_915e3 : Cond.selects RJx4a65c yJx4a65c_elementData_915e3 yJx4a65c_elementData_915e3 ∈ xTs := xTs_t 137 (by decide +kernel) (by decide +kernel)
theorem q_cl_X4_57 : Cond.classLink RX4 57 RX0 ∈ xTs := xTs_t 139 (by decide +kernel) (by decide +kernel)
theorem q_ml_L_135 : Cond.methodLink RL 135 yX4_digest ∈ xTs := xTs_t 140 (by decide +kernel) (by decide +kernel)
theorem q_im_X4_digest : Cond.instanceMethod yX4_digest ∈ xTs := xTs_t 141 (by decide +kernel) (by decide +kernel)
theorem q_sel_X4_X4_digest : Cond.selects RX4 yX4_digest yX4_digest ∈ xTs := xTs_t 142 (by decide +kernel) (by decide +kernel)
theorem q_ko_X4_216 : Cond.constantLong RX4 216 (211 : Int64) ∈ xTs := xTs_t 144 (by decide +kernel) (by decide +kernel)
theorem q_ml_X4_218 : Cond.methodLink RX4 218 yX4_mixed ∈ xTs := xTs_t 145 (by decide +kernel) (by decide +kernel)
theorem q_st_X4_mixed : Cond.static yX4_mixed ∈ xTs := xTs_t 146 (by decide +kernel) (by decide +kernel)
theorem q_ko_X4_230 : Cond.constantLong RX4 230 (31 : Int64) ∈ xTs := xTs_t 148 (by decide +kernel) (by decide +kernel)
theorem q_ml_X4_82 : Cond.methodLink RX4 82 yX2_between ∈ xTs := xTs_t 149 (by decide +kernel) (by decide +kernel)
theorem q_im_X2_between : Cond.instanceMethod yX2_between ∈ xTs := xTs_t 150 (by decide +kernel) (by decide +kernel)
theorem q_sel_X2_X2_between : Cond.selects RX2 yX2_between yX2_between ∈ xTs := xTs_t 151 (by decide +kernel) (by decide +kernel)
theorem q_ml_X4_222 : Cond.methodLink RX4 222 yX4_mixedMachine ∈ xTs := xTs_t 153 (by decide +kernel) (by decide +kernel)
theorem q_st_X4_mixedMachine : Cond.static yX4_mixedMachine ∈ xTs := xTs_t 154 (by decide +kernel) (by decide +kernel)
theorem q_ml_X4_144 : Cond.methodLink RX4 144 yX0_fact ∈ xTs := xTs_t 156 (by decide +kernel) (by decide +kernel)
theorem q_im_X0_fact : Cond.instanceMethod yX0_fact ∈ xTs := xTs_t 157 (by decide +kernel) (by decide +kernel)
theorem q_sel_X0_X0_fact : Cond.selects RX0 yX0_fact yX0_fact ∈ xTs := xTs_t 158 (by decide +kernel) (by decide +kernel)
theorem q_ml_X0_32 : Cond.methodLink RX0 32 yX0_lacking ∈ xTs := xTs_t 160 (by decide +kernel) (by decide +kernel)
theorem q_im_X0_lacking : Cond.instanceMethod yX0_lacking ∈ xTs := xTs_t 161 (by decide +kernel) (by decide +kernel)
theorem q_sel_X0_X0_lacking : Cond.selects RX0 yX0_lacking yX0_lacking ∈ xTs := xTs_t 162 (by decide +kernel) (by decide +kernel)
theorem q_ml_X0_22 : Cond.methodLink RX0 22 yX3_lacking ∈ xTs := xTs_t 164 (by decide +kernel) (by decide +kernel)
theorem q_im_X3_lacking : Cond.instanceMethod yX3_lacking ∈ xTs := xTs_t 165 (by decide +kernel) (by decide +kernel)
theorem q_sel_X3_X3_lacking : Cond.selects RX3 yX3_lacking yX3_lacking ∈ xTs := xTs_t 166 (by decide +kernel) (by decide +kernel)
theorem q_ml_X0_33 : Cond.methodLink RX0 33 yX0_gain ∈ xTs := xTs_t 168 (by decide +kernel) (by decide +kernel)
theorem q_im_X0_gain : Cond.instanceMethod yX0_gain ∈ xTs := xTs_t 169 (by decide +kernel) (by decide +kernel)
theorem q_sel_X0_X0_gain : Cond.selects RX0 yX0_gain yX0_gain ∈ xTs := xTs_t 170 (by decide +kernel) (by decide +kernel)
theorem q_ml_X4_134 : Cond.methodLink RX4 134 yX3_fact ∈ xTs := xTs_t 172 (by decide +kernel) (by decide +kernel)
theorem q_im_X3_fact : Cond.instanceMethod yX3_fact ∈ xTs := xTs_t 173 (by decide +kernel) (by decide +kernel)
theorem q_sel_X3_X3_fact : Cond.selects RX3 yX3_fact yX3_fact ∈ xTs := xTs_t 174 (by decide +kernel) (by decide +kernel)
theorem q_ml_L_66 : Cond.methodLink RL 66 yL_addMachine ∈ xTs := xTs_t 176 (by decide +kernel) (by decide +kernel)
theorem q_st_L_addMachine : Cond.static yL_addMachine ∈ xTs := xTs_t 177 (by decide +kernel) (by decide +kernel)
theorem q_cl_L_13 : Cond.classLink RL 13 "java/lang/IllegalArgumentException" ∈ xTs := xTs_t 179 (by decide +kernel) (by decide +kernel)
theorem q_cl_L_15 : Cond.classLink RL 15 "java/lang/IllegalStateException" ∈ xTs := xTs_t 180 (by decide +kernel) (by decide +kernel)
theorem q_ml_L_7 : Cond.methodLink RL 7 yX4_addMachine ∈ xTs := xTs_t 181 (by decide +kernel) (by decide +kernel)
theorem q_im_X4_addMachine : Cond.instanceMethod yX4_addMachine ∈ xTs := xTs_t 182 (by decide +kernel) (by decide +kernel)
theorem q_sel_X4_X4_addMachine : Cond.selects RX4 yX4_addMachine yX4_addMachine ∈ xTs := xTs_t 183 (by decide +kernel) (by decide +kernel)
theorem q_ko_X4_36 : Cond.constant RX4 36 (100000 : Int32) ∈ xTs := xTs_t 185 (by decide +kernel) (by decide +kernel)
theorem q_ml_X4_37 : Cond.methodLink RX4 37 yX4_outside ∈ xTs := xTs_t 186 (by decide +kernel) (by decide +kernel)
theorem q_st_X4_outside : Cond.static yX4_outside ∈ xTs := xTs_t 187 (by decide +kernel) (by decide +kernel)
theorem q_cl_X4_41 : Cond.classLink RX4 41 "java/lang/IllegalArgumentException" ∈ xTs := xTs_t 189 (by decide +kernel) (by decide +kernel)
theorem q_mk_java_lang_IllegalArgumentException : Cond.instantiable "java/lang/IllegalArgumentException" 6 ∈ xTs := xTs_t 190 (by decide +kernel) (by decide +kernel)
theorem q_ca_java_lang_IllegalArgumentException_java_lang_IllegalArgumentException : Cond.castable "java/lang/IllegalArgumentException" "java/lang/IllegalArgumentException" ∈ xTs := xTs_t 191 (by decide +kernel) (by decide +kernel)
theorem q_de_java_lang_RuntimeException__init_ : Cond.declares ⟨"java/lang/RuntimeException", "<init>", "()V"⟩ ∈ xTs := xTs_t 192 (by decide +kernel) (by decide +kernel)
theorem q_de_java_lang_Exception__init_ : Cond.declares ⟨"java/lang/Exception", "<init>", "()V"⟩ ∈ xTs := xTs_t 194 (by decide +kernel) (by decide +kernel)
theorem q_de_java_lang_Throwable__init_ : Cond.declares ⟨"java/lang/Throwable", "<init>", "()V"⟩ ∈ xTs := xTs_t 196 (by decide +kernel) (by decide +kernel)
theorem q_sel_java_lang_IllegalArgumentException_java_lang_Throwable_fillInStackTrace : Cond.selects "java/lang/IllegalArgumentException" ⟨"java/lang/Throwable", "fillInStackTrace", "(I)Ljava/lang/Throwable;"⟩ ⟨"java/lang/Throwable", "fillInStackTrace", "(I)Ljava/lang/Throwable;"⟩ ∈ xTs := xTs_t 198 (by decide +kernel) (by decide +kernel)
theorem q_fl_java_lang_Throwable_198 : Cond.fieldLink "java/lang/Throwable" 198 "java/lang/Throwable" "backtrace" "Ljava/lang/Object;" ∈ xTs := xTs_t 210 (by decide +kernel) (by decide +kernel)
theorem q_im_java_lang_Throwable__init_ : Cond.instanceMethod ⟨"java/lang/Throwable", "<init>", "()V"⟩ ∈ xTs := xTs_t 212 (by decide +kernel) (by decide +kernel)
theorem q_ml_java_lang_Throwable_1 : Cond.methodLink "java/lang/Throwable" 1 objectInit ∈ xTs := xTs_t 214 (by decide +kernel) (by decide +kernel)
theorem q_fl_java_lang_Throwable_13 : Cond.fieldLink "java/lang/Throwable" 13 "java/lang/Throwable" "UNASSIGNED_STACK" "[Ljava/lang/StackTraceElement;" ∈ xTs := xTs_t 215 (by decide +kernel) (by decide +kernel)
theorem q_fl_java_lang_Throwable_20 : Cond.fieldLink "java/lang/Throwable" 20 "java/lang/Throwable" "SUPPRESSED_SENTINEL" "Ljava/util/List;" ∈ xTs := xTs_t 217 (by decide +kernel) (by decide +kernel)
theorem q_ml_java_lang_Throwable_27 : Cond.methodLink "java/lang/Throwable" 27 ⟨"java/lang/Throwable", "fillInStackTrace", "()Ljava/lang/Throwable;"⟩ ∈ xTs := xTs_t 219 (by decide +kernel) (by decide +kernel)
theorem q_im_java_lang_Throwable_fillInStackTrace : Cond.instanceMethod ⟨"java/lang/Throwable", "fillInStackTrace", "()Ljava/lang/Throwable;"⟩ ∈ xTs := xTs_t 220 (by decide +kernel) (by decide +kernel)
theorem q_sel_java_lang_IllegalStateException_java_lang_Throwable_fillInStackTrace : Cond.selects "java/lang/IllegalStateException" ⟨"java/lang/Throwable", "fillInStackTrace", "()Ljava/lang/Throwable;"⟩ ⟨"java/lang/Throwable", "fillInStackTrace", "()Ljava/lang/Throwable;"⟩ ∈ xTs := xTs_t 222 (by decide +kernel) (by decide +kernel)
theorem q_sel_java_lang_IndexOutOfBoundsException_java_lang_Throwable_fillInStackTrace : Cond.selects "java/lang/IndexOutOfBoundsException" ⟨"java/lang/Throwable", "fillInStackTrace", "()Ljava/lang/Throwable;"⟩ ⟨"java/lang/Throwable", "fillInStackTrace", "()Ljava/lang/Throwable;"⟩ ∈ xTs := xTs_t 223 (by decide +kernel) (by decide +kernel)
theorem q_ml_java_lang_Throwable_202 : Cond.methodLink "java/lang/Throwable" 202 ⟨"java/lang/Throwable", "fillInStackTrace", "(I)Ljava/lang/Throwable;"⟩ ∈ xTs := xTs_t 225 (by decide +kernel) (by decide +kernel)
theorem q_mk_java_lang_Throwable : Cond.instantiable "java/lang/Throwable" 6 ∈ xTs := xTs_t 228 (by decide +kernel) (by decide +kernel)
theorem q_na_java_lang_Throwable_fillInStackTrace : Cond.native ⟨"java/lang/Throwable", "fillInStackTrace", "(I)Ljava/lang/Throwable;"⟩ ∈ xTs := xTs_t 229 (by decide +kernel) (by decide +kernel)
theorem q_ml_X4_45 : Cond.methodLink RX4 45 ⟨"java/lang/IllegalArgumentException", "<init>", "(Ljava/lang/String;)V"⟩ ∈ xTs := xTs_t 231 (by decide +kernel) (by decide +kernel)
theorem q_im_java_lang_IllegalArgumentException__init_ : Cond.instanceMethod ⟨"java/lang/IllegalArgumentException", "<init>", "(Ljava/lang/String;)V"⟩ ∈ xTs := xTs_t 232 (by decide +kernel) (by decide +kernel)
theorem q_ml_java_lang_IllegalArgumentException_7 : Cond.methodLink "java/lang/IllegalArgumentException" 7 ⟨"java/lang/RuntimeException", "<init>", "(Ljava/lang/String;)V"⟩ ∈ xTs := xTs_t 234 (by decide +kernel) (by decide +kernel)
theorem q_im_java_lang_RuntimeException__init_ : Cond.instanceMethod ⟨"java/lang/RuntimeException", "<init>", "(Ljava/lang/String;)V"⟩ ∈ xTs := xTs_t 235 (by decide +kernel) (by decide +kernel)
theorem q_ml_java_lang_RuntimeException_7 : Cond.methodLink "java/lang/RuntimeException" 7 ⟨"java/lang/Exception", "<init>", "(Ljava/lang/String;)V"⟩ ∈ xTs := xTs_t 237 (by decide +kernel) (by decide +kernel)
theorem q_im_java_lang_Exception__init_ : Cond.instanceMethod ⟨"java/lang/Exception", "<init>", "(Ljava/lang/String;)V"⟩ ∈ xTs := xTs_t 238 (by decide +kernel) (by decide +kernel)
theorem q_ml_java_lang_Exception_7 : Cond.methodLink "java/lang/Exception" 7 ⟨"java/lang/Throwable", "<init>", "(Ljava/lang/String;)V"⟩ ∈ xTs := xTs_t 240 (by decide +kernel) (by decide +kernel)
theorem q_fl_java_lang_Throwable_31 : Cond.fieldLink "java/lang/Throwable" 31 "java/lang/Throwable" "detailMessage" "Ljava/lang/String;" ∈ xTs := xTs_t 244 (by decide +kernel) (by decide +kernel)
theorem q_fl_java_lang_Throwable_7 : Cond.fieldLink "java/lang/Throwable" 7 "java/lang/Throwable" "cause" "Ljava/lang/Throwable;" ∈ xTs := xTs_t 245 (by decide +kernel) (by decide +kernel)
theorem q_fl_java_lang_Throwable_17 : Cond.fieldLink "java/lang/Throwable" 17 "java/lang/Throwable" "stackTrace" "[Ljava/lang/StackTraceElement;" ∈ xTs := xTs_t 246 (by decide +kernel) (by decide +kernel)
theorem q_fl_java_lang_Throwable_24 : Cond.fieldLink "java/lang/Throwable" 24 "java/lang/Throwable" "suppressedExceptions" "Ljava/util/List;" ∈ xTs := xTs_t 247 (by decide +kernel) (by decide +kernel)
theorem q_ac_byte : Cond.arrayClass .byte ∈ xTs := xTs_t 256 (by decide +kernel) (by decide +kernel)
theorem q_cl_X4_52 : Cond.classLink RX4 52 "java/lang/IllegalStateException" ∈ xTs := xTs_t 257 (by decide +kernel) (by decide +kernel)
theorem q_mk_java_lang_IllegalStateException : Cond.instantiable "java/lang/IllegalStateException" 6 ∈ xTs := xTs_t 258 (by decide +kernel) (by decide +kernel)
theorem q_ca_java_lang_IllegalStateException_java_lang_IllegalStateException : Cond.castable "java/lang/IllegalStateException" "java/lang/IllegalStateException" ∈ xTs := xTs_t 259 (by decide +kernel) (by decide +kernel)
theorem q_ml_X4_56 : Cond.methodLink RX4 56 ⟨"java/lang/IllegalStateException", "<init>", "(Ljava/lang/String;)V"⟩ ∈ xTs := xTs_t 267 (by decide +kernel) (by decide +kernel)
theorem q_im_java_lang_IllegalStateException__init_ : Cond.instanceMethod ⟨"java/lang/IllegalStateException", "<init>", "(Ljava/lang/String;)V"⟩ ∈ xTs := xTs_t 268 (by decide +kernel) (by decide +kernel)
theorem q_ml_java_lang_IllegalStateException_7 : Cond.methodLink "java/lang/IllegalStateException" 7 ⟨"java/lang/RuntimeException", "<init>", "(Ljava/lang/String;)V"⟩ ∈ xTs := xTs_t 270 (by decide +kernel) (by decide +kernel)
theorem q_mk_X0 : Cond.instantiable RX0 4 ∈ xTs := xTs_t 273 (by decide +kernel) (by decide +kernel)
theorem q_ml_X4_59 : Cond.methodLink RX4 59 yX0_init ∈ xTs := xTs_t 274 (by decide +kernel) (by decide +kernel)
theorem q_im_X0_init : Cond.instanceMethod yX0_init ∈ xTs := xTs_t 275 (by decide +kernel) (by decide +kernel)
theorem q_ml_X0_3 : Cond.methodLink RX0 3 objectInit ∈ xTs := xTs_t 277 (by decide +kernel) (by decide +kernel)
theorem q_cl_X0_9 : Cond.classLink RX0 9 RX3 ∈ xTs := xTs_t 278 (by decide +kernel) (by decide +kernel)
theorem q_mk_X3 : Cond.instantiable RX3 6 ∈ xTs := xTs_t 280 (by decide +kernel) (by decide +kernel)
theorem q_mn_X0_21 : Cond.methodLinkNest RX0 21 yX3_init RX4 ∈ xTs := xTs_t 281 (by decide +kernel) (by decide +kernel)
theorem q_im_X3_init : Cond.instanceMethod yX3_init ∈ xTs := xTs_t 282 (by decide +kernel) (by decide +kernel)
theorem q_ml_X3_1 : Cond.methodLink RX3 1 objectInit ∈ xTs := xTs_t 284 (by decide +kernel) (by decide +kernel)
theorem q_fl_X3_13 : Cond.fieldLink RX3 13 "VendingRounds$Slot" "capacity" "I" ∈ xTs := xTs_t 285 (by decide +kernel) (by decide +kernel)
theorem q_fl_X4_98 : Cond.fieldLink RX4 98 "VendingRounds$Slot" "capacity" "I" ∈ xTs := xTs_t 286 (by decide +kernel) (by decide +kernel)
theorem q_fl_X3_16 : Cond.fieldLink RX3 16 "VendingRounds$Slot" "stock" "I" ∈ xTs := xTs_t 287 (by decide +kernel) (by decide +kernel)
theorem q_fl_X4_104 : Cond.fieldLink RX4 104 "VendingRounds$Slot" "stock" "I" ∈ xTs := xTs_t 288 (by decide +kernel) (by decide +kernel)
theorem q_fl_X0_46 : Cond.fieldLink RX0 46 "VendingRounds$Slot" "stock" "I" ∈ xTs := xTs_t 289 (by decide +kernel) (by decide +kernel)
theorem q_fl_X3_7 : Cond.fieldLink RX3 7 "VendingRounds$Slot" "price" "I" ∈ xTs := xTs_t 290 (by decide +kernel) (by decide +kernel)
theorem q_fl_X0_29 : Cond.fieldLink RX0 29 "VendingRounds$Slot" "price" "I" ∈ xTs := xTs_t 291 (by decide +kernel) (by decide +kernel)
theorem q_fl_X4_122 : Cond.fieldLink RX4 122 "VendingRounds$Slot" "price" "I" ∈ xTs := xTs_t 292 (by decide +kernel) (by decide +kernel)
theorem q_fl_X3_19 : Cond.fieldLink RX3 19 "VendingRounds$Slot" "demand" "I" ∈ xTs := xTs_t 293 (by decide +kernel) (by decide +kernel)
theorem q_fl_X4_112 : Cond.fieldLink RX4 112 "VendingRounds$Slot" "demand" "I" ∈ xTs := xTs_t 294 (by decide +kernel) (by decide +kernel)
theorem q_fl_X0_43 : Cond.fieldLink RX0 43 "VendingRounds$Slot" "demand" "I" ∈ xTs := xTs_t 295 (by decide +kernel) (by decide +kernel)
theorem q_fl_X3_22 : Cond.fieldLink RX3 22 "VendingRounds$Slot" "sold" "I" ∈ xTs := xTs_t 296 (by decide +kernel) (by decide +kernel)
theorem q_fl_X0_49 : Cond.fieldLink RX0 49 "VendingRounds$Slot" "sold" "I" ∈ xTs := xTs_t 297 (by decide +kernel) (by decide +kernel)
theorem q_fl_X3_25 : Cond.fieldLink RX3 25 "VendingRounds$Slot" "lost" "I" ∈ xTs := xTs_t 298 (by decide +kernel) (by decide +kernel)
theorem q_fl_X0_52 : Cond.fieldLink RX0 52 "VendingRounds$Slot" "lost" "I" ∈ xTs := xTs_t 299 (by decide +kernel) (by decide +kernel)
theorem q_fl_X0_17 : Cond.fieldLink RX0 17 "VendingRounds$Machine" "limit" "I" ∈ xTs := xTs_t 313 (by decide +kernel) (by decide +kernel)
theorem q_fl_X0_11 : Cond.fieldLink RX0 11 "VendingRounds$Machine" "slots" "[LVendingRounds$Slot;" ∈ xTs := xTs_t 314 (by decide +kernel) (by decide +kernel)
theorem q_fl_X4_212 : Cond.fieldLink RX4 212 "VendingRounds$Machine" "slots" "[LVendingRounds$Slot;" ∈ xTs := xTs_t 315 (by decide +kernel) (by decide +kernel)
theorem q_fl_X0_26 : Cond.fieldLink RX0 26 "VendingRounds$Machine" "coins" "I" ∈ xTs := xTs_t 316 (by decide +kernel) (by decide +kernel)
theorem q_fl_X0_36 : Cond.fieldLink RX0 36 "VendingRounds$Machine" "visits" "I" ∈ xTs := xTs_t 317 (by decide +kernel) (by decide +kernel)
theorem q_fl_X4_265 : Cond.fieldLink RX4 265 "VendingRounds$Machine" "visits" "I" ∈ xTs := xTs_t 318 (by decide +kernel) (by decide +kernel)
theorem q_ml_X4_62 : Cond.methodLink RX4 62 yJx4a65c_add_9ea2d ∈ xTs := xTs_t 328 (by decide +kernel) (by decide +kernel)
theorem q_im_Jx4a65c_add_9ea2d : Cond.instanceMethod yJx4a65c_add_9ea2d ∈ xTs := xTs_t 329 (by decide +kernel) (by decide +kernel)
theorem q_sel_Jx4a65c_Jx4a65c_add_9ea2d : Cond.selects RJx4a65c yJx4a65c_add_9ea2d yJx4a65c_add_9ea2d ∈ xTs := xTs_t 330 (by decide +kernel) (by decide +kernel)
theorem q_ml_Jx4a65c_131 : Cond.methodLink RJx4a65c 131 yJx4a65c_add_72be8 ∈ xTs := xTs_t 332 (by decide +kernel) (by decide +kernel)
theorem q_im_Jx4a65c_add_72be8 : Cond.instanceMethod yJx4a65c_add_72be8 ∈ xTs := xTs_t 334 (by decide +kernel) (by decide +kernel)
theorem q_ml_Jx4a65c_129 : Cond.methodLink RJx4a65c 129 yJx4a65c_grow_d5877 ∈ xTs := xTs_t 336 (by decide +kernel) (by decide +kernel)
theorem q_im_Jx4a65c_grow_d5877 : Cond.instanceMethod yJx4a65c_grow_d5877 ∈ xTs := xTs_t 338 (by decide +kernel) (by decide +kernel)
theorem q_ml_Jx4a65c_69 : Cond.methodLink RJx4a65c 69 yJx4a65c_grow_92f84 ∈ xTs := xTs_t 340 (by decide +kernel) (by decide +kernel)
theorem q_im_Jx4a65c_grow_92f84 : Cond.instanceMethod yJx4a65c_grow_92f84 ∈ xTs := xTs_t 342 (by decide +kernel) (by decide +kernel)
theorem q_ml_Jx4a65c_73 : Cond.methodLink RJx4a65c 73 yJ8_newLength_cabcc ∈ xTs := xTs_t 344 (by decide +kernel) (by decide +kernel)
theorem q_st_J8_newLength_cabcc : Cond.static yJ8_newLength_cabcc ∈ xTs := xTs_t 345 (by decide +kernel) (by decide +kernel)
theorem q_ml_J8_194 : Cond.methodLink RJ8 194 Lib.Math.max.name ∈ xTs := xTs_t 347 (by decide +kernel) (by decide +kernel)
theorem q_st_J9_max_7cf53 : Cond.static Lib.Math.max.name ∈ xTs := xTs_t 348 (by decide +kernel) (by decide +kernel)
theorem q_ko_J8_200 : Cond.constant RJ8 200 (2147483639 : Int32) ∈ xTs := xTs_t 350 (by decide +kernel) (by decide +kernel)
theorem q_ml_J8_201 : Cond.methodLink RJ8 201 yJ8_hugeLength_7cf53 ∈ xTs := xTs_t 351 (by decide +kernel) (by decide +kernel)
theorem q_st_J8_hugeLength_7cf53 : Cond.static yJ8_hugeLength_7cf53 ∈ xTs := xTs_t 352 (by decide +kernel) (by decide +kernel)
theorem q_ml_Jx4a65c_66 : Cond.methodLink RJx4a65c 66 yJ7_copyOf_1904c ∈ xTs := xTs_t 354 (by decide +kernel) (by decide +kernel)
theorem q_st_J7_copyOf_1904c : Cond.static yJ7_copyOf_1904c ∈ xTs := xTs_t 355 (by decide +kernel) (by decide +kernel)
theorem q_ml_J7_86 : Cond.methodLink RJ7 86 ⟨"java/lang/Object", "getClass", "()Ljava/lang/Class;"⟩ ∈ xTs := xTs_t 357 (by decide +kernel) (by decide +kernel)
theorem q_im_java_lang_Object_getClass : Cond.instanceMethod ⟨"java/lang/Object", "getClass", "()Ljava/lang/Class;"⟩ ∈ xTs := xTs_t 358 (by decide +kernel) (by decide +kernel)
theorem q_sel_X4_java_lang_Object_getClass : Cond.selects RX4 ⟨"java/lang/Object", "getClass", "()Ljava/lang/Class;"⟩ ⟨"java/lang/Object", "getClass", "()Ljava/lang/Class;"⟩ ∈ xTs := xTs_t 360 (by decide +kernel) (by decide +kernel)
theorem q_sel_X0_java_lang_Object_getClass : Cond.selects RX0 ⟨"java/lang/Object", "getClass", "()Ljava/lang/Class;"⟩ ⟨"java/lang/Object", "getClass", "()Ljava/lang/Class;"⟩ ∈ xTs := xTs_t 361 (by decide +kernel) (by decide +kernel)
theorem q_sel_X1_java_lang_Object_getClass : Cond.selects RX1 ⟨"java/lang/Object", "getClass", "()Ljava/lang/Class;"⟩ ⟨"java/lang/Object", "getClass", "()Ljava/lang/Class;"⟩ ∈ xTs := xTs_t 362 (by decide +kernel) (by decide +kernel)
theorem q_sel_X2_java_lang_Object_getClass : Cond.selects RX2 ⟨"java/lang/Object", "getClass", "()Ljava/lang/Class;"⟩ ⟨"java/lang/Object", "getClass", "()Ljava/lang/Class;"⟩ ∈ xTs := xTs_t 363 (by decide +kernel) (by decide +kernel)
theorem q_sel_X3_java_lang_Object_getClass : Cond.selects RX3 ⟨"java/lang/Object", "getClass", "()Ljava/lang/Class;"⟩ ⟨"java/lang/Object", "getClass", "()Ljava/lang/Class;"⟩ ∈ xTs := xTs_t 364 (by decide +kernel) (by decide +kernel)
theorem q_sel_X5_java_lang_Object_getClass : Cond.selects RX5 ⟨"java/lang/Object", "getClass", "()Ljava/lang/Class;"⟩ ⟨"java/lang/Object", "getClass", "()Ljava/lang/Class;"⟩ ∈ xTs := xTs_t 365 (by decide +kernel) (by decide +kernel)
theorem q_sel_java_lang_IllegalArgumentException_java_lang_Object_getClass : Cond.selects "java/lang/IllegalArgumentException" ⟨"java/lang/Object", "getClass", "()Ljava/lang/Class;"⟩ ⟨"java/lang/Object", "getClass", "()Ljava/lang/Class;"⟩ ∈ xTs := xTs_t 366 (by decide +kernel) (by decide +kernel)
theorem q_sel_java_lang_IllegalStateException_java_lang_Object_getClass : Cond.selects "java/lang/IllegalStateException" ⟨"java/lang/Object", "getClass", "()Ljava/lang/Class;"⟩ ⟨"java/lang/Object", "getClass", "()Ljava/lang/Class;"⟩ ∈ xTs := xTs_t 367 (by decide +kernel) (by decide +kernel)
theorem q_sel_java_lang_IndexOutOfBoundsException_java_lang_Object_getClass : Cond.selects "java/lang/IndexOutOfBoundsException" ⟨"java/lang/Object", "getClass", "()Ljava/lang/Class;"⟩ ⟨"java/lang/Object", "getClass", "()Ljava/lang/Class;"⟩ ∈ xTs := xTs_t 368 (by decide +kernel) (by decide +kernel)
theorem q_sel_Jx4a65c_java_lang_Object_getClass : Cond.selects RJx4a65c ⟨"java/lang/Object", "getClass", "()Ljava/lang/Class;"⟩ ⟨"java/lang/Object", "getClass", "()Ljava/lang/Class;"⟩ ∈ xTs := xTs_t 369 (by decide +kernel) (by decide +kernel)
theorem q_na_java_lang_Object_getClass : Cond.native ⟨"java/lang/Object", "getClass", "()Ljava/lang/Class;"⟩ ∈ xTs := xTs_t 370 (by decide +kernel) (by decide +kernel)
theorem q_ml_J7_300 : Cond.methodLink RJ7 300 yJ7_copyOf_6403c ∈ xTs := xTs_t 371 (by decide +kernel) (by decide +kernel)
theorem q_st_J7_copyOf_6403c : Cond.static yJ7_copyOf_6403c ∈ xTs := xTs_t 372 (by decide +kernel) (by decide +kernel)
theorem q_cl_J7_110 : Cond.classLink RJ7 110 "[Ljava/lang/Object;" ∈ xTs := xTs_t 374 (by decide +kernel) (by decide +kernel)
theorem q_cl_J7_2 : Cond.classLink RJ7 2 "java/lang/Object" ∈ xTs := xTs_t 376 (by decide +kernel) (by decide +kernel)
theorem q_ml_J7_304 : Cond.methodLink RJ7 304 Lib.Math.min.name ∈ xTs := xTs_t 377 (by decide +kernel) (by decide +kernel)
theorem q_st_J9_min_7cf53 : Cond.static Lib.Math.min.name ∈ xTs := xTs_t 378 (by decide +kernel) (by decide +kernel)
theorem q_ml_J7_150 : Cond.methodLink RJ7 150 arraycopyName ∈ xTs := xTs_t 380 (by decide +kernel) (by decide +kernel)
theorem q_st_java_lang_System_arraycopy : Cond.static arraycopyName ∈ xTs := xTs_t 381 (by decide +kernel) (by decide +kernel)
theorem q_na_java_lang_System_arraycopy : Cond.native arraycopyName ∈ xTs := xTs_t 382 (by decide +kernel) (by decide +kernel)
theorem q_ml_Jx4a65c_79 : Cond.methodLink RJx4a65c 79 Lib.Math.max.name ∈ xTs := xTs_t 383 (by decide +kernel) (by decide +kernel)
theorem q_cl_Jx4a65c_7 : Cond.classLink RJx4a65c 7 "java/lang/Object" ∈ xTs := xTs_t 384 (by decide +kernel) (by decide +kernel)
theorem q_ml_X4_66 : Cond.methodLink RX4 66 yX2_measureTours ∈ xTs := xTs_t 385 (by decide +kernel) (by decide +kernel)
theorem q_im_X2_measureTours : Cond.instanceMethod yX2_measureTours ∈ xTs := xTs_t 386 (by decide +kernel) (by decide +kernel)
theorem q_sel_X2_X2_measureTours : Cond.selects RX2 yX2_measureTours yX2_measureTours ∈ xTs := xTs_t 387 (by decide +kernel) (by decide +kernel)
theorem q_mn_X2_18 : Cond.methodLinkNest RX2 18 yX4_contains RX4 ∈ xTs := xTs_t 389 (by decide +kernel) (by decide +kernel)
theorem q_st_X4_contains : Cond.static yX4_contains ∈ xTs := xTs_t 390 (by decide +kernel) (by decide +kernel)
theorem q_mn_X2_22 : Cond.methodLinkNest RX2 22 yX4_without RX4 ∈ xTs := xTs_t 392 (by decide +kernel) (by decide +kernel)
theorem q_st_X4_without : Cond.static yX4_without ∈ xTs := xTs_t 393 (by decide +kernel) (by decide +kernel)
theorem q_ml_X2_26 : Cond.methodLink RX2 26 yX2_leastFrom ∈ xTs := xTs_t 395 (by decide +kernel) (by decide +kernel)
theorem q_im_X2_leastFrom : Cond.instanceMethod yX2_leastFrom ∈ xTs := xTs_t 396 (by decide +kernel) (by decide +kernel)
theorem q_sel_X2_X2_leastFrom : Cond.selects RX2 yX2_leastFrom yX2_leastFrom ∈ xTs := xTs_t 397 (by decide +kernel) (by decide +kernel)
theorem q_ml_X2_29 : Cond.methodLink RX2 29 yX2_between ∈ xTs := xTs_t 399 (by decide +kernel) (by decide +kernel)
theorem q_ml_X2_32 : Cond.methodLink RX2 32 yX2_nextStop ∈ xTs := xTs_t 400 (by decide +kernel) (by decide +kernel)
theorem q_im_X2_nextStop : Cond.instanceMethod yX2_nextStop ∈ xTs := xTs_t 401 (by decide +kernel) (by decide +kernel)
theorem q_sel_X2_X2_nextStop : Cond.selects RX2 yX2_nextStop yX2_nextStop ∈ xTs := xTs_t 402 (by decide +kernel) (by decide +kernel)
theorem q_ml_X2_35 : Cond.methodLink RX2 35 yX2_leastBy ∈ xTs := xTs_t 404 (by decide +kernel) (by decide +kernel)
theorem q_im_X2_leastBy : Cond.instanceMethod yX2_leastBy ∈ xTs := xTs_t 406 (by decide +kernel) (by decide +kernel)
theorem q_ml_L_76 : Cond.methodLink RL 76 yL_setMinutes ∈ xTs := xTs_t 408 (by decide +kernel) (by decide +kernel)
theorem q_st_L_setMinutes : Cond.static yL_setMinutes ∈ xTs := xTs_t 409 (by decide +kernel) (by decide +kernel)
theorem q_cl_L_21 : Cond.classLink RL 21 "java/lang/IndexOutOfBoundsException" ∈ xTs := xTs_t 411 (by decide +kernel) (by decide +kernel)
theorem q_ml_L_17 : Cond.methodLink RL 17 yX4_setMinutes ∈ xTs := xTs_t 412 (by decide +kernel) (by decide +kernel)
theorem q_im_X4_setMinutes : Cond.instanceMethod yX4_setMinutes ∈ xTs := xTs_t 413 (by decide +kernel) (by decide +kernel)
theorem q_sel_X4_X4_setMinutes : Cond.selects RX4 yX4_setMinutes yX4_setMinutes ∈ xTs := xTs_t 414 (by decide +kernel) (by decide +kernel)
theorem q_ml_X4_69 : Cond.methodLink RX4 69 yX4_isNoPlace ∈ xTs := xTs_t 416 (by decide +kernel) (by decide +kernel)
theorem q_im_X4_isNoPlace : Cond.instanceMethod yX4_isNoPlace ∈ xTs := xTs_t 418 (by decide +kernel) (by decide +kernel)
theorem q_ml_X4_232 : Cond.methodLink RX4 232 yX4_isNoMachine ∈ xTs := xTs_t 420 (by decide +kernel) (by decide +kernel)
theorem q_im_X4_isNoMachine : Cond.instanceMethod yX4_isNoMachine ∈ xTs := xTs_t 422 (by decide +kernel) (by decide +kernel)
theorem q_cl_X4_73 : Cond.classLink RX4 73 "java/lang/IndexOutOfBoundsException" ∈ xTs := xTs_t 424 (by decide +kernel) (by decide +kernel)
theorem q_mk_java_lang_IndexOutOfBoundsException : Cond.instantiable "java/lang/IndexOutOfBoundsException" 6 ∈ xTs := xTs_t 425 (by decide +kernel) (by decide +kernel)
theorem q_ca_java_lang_IndexOutOfBoundsException_java_lang_IndexOutOfBoundsException : Cond.castable "java/lang/IndexOutOfBoundsException" "java/lang/IndexOutOfBoundsException" ∈ xTs := xTs_t 426 (by decide +kernel) (by decide +kernel)
theorem q_ml_X4_77 : Cond.methodLink RX4 77 ⟨"java/lang/IndexOutOfBoundsException", "<init>", "(Ljava/lang/String;)V"⟩ ∈ xTs := xTs_t 434 (by decide +kernel) (by decide +kernel)
theorem q_im_java_lang_IndexOutOfBoundsException__init_ : Cond.instanceMethod ⟨"java/lang/IndexOutOfBoundsException", "<init>", "(Ljava/lang/String;)V"⟩ ∈ xTs := xTs_t 435 (by decide +kernel) (by decide +kernel)
theorem q_ml_java_lang_IndexOutOfBoundsException_7 : Cond.methodLink "java/lang/IndexOutOfBoundsException" 7 ⟨"java/lang/RuntimeException", "<init>", "(Ljava/lang/String;)V"⟩ ∈ xTs := xTs_t 437 (by decide +kernel) (by decide +kernel)
theorem q_ml_X4_86 : Cond.methodLink RX4 86 yX2_setBetween ∈ xTs := xTs_t 442 (by decide +kernel) (by decide +kernel)
theorem q_im_X2_setBetween : Cond.instanceMethod yX2_setBetween ∈ xTs := xTs_t 443 (by decide +kernel) (by decide +kernel)
theorem q_sel_X2_X2_setBetween : Cond.selects RX2 yX2_setBetween yX2_setBetween ∈ xTs := xTs_t 444 (by decide +kernel) (by decide +kernel)
theorem q_ml_L_80 : Cond.methodLink RL 80 yL_setSlot ∈ xTs := xTs_t 446 (by decide +kernel) (by decide +kernel)
theorem q_st_L_setSlot : Cond.static yL_setSlot ∈ xTs := xTs_t 447 (by decide +kernel) (by decide +kernel)
theorem q_ml_L_23 : Cond.methodLink RL 23 yX4_setSlot ∈ xTs := xTs_t 449 (by decide +kernel) (by decide +kernel)
theorem q_im_X4_setSlot : Cond.instanceMethod yX4_setSlot ∈ xTs := xTs_t 450 (by decide +kernel) (by decide +kernel)
theorem q_sel_X4_X4_setSlot : Cond.selects RX4 yX4_setSlot yX4_setSlot ∈ xTs := xTs_t 451 (by decide +kernel) (by decide +kernel)
theorem q_ml_X4_90 : Cond.methodLink RX4 90 yX4_slotAt ∈ xTs := xTs_t 453 (by decide +kernel) (by decide +kernel)
theorem q_im_X4_slotAt : Cond.instanceMethod yX4_slotAt ∈ xTs := xTs_t 455 (by decide +kernel) (by decide +kernel)
theorem q_ml_X4_138 : Cond.methodLink RX4 138 yX4_machineAt ∈ xTs := xTs_t 457 (by decide +kernel) (by decide +kernel)
theorem q_im_X4_machineAt : Cond.instanceMethod yX4_machineAt ∈ xTs := xTs_t 459 (by decide +kernel) (by decide +kernel)
theorem q_ml_X4_107 : Cond.methodLink RX4 107 Lib.Math.min.name ∈ xTs := xTs_t 464 (by decide +kernel) (by decide +kernel)
theorem q_ml_L_84 : Cond.methodLink RL 84 yL_planPrice ∈ xTs := xTs_t 465 (by decide +kernel) (by decide +kernel)
theorem q_st_L_planPrice : Cond.static yL_planPrice ∈ xTs := xTs_t 466 (by decide +kernel) (by decide +kernel)
theorem q_ml_L_27 : Cond.methodLink RL 27 yX4_planPrice ∈ xTs := xTs_t 468 (by decide +kernel) (by decide +kernel)
theorem q_im_X4_planPrice : Cond.instanceMethod yX4_planPrice ∈ xTs := xTs_t 469 (by decide +kernel) (by decide +kernel)
theorem q_sel_X4_X4_planPrice : Cond.selects RX4 yX4_planPrice yX4_planPrice ∈ xTs := xTs_t 470 (by decide +kernel) (by decide +kernel)
theorem q_cl_X4_127 : Cond.classLink RX4 127 RX1 ∈ xTs := xTs_t 475 (by decide +kernel) (by decide +kernel)
theorem q_mk_X1 : Cond.instantiable RX1 3 ∈ xTs := xTs_t 476 (by decide +kernel) (by decide +kernel)
theorem q_ml_X4_129 : Cond.methodLink RX4 129 yX1_init ∈ xTs := xTs_t 477 (by decide +kernel) (by decide +kernel)
theorem q_im_X1_init : Cond.instanceMethod yX1_init ∈ xTs := xTs_t 478 (by decide +kernel) (by decide +kernel)
theorem q_ml_X1_1 : Cond.methodLink RX1 1 objectInit ∈ xTs := xTs_t 480 (by decide +kernel) (by decide +kernel)
theorem q_fl_X1_7 : Cond.fieldLink RX1 7 "VendingRounds$PriceChange" "slot" "LVendingRounds$Slot;" ∈ xTs := xTs_t 481 (by decide +kernel) (by decide +kernel)
theorem q_fl_X4_245 : Cond.fieldLink RX4 245 "VendingRounds$PriceChange" "slot" "LVendingRounds$Slot;" ∈ xTs := xTs_t 482 (by decide +kernel) (by decide +kernel)
theorem q_fl_X1_13 : Cond.fieldLink RX1 13 "VendingRounds$PriceChange" "day" "I" ∈ xTs := xTs_t 483 (by decide +kernel) (by decide +kernel)
theorem q_fl_X4_244 : Cond.fieldLink RX4 244 "VendingRounds$PriceChange" "day" "I" ∈ xTs := xTs_t 484 (by decide +kernel) (by decide +kernel)
theorem q_fl_X1_17 : Cond.fieldLink RX1 17 "VendingRounds$PriceChange" "price" "I" ∈ xTs := xTs_t 485 (by decide +kernel) (by decide +kernel)
theorem q_fl_X4_249 : Cond.fieldLink RX4 249 "VendingRounds$PriceChange" "price" "I" ∈ xTs := xTs_t 486 (by decide +kernel) (by decide +kernel)
theorem q_ml_L_91 : Cond.methodLink RL 91 yL_slot ∈ xTs := xTs_t 494 (by decide +kernel) (by decide +kernel)
theorem q_st_L_slot : Cond.static yL_slot ∈ xTs := xTs_t 495 (by decide +kernel) (by decide +kernel)
theorem q_ml_L_30 : Cond.methodLink RL 30 yX4_slot ∈ xTs := xTs_t 497 (by decide +kernel) (by decide +kernel)
theorem q_im_X4_slot : Cond.instanceMethod yX4_slot ∈ xTs := xTs_t 498 (by decide +kernel) (by decide +kernel)
theorem q_sel_X4_X4_slot : Cond.selects RX4 yX4_slot yX4_slot ∈ xTs := xTs_t 499 (by decide +kernel) (by decide +kernel)
theorem q_ml_L_94 : Cond.methodLink RL 94 yL_machine ∈ xTs := xTs_t 502 (by decide +kernel) (by decide +kernel)
theorem q_st_L_machine : Cond.static yL_machine ∈ xTs := xTs_t 503 (by decide +kernel) (by decide +kernel)
theorem q_ml_L_33 : Cond.methodLink RL 33 yX4_machine ∈ xTs := xTs_t 505 (by decide +kernel) (by decide +kernel)
theorem q_im_X4_machine : Cond.instanceMethod yX4_machine ∈ xTs := xTs_t 506 (by decide +kernel) (by decide +kernel)
theorem q_sel_X4_X4_machine : Cond.selects RX4 yX4_machine yX4_machine ∈ xTs := xTs_t 507 (by decide +kernel) (by decide +kernel)
theorem q_ml_L_98 : Cond.methodLink RL 98 yL_runsOut ∈ xTs := xTs_t 510 (by decide +kernel) (by decide +kernel)
theorem q_st_L_runsOut : Cond.static yL_runsOut ∈ xTs := xTs_t 511 (by decide +kernel) (by decide +kernel)
theorem q_ml_L_37 : Cond.methodLink RL 37 yX4_runsOut ∈ xTs := xTs_t 513 (by decide +kernel) (by decide +kernel)
theorem q_im_X4_runsOut : Cond.instanceMethod yX4_runsOut ∈ xTs := xTs_t 514 (by decide +kernel) (by decide +kernel)
theorem q_sel_X4_X4_runsOut : Cond.selects RX4 yX4_runsOut yX4_runsOut ∈ xTs := xTs_t 515 (by decide +kernel) (by decide +kernel)
theorem q_ml_L_101 : Cond.methodLink RL 101 yL_pass ∈ xTs := xTs_t 517 (by decide +kernel) (by decide +kernel)
theorem q_st_L_pass : Cond.static yL_pass ∈ xTs := xTs_t 518 (by decide +kernel) (by decide +kernel)
theorem q_ml_L_40 : Cond.methodLink RL 40 yX4_pass ∈ xTs := xTs_t 520 (by decide +kernel) (by decide +kernel)
theorem q_im_X4_pass : Cond.instanceMethod yX4_pass ∈ xTs := xTs_t 521 (by decide +kernel) (by decide +kernel)
theorem q_sel_X4_X4_pass : Cond.selects RX4 yX4_pass yX4_pass ∈ xTs := xTs_t 522 (by decide +kernel) (by decide +kernel)
theorem q_ml_X4_149 : Cond.methodLink RX4 149 yX4_sellEverywhere ∈ xTs := xTs_t 526 (by decide +kernel) (by decide +kernel)
theorem q_im_X4_sellEverywhere : Cond.instanceMethod yX4_sellEverywhere ∈ xTs := xTs_t 528 (by decide +kernel) (by decide +kernel)
theorem q_ml_X4_241 : Cond.methodLink RX4 241 yX0_sellForADay ∈ xTs := xTs_t 530 (by decide +kernel) (by decide +kernel)
theorem q_im_X0_sellForADay : Cond.instanceMethod yX0_sellForADay ∈ xTs := xTs_t 531 (by decide +kernel) (by decide +kernel)
theorem q_sel_X0_X0_sellForADay : Cond.selects RX0 yX0_sellForADay yX0_sellForADay ∈ xTs := xTs_t 532 (by decide +kernel) (by decide +kernel)
theorem q_ml_X0_39 : Cond.methodLink RX0 39 yX0_sellFrom ∈ xTs := xTs_t 534 (by decide +kernel) (by decide +kernel)
theorem q_im_X0_sellFrom : Cond.instanceMethod yX0_sellFrom ∈ xTs := xTs_t 536 (by decide +kernel) (by decide +kernel)
theorem q_ml_X4_152 : Cond.methodLink RX4 152 yX4_changePrices ∈ xTs := xTs_t 538 (by decide +kernel) (by decide +kernel)
theorem q_im_X4_changePrices : Cond.instanceMethod yX4_changePrices ∈ xTs := xTs_t 540 (by decide +kernel) (by decide +kernel)
theorem q_ml_X4_250 : Cond.methodLink RX4 250 yJx4a65c_remove_915e3 ∈ xTs := xTs_t 542 (by decide +kernel) (by decide +kernel)
theorem q_im_Jx4a65c_remove_915e3 : Cond.instanceMethod yJx4a65c_remove_915e3 ∈ xTs := xTs_t 543 (by decide +kernel) (by decide +kernel)
theorem q_sel_Jx4a65c_Jx4a65c_remove_915e3 : Cond.selects RJx4a65c yJx4a65c_remove_915e3 yJx4a65c_remove_915e3 ∈ xTs := xTs_t 544 (by decide +kernel) (by decide +kernel)
theorem q_ml_Jx4a65c_144 : Cond.methodLink RJx4a65c 144 yJx4a65c_fastRemove_b59b0 ∈ xTs := xTs_t 546 (by decide +kernel) (by decide +kernel)
theorem q_im_Jx4a65c_fastRemove_b59b0 : Cond.instanceMethod yJx4a65c_fastRemove_b59b0 ∈ xTs := xTs_t 548 (by decide +kernel) (by decide +kernel)
theorem q_ml_Jx4a65c_112 : Cond.methodLink RJx4a65c 112 arraycopyName ∈ xTs := xTs_t 550 (by decide +kernel) (by decide +kernel)
theorem q_ml_L_112 : Cond.methodLink RL 112 yL_drive ∈ xTs := xTs_t 551 (by decide +kernel) (by decide +kernel)
theorem q_st_L_drive : Cond.static yL_drive ∈ xTs := xTs_t 552 (by decide +kernel) (by decide +kernel)
theorem q_ml_L_43 : Cond.methodLink RL 43 yX4_drive ∈ xTs := xTs_t 554 (by decide +kernel) (by decide +kernel)
theorem q_im_X4_drive : Cond.instanceMethod yX4_drive ∈ xTs := xTs_t 555 (by decide +kernel) (by decide +kernel)
theorem q_sel_X4_X4_drive : Cond.selects RX4 yX4_drive yX4_drive ∈ xTs := xTs_t 556 (by decide +kernel) (by decide +kernel)
theorem q_ml_X4_155 : Cond.methodLink RX4 155 yX4_requireSet ∈ xTs := xTs_t 558 (by decide +kernel) (by decide +kernel)
theorem q_im_X4_requireSet : Cond.instanceMethod yX4_requireSet ∈ xTs := xTs_t 560 (by decide +kernel) (by decide +kernel)
theorem q_ml_X4_158 : Cond.methodLink RX4 158 yX2_leastFrom ∈ xTs := xTs_t 563 (by decide +kernel) (by decide +kernel)
theorem q_ml_L_115 : Cond.methodLink RL 115 yL_visit ∈ xTs := xTs_t 564 (by decide +kernel) (by decide +kernel)
theorem q_st_L_visit : Cond.static yL_visit ∈ xTs := xTs_t 565 (by decide +kernel) (by decide +kernel)
theorem q_ml_L_46 : Cond.methodLink RL 46 yX4_visit ∈ xTs := xTs_t 567 (by decide +kernel) (by decide +kernel)
theorem q_im_X4_visit : Cond.instanceMethod yX4_visit ∈ xTs := xTs_t 568 (by decide +kernel) (by decide +kernel)
theorem q_sel_X4_X4_visit : Cond.selects RX4 yX4_visit yX4_visit ∈ xTs := xTs_t 569 (by decide +kernel) (by decide +kernel)
theorem q_ml_X4_161 : Cond.methodLink RX4 161 yJ6_bitCount_0f7a4 ∈ xTs := xTs_t 571 (by decide +kernel) (by decide +kernel)
theorem q_st_J6_bitCount_0f7a4 : Cond.static yJ6_bitCount_0f7a4 ∈ xTs := xTs_t 572 (by decide +kernel) (by decide +kernel)
theorem q_ko_J6_265 : Cond.constant RJ6 265 (1431655765 : Int32) ∈ xTs := xTs_t 574 (by decide +kernel) (by decide +kernel)
theorem q_ko_J6_266 : Cond.constant RJ6 266 (858993459 : Int32) ∈ xTs := xTs_t 575 (by decide +kernel) (by decide +kernel)
theorem q_ko_J6_267 : Cond.constant RJ6 267 (252645135 : Int32) ∈ xTs := xTs_t 576 (by decide +kernel) (by decide +kernel)
theorem q_ml_X4_168 : Cond.methodLink RX4 168 yX2_nextStop ∈ xTs := xTs_t 578 (by decide +kernel) (by decide +kernel)
theorem q_ml_X4_171 : Cond.methodLink RX4 171 yX4_without ∈ xTs := xTs_t 579 (by decide +kernel) (by decide +kernel)
theorem q_ml_L_118 : Cond.methodLink RL 118 yL_minutes ∈ xTs := xTs_t 580 (by decide +kernel) (by decide +kernel)
theorem q_st_L_minutes : Cond.static yL_minutes ∈ xTs := xTs_t 581 (by decide +kernel) (by decide +kernel)
theorem q_ml_L_49 : Cond.methodLink RL 49 yX4_minutes ∈ xTs := xTs_t 583 (by decide +kernel) (by decide +kernel)
theorem q_im_X4_minutes : Cond.instanceMethod yX4_minutes ∈ xTs := xTs_t 584 (by decide +kernel) (by decide +kernel)
theorem q_sel_X4_X4_minutes : Cond.selects RX4 yX4_minutes yX4_minutes ∈ xTs := xTs_t 585 (by decide +kernel) (by decide +kernel)
theorem q_ml_X4_174 : Cond.methodLink RX4 174 yX4_survey ∈ xTs := xTs_t 587 (by decide +kernel) (by decide +kernel)
theorem q_im_X4_survey : Cond.instanceMethod yX4_survey ∈ xTs := xTs_t 589 (by decide +kernel) (by decide +kernel)
theorem q_ml_X4_253 : Cond.methodLink RX4 253 yX0_lacking ∈ xTs := xTs_t 591 (by decide +kernel) (by decide +kernel)
theorem q_ml_X4_256 : Cond.methodLink RX4 256 yX0_gain ∈ xTs := xTs_t 592 (by decide +kernel) (by decide +kernel)
theorem q_ml_X4_259 : Cond.methodLink RX4 259 yX0_visitTime ∈ xTs := xTs_t 593 (by decide +kernel) (by decide +kernel)
theorem q_im_X0_visitTime : Cond.instanceMethod yX0_visitTime ∈ xTs := xTs_t 594 (by decide +kernel) (by decide +kernel)
theorem q_sel_X0_X0_visitTime : Cond.selects RX0 yX0_visitTime yX0_visitTime ∈ xTs := xTs_t 595 (by decide +kernel) (by decide +kernel)
theorem q_ml_X4_177 : Cond.methodLink RX4 177 yX4_roundTime ∈ xTs := xTs_t 597 (by decide +kernel) (by decide +kernel)
theorem q_im_X4_roundTime : Cond.instanceMethod yX4_roundTime ∈ xTs := xTs_t 599 (by decide +kernel) (by decide +kernel)
theorem q_ml_X4_185 : Cond.methodLink RX4 185 yX4_sumOver ∈ xTs := xTs_t 601 (by decide +kernel) (by decide +kernel)
theorem q_st_X4_sumOver : Cond.static yX4_sumOver ∈ xTs := xTs_t 602 (by decide +kernel) (by decide +kernel)
theorem q_ml_X4_226 : Cond.methodLink RX4 226 yX4_contains ∈ xTs := xTs_t 604 (by decide +kernel) (by decide +kernel)
theorem q_ml_L_121 : Cond.methodLink RL 121 yL_best ∈ xTs := xTs_t 605 (by decide +kernel) (by decide +kernel)
theorem q_st_L_best : Cond.static yL_best ∈ xTs := xTs_t 606 (by decide +kernel) (by decide +kernel)
theorem q_ml_L_52 : Cond.methodLink RL 52 yX4_best ∈ xTs := xTs_t 608 (by decide +kernel) (by decide +kernel)
theorem q_im_X4_best : Cond.instanceMethod yX4_best ∈ xTs := xTs_t 609 (by decide +kernel) (by decide +kernel)
theorem q_sel_X4_X4_best : Cond.selects RX4 yX4_best yX4_best ∈ xTs := xTs_t 610 (by decide +kernel) (by decide +kernel)
theorem q_ml_X4_182 : Cond.methodLink RX4 182 yX4_requireLoad ∈ xTs := xTs_t 613 (by decide +kernel) (by decide +kernel)
theorem q_st_X4_requireLoad : Cond.static yX4_requireLoad ∈ xTs := xTs_t 614 (by decide +kernel) (by decide +kernel)
theorem q_ml_L_124 : Cond.methodLink RL 124 yL_go ∈ xTs := xTs_t 617 (by decide +kernel) (by decide +kernel)
theorem q_st_L_go : Cond.static yL_go ∈ xTs := xTs_t 618 (by decide +kernel) (by decide +kernel)
theorem q_ml_L_55 : Cond.methodLink RL 55 yX4_go ∈ xTs := xTs_t 620 (by decide +kernel) (by decide +kernel)
theorem q_im_X4_go : Cond.instanceMethod yX4_go ∈ xTs := xTs_t 621 (by decide +kernel) (by decide +kernel)
theorem q_sel_X4_X4_go : Cond.selects RX4 yX4_go yX4_go ∈ xTs := xTs_t 622 (by decide +kernel) (by decide +kernel)
theorem q_ml_X4_200 : Cond.methodLink RX4 200 yX4_serve ∈ xTs := xTs_t 624 (by decide +kernel) (by decide +kernel)
theorem q_im_X4_serve : Cond.instanceMethod yX4_serve ∈ xTs := xTs_t 626 (by decide +kernel) (by decide +kernel)
theorem q_ml_X4_262 : Cond.methodLink RX4 262 yX0_emptyBox ∈ xTs := xTs_t 628 (by decide +kernel) (by decide +kernel)
theorem q_im_X0_emptyBox : Cond.instanceMethod yX0_emptyBox ∈ xTs := xTs_t 629 (by decide +kernel) (by decide +kernel)
theorem q_sel_X0_X0_emptyBox : Cond.selects RX0 yX0_emptyBox yX0_emptyBox ∈ xTs := xTs_t 630 (by decide +kernel) (by decide +kernel)
theorem q_ml_X4_268 : Cond.methodLink RX4 268 yX0_fillUp ∈ xTs := xTs_t 632 (by decide +kernel) (by decide +kernel)
theorem q_im_X0_fillUp : Cond.instanceMethod yX0_fillUp ∈ xTs := xTs_t 633 (by decide +kernel) (by decide +kernel)
theorem q_sel_X0_X0_fillUp : Cond.selects RX0 yX0_fillUp yX0_fillUp ∈ xTs := xTs_t 634 (by decide +kernel) (by decide +kernel)
theorem q_ml_X0_55 : Cond.methodLink RX0 55 Lib.Math.min.name ∈ xTs := xTs_t 636 (by decide +kernel) (by decide +kernel)
theorem q_ml_L_127 : Cond.methodLink RL 127 yL_total ∈ xTs := xTs_t 637 (by decide +kernel) (by decide +kernel)
theorem q_st_L_total : Cond.static yL_total ∈ xTs := xTs_t 638 (by decide +kernel) (by decide +kernel)
theorem q_ml_L_58 : Cond.methodLink RL 58 yX4_total ∈ xTs := xTs_t 640 (by decide +kernel) (by decide +kernel)
theorem q_im_X4_total : Cond.instanceMethod yX4_total ∈ xTs := xTs_t 641 (by decide +kernel) (by decide +kernel)
theorem q_sel_X4_X4_total : Cond.selects RX4 yX4_total yX4_total ∈ xTs := xTs_t 642 (by decide +kernel) (by decide +kernel)
theorem q_cl_L_63 : Cond.classLink RL 63 RX5 ∈ xTs := xTs_t 645 (by decide +kernel) (by decide +kernel)
theorem q_mk_X5 : Cond.instantiable RX5 17 ∈ xTs := xTs_t 646 (by decide +kernel) (by decide +kernel)
theorem q_ml_L_65 : Cond.methodLink RL 65 yX5_init ∈ xTs := xTs_t 647 (by decide +kernel) (by decide +kernel)
theorem q_im_X5_init : Cond.instanceMethod yX5_init ∈ xTs := xTs_t 648 (by decide +kernel) (by decide +kernel)
theorem q_ml_X5_1 : Cond.methodLink RX5 1 objectInit ∈ xTs := xTs_t 650 (by decide +kernel) (by decide +kernel)
theorem q_fl_X5_50 : Cond.fieldLink RX5 50 "VendingRoundsModel" "thrown" "I" ∈ xTs := xTs_t 651 (by decide +kernel) (by decide +kernel)
theorem q_fl_X5_83 : Cond.fieldLink RX5 83 "VendingRoundsModel" "day" "I" ∈ xTs := xTs_t 652 (by decide +kernel) (by decide +kernel)
theorem q_fl_X5_54 : Cond.fieldLink RX5 54 "VendingRoundsModel" "machines" "I" ∈ xTs := xTs_t 653 (by decide +kernel) (by decide +kernel)
theorem q_fl_X5_9 : Cond.fieldLink RX5 9 "VendingRoundsModel" "limits" "[I" ∈ xTs := xTs_t 654 (by decide +kernel) (by decide +kernel)
theorem q_fl_X5_13 : Cond.fieldLink RX5 13 "VendingRoundsModel" "boxes" "[I" ∈ xTs := xTs_t 655 (by decide +kernel) (by decide +kernel)
theorem q_fl_X5_16 : Cond.fieldLink RX5 16 "VendingRoundsModel" "visits" "[I" ∈ xTs := xTs_t 656 (by decide +kernel) (by decide +kernel)
theorem q_fl_X5_19 : Cond.fieldLink RX5 19 "VendingRoundsModel" "ways" "[I" ∈ xTs := xTs_t 657 (by decide +kernel) (by decide +kernel)
theorem q_fl_X5_22 : Cond.fieldLink RX5 22 "VendingRoundsModel" "rooms" "[I" ∈ xTs := xTs_t 658 (by decide +kernel) (by decide +kernel)
theorem q_fl_X5_25 : Cond.fieldLink RX5 25 "VendingRoundsModel" "stocks" "[I" ∈ xTs := xTs_t 659 (by decide +kernel) (by decide +kernel)
theorem q_fl_X5_28 : Cond.fieldLink RX5 28 "VendingRoundsModel" "prices" "[I" ∈ xTs := xTs_t 660 (by decide +kernel) (by decide +kernel)
theorem q_fl_X5_31 : Cond.fieldLink RX5 31 "VendingRoundsModel" "wants" "[I" ∈ xTs := xTs_t 661 (by decide +kernel) (by decide +kernel)
theorem q_fl_X5_34 : Cond.fieldLink RX5 34 "VendingRoundsModel" "sold" "[I" ∈ xTs := xTs_t 662 (by decide +kernel) (by decide +kernel)
theorem q_fl_X5_37 : Cond.fieldLink RX5 37 "VendingRoundsModel" "lost" "[I" ∈ xTs := xTs_t 663 (by decide +kernel) (by decide +kernel)
theorem q_fl_X5_86 : Cond.fieldLink RX5 86 "VendingRoundsModel" "plans" "I" ∈ xTs := xTs_t 664 (by decide +kernel) (by decide +kernel)
theorem q_fl_X5_40 : Cond.fieldLink RX5 40 "VendingRoundsModel" "planned" "[I" ∈ xTs := xTs_t 665 (by decide +kernel) (by decide +kernel)
theorem q_fl_X5_43 : Cond.fieldLink RX5 43 "VendingRoundsModel" "totals" "[J" ∈ xTs := xTs_t 666 (by decide +kernel) (by decide +kernel)
theorem q_fl_X5_47 : Cond.fieldLink RX5 47 "VendingRoundsModel" "rest" "[I" ∈ xTs := xTs_t 667 (by decide +kernel) (by decide +kernel)
theorem q_ac_long : Cond.arrayClass .long ∈ xTs := xTs_t 703 (by decide +kernel) (by decide +kernel)
theorem q_ml_L_72 : Cond.methodLink RL 72 yX5_thrown ∈ xTs := xTs_t 704 (by decide +kernel) (by decide +kernel)
theorem q_im_X5_thrown : Cond.instanceMethod yX5_thrown ∈ xTs := xTs_t 705 (by decide +kernel) (by decide +kernel)
theorem q_sel_X5_X5_thrown : Cond.selects RX5 yX5_thrown yX5_thrown ∈ xTs := xTs_t 706 (by decide +kernel) (by decide +kernel)
theorem q_ml_L_71 : Cond.methodLink RL 71 yX5_addMachine ∈ xTs := xTs_t 708 (by decide +kernel) (by decide +kernel)
theorem q_im_X5_addMachine : Cond.instanceMethod yX5_addMachine ∈ xTs := xTs_t 709 (by decide +kernel) (by decide +kernel)
theorem q_sel_X5_X5_addMachine : Cond.selects RX5 yX5_addMachine yX5_addMachine ∈ xTs := xTs_t 710 (by decide +kernel) (by decide +kernel)
theorem q_ko_X5_65 : Cond.constant RX5 65 (100000 : Int32) ∈ xTs := xTs_t 712 (by decide +kernel) (by decide +kernel)
theorem q_ml_X5_57 : Cond.methodLink RX5 57 yX5_isIn ∈ xTs := xTs_t 713 (by decide +kernel) (by decide +kernel)
theorem q_st_X5_isIn : Cond.static yX5_isIn ∈ xTs := xTs_t 714 (by decide +kernel) (by decide +kernel)
theorem q_ml_X5_66 : Cond.methodLink RX5 66 yX5_fail ∈ xTs := xTs_t 716 (by decide +kernel) (by decide +kernel)
theorem q_im_X5_fail : Cond.instanceMethod yX5_fail ∈ xTs := xTs_t 718 (by decide +kernel) (by decide +kernel)
theorem q_ml_L_79 : Cond.methodLink RL 79 yX5_setMinutes ∈ xTs := xTs_t 720 (by decide +kernel) (by decide +kernel)
theorem q_im_X5_setMinutes : Cond.instanceMethod yX5_setMinutes ∈ xTs := xTs_t 721 (by decide +kernel) (by decide +kernel)
theorem q_sel_X5_X5_setMinutes : Cond.selects RX5 yX5_setMinutes yX5_setMinutes ∈ xTs := xTs_t 722 (by decide +kernel) (by decide +kernel)
theorem q_ml_X5_70 : Cond.methodLink RX5 70 yX5_way ∈ xTs := xTs_t 724 (by decide +kernel) (by decide +kernel)
theorem q_im_X5_way : Cond.instanceMethod yX5_way ∈ xTs := xTs_t 726 (by decide +kernel) (by decide +kernel)
theorem q_ml_L_83 : Cond.methodLink RL 83 yX5_setSlot ∈ xTs := xTs_t 728 (by decide +kernel) (by decide +kernel)
theorem q_im_X5_setSlot : Cond.instanceMethod yX5_setSlot ∈ xTs := xTs_t 729 (by decide +kernel) (by decide +kernel)
theorem q_sel_X5_X5_setSlot : Cond.selects RX5 yX5_setSlot yX5_setSlot ∈ xTs := xTs_t 730 (by decide +kernel) (by decide +kernel)
theorem q_ml_X5_74 : Cond.methodLink RX5 74 yX5_isSlot ∈ xTs := xTs_t 732 (by decide +kernel) (by decide +kernel)
theorem q_im_X5_isSlot : Cond.instanceMethod yX5_isSlot ∈ xTs := xTs_t 734 (by decide +kernel) (by decide +kernel)
theorem q_ml_X5_61 : Cond.methodLink RX5 61 yX5_isMachine ∈ xTs := xTs_t 736 (by decide +kernel) (by decide +kernel)
theorem q_im_X5_isMachine : Cond.instanceMethod yX5_isMachine ∈ xTs := xTs_t 738 (by decide +kernel) (by decide +kernel)
theorem q_ml_X5_78 : Cond.methodLink RX5 78 Lib.Math.min.name ∈ xTs := xTs_t 740 (by decide +kernel) (by decide +kernel)
theorem q_ml_L_86 : Cond.methodLink RL 86 yX5_planPrice ∈ xTs := xTs_t 741 (by decide +kernel) (by decide +kernel)
theorem q_im_X5_planPrice : Cond.instanceMethod yX5_planPrice ∈ xTs := xTs_t 742 (by decide +kernel) (by decide +kernel)
theorem q_sel_X5_X5_planPrice : Cond.selects RX5 yX5_planPrice yX5_planPrice ∈ xTs := xTs_t 743 (by decide +kernel) (by decide +kernel)
theorem q_ml_L_90 : Cond.methodLink RL 90 yX5_machineCount ∈ xTs := xTs_t 745 (by decide +kernel) (by decide +kernel)
theorem q_im_X5_machineCount : Cond.instanceMethod yX5_machineCount ∈ xTs := xTs_t 746 (by decide +kernel) (by decide +kernel)
theorem q_sel_X5_X5_machineCount : Cond.selects RX5 yX5_machineCount yX5_machineCount ∈ xTs := xTs_t 747 (by decide +kernel) (by decide +kernel)
theorem q_ml_L_93 : Cond.methodLink RL 93 yX5_slot ∈ xTs := xTs_t 749 (by decide +kernel) (by decide +kernel)
theorem q_im_X5_slot : Cond.instanceMethod yX5_slot ∈ xTs := xTs_t 750 (by decide +kernel) (by decide +kernel)
theorem q_sel_X5_X5_slot : Cond.selects RX5 yX5_slot yX5_slot ∈ xTs := xTs_t 751 (by decide +kernel) (by decide +kernel)
theorem q_ml_X5_89 : Cond.methodLink RX5 89 yX5_slotOf ∈ xTs := xTs_t 753 (by decide +kernel) (by decide +kernel)
theorem q_im_X5_slotOf : Cond.instanceMethod yX5_slotOf ∈ xTs := xTs_t 755 (by decide +kernel) (by decide +kernel)
theorem q_ml_L_97 : Cond.methodLink RL 97 yX5_machine ∈ xTs := xTs_t 757 (by decide +kernel) (by decide +kernel)
theorem q_im_X5_machine : Cond.instanceMethod yX5_machine ∈ xTs := xTs_t 758 (by decide +kernel) (by decide +kernel)
theorem q_sel_X5_X5_machine : Cond.selects RX5 yX5_machine yX5_machine ∈ xTs := xTs_t 759 (by decide +kernel) (by decide +kernel)
theorem q_ml_X5_98 : Cond.methodLink RX5 98 yX5_told ∈ xTs := xTs_t 761 (by decide +kernel) (by decide +kernel)
theorem q_im_X5_told : Cond.instanceMethod yX5_told ∈ xTs := xTs_t 763 (by decide +kernel) (by decide +kernel)
theorem q_ml_X5_92 : Cond.methodLink RX5 92 yX5_lacks ∈ xTs := xTs_t 765 (by decide +kernel) (by decide +kernel)
theorem q_im_X5_lacks : Cond.instanceMethod yX5_lacks ∈ xTs := xTs_t 767 (by decide +kernel) (by decide +kernel)
theorem q_ml_X5_95 : Cond.methodLink RX5 95 yX5_gain ∈ xTs := xTs_t 769 (by decide +kernel) (by decide +kernel)
theorem q_im_X5_gain : Cond.instanceMethod yX5_gain ∈ xTs := xTs_t 771 (by decide +kernel) (by decide +kernel)
theorem q_ml_L_100 : Cond.methodLink RL 100 yX5_runsOut ∈ xTs := xTs_t 773 (by decide +kernel) (by decide +kernel)
theorem q_im_X5_runsOut : Cond.instanceMethod yX5_runsOut ∈ xTs := xTs_t 774 (by decide +kernel) (by decide +kernel)
theorem q_sel_X5_X5_runsOut : Cond.selects RX5 yX5_runsOut yX5_runsOut ∈ xTs := xTs_t 775 (by decide +kernel) (by decide +kernel)
theorem q_ml_L_103 : Cond.methodLink RL 103 yX5_pass ∈ xTs := xTs_t 777 (by decide +kernel) (by decide +kernel)
theorem q_im_X5_pass : Cond.instanceMethod yX5_pass ∈ xTs := xTs_t 778 (by decide +kernel) (by decide +kernel)
theorem q_sel_X5_X5_pass : Cond.selects RX5 yX5_pass yX5_pass ∈ xTs := xTs_t 779 (by decide +kernel) (by decide +kernel)
theorem q_ml_X5_101 : Cond.methodLink RX5 101 yX5_sell ∈ xTs := xTs_t 781 (by decide +kernel) (by decide +kernel)
theorem q_im_X5_sell : Cond.instanceMethod yX5_sell ∈ xTs := xTs_t 783 (by decide +kernel) (by decide +kernel)
theorem q_ml_X5_104 : Cond.methodLink RX5 104 yX5_change ∈ xTs := xTs_t 785 (by decide +kernel) (by decide +kernel)
theorem q_im_X5_change : Cond.instanceMethod yX5_change ∈ xTs := xTs_t 787 (by decide +kernel) (by decide +kernel)
theorem q_ml_L_107 : Cond.methodLink RL 107 yX5_today ∈ xTs := xTs_t 789 (by decide +kernel) (by decide +kernel)
theorem q_im_X5_today : Cond.instanceMethod yX5_today ∈ xTs := xTs_t 790 (by decide +kernel) (by decide +kernel)
theorem q_sel_X5_X5_today : Cond.selects RX5 yX5_today yX5_today ∈ xTs := xTs_t 791 (by decide +kernel) (by decide +kernel)
theorem q_ml_L_111 : Cond.methodLink RL 111 yX5_planned ∈ xTs := xTs_t 793 (by decide +kernel) (by decide +kernel)
theorem q_im_X5_planned : Cond.instanceMethod yX5_planned ∈ xTs := xTs_t 794 (by decide +kernel) (by decide +kernel)
theorem q_sel_X5_X5_planned : Cond.selects RX5 yX5_planned yX5_planned ∈ xTs := xTs_t 795 (by decide +kernel) (by decide +kernel)
theorem q_ml_L_114 : Cond.methodLink RL 114 yX5_drive ∈ xTs := xTs_t 797 (by decide +kernel) (by decide +kernel)
theorem q_im_X5_drive : Cond.instanceMethod yX5_drive ∈ xTs := xTs_t 798 (by decide +kernel) (by decide +kernel)
theorem q_sel_X5_X5_drive : Cond.selects RX5 yX5_drive yX5_drive ∈ xTs := xTs_t 799 (by decide +kernel) (by decide +kernel)
theorem q_ml_X5_116 : Cond.methodLink RX5 116 yX5_areMachines ∈ xTs := xTs_t 801 (by decide +kernel) (by decide +kernel)
theorem q_im_X5_areMachines : Cond.instanceMethod yX5_areMachines ∈ xTs := xTs_t 803 (by decide +kernel) (by decide +kernel)
theorem q_ml_X5_119 : Cond.methodLink RX5 119 yX5_tabulate ∈ xTs := xTs_t 805 (by decide +kernel) (by decide +kernel)
theorem q_im_X5_tabulate : Cond.instanceMethod yX5_tabulate ∈ xTs := xTs_t 807 (by decide +kernel) (by decide +kernel)
theorem q_ko_X5_109 : Cond.constant RX5 109 (2147483647 : Int32) ∈ xTs := xTs_t 809 (by decide +kernel) (by decide +kernel)
theorem q_ml_X5_110 : Cond.methodLink RX5 110 yX5_has ∈ xTs := xTs_t 810 (by decide +kernel) (by decide +kernel)
theorem q_st_X5_has : Cond.static yX5_has ∈ xTs := xTs_t 811 (by decide +kernel) (by decide +kernel)
theorem q_ml_X5_113 : Cond.methodLink RX5 113 yX5_restOf ∈ xTs := xTs_t 813 (by decide +kernel) (by decide +kernel)
theorem q_im_X5_restOf : Cond.instanceMethod yX5_restOf ∈ xTs := xTs_t 815 (by decide +kernel) (by decide +kernel)
theorem q_ml_L_117 : Cond.methodLink RL 117 yX5_visit ∈ xTs := xTs_t 817 (by decide +kernel) (by decide +kernel)
theorem q_im_X5_visit : Cond.instanceMethod yX5_visit ∈ xTs := xTs_t 818 (by decide +kernel) (by decide +kernel)
theorem q_sel_X5_X5_visit : Cond.selects RX5 yX5_visit yX5_visit ∈ xTs := xTs_t 819 (by decide +kernel) (by decide +kernel)
theorem q_ml_X5_123 : Cond.methodLink RX5 123 yJ6_bitCount_0f7a4 ∈ xTs := xTs_t 821 (by decide +kernel) (by decide +kernel)
theorem q_ml_X5_126 : Cond.methodLink RX5 126 yX5_nextOf ∈ xTs := xTs_t 822 (by decide +kernel) (by decide +kernel)
theorem q_im_X5_nextOf : Cond.instanceMethod yX5_nextOf ∈ xTs := xTs_t 824 (by decide +kernel) (by decide +kernel)
theorem q_ml_L_120 : Cond.methodLink RL 120 yX5_minutes ∈ xTs := xTs_t 826 (by decide +kernel) (by decide +kernel)
theorem q_im_X5_minutes : Cond.instanceMethod yX5_minutes ∈ xTs := xTs_t 827 (by decide +kernel) (by decide +kernel)
theorem q_sel_X5_X5_minutes : Cond.selects RX5 yX5_minutes yX5_minutes ∈ xTs := xTs_t 828 (by decide +kernel) (by decide +kernel)
theorem q_ml_X5_129 : Cond.methodLink RX5 129 yX5_minutesOf ∈ xTs := xTs_t 830 (by decide +kernel) (by decide +kernel)
theorem q_im_X5_minutesOf : Cond.instanceMethod yX5_minutesOf ∈ xTs := xTs_t 832 (by decide +kernel) (by decide +kernel)
theorem q_ml_L_123 : Cond.methodLink RL 123 yX5_best ∈ xTs := xTs_t 834 (by decide +kernel) (by decide +kernel)
theorem q_im_X5_best : Cond.instanceMethod yX5_best ∈ xTs := xTs_t 835 (by decide +kernel) (by decide +kernel)
theorem q_sel_X5_X5_best : Cond.selects RX5 yX5_best yX5_best ∈ xTs := xTs_t 836 (by decide +kernel) (by decide +kernel)
theorem q_ml_L_126 : Cond.methodLink RL 126 yX5_go ∈ xTs := xTs_t 838 (by decide +kernel) (by decide +kernel)
theorem q_im_X5_go : Cond.instanceMethod yX5_go ∈ xTs := xTs_t 839 (by decide +kernel) (by decide +kernel)
theorem q_sel_X5_X5_go : Cond.selects RX5 yX5_go yX5_go ∈ xTs := xTs_t 840 (by decide +kernel) (by decide +kernel)
theorem q_ml_L_129 : Cond.methodLink RL 129 yX5_total ∈ xTs := xTs_t 842 (by decide +kernel) (by decide +kernel)
theorem q_im_X5_total : Cond.instanceMethod yX5_total ∈ xTs := xTs_t 843 (by decide +kernel) (by decide +kernel)
theorem q_sel_X5_X5_total : Cond.selects RX5 yX5_total yX5_total ∈ xTs := xTs_t 844 (by decide +kernel) (by decide +kernel)
theorem q_ml_L_134 : Cond.methodLink RL 134 yX5_filled ∈ xTs := xTs_t 846 (by decide +kernel) (by decide +kernel)
theorem q_im_X5_filled : Cond.instanceMethod yX5_filled ∈ xTs := xTs_t 847 (by decide +kernel) (by decide +kernel)
theorem q_sel_X5_X5_filled : Cond.selects RX5 yX5_filled yX5_filled ∈ xTs := xTs_t 848 (by decide +kernel) (by decide +kernel)
theorem q_ml_L_139 : Cond.methodLink RL 139 yX5_digest ∈ xTs := xTs_t 850 (by decide +kernel) (by decide +kernel)
theorem q_im_X5_digest : Cond.instanceMethod yX5_digest ∈ xTs := xTs_t 851 (by decide +kernel) (by decide +kernel)
theorem q_sel_X5_X5_digest : Cond.selects RX5 yX5_digest yX5_digest ∈ xTs := xTs_t 852 (by decide +kernel) (by decide +kernel)
theorem q_ko_X5_132 : Cond.constantLong RX5 132 (6541 : Int64) ∈ xTs := xTs_t 854 (by decide +kernel) (by decide +kernel)
theorem q_ko_X5_134 : Cond.constantLong RX5 134 (31 : Int64) ∈ xTs := xTs_t 855 (by decide +kernel) (by decide +kernel)
theorem q_ca_X3_java_lang_Object : Cond.castable RX3 "java/lang/Object" ∈ xTs := xTs_t 857 (by decide +kernel) (by decide +kernel)
theorem q_ca_X4_java_lang_Object : Cond.castable RX4 "java/lang/Object" ∈ xTs := xTs_t 858 (by decide +kernel) (by decide +kernel)
theorem q_ca_Jx4a65c_java_lang_Object : Cond.castable RJx4a65c "java/lang/Object" ∈ xTs := xTs_t 859 (by decide +kernel) (by decide +kernel)
theorem q_ca_X2_java_lang_Object : Cond.castable RX2 "java/lang/Object" ∈ xTs := xTs_t 860 (by decide +kernel) (by decide +kernel)
theorem q_ca_X5_java_lang_Object : Cond.castable RX5 "java/lang/Object" ∈ xTs := xTs_t 861 (by decide +kernel) (by decide +kernel)
theorem q_ca_java_lang_IllegalArgumentException_java_lang_Object : Cond.castable "java/lang/IllegalArgumentException" "java/lang/Object" ∈ xTs := xTs_t 862 (by decide +kernel) (by decide +kernel)
theorem q_ca_java_lang_IllegalStateException_java_lang_Object : Cond.castable "java/lang/IllegalStateException" "java/lang/Object" ∈ xTs := xTs_t 863 (by decide +kernel) (by decide +kernel)
theorem q_ca_X0_java_lang_Object : Cond.castable RX0 "java/lang/Object" ∈ xTs := xTs_t 864 (by decide +kernel) (by decide +kernel)
theorem q_ca_java_lang_IndexOutOfBoundsException_java_lang_Object : Cond.castable "java/lang/IndexOutOfBoundsException" "java/lang/Object" ∈ xTs := xTs_t 865 (by decide +kernel) (by decide +kernel)
theorem q_ca_X1_java_lang_Object : Cond.castable RX1 "java/lang/Object" ∈ xTs := xTs_t 866 (by decide +kernel) (by decide +kernel)
theorem q_ca_java_lang_Throwable_java_lang_Object : Cond.castable "java/lang/Throwable" "java/lang/Object" ∈ xTs := xTs_t 867 (by decide +kernel) (by decide +kernel)
theorem q_ca_J0_java_lang_Object : Cond.castable RJ0 "java/lang/Object" ∈ xTs := xTs_t 868 (by decide +kernel) (by decide +kernel)
theorem q_sel__Ljava_lang_Object__java_lang_Object_getClass : Cond.selects "[Ljava/lang/Object;" ⟨"java/lang/Object", "getClass", "()Ljava/lang/Class;"⟩ ⟨"java/lang/Object", "getClass", "()Ljava/lang/Class;"⟩ ∈ xTs := xTs_t 870 (by decide +kernel) (by decide +kernel)
theorem q_de_java_lang_Object_getClass : Cond.declares ⟨"java/lang/Object", "getClass", "()Ljava/lang/Class;"⟩ ∈ xTs := xTs_t 871 (by decide +kernel) (by decide +kernel)
theorem q_ca__I_java_lang_Object : Cond.castable "[I" "java/lang/Object" ∈ xTs := xTs_t 872 (by decide +kernel) (by decide +kernel)
theorem q_ca__B_java_lang_Object : Cond.castable "[B" "java/lang/Object" ∈ xTs := xTs_t 873 (by decide +kernel) (by decide +kernel)
theorem q_ca__LVendingRounds_Slot__java_lang_Object : Cond.castable "[LVendingRounds$Slot;" "java/lang/Object" ∈ xTs := xTs_t 874 (by decide +kernel) (by decide +kernel)
theorem q_ca__Ljava_lang_Object__java_lang_Object : Cond.castable "[Ljava/lang/Object;" "java/lang/Object" ∈ xTs := xTs_t 875 (by decide +kernel) (by decide +kernel)
theorem q_ca__J_java_lang_Object : Cond.castable "[J" "java/lang/Object" ∈ xTs := xTs_t 876 (by decide +kernel) (by decide +kernel)
theorem q_sel_Jx4a65c_Jx4a65c_add_72be8 : Cond.selects RJx4a65c yJx4a65c_add_72be8 yJx4a65c_add_72be8 ∈ xTs := xTs_s 1 (by decide +kernel) (by decide +kernel)
theorem q_sel_Jx4a65c_Jx4a65c_grow_d5877 : Cond.selects RJx4a65c yJx4a65c_grow_d5877 yJx4a65c_grow_d5877 ∈ xTs := xTs_s 2 (by decide +kernel) (by decide +kernel)
theorem q_sel_Jx4a65c_Jx4a65c_grow_92f84 : Cond.selects RJx4a65c yJx4a65c_grow_92f84 yJx4a65c_grow_92f84 ∈ xTs := xTs_s 3 (by decide +kernel) (by decide +kernel)
theorem q_sel_X2_X2_leastBy : Cond.selects RX2 yX2_leastBy yX2_leastBy ∈ xTs := xTs_s 4 (by decide +kernel) (by decide +kernel)
theorem q_sel_X4_X4_isNoPlace : Cond.selects RX4 yX4_isNoPlace yX4_isNoPlace ∈ xTs := xTs_s 5 (by decide +kernel) (by decide +kernel)
theorem q_sel_X4_X4_isNoMachine : Cond.selects RX4 yX4_isNoMachine yX4_isNoMachine ∈ xTs := xTs_s 6 (by decide +kernel) (by decide +kernel)
theorem q_sel_X4_X4_slotAt : Cond.selects RX4 yX4_slotAt yX4_slotAt ∈ xTs := xTs_s 7 (by decide +kernel) (by decide +kernel)
theorem q_sel_X4_X4_machineAt : Cond.selects RX4 yX4_machineAt yX4_machineAt ∈ xTs := xTs_s 8 (by decide +kernel) (by decide +kernel)
theorem q_sel_X4_X4_sellEverywhere : Cond.selects RX4 yX4_sellEverywhere yX4_sellEverywhere ∈ xTs := xTs_s 9 (by decide +kernel) (by decide +kernel)
theorem q_sel_X0_X0_sellFrom : Cond.selects RX0 yX0_sellFrom yX0_sellFrom ∈ xTs := xTs_s 10 (by decide +kernel) (by decide +kernel)
theorem q_sel_X4_X4_changePrices : Cond.selects RX4 yX4_changePrices yX4_changePrices ∈ xTs := xTs_s 11 (by decide +kernel) (by decide +kernel)
theorem q_sel_Jx4a65c_Jx4a65c_fastRemove_b59b0 : Cond.selects RJx4a65c yJx4a65c_fastRemove_b59b0 yJx4a65c_fastRemove_b59b0 ∈ xTs := xTs_s 12 (by decide +kernel) (by decide +kernel)
theorem q_sel_X4_X4_requireSet : Cond.selects RX4 yX4_requireSet yX4_requireSet ∈ xTs := xTs_s 13 (by decide +kernel) (by decide +kernel)
theorem q_sel_X4_X4_survey : Cond.selects RX4 yX4_survey yX4_survey ∈ xTs := xTs_s 14 (by decide +kernel) (by decide +kernel)
theorem q_sel_X4_X4_roundTime : Cond.selects RX4 yX4_roundTime yX4_roundTime ∈ xTs := xTs_s 15 (by decide +kernel) (by decide +kernel)
theorem q_sel_X4_X4_serve : Cond.selects RX4 yX4_serve yX4_serve ∈ xTs := xTs_s 16 (by decide +kernel) (by decide +kernel)
theorem q_sel_X5_X5_fail : Cond.selects RX5 yX5_fail yX5_fail ∈ xTs := xTs_s 17 (by decide +kernel) (by decide +kernel)
theorem q_sel_X5_X5_way : Cond.selects RX5 yX5_way yX5_way ∈ xTs := xTs_s 18 (by decide +kernel) (by decide +kernel)
theorem q_sel_X5_X5_isSlot : Cond.selects RX5 yX5_isSlot yX5_isSlot ∈ xTs := xTs_s 19 (by decide +kernel) (by decide +kernel)
theorem q_sel_X5_X5_isMachine : Cond.selects RX5 yX5_isMachine yX5_isMachine ∈ xTs := xTs_s 20 (by decide +kernel) (by decide +kernel)
theorem q_sel_X5_X5_slotOf : Cond.selects RX5 yX5_slotOf yX5_slotOf ∈ xTs := xTs_s 21 (by decide +kernel) (by decide +kernel)
theorem q_sel_X5_X5_told : Cond.selects RX5 yX5_told yX5_told ∈ xTs := xTs_s 22 (by decide +kernel) (by decide +kernel)
theorem q_sel_X5_X5_lacks : Cond.selects RX5 yX5_lacks yX5_lacks ∈ xTs := xTs_s 23 (by decide +kernel) (by decide +kernel)
theorem q_sel_X5_X5_gain : Cond.selects RX5 yX5_gain yX5_gain ∈ xTs := xTs_s 24 (by decide +kernel) (by decide +kernel)
theorem q_sel_X5_X5_sell : Cond.selects RX5 yX5_sell yX5_sell ∈ xTs := xTs_s 25 (by decide +kernel) (by decide +kernel)
theorem q_sel_X5_X5_change : Cond.selects RX5 yX5_change yX5_change ∈ xTs := xTs_s 26 (by decide +kernel) (by decide +kernel)
theorem q_sel_X5_X5_areMachines : Cond.selects RX5 yX5_areMachines yX5_areMachines ∈ xTs := xTs_s 27 (by decide +kernel) (by decide +kernel)
theorem q_sel_X5_X5_tabulate : Cond.selects RX5 yX5_tabulate yX5_tabulate ∈ xTs := xTs_s 28 (by decide +kernel) (by decide +kernel)
theorem q_sel_X5_X5_restOf : Cond.selects RX5 yX5_restOf yX5_restOf ∈ xTs := xTs_s 29 (by decide +kernel) (by decide +kernel)
theorem q_sel_X5_X5_nextOf : Cond.selects RX5 yX5_nextOf yX5_nextOf ∈ xTs := xTs_s 30 (by decide +kernel) (by decide +kernel)
theorem q_sel_X5_X5_minutesOf : Cond.selects RX5 yX5_minutesOf yX5_minutesOf ∈ xTs := xTs_s 31 (by decide +kernel) (by decide +kernel)
theorem q_co_X4_init : Cond.code yX4_init cX4_init 1 none ∈ xTs := xTs_t 27 (by decide +kernel) (by decide +kernel)
abbrev w_X4_init : List Cond := [Cond.code yX4_init cX4_init 1 none]
theorem gi_X4_init : GoodIn xTs w_X4_init := fun _ h => by obtain rfl := List.mem_singleton.mp h; exact xGood q_co_X4_init (by decide +kernel)
theorem hd_X4_init : yX4_init.cls ≠ "java/lang/invoke/MethodHandle" ∧ yX4_init.cls ≠ "java/lang/invoke/VarHandle" ∧ (parseMethodDescriptor yX4_init.desc).map (fun d => d.parameters.length) = some 0 := by decide +kernel
theorem q_co_Jx4a65c_init_da8c8 : Cond.code yJx4a65c_init_da8c8 cJx4a65c_init_da8c8 1 none ∈ xTs := xTs_t 35 (by decide +kernel) (by decide +kernel)
abbrev w_Jx4a65c_init_da8c8 : List Cond := [Cond.code yJx4a65c_init_da8c8 cJx4a65c_init_da8c8 1 none]
theorem gi_Jx4a65c_init_da8c8 : GoodIn xTs w_Jx4a65c_init_da8c8 := fun _ h => by obtain rfl := List.mem_singleton.mp h; exact xGood q_co_Jx4a65c_init_da8c8 (by decide +kernel)
theorem hd_Jx4a65c_init_da8c8 : yJx4a65c_init_da8c8.cls ≠ "java/lang/invoke/MethodHandle" ∧ yJx4a65c_init_da8c8.cls ≠ "java/lang/invoke/VarHandle" ∧ (parseMethodDescriptor yJx4a65c_init_da8c8.desc).map (fun d => d.parameters.length) = some 0 := by decide +kernel
theorem q_co_Jxc12de_init_da8c8 : Cond.code yJxc12de_init_da8c8 cJxc12de_init_da8c8 1 none ∈ xTs := xTs_t 38 (by decide +kernel) (by decide +kernel)
abbrev w_Jxc12de_init_da8c8 : List Cond := [Cond.code yJxc12de_init_da8c8 cJxc12de_init_da8c8 1 none]
theorem gi_Jxc12de_init_da8c8 : GoodIn xTs w_Jxc12de_init_da8c8 := fun _ h => by obtain rfl := List.mem_singleton.mp h; exact xGood q_co_Jxc12de_init_da8c8 (by decide +kernel)
theorem hd_Jxc12de_init_da8c8 : yJxc12de_init_da8c8.cls ≠ "java/lang/invoke/MethodHandle" ∧ yJxc12de_init_da8c8.cls ≠ "java/lang/invoke/VarHandle" ∧ (parseMethodDescriptor yJxc12de_init_da8c8.desc).map (fun d => d.parameters.length) = some 0 := by decide +kernel
theorem q_co_Jxa1e45_init_da8c8 : Cond.code yJxa1e45_init_da8c8 cJxa1e45_init_da8c8 1 none ∈ xTs := xTs_t 41 (by decide +kernel) (by decide +kernel)
abbrev w_Jxa1e45_init_da8c8 : List Cond := [Cond.code yJxa1e45_init_da8c8 cJxa1e45_init_da8c8 1 none]
theorem gi_Jxa1e45_init_da8c8 : GoodIn xTs w_Jxa1e45_init_da8c8 := fun _ h => by obtain rfl := List.mem_singleton.mp h; exact xGood q_co_Jxa1e45_init_da8c8 (by decide +kernel)
theorem hd_Jxa1e45_init_da8c8 : yJxa1e45_init_da8c8.cls ≠ "java/lang/invoke/MethodHandle" ∧ yJxa1e45_init_da8c8.cls ≠ "java/lang/invoke/VarHandle" ∧ (parseMethodDescriptor yJxa1e45_init_da8c8.desc).map (fun d => d.parameters.length) = some 0 := by decide +kernel
theorem q_co_X2_init : Cond.code yX2_init cX2_init 3 none ∈ xTs := xTs_t 61 (by decide +kernel) (by decide +kernel)
abbrev w_X2_init : List Cond := [Cond.code yX2_init cX2_init 3 none]
theorem gi_X2_init : GoodIn xTs w_X2_init := fun _ h => by obtain rfl := List.mem_singleton.mp h; exact xGood q_co_X2_init (by decide +kernel)
theorem hd_X2_init : yX2_init.cls ≠ "java/lang/invoke/MethodHandle" ∧ yX2_init.cls ≠ "java/lang/invoke/VarHandle" ∧ (parseMethodDescriptor yX2_init.desc).map (fun d => d.parameters.length) = some 0 := by decide +kernel
theorem q_co_X4_machineCount : Cond.code yX4_machineCount cX4_machineCount 1 (some .int) ∈ xTs := xTs_t 108 (by decide +kernel) (by decide +kernel)
abbrev w_X4_machineCount : List Cond := [Cond.code yX4_machineCount cX4_machineCount 1 (some .int)]
theorem gi_X4_machineCount : GoodIn xTs w_X4_machineCount := fun _ h => by obtain rfl := List.mem_singleton.mp h; exact xGood q_co_X4_machineCount (by decide +kernel)
theorem hd_X4_machineCount : yX4_machineCount.cls ≠ "java/lang/invoke/MethodHandle" ∧ yX4_machineCount.cls ≠ "java/lang/invoke/VarHandle" ∧ (parseMethodDescriptor yX4_machineCount.desc).map (fun d => d.parameters.length) = some 0 := by decide +kernel
theorem q_co_Jx4a65c_size_8abf5 : Cond.code yJx4a65c_size_8abf5 cJx4a65c_size_8abf5 1 (some .int) ∈ xTs := xTs_t 112 (by decide +kernel) (by decide +kernel)
abbrev w_Jx4a65c_size_8abf5 : List Cond := [Cond.code yJx4a65c_size_8abf5 cJx4a65c_size_8abf5 1 (some .int)]
theorem gi_Jx4a65c_size_8abf5 : GoodIn xTs w_Jx4a65c_size_8abf5 := fun _ h => by obtain rfl := List.mem_singleton.mp h; exact xGood q_co_Jx4a65c_size_8abf5 (by decide +kernel)
theorem hd_Jx4a65c_size_8abf5 : yJx4a65c_size_8abf5.cls ≠ "java/lang/invoke/MethodHandle" ∧ yJx4a65c_size_8abf5.cls ≠ "java/lang/invoke/VarHandle" ∧ (parseMethodDescriptor yJx4a65c_size_8abf5.desc).map (fun d => d.parameters.length) = some 0 := by decide +kernel
theorem q_co_X4_today : Cond.code yX4_today cX4_today 1 (some .int) ∈ xTs := xTs_t 116 (by decide +kernel) (by decide +kernel)
abbrev w_X4_today : List Cond := [Cond.code yX4_today cX4_today 1 (some .int)]
theorem gi_X4_today : GoodIn xTs w_X4_today := fun _ h => by obtain rfl := List.mem_singleton.mp h; exact xGood q_co_X4_today (by decide +kernel)
theorem hd_X4_today : yX4_today.cls ≠ "java/lang/invoke/MethodHandle" ∧ yX4_today.cls ≠ "java/lang/invoke/VarHandle" ∧ (parseMethodDescriptor yX4_today.desc).map (fun d => d.parameters.length) = some 0 := by decide +kernel
theorem q_co_X4_planned : Cond.code yX4_planned cX4_planned 1 (some .int) ∈ xTs := xTs_t 120 (by decide +kernel) (by decide +kernel)
abbrev w_X4_planned : List Cond := [Cond.code yX4_planned cX4_planned 1 (some .int)]
theorem gi_X4_planned : GoodIn xTs w_X4_planned := fun _ h => by obtain rfl := List.mem_singleton.mp h; exact xGood q_co_X4_planned (by decide +kernel)
theorem hd_X4_planned : yX4_planned.cls ≠ "java/lang/invoke/MethodHandle" ∧ yX4_planned.cls ≠ "java/lang/invoke/VarHandle" ∧ (parseMethodDescriptor yX4_planned.desc).map (fun d => d.parameters.length) = some 0 := by decide +kernel
theorem q_co_X4_filled : Cond.code yX4_filled cX4_filled 6 (some .double) ∈ xTs := xTs_t 124 (by decide +kernel) (by decide +kernel)
abbrev w_X4_filled : List Cond := [Cond.code yX4_filled cX4_filled 6 (some .double)]
theorem gi_X4_filled : GoodIn xTs w_X4_filled := fun _ h => by obtain rfl := List.mem_singleton.mp h; exact xGood q_co_X4_filled (by decide +kernel)
theorem hd_X4_filled : yX4_filled.cls ≠ "java/lang/invoke/MethodHandle" ∧ yX4_filled.cls ≠ "java/lang/invoke/VarHandle" ∧ (parseMethodDescriptor yX4_filled.desc).map (fun d => d.parameters.length) = some 0 := by decide +kernel
theorem q_co_Jx4a65c_get_915e3 : Cond.code yJx4a65c_get_915e3 cJx4a65c_get_915e3 2 (some (.object "java/lang/Object")) ∈ xTs := xTs_t 128 (by decide +kernel) (by decide +kernel)
abbrev w_Jx4a65c_get_915e3 : List Cond := [Cond.code yJx4a65c_get_915e3 cJx4a65c_get_915e3 2 (some (.object "java/lang/Object"))]
theorem gi_Jx4a65c_get_915e3 : GoodIn xTs w_Jx4a65c_get_915e3 := fun _ h => by obtain rfl := List.mem_singleton.mp h; exact xGood q_co_Jx4a65c_get_915e3 (by decide +kernel)
theorem hd_Jx4a65c_get_915e3 : yJx4a65c_get_915e3.cls ≠ "java/lang/invoke/MethodHandle" ∧ yJx4a65c_get_915e3.cls ≠ "java/lang/invoke/VarHandle" ∧ (parseMethodDescriptor yJx4a65c_get_915e3.desc).map (fun d => d.parameters.length) = some 1 := by decide +kernel
theorem q_co_J15_checkIndex_7cf53 : Cond.code yJ15_checkIndex_7cf53 cJ15_checkIndex_7cf53 2 (some .int) ∈ xTs := xTs_t 131 (by decide +kernel) (by decide +kernel)
abbrev w_J15_checkIndex_7cf53 : List Cond := [Cond.code yJ15_checkIndex_7cf53 cJ15_checkIndex_7cf53 2 (some .int)]
theorem gi_J15_checkIndex_7cf53 : GoodIn xTs w_J15_checkIndex_7cf53 := fun _ h => by obtain rfl := List.mem_singleton.mp h; exact xGood q_co_J15_checkIndex_7cf53 (by decide +kernel)
theorem hd_J15_checkIndex_7cf53 : yJ15_checkIndex_7cf53.cls ≠ "java/lang/invoke/MethodHandle" ∧ yJ15_checkIndex_7cf53.cls ≠ "java/lang/invoke/VarHandle" ∧ (parseMethodDescriptor yJ15_checkIndex_7cf53.desc).map (fun d => d.parameters.length) = some 2 := by decide +kernel
theorem q_co_J3_checkIndex_8e157 : Cond.code yJ3_checkIndex_8e157 cJ3_checkIndex_8e157 3 (some .int) ∈ xTs := xTs_t 134 (by decide +kernel) (by decide +kernel)
abbrev w_J3_checkIndex_8e157 : List Cond := [Cond.code yJ3_checkIndex_8e157 cJ3_checkIndex_8e157 3 (some .int)]
theorem gi_J3_checkIndex_8e157 : GoodIn xTs w_J3_checkIndex_8e157 := fun _ h => by obtain rfl := List.mem_singleton.mp h; exact xGood q_co_J3_checkIndex_8e157 (by decide +kernel)
theorem hd_J3_checkIndex_8e157 : yJ3_checkIndex_8e157.cls ≠ "java/lang/invoke/MethodHandle" ∧ yJ3_checkIndex_8e157.cls ≠ "java/lang/invoke/VarHandle" ∧ (parseMethodDescriptor yJ3_checkIndex_8e157.desc).map (fun d => d.parameters.length) = some 3 := by decide +kernel
theorem q_co_Jx4a65c_elementData_915e3 : Cond.code yJx4a65c_elementData_915e3 cJx4a65c_elementData_915e3 2 (some (.object "java/lang/Object")) ∈ xTs := xTs_t 138 (by decide +kernel) (by decide +kernel)
abbrev w_Jx4a65c_elementData_915e3 : List Cond := [Cond.code yJx4a65c_elementData_915e3 cJx4a65c_elementData_915e3 2 (some (.object "java/lang/Object"))]
theorem gi_Jx4a65c_elementData_915e3 : GoodIn xTs w_Jx4a65c_elementData_915e3 := fun _ h => by obtain rfl := List.mem_singleton.mp h; exact xGood q_co_Jx4a65c_elementData_915e3 (by decide +kernel)
theorem hd_Jx4a65c_elementData_915e3 : yJx4a65c_elementData_915e3.cls ≠ "java/lang/invoke/MethodHandle" ∧ yJx4a65c_elementData_915e3.cls ≠ "java/lang/invoke/VarHandle" ∧ (parseMethodDescriptor yJx4a65c_elementData_915e3.desc).map (fun d => d.parameters.length) = some 1 := by decide +kernel
theorem q_co_X4_digest : Cond.code yX4_digest cX4_digest 6 (some .long) ∈ xTs := xTs_t 143 (by decide +kernel) (by decide +kernel)
abbrev w_X4_digest : List Cond := [Cond.code yX4_digest cX4_digest 6 (some .long)]
theorem gi_X4_digest : GoodIn xTs w_X4_digest := fun _ h => by obtain rfl := List.mem_singleton.mp h; exact xGood q_co_X4_digest (by decide +kernel)
theorem hd_X4_digest : yX4_digest.cls ≠ "java/lang/invoke/MethodHandle" ∧ yX4_digest.cls ≠ "java/lang/invoke/VarHandle" ∧ (parseMethodDescriptor yX4_digest.desc).map (fun d => d.parameters.length) = some 0 := by decide +kernel
theorem q_co_X4_mixed : Cond.code yX4_mixed cX4_mixed 4 (some .long) ∈ xTs := xTs_t 147 (by decide +kernel) (by decide +kernel)
abbrev w_X4_mixed : List Cond := [Cond.code yX4_mixed cX4_mixed 4 (some .long)]
theorem gi_X4_mixed : GoodIn xTs w_X4_mixed := fun _ h => by obtain rfl := List.mem_singleton.mp h; exact xGood q_co_X4_mixed (by decide +kernel)
theorem hd_X4_mixed : yX4_mixed.cls ≠ "java/lang/invoke/MethodHandle" ∧ yX4_mixed.cls ≠ "java/lang/invoke/VarHandle" ∧ (parseMethodDescriptor yX4_mixed.desc).map (fun d => d.parameters.length) = some 2 := by decide +kernel
theorem q_co_X2_between : Cond.code yX2_between cX2_between 3 (some .int) ∈ xTs := xTs_t 152 (by decide +kernel) (by decide +kernel)
abbrev w_X2_between : List Cond := [Cond.code yX2_between cX2_between 3 (some .int)]
theorem gi_X2_between : GoodIn xTs w_X2_between := fun _ h => by obtain rfl := List.mem_singleton.mp h; exact xGood q_co_X2_between (by decide +kernel)
theorem hd_X2_between : yX2_between.cls ≠ "java/lang/invoke/MethodHandle" ∧ yX2_between.cls ≠ "java/lang/invoke/VarHandle" ∧ (parseMethodDescriptor yX2_between.desc).map (fun d => d.parameters.length) = some 2 := by decide +kernel
theorem q_co_X4_mixedMachine : Cond.code yX4_mixedMachine cX4_mixedMachine 5 (some .long) ∈ xTs := xTs_t 155 (by decide +kernel) (by decide +kernel)
abbrev w_X4_mixedMachine : List Cond := [Cond.code yX4_mixedMachine cX4_mixedMachine 5 (some .long)]
theorem gi_X4_mixedMachine : GoodIn xTs w_X4_mixedMachine := fun _ h => by obtain rfl := List.mem_singleton.mp h; exact xGood q_co_X4_mixedMachine (by decide +kernel)
theorem hd_X4_mixedMachine : yX4_mixedMachine.cls ≠ "java/lang/invoke/MethodHandle" ∧ yX4_mixedMachine.cls ≠ "java/lang/invoke/VarHandle" ∧ (parseMethodDescriptor yX4_mixedMachine.desc).map (fun d => d.parameters.length) = some 2 := by decide +kernel
theorem q_co_X0_fact : Cond.code yX0_fact cX0_fact 2 (some .int) ∈ xTs := xTs_t 159 (by decide +kernel) (by decide +kernel)
abbrev w_X0_fact : List Cond := [Cond.code yX0_fact cX0_fact 2 (some .int)]
theorem gi_X0_fact : GoodIn xTs w_X0_fact := fun _ h => by obtain rfl := List.mem_singleton.mp h; exact xGood q_co_X0_fact (by decide +kernel)
theorem hd_X0_fact : yX0_fact.cls ≠ "java/lang/invoke/MethodHandle" ∧ yX0_fact.cls ≠ "java/lang/invoke/VarHandle" ∧ (parseMethodDescriptor yX0_fact.desc).map (fun d => d.parameters.length) = some 1 := by decide +kernel
theorem q_co_X0_lacking : Cond.code yX0_lacking cX0_lacking 3 (some .int) ∈ xTs := xTs_t 163 (by decide +kernel) (by decide +kernel)
abbrev w_X0_lacking : List Cond := [Cond.code yX0_lacking cX0_lacking 3 (some .int)]
theorem gi_X0_lacking : GoodIn xTs w_X0_lacking := fun _ h => by obtain rfl := List.mem_singleton.mp h; exact xGood q_co_X0_lacking (by decide +kernel)
theorem hd_X0_lacking : yX0_lacking.cls ≠ "java/lang/invoke/MethodHandle" ∧ yX0_lacking.cls ≠ "java/lang/invoke/VarHandle" ∧ (parseMethodDescriptor yX0_lacking.desc).map (fun d => d.parameters.length) = some 0 := by decide +kernel
theorem q_co_X3_lacking : Cond.code yX3_lacking cX3_lacking 1 (some .int) ∈ xTs := xTs_t 167 (by decide +kernel) (by decide +kernel)
abbrev w_X3_lacking : List Cond := [Cond.code yX3_lacking cX3_lacking 1 (some .int)]
theorem gi_X3_lacking : GoodIn xTs w_X3_lacking := fun _ h => by obtain rfl := List.mem_singleton.mp h; exact xGood q_co_X3_lacking (by decide +kernel)
theorem hd_X3_lacking : yX3_lacking.cls ≠ "java/lang/invoke/MethodHandle" ∧ yX3_lacking.cls ≠ "java/lang/invoke/VarHandle" ∧ (parseMethodDescriptor yX3_lacking.desc).map (fun d => d.parameters.length) = some 0 := by decide +kernel
theorem q_co_X0_gain : Cond.code yX0_gain cX0_gain 3 (some .int) ∈ xTs := xTs_t 171 (by decide +kernel) (by decide +kernel)
abbrev w_X0_gain : List Cond := [Cond.code yX0_gain cX0_gain 3 (some .int)]
theorem gi_X0_gain : GoodIn xTs w_X0_gain := fun _ h => by obtain rfl := List.mem_singleton.mp h; exact xGood q_co_X0_gain (by decide +kernel)
theorem hd_X0_gain : yX0_gain.cls ≠ "java/lang/invoke/MethodHandle" ∧ yX0_gain.cls ≠ "java/lang/invoke/VarHandle" ∧ (parseMethodDescriptor yX0_gain.desc).map (fun d => d.parameters.length) = some 0 := by decide +kernel
theorem q_co_X3_fact : Cond.code yX3_fact cX3_fact 2 (some .int) ∈ xTs := xTs_t 175 (by decide +kernel) (by decide +kernel)
abbrev w_X3_fact : List Cond := [Cond.code yX3_fact cX3_fact 2 (some .int)]
theorem gi_X3_fact : GoodIn xTs w_X3_fact := fun _ h => by obtain rfl := List.mem_singleton.mp h; exact xGood q_co_X3_fact (by decide +kernel)
theorem hd_X3_fact : yX3_fact.cls ≠ "java/lang/invoke/MethodHandle" ∧ yX3_fact.cls ≠ "java/lang/invoke/VarHandle" ∧ (parseMethodDescriptor yX3_fact.desc).map (fun d => d.parameters.length) = some 1 := by decide +kernel
theorem q_co_L_addMachine : Cond.codeWith yL_addMachine cL_addMachine 4 (some .int) ([(0, 9, 12, 13), (0, 9, 15, 15)] : List (Nat × Nat × Nat × Nat)) ∈ xTs := xTs_t 178 (by decide +kernel) (by decide +kernel)
abbrev w_L_addMachine : List Cond := [Cond.codeWith yL_addMachine cL_addMachine 4 (some .int) ([(0, 9, 12, 13), (0, 9, 15, 15)] : List (Nat × Nat × Nat × Nat))]
theorem gi_L_addMachine : GoodIn xTs w_L_addMachine := fun _ h => by obtain rfl := List.mem_singleton.mp h; exact xGood q_co_L_addMachine (by decide +kernel)
theorem hd_L_addMachine : yL_addMachine.cls ≠ "java/lang/invoke/MethodHandle" ∧ yL_addMachine.cls ≠ "java/lang/invoke/VarHandle" ∧ (parseMethodDescriptor yL_addMachine.desc).map (fun d => d.parameters.length) = some 3 := by decide +kernel
theorem q_co_X4_addMachine : Cond.code yX4_addMachine cX4_addMachine 2 (some .int) ∈ xTs := xTs_t 184 (by decide +kernel) (by decide +kernel)
abbrev w_X4_addMachine : List Cond := [Cond.code yX4_addMachine cX4_addMachine 2 (some .int)]
theorem gi_X4_addMachine : GoodIn xTs w_X4_addMachine := fun _ h => by obtain rfl := List.mem_singleton.mp h; exact xGood q_co_X4_addMachine (by decide +kernel)
theorem hd_X4_addMachine : yX4_addMachine.cls ≠ "java/lang/invoke/MethodHandle" ∧ yX4_addMachine.cls ≠ "java/lang/invoke/VarHandle" ∧ (parseMethodDescriptor yX4_addMachine.desc).map (fun d => d.parameters.length) = some 1 := by decide +kernel
theorem q_co_X4_outside : Cond.code yX4_outside cX4_outside 3 (some .boolean) ∈ xTs := xTs_t 188 (by decide +kernel) (by decide +kernel)
abbrev w_X4_outside : List Cond := [Cond.code yX4_outside cX4_outside 3 (some .boolean)]
theorem gi_X4_outside : GoodIn xTs w_X4_outside := fun _ h => by obtain rfl := List.mem_singleton.mp h; exact xGood q_co_X4_outside (by decide +kernel)
theorem hd_X4_outside : yX4_outside.cls ≠ "java/lang/invoke/MethodHandle" ∧ yX4_outside.cls ≠ "java/lang/invoke/VarHandle" ∧ (parseMethodDescriptor yX4_outside.desc).map (fun d => d.parameters.length) = some 3 := by decide +kernel
theorem q_co_X0_init : Cond.code yX0_init cX0_init 3 none ∈ xTs := xTs_t 276 (by decide +kernel) (by decide +kernel)
abbrev w_X0_init : List Cond := [Cond.code yX0_init cX0_init 3 none]
theorem gi_X0_init : GoodIn xTs w_X0_init := fun _ h => by obtain rfl := List.mem_singleton.mp h; exact xGood q_co_X0_init (by decide +kernel)
theorem hd_X0_init : yX0_init.cls ≠ "java/lang/invoke/MethodHandle" ∧ yX0_init.cls ≠ "java/lang/invoke/VarHandle" ∧ (parseMethodDescriptor yX0_init.desc).map (fun d => d.parameters.length) = some 1 := by decide +kernel
theorem q_co_X3_init : Cond.code yX3_init cX3_init 1 none ∈ xTs := xTs_t 283 (by decide +kernel) (by decide +kernel)
abbrev w_X3_init : List Cond := [Cond.code yX3_init cX3_init 1 none]
theorem gi_X3_init : GoodIn xTs w_X3_init := fun _ h => by obtain rfl := List.mem_singleton.mp h; exact xGood q_co_X3_init (by decide +kernel)
theorem hd_X3_init : yX3_init.cls ≠ "java/lang/invoke/MethodHandle" ∧ yX3_init.cls ≠ "java/lang/invoke/VarHandle" ∧ (parseMethodDescriptor yX3_init.desc).map (fun d => d.parameters.length) = some 0 := by decide +kernel
theorem q_co_Jx4a65c_add_9ea2d : Cond.code yJx4a65c_add_9ea2d cJx4a65c_add_9ea2d 2 (some .boolean) ∈ xTs := xTs_t 331 (by decide +kernel) (by decide +kernel)
abbrev w_Jx4a65c_add_9ea2d : List Cond := [Cond.code yJx4a65c_add_9ea2d cJx4a65c_add_9ea2d 2 (some .boolean)]
theorem gi_Jx4a65c_add_9ea2d : GoodIn xTs w_Jx4a65c_add_9ea2d := fun _ h => by obtain rfl := List.mem_singleton.mp h; exact xGood q_co_Jx4a65c_add_9ea2d (by decide +kernel)
theorem hd_Jx4a65c_add_9ea2d : yJx4a65c_add_9ea2d.cls ≠ "java/lang/invoke/MethodHandle" ∧ yJx4a65c_add_9ea2d.cls ≠ "java/lang/invoke/VarHandle" ∧ (parseMethodDescriptor yJx4a65c_add_9ea2d.desc).map (fun d => d.parameters.length) = some 1 := by decide +kernel
theorem q_co_Jx4a65c_add_72be8 : Cond.code yJx4a65c_add_72be8 cJx4a65c_add_72be8 4 none ∈ xTs := xTs_t 335 (by decide +kernel) (by decide +kernel)
abbrev w_Jx4a65c_add_72be8 : List Cond := [Cond.code yJx4a65c_add_72be8 cJx4a65c_add_72be8 4 none]
theorem gi_Jx4a65c_add_72be8 : GoodIn xTs w_Jx4a65c_add_72be8 := fun _ h => by obtain rfl := List.mem_singleton.mp h; exact xGood q_co_Jx4a65c_add_72be8 (by decide +kernel)
theorem hd_Jx4a65c_add_72be8 : yJx4a65c_add_72be8.cls ≠ "java/lang/invoke/MethodHandle" ∧ yJx4a65c_add_72be8.cls ≠ "java/lang/invoke/VarHandle" ∧ (parseMethodDescriptor yJx4a65c_add_72be8.desc).map (fun d => d.parameters.length) = some 3 := by decide +kernel
theorem q_co_Jx4a65c_grow_d5877 : Cond.code yJx4a65c_grow_d5877 cJx4a65c_grow_d5877 1 (some (.array (.object "java/lang/Object"))) ∈ xTs := xTs_t 339 (by decide +kernel) (by decide +kernel)
abbrev w_Jx4a65c_grow_d5877 : List Cond := [Cond.code yJx4a65c_grow_d5877 cJx4a65c_grow_d5877 1 (some (.array (.object "java/lang/Object")))]
theorem gi_Jx4a65c_grow_d5877 : GoodIn xTs w_Jx4a65c_grow_d5877 := fun _ h => by obtain rfl := List.mem_singleton.mp h; exact xGood q_co_Jx4a65c_grow_d5877 (by decide +kernel)
theorem hd_Jx4a65c_grow_d5877 : yJx4a65c_grow_d5877.cls ≠ "java/lang/invoke/MethodHandle" ∧ yJx4a65c_grow_d5877.cls ≠ "java/lang/invoke/VarHandle" ∧ (parseMethodDescriptor yJx4a65c_grow_d5877.desc).map (fun d => d.parameters.length) = some 0 := by decide +kernel
theorem q_co_Jx4a65c_grow_92f84 : Cond.code yJx4a65c_grow_92f84 cJx4a65c_grow_92f84 4 (some (.array (.object "java/lang/Object"))) ∈ xTs := xTs_t 343 (by decide +kernel) (by decide +kernel)
abbrev w_Jx4a65c_grow_92f84 : List Cond := [Cond.code yJx4a65c_grow_92f84 cJx4a65c_grow_92f84 4 (some (.array (.object "java/lang/Object")))]
theorem gi_Jx4a65c_grow_92f84 : GoodIn xTs w_Jx4a65c_grow_92f84 := fun _ h => by obtain rfl := List.mem_singleton.mp h; exact xGood q_co_Jx4a65c_grow_92f84 (by decide +kernel)
theorem hd_Jx4a65c_grow_92f84 : yJx4a65c_grow_92f84.cls ≠ "java/lang/invoke/MethodHandle" ∧ yJx4a65c_grow_92f84.cls ≠ "java/lang/invoke/VarHandle" ∧ (parseMethodDescriptor yJx4a65c_grow_92f84.desc).map (fun d => d.parameters.length) = some 1 := by decide +kernel
theorem q_co_J8_newLength_cabcc : Cond.code yJ8_newLength_cabcc cJ8_newLength_cabcc 4 (some .int) ∈ xTs := xTs_t 346 (by decide +kernel) (by decide +kernel)
abbrev w_J8_newLength_cabcc : List Cond := [Cond.code yJ8_newLength_cabcc cJ8_newLength_cabcc 4 (some .int)]
theorem gi_J8_newLength_cabcc : GoodIn xTs w_J8_newLength_cabcc := fun _ h => by obtain rfl := List.mem_singleton.mp h; exact xGood q_co_J8_newLength_cabcc (by decide +kernel)
theorem hd_J8_newLength_cabcc : yJ8_newLength_cabcc.cls ≠ "java/lang/invoke/MethodHandle" ∧ yJ8_newLength_cabcc.cls ≠ "java/lang/invoke/VarHandle" ∧ (parseMethodDescriptor yJ8_newLength_cabcc.desc).map (fun d => d.parameters.length) = some 3 := by decide +kernel
theorem q_co_J9_max_7cf53 : Cond.code yJ9_max_7cf53 cJ9_max_7cf53 2 (some .int) ∈ xTs := xTs_t 349 (by decide +kernel) (by decide +kernel)
abbrev w_J9_max_7cf53 : List Cond := [Cond.code yJ9_max_7cf53 cJ9_max_7cf53 2 (some .int)]
theorem gi_J9_max_7cf53 : GoodIn xTs w_J9_max_7cf53 := fun _ h => by obtain rfl := List.mem_singleton.mp h; exact xGood q_co_J9_max_7cf53 (by decide +kernel)
theorem hd_J9_max_7cf53 : yJ9_max_7cf53.cls ≠ "java/lang/invoke/MethodHandle" ∧ yJ9_max_7cf53.cls ≠ "java/lang/invoke/VarHandle" ∧ (parseMethodDescriptor yJ9_max_7cf53.desc).map (fun d => d.parameters.length) = some 2 := by decide +kernel
theorem q_co_J8_hugeLength_7cf53 : Cond.code yJ8_hugeLength_7cf53 cJ8_hugeLength_7cf53 3 (some .int) ∈ xTs := xTs_t 353 (by decide +kernel) (by decide +kernel)
abbrev w_J8_hugeLength_7cf53 : List Cond := [Cond.code yJ8_hugeLength_7cf53 cJ8_hugeLength_7cf53 3 (some .int)]
theorem gi_J8_hugeLength_7cf53 : GoodIn xTs w_J8_hugeLength_7cf53 := fun _ h => by obtain rfl := List.mem_singleton.mp h; exact xGood q_co_J8_hugeLength_7cf53 (by decide +kernel)
theorem hd_J8_hugeLength_7cf53 : yJ8_hugeLength_7cf53.cls ≠ "java/lang/invoke/MethodHandle" ∧ yJ8_hugeLength_7cf53.cls ≠ "java/lang/invoke/VarHandle" ∧ (parseMethodDescriptor yJ8_hugeLength_7cf53.desc).map (fun d => d.parameters.length) = some 2 := by decide +kernel
theorem q_co_J7_copyOf_1904c : Cond.code yJ7_copyOf_1904c cJ7_copyOf_1904c 2 (some (.array (.object "java/lang/Object"))) ∈ xTs := xTs_t 356 (by decide +kernel) (by decide +kernel)
abbrev w_J7_copyOf_1904c : List Cond := [Cond.code yJ7_copyOf_1904c cJ7_copyOf_1904c 2 (some (.array (.object "java/lang/Object")))]
theorem gi_J7_copyOf_1904c : GoodIn xTs w_J7_copyOf_1904c := fun _ h => by obtain rfl := List.mem_singleton.mp h; exact xGood q_co_J7_copyOf_1904c (by decide +kernel)
theorem hd_J7_copyOf_1904c : yJ7_copyOf_1904c.cls ≠ "java/lang/invoke/MethodHandle" ∧ yJ7_copyOf_1904c.cls ≠ "java/lang/invoke/VarHandle" ∧ (parseMethodDescriptor yJ7_copyOf_1904c.desc).map (fun d => d.parameters.length) = some 2 := by decide +kernel
theorem q_co_J7_copyOf_6403c : Cond.code yJ7_copyOf_6403c cJ7_copyOf_6403c 4 (some (.array (.object "java/lang/Object"))) ∈ xTs := xTs_t 373 (by decide +kernel) (by decide +kernel)
abbrev w_J7_copyOf_6403c : List Cond := [Cond.code yJ7_copyOf_6403c cJ7_copyOf_6403c 4 (some (.array (.object "java/lang/Object")))]
theorem gi_J7_copyOf_6403c : GoodIn xTs w_J7_copyOf_6403c := fun _ h => by obtain rfl := List.mem_singleton.mp h; exact xGood q_co_J7_copyOf_6403c (by decide +kernel)
theorem hd_J7_copyOf_6403c : yJ7_copyOf_6403c.cls ≠ "java/lang/invoke/MethodHandle" ∧ yJ7_copyOf_6403c.cls ≠ "java/lang/invoke/VarHandle" ∧ (parseMethodDescriptor yJ7_copyOf_6403c.desc).map (fun d => d.parameters.length) = some 3 := by decide +kernel
theorem q_co_J9_min_7cf53 : Cond.code yJ9_min_7cf53 cJ9_min_7cf53 2 (some .int) ∈ xTs := xTs_t 379 (by decide +kernel) (by decide +kernel)
abbrev w_J9_min_7cf53 : List Cond := [Cond.code yJ9_min_7cf53 cJ9_min_7cf53 2 (some .int)]
theorem gi_J9_min_7cf53 : GoodIn xTs w_J9_min_7cf53 := fun _ h => by obtain rfl := List.mem_singleton.mp h; exact xGood q_co_J9_min_7cf53 (by decide +kernel)
theorem hd_J9_min_7cf53 : yJ9_min_7cf53.cls ≠ "java/lang/invoke/MethodHandle" ∧ yJ9_min_7cf53.cls ≠ "java/lang/invoke/VarHandle" ∧ (parseMethodDescriptor yJ9_min_7cf53.desc).map (fun d => d.parameters.length) = some 2 := by decide +kernel
theorem q_co_X2_measureTours : Cond.code yX2_measureTours cX2_measureTours 5 none ∈ xTs := xTs_t 388 (by decide +kernel) (by decide +kernel)
abbrev w_X2_measureTours : List Cond := [Cond.code yX2_measureTours cX2_measureTours 5 none]
theorem gi_X2_measureTours : GoodIn xTs w_X2_measureTours := fun _ h => by obtain rfl := List.mem_singleton.mp h; exact xGood q_co_X2_measureTours (by decide +kernel)
theorem hd_X2_measureTours : yX2_measureTours.cls ≠ "java/lang/invoke/MethodHandle" ∧ yX2_measureTours.cls ≠ "java/lang/invoke/VarHandle" ∧ (parseMethodDescriptor yX2_measureTours.desc).map (fun d => d.parameters.length) = some 1 := by decide +kernel
theorem q_co_X4_contains : Cond.code yX4_contains cX4_contains 2 (some .boolean) ∈ xTs := xTs_t 391 (by decide +kernel) (by decide +kernel)
abbrev w_X4_contains : List Cond := [Cond.code yX4_contains cX4_contains 2 (some .boolean)]
theorem gi_X4_contains : GoodIn xTs w_X4_contains := fun _ h => by obtain rfl := List.mem_singleton.mp h; exact xGood q_co_X4_contains (by decide +kernel)
theorem hd_X4_contains : yX4_contains.cls ≠ "java/lang/invoke/MethodHandle" ∧ yX4_contains.cls ≠ "java/lang/invoke/VarHandle" ∧ (parseMethodDescriptor yX4_contains.desc).map (fun d => d.parameters.length) = some 2 := by decide +kernel
theorem q_co_X4_without : Cond.code yX4_without cX4_without 2 (some .int) ∈ xTs := xTs_t 394 (by decide +kernel) (by decide +kernel)
abbrev w_X4_without : List Cond := [Cond.code yX4_without cX4_without 2 (some .int)]
theorem gi_X4_without : GoodIn xTs w_X4_without := fun _ h => by obtain rfl := List.mem_singleton.mp h; exact xGood q_co_X4_without (by decide +kernel)
theorem hd_X4_without : yX4_without.cls ≠ "java/lang/invoke/MethodHandle" ∧ yX4_without.cls ≠ "java/lang/invoke/VarHandle" ∧ (parseMethodDescriptor yX4_without.desc).map (fun d => d.parameters.length) = some 2 := by decide +kernel
theorem q_co_X2_leastFrom : Cond.code yX2_leastFrom cX2_leastFrom 3 (some .int) ∈ xTs := xTs_t 398 (by decide +kernel) (by decide +kernel)
abbrev w_X2_leastFrom : List Cond := [Cond.code yX2_leastFrom cX2_leastFrom 3 (some .int)]
theorem gi_X2_leastFrom : GoodIn xTs w_X2_leastFrom := fun _ h => by obtain rfl := List.mem_singleton.mp h; exact xGood q_co_X2_leastFrom (by decide +kernel)
theorem hd_X2_leastFrom : yX2_leastFrom.cls ≠ "java/lang/invoke/MethodHandle" ∧ yX2_leastFrom.cls ≠ "java/lang/invoke/VarHandle" ∧ (parseMethodDescriptor yX2_leastFrom.desc).map (fun d => d.parameters.length) = some 2 := by decide +kernel
theorem q_co_X2_nextStop : Cond.code yX2_nextStop cX2_nextStop 7 (some .int) ∈ xTs := xTs_t 403 (by decide +kernel) (by decide +kernel)
abbrev w_X2_nextStop : List Cond := [Cond.code yX2_nextStop cX2_nextStop 7 (some .int)]
theorem gi_X2_nextStop : GoodIn xTs w_X2_nextStop := fun _ h => by obtain rfl := List.mem_singleton.mp h; exact xGood q_co_X2_nextStop (by decide +kernel)
theorem hd_X2_nextStop : yX2_nextStop.cls ≠ "java/lang/invoke/MethodHandle" ∧ yX2_nextStop.cls ≠ "java/lang/invoke/VarHandle" ∧ (parseMethodDescriptor yX2_nextStop.desc).map (fun d => d.parameters.length) = some 2 := by decide +kernel
theorem q_co_X2_leastBy : Cond.code yX2_leastBy cX2_leastBy 4 (some .int) ∈ xTs := xTs_t 407 (by decide +kernel) (by decide +kernel)
abbrev w_X2_leastBy : List Cond := [Cond.code yX2_leastBy cX2_leastBy 4 (some .int)]
theorem gi_X2_leastBy : GoodIn xTs w_X2_leastBy := fun _ h => by obtain rfl := List.mem_singleton.mp h; exact xGood q_co_X2_leastBy (by decide +kernel)
theorem hd_X2_leastBy : yX2_leastBy.cls ≠ "java/lang/invoke/MethodHandle" ∧ yX2_leastBy.cls ≠ "java/lang/invoke/VarHandle" ∧ (parseMethodDescriptor yX2_leastBy.desc).map (fun d => d.parameters.length) = some 3 := by decide +kernel
theorem q_co_L_setMinutes : Cond.codeWith yL_setMinutes cL_setMinutes 6 (some .int) ([(0, 12, 15, 21), (0, 12, 19, 13)] : List (Nat × Nat × Nat × Nat)) ∈ xTs := xTs_t 410 (by decide +kernel) (by decide +kernel)
abbrev w_L_setMinutes : List Cond := [Cond.codeWith yL_setMinutes cL_setMinutes 6 (some .int) ([(0, 12, 15, 21), (0, 12, 19, 13)] : List (Nat × Nat × Nat × Nat))]
theorem gi_L_setMinutes : GoodIn xTs w_L_setMinutes := fun _ h => by obtain rfl := List.mem_singleton.mp h; exact xGood q_co_L_setMinutes (by decide +kernel)
theorem hd_L_setMinutes : yL_setMinutes.cls ≠ "java/lang/invoke/MethodHandle" ∧ yL_setMinutes.cls ≠ "java/lang/invoke/VarHandle" ∧ (parseMethodDescriptor yL_setMinutes.desc).map (fun d => d.parameters.length) = some 5 := by decide +kernel
theorem q_co_X4_setMinutes : Cond.code yX4_setMinutes cX4_setMinutes 5 (some .int) ∈ xTs := xTs_t 415 (by decide +kernel) (by decide +kernel)
abbrev w_X4_setMinutes : List Cond := [Cond.code yX4_setMinutes cX4_setMinutes 5 (some .int)]
theorem gi_X4_setMinutes : GoodIn xTs w_X4_setMinutes := fun _ h => by obtain rfl := List.mem_singleton.mp h; exact xGood q_co_X4_setMinutes (by decide +kernel)
theorem hd_X4_setMinutes : yX4_setMinutes.cls ≠ "java/lang/invoke/MethodHandle" ∧ yX4_setMinutes.cls ≠ "java/lang/invoke/VarHandle" ∧ (parseMethodDescriptor yX4_setMinutes.desc).map (fun d => d.parameters.length) = some 3 := by decide +kernel
theorem q_co_X4_isNoPlace : Cond.code yX4_isNoPlace cX4_isNoPlace 2 (some .boolean) ∈ xTs := xTs_t 419 (by decide +kernel) (by decide +kernel)
abbrev w_X4_isNoPlace : List Cond := [Cond.code yX4_isNoPlace cX4_isNoPlace 2 (some .boolean)]
theorem gi_X4_isNoPlace : GoodIn xTs w_X4_isNoPlace := fun _ h => by obtain rfl := List.mem_singleton.mp h; exact xGood q_co_X4_isNoPlace (by decide +kernel)
theorem hd_X4_isNoPlace : yX4_isNoPlace.cls ≠ "java/lang/invoke/MethodHandle" ∧ yX4_isNoPlace.cls ≠ "java/lang/invoke/VarHandle" ∧ (parseMethodDescriptor yX4_isNoPlace.desc).map (fun d => d.parameters.length) = some 1 := by decide +kernel
theorem q_co_X4_isNoMachine : Cond.code yX4_isNoMachine cX4_isNoMachine 2 (some .boolean) ∈ xTs := xTs_t 423 (by decide +kernel) (by decide +kernel)
abbrev w_X4_isNoMachine : List Cond := [Cond.code yX4_isNoMachine cX4_isNoMachine 2 (some .boolean)]
theorem gi_X4_isNoMachine : GoodIn xTs w_X4_isNoMachine := fun _ h => by obtain rfl := List.mem_singleton.mp h; exact xGood q_co_X4_isNoMachine (by decide +kernel)
theorem hd_X4_isNoMachine : yX4_isNoMachine.cls ≠ "java/lang/invoke/MethodHandle" ∧ yX4_isNoMachine.cls ≠ "java/lang/invoke/VarHandle" ∧ (parseMethodDescriptor yX4_isNoMachine.desc).map (fun d => d.parameters.length) = some 1 := by decide +kernel
theorem q_co_X2_setBetween : Cond.code yX2_setBetween cX2_setBetween 4 none ∈ xTs := xTs_t 445 (by decide +kernel) (by decide +kernel)
abbrev w_X2_setBetween : List Cond := [Cond.code yX2_setBetween cX2_setBetween 4 none]
theorem gi_X2_setBetween : GoodIn xTs w_X2_setBetween := fun _ h => by obtain rfl := List.mem_singleton.mp h; exact xGood q_co_X2_setBetween (by decide +kernel)
theorem hd_X2_setBetween : yX2_setBetween.cls ≠ "java/lang/invoke/MethodHandle" ∧ yX2_setBetween.cls ≠ "java/lang/invoke/VarHandle" ∧ (parseMethodDescriptor yX2_setBetween.desc).map (fun d => d.parameters.length) = some 3 := by decide +kernel
theorem q_co_L_setSlot : Cond.codeWith yL_setSlot cL_setSlot 7 (some .int) ([(0, 14, 17, 21), (0, 14, 21, 13)] : List (Nat × Nat × Nat × Nat)) ∈ xTs := xTs_t 448 (by decide +kernel) (by decide +kernel)
abbrev w_L_setSlot : List Cond := [Cond.codeWith yL_setSlot cL_setSlot 7 (some .int) ([(0, 14, 17, 21), (0, 14, 21, 13)] : List (Nat × Nat × Nat × Nat))]
theorem gi_L_setSlot : GoodIn xTs w_L_setSlot := fun _ h => by obtain rfl := List.mem_singleton.mp h; exact xGood q_co_L_setSlot (by decide +kernel)
theorem hd_L_setSlot : yL_setSlot.cls ≠ "java/lang/invoke/MethodHandle" ∧ yL_setSlot.cls ≠ "java/lang/invoke/VarHandle" ∧ (parseMethodDescriptor yL_setSlot.desc).map (fun d => d.parameters.length) = some 6 := by decide +kernel
theorem q_co_X4_setSlot : Cond.code yX4_setSlot cX4_setSlot 7 (some .int) ∈ xTs := xTs_t 452 (by decide +kernel) (by decide +kernel)
abbrev w_X4_setSlot : List Cond := [Cond.code yX4_setSlot cX4_setSlot 7 (some .int)]
theorem gi_X4_setSlot : GoodIn xTs w_X4_setSlot := fun _ h => by obtain rfl := List.mem_singleton.mp h; exact xGood q_co_X4_setSlot (by decide +kernel)
theorem hd_X4_setSlot : yX4_setSlot.cls ≠ "java/lang/invoke/MethodHandle" ∧ yX4_setSlot.cls ≠ "java/lang/invoke/VarHandle" ∧ (parseMethodDescriptor yX4_setSlot.desc).map (fun d => d.parameters.length) = some 4 := by decide +kernel
theorem q_co_X4_slotAt : Cond.code yX4_slotAt cX4_slotAt 4 (some (.object "VendingRounds$Slot")) ∈ xTs := xTs_t 456 (by decide +kernel) (by decide +kernel)
abbrev w_X4_slotAt : List Cond := [Cond.code yX4_slotAt cX4_slotAt 4 (some (.object "VendingRounds$Slot"))]
theorem gi_X4_slotAt : GoodIn xTs w_X4_slotAt := fun _ h => by obtain rfl := List.mem_singleton.mp h; exact xGood q_co_X4_slotAt (by decide +kernel)
theorem hd_X4_slotAt : yX4_slotAt.cls ≠ "java/lang/invoke/MethodHandle" ∧ yX4_slotAt.cls ≠ "java/lang/invoke/VarHandle" ∧ (parseMethodDescriptor yX4_slotAt.desc).map (fun d => d.parameters.length) = some 2 := by decide +kernel
theorem q_co_X4_machineAt : Cond.code yX4_machineAt cX4_machineAt 2 (some (.object "VendingRounds$Machine")) ∈ xTs := xTs_t 460 (by decide +kernel) (by decide +kernel)
abbrev w_X4_machineAt : List Cond := [Cond.code yX4_machineAt cX4_machineAt 2 (some (.object "VendingRounds$Machine"))]
theorem gi_X4_machineAt : GoodIn xTs w_X4_machineAt := fun _ h => by obtain rfl := List.mem_singleton.mp h; exact xGood q_co_X4_machineAt (by decide +kernel)
theorem hd_X4_machineAt : yX4_machineAt.cls ≠ "java/lang/invoke/MethodHandle" ∧ yX4_machineAt.cls ≠ "java/lang/invoke/VarHandle" ∧ (parseMethodDescriptor yX4_machineAt.desc).map (fun d => d.parameters.length) = some 1 := by decide +kernel
theorem q_co_L_planPrice : Cond.codeWith yL_planPrice cL_planPrice 7 (some .int) ([(0, 14, 17, 21), (0, 14, 21, 13), (0, 14, 25, 15)] : List (Nat × Nat × Nat × Nat)) ∈ xTs := xTs_t 467 (by decide +kernel) (by decide +kernel)
abbrev w_L_planPrice : List Cond := [Cond.codeWith yL_planPrice cL_planPrice 7 (some .int) ([(0, 14, 17, 21), (0, 14, 21, 13), (0, 14, 25, 15)] : List (Nat × Nat × Nat × Nat))]
theorem gi_L_planPrice : GoodIn xTs w_L_planPrice := fun _ h => by obtain rfl := List.mem_singleton.mp h; exact xGood q_co_L_planPrice (by decide +kernel)
theorem hd_L_planPrice : yL_planPrice.cls ≠ "java/lang/invoke/MethodHandle" ∧ yL_planPrice.cls ≠ "java/lang/invoke/VarHandle" ∧ (parseMethodDescriptor yL_planPrice.desc).map (fun d => d.parameters.length) = some 6 := by decide +kernel
theorem q_co_X4_planPrice : Cond.code yX4_planPrice cX4_planPrice 6 (some .int) ∈ xTs := xTs_t 471 (by decide +kernel) (by decide +kernel)
abbrev w_X4_planPrice : List Cond := [Cond.code yX4_planPrice cX4_planPrice 6 (some .int)]
theorem gi_X4_planPrice : GoodIn xTs w_X4_planPrice := fun _ h => by obtain rfl := List.mem_singleton.mp h; exact xGood q_co_X4_planPrice (by decide +kernel)
theorem hd_X4_planPrice : yX4_planPrice.cls ≠ "java/lang/invoke/MethodHandle" ∧ yX4_planPrice.cls ≠ "java/lang/invoke/VarHandle" ∧ (parseMethodDescriptor yX4_planPrice.desc).map (fun d => d.parameters.length) = some 4 := by decide +kernel
theorem q_co_X1_init : Cond.code yX1_init cX1_init 4 none ∈ xTs := xTs_t 479 (by decide +kernel) (by decide +kernel)
abbrev w_X1_init : List Cond := [Cond.code yX1_init cX1_init 4 none]
theorem gi_X1_init : GoodIn xTs w_X1_init := fun _ h => by obtain rfl := List.mem_singleton.mp h; exact xGood q_co_X1_init (by decide +kernel)
theorem hd_X1_init : yX1_init.cls ≠ "java/lang/invoke/MethodHandle" ∧ yX1_init.cls ≠ "java/lang/invoke/VarHandle" ∧ (parseMethodDescriptor yX1_init.desc).map (fun d => d.parameters.length) = some 3 := by decide +kernel
theorem q_co_L_slot : Cond.codeWith yL_slot cL_slot 6 (some .int) ([(0, 12, 15, 21)] : List (Nat × Nat × Nat × Nat)) ∈ xTs := xTs_t 496 (by decide +kernel) (by decide +kernel)
abbrev w_L_slot : List Cond := [Cond.codeWith yL_slot cL_slot 6 (some .int) ([(0, 12, 15, 21)] : List (Nat × Nat × Nat × Nat))]
theorem gi_L_slot : GoodIn xTs w_L_slot := fun _ h => by obtain rfl := List.mem_singleton.mp h; exact xGood q_co_L_slot (by decide +kernel)
theorem hd_L_slot : yL_slot.cls ≠ "java/lang/invoke/MethodHandle" ∧ yL_slot.cls ≠ "java/lang/invoke/VarHandle" ∧ (parseMethodDescriptor yL_slot.desc).map (fun d => d.parameters.length) = some 5 := by decide +kernel
theorem q_co_X4_slot : Cond.code yX4_slot cX4_slot 5 (some .int) ∈ xTs := xTs_t 500 (by decide +kernel) (by decide +kernel)
abbrev w_X4_slot : List Cond := [Cond.code yX4_slot cX4_slot 5 (some .int)]
theorem gi_X4_slot : GoodIn xTs w_X4_slot := fun _ h => by obtain rfl := List.mem_singleton.mp h; exact xGood q_co_X4_slot (by decide +kernel)
theorem hd_X4_slot : yX4_slot.cls ≠ "java/lang/invoke/MethodHandle" ∧ yX4_slot.cls ≠ "java/lang/invoke/VarHandle" ∧ (parseMethodDescriptor yX4_slot.desc).map (fun d => d.parameters.length) = some 3 := by decide +kernel
theorem q_co_L_machine : Cond.codeWith yL_machine cL_machine 5 (some .int) ([(0, 10, 13, 21)] : List (Nat × Nat × Nat × Nat)) ∈ xTs := xTs_t 504 (by decide +kernel) (by decide +kernel)
abbrev w_L_machine : List Cond := [Cond.codeWith yL_machine cL_machine 5 (some .int) ([(0, 10, 13, 21)] : List (Nat × Nat × Nat × Nat))]
theorem gi_L_machine : GoodIn xTs w_L_machine := fun _ h => by obtain rfl := List.mem_singleton.mp h; exact xGood q_co_L_machine (by decide +kernel)
theorem hd_L_machine : yL_machine.cls ≠ "java/lang/invoke/MethodHandle" ∧ yL_machine.cls ≠ "java/lang/invoke/VarHandle" ∧ (parseMethodDescriptor yL_machine.desc).map (fun d => d.parameters.length) = some 4 := by decide +kernel
theorem q_co_X4_machine : Cond.code yX4_machine cX4_machine 4 (some .int) ∈ xTs := xTs_t 508 (by decide +kernel) (by decide +kernel)
abbrev w_X4_machine : List Cond := [Cond.code yX4_machine cX4_machine 4 (some .int)]
theorem gi_X4_machine : GoodIn xTs w_X4_machine := fun _ h => by obtain rfl := List.mem_singleton.mp h; exact xGood q_co_X4_machine (by decide +kernel)
theorem hd_X4_machine : yX4_machine.cls ≠ "java/lang/invoke/MethodHandle" ∧ yX4_machine.cls ≠ "java/lang/invoke/VarHandle" ∧ (parseMethodDescriptor yX4_machine.desc).map (fun d => d.parameters.length) = some 2 := by decide +kernel
theorem q_co_L_runsOut : Cond.codeWith yL_runsOut cL_runsOut 5 (some .int) ([(0, 10, 13, 21)] : List (Nat × Nat × Nat × Nat)) ∈ xTs := xTs_t 512 (by decide +kernel) (by decide +kernel)
abbrev w_L_runsOut : List Cond := [Cond.codeWith yL_runsOut cL_runsOut 5 (some .int) ([(0, 10, 13, 21)] : List (Nat × Nat × Nat × Nat))]
theorem gi_L_runsOut : GoodIn xTs w_L_runsOut := fun _ h => by obtain rfl := List.mem_singleton.mp h; exact xGood q_co_L_runsOut (by decide +kernel)
theorem hd_L_runsOut : yL_runsOut.cls ≠ "java/lang/invoke/MethodHandle" ∧ yL_runsOut.cls ≠ "java/lang/invoke/VarHandle" ∧ (parseMethodDescriptor yL_runsOut.desc).map (fun d => d.parameters.length) = some 4 := by decide +kernel
theorem q_co_X4_runsOut : Cond.code yX4_runsOut cX4_runsOut 4 (some .int) ∈ xTs := xTs_t 516 (by decide +kernel) (by decide +kernel)
abbrev w_X4_runsOut : List Cond := [Cond.code yX4_runsOut cX4_runsOut 4 (some .int)]
theorem gi_X4_runsOut : GoodIn xTs w_X4_runsOut := fun _ h => by obtain rfl := List.mem_singleton.mp h; exact xGood q_co_X4_runsOut (by decide +kernel)
theorem hd_X4_runsOut : yX4_runsOut.cls ≠ "java/lang/invoke/MethodHandle" ∧ yX4_runsOut.cls ≠ "java/lang/invoke/VarHandle" ∧ (parseMethodDescriptor yX4_runsOut.desc).map (fun d => d.parameters.length) = some 2 := by decide +kernel
theorem q_co_L_pass : Cond.codeWith yL_pass cL_pass 4 (some .int) ([(0, 9, 12, 13), (0, 9, 15, 15)] : List (Nat × Nat × Nat × Nat)) ∈ xTs := xTs_t 519 (by decide +kernel) (by decide +kernel)
abbrev w_L_pass : List Cond := [Cond.codeWith yL_pass cL_pass 4 (some .int) ([(0, 9, 12, 13), (0, 9, 15, 15)] : List (Nat × Nat × Nat × Nat))]
theorem gi_L_pass : GoodIn xTs w_L_pass := fun _ h => by obtain rfl := List.mem_singleton.mp h; exact xGood q_co_L_pass (by decide +kernel)
theorem hd_L_pass : yL_pass.cls ≠ "java/lang/invoke/MethodHandle" ∧ yL_pass.cls ≠ "java/lang/invoke/VarHandle" ∧ (parseMethodDescriptor yL_pass.desc).map (fun d => d.parameters.length) = some 3 := by decide +kernel
theorem q_co_X4_pass : Cond.code yX4_pass cX4_pass 4 (some .int) ∈ xTs := xTs_t 523 (by decide +kernel) (by decide +kernel)
abbrev w_X4_pass : List Cond := [Cond.code yX4_pass cX4_pass 4 (some .int)]
theorem gi_X4_pass : GoodIn xTs w_X4_pass := fun _ h => by obtain rfl := List.mem_singleton.mp h; exact xGood q_co_X4_pass (by decide +kernel)
theorem hd_X4_pass : yX4_pass.cls ≠ "java/lang/invoke/MethodHandle" ∧ yX4_pass.cls ≠ "java/lang/invoke/VarHandle" ∧ (parseMethodDescriptor yX4_pass.desc).map (fun d => d.parameters.length) = some 1 := by decide +kernel
theorem q_co_X4_sellEverywhere : Cond.code yX4_sellEverywhere cX4_sellEverywhere 3 (some .int) ∈ xTs := xTs_t 529 (by decide +kernel) (by decide +kernel)
abbrev w_X4_sellEverywhere : List Cond := [Cond.code yX4_sellEverywhere cX4_sellEverywhere 3 (some .int)]
theorem gi_X4_sellEverywhere : GoodIn xTs w_X4_sellEverywhere := fun _ h => by obtain rfl := List.mem_singleton.mp h; exact xGood q_co_X4_sellEverywhere (by decide +kernel)
theorem hd_X4_sellEverywhere : yX4_sellEverywhere.cls ≠ "java/lang/invoke/MethodHandle" ∧ yX4_sellEverywhere.cls ≠ "java/lang/invoke/VarHandle" ∧ (parseMethodDescriptor yX4_sellEverywhere.desc).map (fun d => d.parameters.length) = some 0 := by decide +kernel
theorem q_co_X0_sellForADay : Cond.code yX0_sellForADay cX0_sellForADay 3 (some .int) ∈ xTs := xTs_t 533 (by decide +kernel) (by decide +kernel)
abbrev w_X0_sellForADay : List Cond := [Cond.code yX0_sellForADay cX0_sellForADay 3 (some .int)]
theorem gi_X0_sellForADay : GoodIn xTs w_X0_sellForADay := fun _ h => by obtain rfl := List.mem_singleton.mp h; exact xGood q_co_X0_sellForADay (by decide +kernel)
theorem hd_X0_sellForADay : yX0_sellForADay.cls ≠ "java/lang/invoke/MethodHandle" ∧ yX0_sellForADay.cls ≠ "java/lang/invoke/VarHandle" ∧ (parseMethodDescriptor yX0_sellForADay.desc).map (fun d => d.parameters.length) = some 0 := by decide +kernel
theorem q_co_X0_sellFrom : Cond.code yX0_sellFrom cX0_sellFrom 4 (some .int) ∈ xTs := xTs_t 537 (by decide +kernel) (by decide +kernel)
abbrev w_X0_sellFrom : List Cond := [Cond.code yX0_sellFrom cX0_sellFrom 4 (some .int)]
theorem gi_X0_sellFrom : GoodIn xTs w_X0_sellFrom := fun _ h => by obtain rfl := List.mem_singleton.mp h; exact xGood q_co_X0_sellFrom (by decide +kernel)
theorem hd_X0_sellFrom : yX0_sellFrom.cls ≠ "java/lang/invoke/MethodHandle" ∧ yX0_sellFrom.cls ≠ "java/lang/invoke/VarHandle" ∧ (parseMethodDescriptor yX0_sellFrom.desc).map (fun d => d.parameters.length) = some 1 := by decide +kernel
theorem q_co_X4_changePrices : Cond.code yX4_changePrices cX4_changePrices 3 none ∈ xTs := xTs_t 541 (by decide +kernel) (by decide +kernel)
abbrev w_X4_changePrices : List Cond := [Cond.code yX4_changePrices cX4_changePrices 3 none]
theorem gi_X4_changePrices : GoodIn xTs w_X4_changePrices := fun _ h => by obtain rfl := List.mem_singleton.mp h; exact xGood q_co_X4_changePrices (by decide +kernel)
theorem hd_X4_changePrices : yX4_changePrices.cls ≠ "java/lang/invoke/MethodHandle" ∧ yX4_changePrices.cls ≠ "java/lang/invoke/VarHandle" ∧ (parseMethodDescriptor yX4_changePrices.desc).map (fun d => d.parameters.length) = some 0 := by decide +kernel
theorem q_co_Jx4a65c_remove_915e3 : Cond.code yJx4a65c_remove_915e3 cJx4a65c_remove_915e3 4 (some (.object "java/lang/Object")) ∈ xTs := xTs_t 545 (by decide +kernel) (by decide +kernel)
abbrev w_Jx4a65c_remove_915e3 : List Cond := [Cond.code yJx4a65c_remove_915e3 cJx4a65c_remove_915e3 4 (some (.object "java/lang/Object"))]
theorem gi_Jx4a65c_remove_915e3 : GoodIn xTs w_Jx4a65c_remove_915e3 := fun _ h => by obtain rfl := List.mem_singleton.mp h; exact xGood q_co_Jx4a65c_remove_915e3 (by decide +kernel)
theorem hd_Jx4a65c_remove_915e3 : yJx4a65c_remove_915e3.cls ≠ "java/lang/invoke/MethodHandle" ∧ yJx4a65c_remove_915e3.cls ≠ "java/lang/invoke/VarHandle" ∧ (parseMethodDescriptor yJx4a65c_remove_915e3.desc).map (fun d => d.parameters.length) = some 1 := by decide +kernel
theorem q_co_Jx4a65c_fastRemove_b59b0 : Cond.code yJx4a65c_fastRemove_b59b0 cJx4a65c_fastRemove_b59b0 4 none ∈ xTs := xTs_t 549 (by decide +kernel) (by decide +kernel)
abbrev w_Jx4a65c_fastRemove_b59b0 : List Cond := [Cond.code yJx4a65c_fastRemove_b59b0 cJx4a65c_fastRemove_b59b0 4 none]
theorem gi_Jx4a65c_fastRemove_b59b0 : GoodIn xTs w_Jx4a65c_fastRemove_b59b0 := fun _ h => by obtain rfl := List.mem_singleton.mp h; exact xGood q_co_Jx4a65c_fastRemove_b59b0 (by decide +kernel)
theorem hd_Jx4a65c_fastRemove_b59b0 : yJx4a65c_fastRemove_b59b0.cls ≠ "java/lang/invoke/MethodHandle" ∧ yJx4a65c_fastRemove_b59b0.cls ≠ "java/lang/invoke/VarHandle" ∧ (parseMethodDescriptor yJx4a65c_fastRemove_b59b0.desc).map (fun d => d.parameters.length) = some 2 := by decide +kernel
theorem q_co_L_drive : Cond.codeWith yL_drive cL_drive 4 (some .int) ([(0, 9, 12, 13)] : List (Nat × Nat × Nat × Nat)) ∈ xTs := xTs_t 553 (by decide +kernel) (by decide +kernel)
abbrev w_L_drive : List Cond := [Cond.codeWith yL_drive cL_drive 4 (some .int) ([(0, 9, 12, 13)] : List (Nat × Nat × Nat × Nat))]
theorem gi_L_drive : GoodIn xTs w_L_drive := fun _ h => by obtain rfl := List.mem_singleton.mp h; exact xGood q_co_L_drive (by decide +kernel)
theorem hd_L_drive : yL_drive.cls ≠ "java/lang/invoke/MethodHandle" ∧ yL_drive.cls ≠ "java/lang/invoke/VarHandle" ∧ (parseMethodDescriptor yL_drive.desc).map (fun d => d.parameters.length) = some 3 := by decide +kernel
theorem q_co_X4_drive : Cond.code yX4_drive cX4_drive 2 (some .int) ∈ xTs := xTs_t 557 (by decide +kernel) (by decide +kernel)
abbrev w_X4_drive : List Cond := [Cond.code yX4_drive cX4_drive 2 (some .int)]
theorem gi_X4_drive : GoodIn xTs w_X4_drive := fun _ h => by obtain rfl := List.mem_singleton.mp h; exact xGood q_co_X4_drive (by decide +kernel)
theorem hd_X4_drive : yX4_drive.cls ≠ "java/lang/invoke/MethodHandle" ∧ yX4_drive.cls ≠ "java/lang/invoke/VarHandle" ∧ (parseMethodDescriptor yX4_drive.desc).map (fun d => d.parameters.length) = some 1 := by decide +kernel
theorem q_co_X4_requireSet : Cond.code yX4_requireSet cX4_requireSet 2 none ∈ xTs := xTs_t 561 (by decide +kernel) (by decide +kernel)
abbrev w_X4_requireSet : List Cond := [Cond.code yX4_requireSet cX4_requireSet 2 none]
theorem gi_X4_requireSet : GoodIn xTs w_X4_requireSet := fun _ h => by obtain rfl := List.mem_singleton.mp h; exact xGood q_co_X4_requireSet (by decide +kernel)
theorem hd_X4_requireSet : yX4_requireSet.cls ≠ "java/lang/invoke/MethodHandle" ∧ yX4_requireSet.cls ≠ "java/lang/invoke/VarHandle" ∧ (parseMethodDescriptor yX4_requireSet.desc).map (fun d => d.parameters.length) = some 1 := by decide +kernel
theorem q_co_L_visit : Cond.codeWith yL_visit cL_visit 5 (some .int) ([(0, 10, 13, 13), (0, 10, 17, 21)] : List (Nat × Nat × Nat × Nat)) ∈ xTs := xTs_t 566 (by decide +kernel) (by decide +kernel)
abbrev w_L_visit : List Cond := [Cond.codeWith yL_visit cL_visit 5 (some .int) ([(0, 10, 13, 13), (0, 10, 17, 21)] : List (Nat × Nat × Nat × Nat))]
theorem gi_L_visit : GoodIn xTs w_L_visit := fun _ h => by obtain rfl := List.mem_singleton.mp h; exact xGood q_co_L_visit (by decide +kernel)
theorem hd_L_visit : yL_visit.cls ≠ "java/lang/invoke/MethodHandle" ∧ yL_visit.cls ≠ "java/lang/invoke/VarHandle" ∧ (parseMethodDescriptor yL_visit.desc).map (fun d => d.parameters.length) = some 4 := by decide +kernel
theorem q_co_X4_visit : Cond.code yX4_visit cX4_visit 6 (some .int) ∈ xTs := xTs_t 570 (by decide +kernel) (by decide +kernel)
abbrev w_X4_visit : List Cond := [Cond.code yX4_visit cX4_visit 6 (some .int)]
theorem gi_X4_visit : GoodIn xTs w_X4_visit := fun _ h => by obtain rfl := List.mem_singleton.mp h; exact xGood q_co_X4_visit (by decide +kernel)
theorem hd_X4_visit : yX4_visit.cls ≠ "java/lang/invoke/MethodHandle" ∧ yX4_visit.cls ≠ "java/lang/invoke/VarHandle" ∧ (parseMethodDescriptor yX4_visit.desc).map (fun d => d.parameters.length) = some 2 := by decide +kernel
theorem q_co_J6_bitCount_0f7a4 : Cond.code yJ6_bitCount_0f7a4 cJ6_bitCount_0f7a4 1 (some .int) ∈ xTs := xTs_t 573 (by decide +kernel) (by decide +kernel)
abbrev w_J6_bitCount_0f7a4 : List Cond := [Cond.code yJ6_bitCount_0f7a4 cJ6_bitCount_0f7a4 1 (some .int)]
theorem gi_J6_bitCount_0f7a4 : GoodIn xTs w_J6_bitCount_0f7a4 := fun _ h => by obtain rfl := List.mem_singleton.mp h; exact xGood q_co_J6_bitCount_0f7a4 (by decide +kernel)
theorem hd_J6_bitCount_0f7a4 : yJ6_bitCount_0f7a4.cls ≠ "java/lang/invoke/MethodHandle" ∧ yJ6_bitCount_0f7a4.cls ≠ "java/lang/invoke/VarHandle" ∧ (parseMethodDescriptor yJ6_bitCount_0f7a4.desc).map (fun d => d.parameters.length) = some 1 := by decide +kernel
theorem q_co_L_minutes : Cond.codeWith yL_minutes cL_minutes 4 (some .int) ([(0, 9, 12, 13)] : List (Nat × Nat × Nat × Nat)) ∈ xTs := xTs_t 582 (by decide +kernel) (by decide +kernel)
abbrev w_L_minutes : List Cond := [Cond.codeWith yL_minutes cL_minutes 4 (some .int) ([(0, 9, 12, 13)] : List (Nat × Nat × Nat × Nat))]
theorem gi_L_minutes : GoodIn xTs w_L_minutes := fun _ h => by obtain rfl := List.mem_singleton.mp h; exact xGood q_co_L_minutes (by decide +kernel)
theorem hd_L_minutes : yL_minutes.cls ≠ "java/lang/invoke/MethodHandle" ∧ yL_minutes.cls ≠ "java/lang/invoke/VarHandle" ∧ (parseMethodDescriptor yL_minutes.desc).map (fun d => d.parameters.length) = some 3 := by decide +kernel
theorem q_co_X4_minutes : Cond.code yX4_minutes cX4_minutes 2 (some .int) ∈ xTs := xTs_t 586 (by decide +kernel) (by decide +kernel)
abbrev w_X4_minutes : List Cond := [Cond.code yX4_minutes cX4_minutes 2 (some .int)]
theorem gi_X4_minutes : GoodIn xTs w_X4_minutes := fun _ h => by obtain rfl := List.mem_singleton.mp h; exact xGood q_co_X4_minutes (by decide +kernel)
theorem hd_X4_minutes : yX4_minutes.cls ≠ "java/lang/invoke/MethodHandle" ∧ yX4_minutes.cls ≠ "java/lang/invoke/VarHandle" ∧ (parseMethodDescriptor yX4_minutes.desc).map (fun d => d.parameters.length) = some 1 := by decide +kernel
theorem q_co_X4_survey : Cond.code yX4_survey cX4_survey 3 none ∈ xTs := xTs_t 590 (by decide +kernel) (by decide +kernel)
abbrev w_X4_survey : List Cond := [Cond.code yX4_survey cX4_survey 3 none]
theorem gi_X4_survey : GoodIn xTs w_X4_survey := fun _ h => by obtain rfl := List.mem_singleton.mp h; exact xGood q_co_X4_survey (by decide +kernel)
theorem hd_X4_survey : yX4_survey.cls ≠ "java/lang/invoke/MethodHandle" ∧ yX4_survey.cls ≠ "java/lang/invoke/VarHandle" ∧ (parseMethodDescriptor yX4_survey.desc).map (fun d => d.parameters.length) = some 0 := by decide +kernel
theorem q_co_X0_visitTime : Cond.code yX0_visitTime cX0_visitTime 1 (some .int) ∈ xTs := xTs_t 596 (by decide +kernel) (by decide +kernel)
abbrev w_X0_visitTime : List Cond := [Cond.code yX0_visitTime cX0_visitTime 1 (some .int)]
theorem gi_X0_visitTime : GoodIn xTs w_X0_visitTime := fun _ h => by obtain rfl := List.mem_singleton.mp h; exact xGood q_co_X0_visitTime (by decide +kernel)
theorem hd_X0_visitTime : yX0_visitTime.cls ≠ "java/lang/invoke/MethodHandle" ∧ yX0_visitTime.cls ≠ "java/lang/invoke/VarHandle" ∧ (parseMethodDescriptor yX0_visitTime.desc).map (fun d => d.parameters.length) = some 0 := by decide +kernel
theorem q_co_X4_roundTime : Cond.code yX4_roundTime cX4_roundTime 2 (some .int) ∈ xTs := xTs_t 600 (by decide +kernel) (by decide +kernel)
abbrev w_X4_roundTime : List Cond := [Cond.code yX4_roundTime cX4_roundTime 2 (some .int)]
theorem gi_X4_roundTime : GoodIn xTs w_X4_roundTime := fun _ h => by obtain rfl := List.mem_singleton.mp h; exact xGood q_co_X4_roundTime (by decide +kernel)
theorem hd_X4_roundTime : yX4_roundTime.cls ≠ "java/lang/invoke/MethodHandle" ∧ yX4_roundTime.cls ≠ "java/lang/invoke/VarHandle" ∧ (parseMethodDescriptor yX4_roundTime.desc).map (fun d => d.parameters.length) = some 1 := by decide +kernel
theorem q_co_X4_sumOver : Cond.code yX4_sumOver cX4_sumOver 4 (some .int) ∈ xTs := xTs_t 603 (by decide +kernel) (by decide +kernel)
abbrev w_X4_sumOver : List Cond := [Cond.code yX4_sumOver cX4_sumOver 4 (some .int)]
theorem gi_X4_sumOver : GoodIn xTs w_X4_sumOver := fun _ h => by obtain rfl := List.mem_singleton.mp h; exact xGood q_co_X4_sumOver (by decide +kernel)
theorem hd_X4_sumOver : yX4_sumOver.cls ≠ "java/lang/invoke/MethodHandle" ∧ yX4_sumOver.cls ≠ "java/lang/invoke/VarHandle" ∧ (parseMethodDescriptor yX4_sumOver.desc).map (fun d => d.parameters.length) = some 2 := by decide +kernel
theorem q_co_L_best : Cond.codeWith yL_best cL_best 5 (some .int) ([(0, 10, 13, 13)] : List (Nat × Nat × Nat × Nat)) ∈ xTs := xTs_t 607 (by decide +kernel) (by decide +kernel)
abbrev w_L_best : List Cond := [Cond.codeWith yL_best cL_best 5 (some .int) ([(0, 10, 13, 13)] : List (Nat × Nat × Nat × Nat))]
theorem gi_L_best : GoodIn xTs w_L_best := fun _ h => by obtain rfl := List.mem_singleton.mp h; exact xGood q_co_L_best (by decide +kernel)
theorem hd_L_best : yL_best.cls ≠ "java/lang/invoke/MethodHandle" ∧ yL_best.cls ≠ "java/lang/invoke/VarHandle" ∧ (parseMethodDescriptor yL_best.desc).map (fun d => d.parameters.length) = some 4 := by decide +kernel
theorem q_co_X4_best : Cond.code yX4_best cX4_best 11 (some .int) ∈ xTs := xTs_t 611 (by decide +kernel) (by decide +kernel)
abbrev w_X4_best : List Cond := [Cond.code yX4_best cX4_best 11 (some .int)]
theorem gi_X4_best : GoodIn xTs w_X4_best := fun _ h => by obtain rfl := List.mem_singleton.mp h; exact xGood q_co_X4_best (by decide +kernel)
theorem hd_X4_best : yX4_best.cls ≠ "java/lang/invoke/MethodHandle" ∧ yX4_best.cls ≠ "java/lang/invoke/VarHandle" ∧ (parseMethodDescriptor yX4_best.desc).map (fun d => d.parameters.length) = some 2 := by decide +kernel
theorem q_co_X4_requireLoad : Cond.code yX4_requireLoad cX4_requireLoad 1 none ∈ xTs := xTs_t 615 (by decide +kernel) (by decide +kernel)
abbrev w_X4_requireLoad : List Cond := [Cond.code yX4_requireLoad cX4_requireLoad 1 none]
theorem gi_X4_requireLoad : GoodIn xTs w_X4_requireLoad := fun _ h => by obtain rfl := List.mem_singleton.mp h; exact xGood q_co_X4_requireLoad (by decide +kernel)
theorem hd_X4_requireLoad : yX4_requireLoad.cls ≠ "java/lang/invoke/MethodHandle" ∧ yX4_requireLoad.cls ≠ "java/lang/invoke/VarHandle" ∧ (parseMethodDescriptor yX4_requireLoad.desc).map (fun d => d.parameters.length) = some 1 := by decide +kernel
theorem q_co_L_go : Cond.codeWith yL_go cL_go 5 (some .int) ([(0, 10, 13, 13)] : List (Nat × Nat × Nat × Nat)) ∈ xTs := xTs_t 619 (by decide +kernel) (by decide +kernel)
abbrev w_L_go : List Cond := [Cond.codeWith yL_go cL_go 5 (some .int) ([(0, 10, 13, 13)] : List (Nat × Nat × Nat × Nat))]
theorem gi_L_go : GoodIn xTs w_L_go := fun _ h => by obtain rfl := List.mem_singleton.mp h; exact xGood q_co_L_go (by decide +kernel)
theorem hd_L_go : yL_go.cls ≠ "java/lang/invoke/MethodHandle" ∧ yL_go.cls ≠ "java/lang/invoke/VarHandle" ∧ (parseMethodDescriptor yL_go.desc).map (fun d => d.parameters.length) = some 4 := by decide +kernel
theorem q_co_X4_go : Cond.code yX4_go cX4_go 8 (some .int) ∈ xTs := xTs_t 623 (by decide +kernel) (by decide +kernel)
abbrev w_X4_go : List Cond := [Cond.code yX4_go cX4_go 8 (some .int)]
theorem gi_X4_go : GoodIn xTs w_X4_go := fun _ h => by obtain rfl := List.mem_singleton.mp h; exact xGood q_co_X4_go (by decide +kernel)
theorem hd_X4_go : yX4_go.cls ≠ "java/lang/invoke/MethodHandle" ∧ yX4_go.cls ≠ "java/lang/invoke/VarHandle" ∧ (parseMethodDescriptor yX4_go.desc).map (fun d => d.parameters.length) = some 2 := by decide +kernel
theorem q_co_X4_serve : Cond.code yX4_serve cX4_serve 4 (some .int) ∈ xTs := xTs_t 627 (by decide +kernel) (by decide +kernel)
abbrev w_X4_serve : List Cond := [Cond.code yX4_serve cX4_serve 4 (some .int)]
theorem gi_X4_serve : GoodIn xTs w_X4_serve := fun _ h => by obtain rfl := List.mem_singleton.mp h; exact xGood q_co_X4_serve (by decide +kernel)
theorem hd_X4_serve : yX4_serve.cls ≠ "java/lang/invoke/MethodHandle" ∧ yX4_serve.cls ≠ "java/lang/invoke/VarHandle" ∧ (parseMethodDescriptor yX4_serve.desc).map (fun d => d.parameters.length) = some 2 := by decide +kernel
theorem q_co_X0_emptyBox : Cond.code yX0_emptyBox cX0_emptyBox 2 (some .int) ∈ xTs := xTs_t 631 (by decide +kernel) (by decide +kernel)
abbrev w_X0_emptyBox : List Cond := [Cond.code yX0_emptyBox cX0_emptyBox 2 (some .int)]
theorem gi_X0_emptyBox : GoodIn xTs w_X0_emptyBox := fun _ h => by obtain rfl := List.mem_singleton.mp h; exact xGood q_co_X0_emptyBox (by decide +kernel)
theorem hd_X0_emptyBox : yX0_emptyBox.cls ≠ "java/lang/invoke/MethodHandle" ∧ yX0_emptyBox.cls ≠ "java/lang/invoke/VarHandle" ∧ (parseMethodDescriptor yX0_emptyBox.desc).map (fun d => d.parameters.length) = some 0 := by decide +kernel
theorem q_co_X0_fillUp : Cond.code yX0_fillUp cX0_fillUp 5 (some .int) ∈ xTs := xTs_t 635 (by decide +kernel) (by decide +kernel)
abbrev w_X0_fillUp : List Cond := [Cond.code yX0_fillUp cX0_fillUp 5 (some .int)]
theorem gi_X0_fillUp : GoodIn xTs w_X0_fillUp := fun _ h => by obtain rfl := List.mem_singleton.mp h; exact xGood q_co_X0_fillUp (by decide +kernel)
theorem hd_X0_fillUp : yX0_fillUp.cls ≠ "java/lang/invoke/MethodHandle" ∧ yX0_fillUp.cls ≠ "java/lang/invoke/VarHandle" ∧ (parseMethodDescriptor yX0_fillUp.desc).map (fun d => d.parameters.length) = some 1 := by decide +kernel
theorem q_co_L_total : Cond.codeWith yL_total cL_total 4 (some .int) ([(0, 8, 11, 21)] : List (Nat × Nat × Nat × Nat)) ∈ xTs := xTs_t 639 (by decide +kernel) (by decide +kernel)
abbrev w_L_total : List Cond := [Cond.codeWith yL_total cL_total 4 (some .int) ([(0, 8, 11, 21)] : List (Nat × Nat × Nat × Nat))]
theorem gi_L_total : GoodIn xTs w_L_total := fun _ h => by obtain rfl := List.mem_singleton.mp h; exact xGood q_co_L_total (by decide +kernel)
theorem hd_L_total : yL_total.cls ≠ "java/lang/invoke/MethodHandle" ∧ yL_total.cls ≠ "java/lang/invoke/VarHandle" ∧ (parseMethodDescriptor yL_total.desc).map (fun d => d.parameters.length) = some 3 := by decide +kernel
theorem q_co_X4_total : Cond.code yX4_total cX4_total 2 (some .long) ∈ xTs := xTs_t 643 (by decide +kernel) (by decide +kernel)
abbrev w_X4_total : List Cond := [Cond.code yX4_total cX4_total 2 (some .long)]
theorem gi_X4_total : GoodIn xTs w_X4_total := fun _ h => by obtain rfl := List.mem_singleton.mp h; exact xGood q_co_X4_total (by decide +kernel)
theorem hd_X4_total : yX4_total.cls ≠ "java/lang/invoke/MethodHandle" ∧ yX4_total.cls ≠ "java/lang/invoke/VarHandle" ∧ (parseMethodDescriptor yX4_total.desc).map (fun d => d.parameters.length) = some 1 := by decide +kernel
theorem q_co_X5_init : Cond.code yX5_init cX5_init 2 none ∈ xTs := xTs_t 649 (by decide +kernel) (by decide +kernel)
abbrev w_X5_init : List Cond := [Cond.code yX5_init cX5_init 2 none]
theorem gi_X5_init : GoodIn xTs w_X5_init := fun _ h => by obtain rfl := List.mem_singleton.mp h; exact xGood q_co_X5_init (by decide +kernel)
theorem hd_X5_init : yX5_init.cls ≠ "java/lang/invoke/MethodHandle" ∧ yX5_init.cls ≠ "java/lang/invoke/VarHandle" ∧ (parseMethodDescriptor yX5_init.desc).map (fun d => d.parameters.length) = some 0 := by decide +kernel
theorem q_co_X5_thrown : Cond.code yX5_thrown cX5_thrown 1 (some .int) ∈ xTs := xTs_t 707 (by decide +kernel) (by decide +kernel)
abbrev w_X5_thrown : List Cond := [Cond.code yX5_thrown cX5_thrown 1 (some .int)]
theorem gi_X5_thrown : GoodIn xTs w_X5_thrown := fun _ h => by obtain rfl := List.mem_singleton.mp h; exact xGood q_co_X5_thrown (by decide +kernel)
theorem hd_X5_thrown : yX5_thrown.cls ≠ "java/lang/invoke/MethodHandle" ∧ yX5_thrown.cls ≠ "java/lang/invoke/VarHandle" ∧ (parseMethodDescriptor yX5_thrown.desc).map (fun d => d.parameters.length) = some 0 := by decide +kernel
theorem q_co_X5_addMachine : Cond.code yX5_addMachine cX5_addMachine 2 (some .int) ∈ xTs := xTs_t 711 (by decide +kernel) (by decide +kernel)
abbrev w_X5_addMachine : List Cond := [Cond.code yX5_addMachine cX5_addMachine 2 (some .int)]
theorem gi_X5_addMachine : GoodIn xTs w_X5_addMachine := fun _ h => by obtain rfl := List.mem_singleton.mp h; exact xGood q_co_X5_addMachine (by decide +kernel)
theorem hd_X5_addMachine : yX5_addMachine.cls ≠ "java/lang/invoke/MethodHandle" ∧ yX5_addMachine.cls ≠ "java/lang/invoke/VarHandle" ∧ (parseMethodDescriptor yX5_addMachine.desc).map (fun d => d.parameters.length) = some 1 := by decide +kernel
theorem q_co_X5_isIn : Cond.code yX5_isIn cX5_isIn 3 (some .boolean) ∈ xTs := xTs_t 715 (by decide +kernel) (by decide +kernel)
abbrev w_X5_isIn : List Cond := [Cond.code yX5_isIn cX5_isIn 3 (some .boolean)]
theorem gi_X5_isIn : GoodIn xTs w_X5_isIn := fun _ h => by obtain rfl := List.mem_singleton.mp h; exact xGood q_co_X5_isIn (by decide +kernel)
theorem hd_X5_isIn : yX5_isIn.cls ≠ "java/lang/invoke/MethodHandle" ∧ yX5_isIn.cls ≠ "java/lang/invoke/VarHandle" ∧ (parseMethodDescriptor yX5_isIn.desc).map (fun d => d.parameters.length) = some 3 := by decide +kernel
theorem q_co_X5_fail : Cond.code yX5_fail cX5_fail 2 (some .int) ∈ xTs := xTs_t 719 (by decide +kernel) (by decide +kernel)
abbrev w_X5_fail : List Cond := [Cond.code yX5_fail cX5_fail 2 (some .int)]
theorem gi_X5_fail : GoodIn xTs w_X5_fail := fun _ h => by obtain rfl := List.mem_singleton.mp h; exact xGood q_co_X5_fail (by decide +kernel)
theorem hd_X5_fail : yX5_fail.cls ≠ "java/lang/invoke/MethodHandle" ∧ yX5_fail.cls ≠ "java/lang/invoke/VarHandle" ∧ (parseMethodDescriptor yX5_fail.desc).map (fun d => d.parameters.length) = some 1 := by decide +kernel
theorem q_co_X5_setMinutes : Cond.code yX5_setMinutes cX5_setMinutes 7 (some .int) ∈ xTs := xTs_t 723 (by decide +kernel) (by decide +kernel)
abbrev w_X5_setMinutes : List Cond := [Cond.code yX5_setMinutes cX5_setMinutes 7 (some .int)]
theorem gi_X5_setMinutes : GoodIn xTs w_X5_setMinutes := fun _ h => by obtain rfl := List.mem_singleton.mp h; exact xGood q_co_X5_setMinutes (by decide +kernel)
theorem hd_X5_setMinutes : yX5_setMinutes.cls ≠ "java/lang/invoke/MethodHandle" ∧ yX5_setMinutes.cls ≠ "java/lang/invoke/VarHandle" ∧ (parseMethodDescriptor yX5_setMinutes.desc).map (fun d => d.parameters.length) = some 3 := by decide +kernel
theorem q_co_X5_way : Cond.code yX5_way cX5_way 3 (some .int) ∈ xTs := xTs_t 727 (by decide +kernel) (by decide +kernel)
abbrev w_X5_way : List Cond := [Cond.code yX5_way cX5_way 3 (some .int)]
theorem gi_X5_way : GoodIn xTs w_X5_way := fun _ h => by obtain rfl := List.mem_singleton.mp h; exact xGood q_co_X5_way (by decide +kernel)
theorem hd_X5_way : yX5_way.cls ≠ "java/lang/invoke/MethodHandle" ∧ yX5_way.cls ≠ "java/lang/invoke/VarHandle" ∧ (parseMethodDescriptor yX5_way.desc).map (fun d => d.parameters.length) = some 2 := by decide +kernel
theorem q_co_X5_setSlot : Cond.code yX5_setSlot cX5_setSlot 7 (some .int) ∈ xTs := xTs_t 731 (by decide +kernel) (by decide +kernel)
abbrev w_X5_setSlot : List Cond := [Cond.code yX5_setSlot cX5_setSlot 7 (some .int)]
theorem gi_X5_setSlot : GoodIn xTs w_X5_setSlot := fun _ h => by obtain rfl := List.mem_singleton.mp h; exact xGood q_co_X5_setSlot (by decide +kernel)
theorem hd_X5_setSlot : yX5_setSlot.cls ≠ "java/lang/invoke/MethodHandle" ∧ yX5_setSlot.cls ≠ "java/lang/invoke/VarHandle" ∧ (parseMethodDescriptor yX5_setSlot.desc).map (fun d => d.parameters.length) = some 4 := by decide +kernel
theorem q_co_X5_isSlot : Cond.code yX5_isSlot cX5_isSlot 3 (some .boolean) ∈ xTs := xTs_t 735 (by decide +kernel) (by decide +kernel)
abbrev w_X5_isSlot : List Cond := [Cond.code yX5_isSlot cX5_isSlot 3 (some .boolean)]
theorem gi_X5_isSlot : GoodIn xTs w_X5_isSlot := fun _ h => by obtain rfl := List.mem_singleton.mp h; exact xGood q_co_X5_isSlot (by decide +kernel)
theorem hd_X5_isSlot : yX5_isSlot.cls ≠ "java/lang/invoke/MethodHandle" ∧ yX5_isSlot.cls ≠ "java/lang/invoke/VarHandle" ∧ (parseMethodDescriptor yX5_isSlot.desc).map (fun d => d.parameters.length) = some 2 := by decide +kernel
theorem q_co_X5_isMachine : Cond.code yX5_isMachine cX5_isMachine 2 (some .boolean) ∈ xTs := xTs_t 739 (by decide +kernel) (by decide +kernel)
abbrev w_X5_isMachine : List Cond := [Cond.code yX5_isMachine cX5_isMachine 2 (some .boolean)]
theorem gi_X5_isMachine : GoodIn xTs w_X5_isMachine := fun _ h => by obtain rfl := List.mem_singleton.mp h; exact xGood q_co_X5_isMachine (by decide +kernel)
theorem hd_X5_isMachine : yX5_isMachine.cls ≠ "java/lang/invoke/MethodHandle" ∧ yX5_isMachine.cls ≠ "java/lang/invoke/VarHandle" ∧ (parseMethodDescriptor yX5_isMachine.desc).map (fun d => d.parameters.length) = some 1 := by decide +kernel
theorem q_co_X5_planPrice : Cond.code yX5_planPrice cX5_planPrice 6 (some .int) ∈ xTs := xTs_t 744 (by decide +kernel) (by decide +kernel)
abbrev w_X5_planPrice : List Cond := [Cond.code yX5_planPrice cX5_planPrice 6 (some .int)]
theorem gi_X5_planPrice : GoodIn xTs w_X5_planPrice := fun _ h => by obtain rfl := List.mem_singleton.mp h; exact xGood q_co_X5_planPrice (by decide +kernel)
theorem hd_X5_planPrice : yX5_planPrice.cls ≠ "java/lang/invoke/MethodHandle" ∧ yX5_planPrice.cls ≠ "java/lang/invoke/VarHandle" ∧ (parseMethodDescriptor yX5_planPrice.desc).map (fun d => d.parameters.length) = some 4 := by decide +kernel
theorem q_co_X5_machineCount : Cond.code yX5_machineCount cX5_machineCount 1 (some .int) ∈ xTs := xTs_t 748 (by decide +kernel) (by decide +kernel)
abbrev w_X5_machineCount : List Cond := [Cond.code yX5_machineCount cX5_machineCount 1 (some .int)]
theorem gi_X5_machineCount : GoodIn xTs w_X5_machineCount := fun _ h => by obtain rfl := List.mem_singleton.mp h; exact xGood q_co_X5_machineCount (by decide +kernel)
theorem hd_X5_machineCount : yX5_machineCount.cls ≠ "java/lang/invoke/MethodHandle" ∧ yX5_machineCount.cls ≠ "java/lang/invoke/VarHandle" ∧ (parseMethodDescriptor yX5_machineCount.desc).map (fun d => d.parameters.length) = some 0 := by decide +kernel
theorem q_co_X5_slot : Cond.code yX5_slot cX5_slot 4 (some .int) ∈ xTs := xTs_t 752 (by decide +kernel) (by decide +kernel)
abbrev w_X5_slot : List Cond := [Cond.code yX5_slot cX5_slot 4 (some .int)]
theorem gi_X5_slot : GoodIn xTs w_X5_slot := fun _ h => by obtain rfl := List.mem_singleton.mp h; exact xGood q_co_X5_slot (by decide +kernel)
theorem hd_X5_slot : yX5_slot.cls ≠ "java/lang/invoke/MethodHandle" ∧ yX5_slot.cls ≠ "java/lang/invoke/VarHandle" ∧ (parseMethodDescriptor yX5_slot.desc).map (fun d => d.parameters.length) = some 3 := by decide +kernel
theorem q_co_X5_slotOf : Cond.code yX5_slotOf cX5_slotOf 3 (some .int) ∈ xTs := xTs_t 756 (by decide +kernel) (by decide +kernel)
abbrev w_X5_slotOf : List Cond := [Cond.code yX5_slotOf cX5_slotOf 3 (some .int)]
theorem gi_X5_slotOf : GoodIn xTs w_X5_slotOf := fun _ h => by obtain rfl := List.mem_singleton.mp h; exact xGood q_co_X5_slotOf (by decide +kernel)
theorem hd_X5_slotOf : yX5_slotOf.cls ≠ "java/lang/invoke/MethodHandle" ∧ yX5_slotOf.cls ≠ "java/lang/invoke/VarHandle" ∧ (parseMethodDescriptor yX5_slotOf.desc).map (fun d => d.parameters.length) = some 2 := by decide +kernel
theorem q_co_X5_machine : Cond.code yX5_machine cX5_machine 3 (some .int) ∈ xTs := xTs_t 760 (by decide +kernel) (by decide +kernel)
abbrev w_X5_machine : List Cond := [Cond.code yX5_machine cX5_machine 3 (some .int)]
theorem gi_X5_machine : GoodIn xTs w_X5_machine := fun _ h => by obtain rfl := List.mem_singleton.mp h; exact xGood q_co_X5_machine (by decide +kernel)
theorem hd_X5_machine : yX5_machine.cls ≠ "java/lang/invoke/MethodHandle" ∧ yX5_machine.cls ≠ "java/lang/invoke/VarHandle" ∧ (parseMethodDescriptor yX5_machine.desc).map (fun d => d.parameters.length) = some 2 := by decide +kernel
theorem q_co_X5_told : Cond.code yX5_told cX5_told 3 (some .int) ∈ xTs := xTs_t 764 (by decide +kernel) (by decide +kernel)
abbrev w_X5_told : List Cond := [Cond.code yX5_told cX5_told 3 (some .int)]
theorem gi_X5_told : GoodIn xTs w_X5_told := fun _ h => by obtain rfl := List.mem_singleton.mp h; exact xGood q_co_X5_told (by decide +kernel)
theorem hd_X5_told : yX5_told.cls ≠ "java/lang/invoke/MethodHandle" ∧ yX5_told.cls ≠ "java/lang/invoke/VarHandle" ∧ (parseMethodDescriptor yX5_told.desc).map (fun d => d.parameters.length) = some 2 := by decide +kernel
theorem q_co_X5_lacks : Cond.code yX5_lacks cX5_lacks 4 (some .int) ∈ xTs := xTs_t 768 (by decide +kernel) (by decide +kernel)
abbrev w_X5_lacks : List Cond := [Cond.code yX5_lacks cX5_lacks 4 (some .int)]
theorem gi_X5_lacks : GoodIn xTs w_X5_lacks := fun _ h => by obtain rfl := List.mem_singleton.mp h; exact xGood q_co_X5_lacks (by decide +kernel)
theorem hd_X5_lacks : yX5_lacks.cls ≠ "java/lang/invoke/MethodHandle" ∧ yX5_lacks.cls ≠ "java/lang/invoke/VarHandle" ∧ (parseMethodDescriptor yX5_lacks.desc).map (fun d => d.parameters.length) = some 1 := by decide +kernel
theorem q_co_X5_gain : Cond.code yX5_gain cX5_gain 4 (some .int) ∈ xTs := xTs_t 772 (by decide +kernel) (by decide +kernel)
abbrev w_X5_gain : List Cond := [Cond.code yX5_gain cX5_gain 4 (some .int)]
theorem gi_X5_gain : GoodIn xTs w_X5_gain := fun _ h => by obtain rfl := List.mem_singleton.mp h; exact xGood q_co_X5_gain (by decide +kernel)
theorem hd_X5_gain : yX5_gain.cls ≠ "java/lang/invoke/MethodHandle" ∧ yX5_gain.cls ≠ "java/lang/invoke/VarHandle" ∧ (parseMethodDescriptor yX5_gain.desc).map (fun d => d.parameters.length) = some 1 := by decide +kernel
theorem q_co_X5_runsOut : Cond.code yX5_runsOut cX5_runsOut 6 (some .int) ∈ xTs := xTs_t 776 (by decide +kernel) (by decide +kernel)
abbrev w_X5_runsOut : List Cond := [Cond.code yX5_runsOut cX5_runsOut 6 (some .int)]
theorem gi_X5_runsOut : GoodIn xTs w_X5_runsOut := fun _ h => by obtain rfl := List.mem_singleton.mp h; exact xGood q_co_X5_runsOut (by decide +kernel)
theorem hd_X5_runsOut : yX5_runsOut.cls ≠ "java/lang/invoke/MethodHandle" ∧ yX5_runsOut.cls ≠ "java/lang/invoke/VarHandle" ∧ (parseMethodDescriptor yX5_runsOut.desc).map (fun d => d.parameters.length) = some 2 := by decide +kernel
theorem q_co_X5_pass : Cond.code yX5_pass cX5_pass 6 (some .int) ∈ xTs := xTs_t 780 (by decide +kernel) (by decide +kernel)
abbrev w_X5_pass : List Cond := [Cond.code yX5_pass cX5_pass 6 (some .int)]
theorem gi_X5_pass : GoodIn xTs w_X5_pass := fun _ h => by obtain rfl := List.mem_singleton.mp h; exact xGood q_co_X5_pass (by decide +kernel)
theorem hd_X5_pass : yX5_pass.cls ≠ "java/lang/invoke/MethodHandle" ∧ yX5_pass.cls ≠ "java/lang/invoke/VarHandle" ∧ (parseMethodDescriptor yX5_pass.desc).map (fun d => d.parameters.length) = some 1 := by decide +kernel
theorem q_co_X5_sell : Cond.code yX5_sell cX5_sell 4 (some .boolean) ∈ xTs := xTs_t 784 (by decide +kernel) (by decide +kernel)
abbrev w_X5_sell : List Cond := [Cond.code yX5_sell cX5_sell 4 (some .boolean)]
theorem gi_X5_sell : GoodIn xTs w_X5_sell := fun _ h => by obtain rfl := List.mem_singleton.mp h; exact xGood q_co_X5_sell (by decide +kernel)
theorem hd_X5_sell : yX5_sell.cls ≠ "java/lang/invoke/MethodHandle" ∧ yX5_sell.cls ≠ "java/lang/invoke/VarHandle" ∧ (parseMethodDescriptor yX5_sell.desc).map (fun d => d.parameters.length) = some 1 := by decide +kernel
theorem q_co_X5_change : Cond.code yX5_change cX5_change 4 none ∈ xTs := xTs_t 788 (by decide +kernel) (by decide +kernel)
abbrev w_X5_change : List Cond := [Cond.code yX5_change cX5_change 4 none]
theorem gi_X5_change : GoodIn xTs w_X5_change := fun _ h => by obtain rfl := List.mem_singleton.mp h; exact xGood q_co_X5_change (by decide +kernel)
theorem hd_X5_change : yX5_change.cls ≠ "java/lang/invoke/MethodHandle" ∧ yX5_change.cls ≠ "java/lang/invoke/VarHandle" ∧ (parseMethodDescriptor yX5_change.desc).map (fun d => d.parameters.length) = some 0 := by decide +kernel
theorem q_co_X5_today : Cond.code yX5_today cX5_today 1 (some .int) ∈ xTs := xTs_t 792 (by decide +kernel) (by decide +kernel)
abbrev w_X5_today : List Cond := [Cond.code yX5_today cX5_today 1 (some .int)]
theorem gi_X5_today : GoodIn xTs w_X5_today := fun _ h => by obtain rfl := List.mem_singleton.mp h; exact xGood q_co_X5_today (by decide +kernel)
theorem hd_X5_today : yX5_today.cls ≠ "java/lang/invoke/MethodHandle" ∧ yX5_today.cls ≠ "java/lang/invoke/VarHandle" ∧ (parseMethodDescriptor yX5_today.desc).map (fun d => d.parameters.length) = some 0 := by decide +kernel
theorem q_co_X5_planned : Cond.code yX5_planned cX5_planned 1 (some .int) ∈ xTs := xTs_t 796 (by decide +kernel) (by decide +kernel)
abbrev w_X5_planned : List Cond := [Cond.code yX5_planned cX5_planned 1 (some .int)]
theorem gi_X5_planned : GoodIn xTs w_X5_planned := fun _ h => by obtain rfl := List.mem_singleton.mp h; exact xGood q_co_X5_planned (by decide +kernel)
theorem hd_X5_planned : yX5_planned.cls ≠ "java/lang/invoke/MethodHandle" ∧ yX5_planned.cls ≠ "java/lang/invoke/VarHandle" ∧ (parseMethodDescriptor yX5_planned.desc).map (fun d => d.parameters.length) = some 0 := by decide +kernel
theorem q_co_X5_drive : Cond.code yX5_drive cX5_drive 2 (some .int) ∈ xTs := xTs_t 800 (by decide +kernel) (by decide +kernel)
abbrev w_X5_drive : List Cond := [Cond.code yX5_drive cX5_drive 2 (some .int)]
theorem gi_X5_drive : GoodIn xTs w_X5_drive := fun _ h => by obtain rfl := List.mem_singleton.mp h; exact xGood q_co_X5_drive (by decide +kernel)
theorem hd_X5_drive : yX5_drive.cls ≠ "java/lang/invoke/MethodHandle" ∧ yX5_drive.cls ≠ "java/lang/invoke/VarHandle" ∧ (parseMethodDescriptor yX5_drive.desc).map (fun d => d.parameters.length) = some 1 := by decide +kernel
theorem q_co_X5_areMachines : Cond.code yX5_areMachines cX5_areMachines 2 (some .boolean) ∈ xTs := xTs_t 804 (by decide +kernel) (by decide +kernel)
abbrev w_X5_areMachines : List Cond := [Cond.code yX5_areMachines cX5_areMachines 2 (some .boolean)]
theorem gi_X5_areMachines : GoodIn xTs w_X5_areMachines := fun _ h => by obtain rfl := List.mem_singleton.mp h; exact xGood q_co_X5_areMachines (by decide +kernel)
theorem hd_X5_areMachines : yX5_areMachines.cls ≠ "java/lang/invoke/MethodHandle" ∧ yX5_areMachines.cls ≠ "java/lang/invoke/VarHandle" ∧ (parseMethodDescriptor yX5_areMachines.desc).map (fun d => d.parameters.length) = some 1 := by decide +kernel
theorem q_co_X5_tabulate : Cond.code yX5_tabulate cX5_tabulate 6 none ∈ xTs := xTs_t 808 (by decide +kernel) (by decide +kernel)
abbrev w_X5_tabulate : List Cond := [Cond.code yX5_tabulate cX5_tabulate 6 none]
theorem gi_X5_tabulate : GoodIn xTs w_X5_tabulate := fun _ h => by obtain rfl := List.mem_singleton.mp h; exact xGood q_co_X5_tabulate (by decide +kernel)
theorem hd_X5_tabulate : yX5_tabulate.cls ≠ "java/lang/invoke/MethodHandle" ∧ yX5_tabulate.cls ≠ "java/lang/invoke/VarHandle" ∧ (parseMethodDescriptor yX5_tabulate.desc).map (fun d => d.parameters.length) = some 1 := by decide +kernel
theorem q_co_X5_has : Cond.code yX5_has cX5_has 2 (some .boolean) ∈ xTs := xTs_t 812 (by decide +kernel) (by decide +kernel)
abbrev w_X5_has : List Cond := [Cond.code yX5_has cX5_has 2 (some .boolean)]
theorem gi_X5_has : GoodIn xTs w_X5_has := fun _ h => by obtain rfl := List.mem_singleton.mp h; exact xGood q_co_X5_has (by decide +kernel)
theorem hd_X5_has : yX5_has.cls ≠ "java/lang/invoke/MethodHandle" ∧ yX5_has.cls ≠ "java/lang/invoke/VarHandle" ∧ (parseMethodDescriptor yX5_has.desc).map (fun d => d.parameters.length) = some 2 := by decide +kernel
theorem q_co_X5_restOf : Cond.code yX5_restOf cX5_restOf 3 (some .int) ∈ xTs := xTs_t 816 (by decide +kernel) (by decide +kernel)
abbrev w_X5_restOf : List Cond := [Cond.code yX5_restOf cX5_restOf 3 (some .int)]
theorem gi_X5_restOf : GoodIn xTs w_X5_restOf := fun _ h => by obtain rfl := List.mem_singleton.mp h; exact xGood q_co_X5_restOf (by decide +kernel)
theorem hd_X5_restOf : yX5_restOf.cls ≠ "java/lang/invoke/MethodHandle" ∧ yX5_restOf.cls ≠ "java/lang/invoke/VarHandle" ∧ (parseMethodDescriptor yX5_restOf.desc).map (fun d => d.parameters.length) = some 2 := by decide +kernel
theorem q_co_X5_visit : Cond.code yX5_visit cX5_visit 6 (some .int) ∈ xTs := xTs_t 820 (by decide +kernel) (by decide +kernel)
abbrev w_X5_visit : List Cond := [Cond.code yX5_visit cX5_visit 6 (some .int)]
theorem gi_X5_visit : GoodIn xTs w_X5_visit := fun _ h => by obtain rfl := List.mem_singleton.mp h; exact xGood q_co_X5_visit (by decide +kernel)
theorem hd_X5_visit : yX5_visit.cls ≠ "java/lang/invoke/MethodHandle" ∧ yX5_visit.cls ≠ "java/lang/invoke/VarHandle" ∧ (parseMethodDescriptor yX5_visit.desc).map (fun d => d.parameters.length) = some 2 := by decide +kernel
theorem q_co_X5_nextOf : Cond.code yX5_nextOf cX5_nextOf 4 (some .int) ∈ xTs := xTs_t 825 (by decide +kernel) (by decide +kernel)
abbrev w_X5_nextOf : List Cond := [Cond.code yX5_nextOf cX5_nextOf 4 (some .int)]
theorem gi_X5_nextOf : GoodIn xTs w_X5_nextOf := fun _ h => by obtain rfl := List.mem_singleton.mp h; exact xGood q_co_X5_nextOf (by decide +kernel)
theorem hd_X5_nextOf : yX5_nextOf.cls ≠ "java/lang/invoke/MethodHandle" ∧ yX5_nextOf.cls ≠ "java/lang/invoke/VarHandle" ∧ (parseMethodDescriptor yX5_nextOf.desc).map (fun d => d.parameters.length) = some 2 := by decide +kernel
theorem q_co_X5_minutes : Cond.code yX5_minutes cX5_minutes 2 (some .int) ∈ xTs := xTs_t 829 (by decide +kernel) (by decide +kernel)
abbrev w_X5_minutes : List Cond := [Cond.code yX5_minutes cX5_minutes 2 (some .int)]
theorem gi_X5_minutes : GoodIn xTs w_X5_minutes := fun _ h => by obtain rfl := List.mem_singleton.mp h; exact xGood q_co_X5_minutes (by decide +kernel)
theorem hd_X5_minutes : yX5_minutes.cls ≠ "java/lang/invoke/MethodHandle" ∧ yX5_minutes.cls ≠ "java/lang/invoke/VarHandle" ∧ (parseMethodDescriptor yX5_minutes.desc).map (fun d => d.parameters.length) = some 1 := by decide +kernel
theorem q_co_X5_minutesOf : Cond.code yX5_minutesOf cX5_minutesOf 4 (some .int) ∈ xTs := xTs_t 833 (by decide +kernel) (by decide +kernel)
abbrev w_X5_minutesOf : List Cond := [Cond.code yX5_minutesOf cX5_minutesOf 4 (some .int)]
theorem gi_X5_minutesOf : GoodIn xTs w_X5_minutesOf := fun _ h => by obtain rfl := List.mem_singleton.mp h; exact xGood q_co_X5_minutesOf (by decide +kernel)
theorem hd_X5_minutesOf : yX5_minutesOf.cls ≠ "java/lang/invoke/MethodHandle" ∧ yX5_minutesOf.cls ≠ "java/lang/invoke/VarHandle" ∧ (parseMethodDescriptor yX5_minutesOf.desc).map (fun d => d.parameters.length) = some 1 := by decide +kernel
theorem q_co_X5_best : Cond.code yX5_best cX5_best 11 (some .int) ∈ xTs := xTs_t 837 (by decide +kernel) (by decide +kernel)
abbrev w_X5_best : List Cond := [Cond.code yX5_best cX5_best 11 (some .int)]
theorem gi_X5_best : GoodIn xTs w_X5_best := fun _ h => by obtain rfl := List.mem_singleton.mp h; exact xGood q_co_X5_best (by decide +kernel)
theorem hd_X5_best : yX5_best.cls ≠ "java/lang/invoke/MethodHandle" ∧ yX5_best.cls ≠ "java/lang/invoke/VarHandle" ∧ (parseMethodDescriptor yX5_best.desc).map (fun d => d.parameters.length) = some 2 := by decide +kernel
theorem q_co_X5_go : Cond.code yX5_go cX5_go 8 (some .int) ∈ xTs := xTs_t 841 (by decide +kernel) (by decide +kernel)
abbrev w_X5_go : List Cond := [Cond.code yX5_go cX5_go 8 (some .int)]
theorem gi_X5_go : GoodIn xTs w_X5_go := fun _ h => by obtain rfl := List.mem_singleton.mp h; exact xGood q_co_X5_go (by decide +kernel)
theorem hd_X5_go : yX5_go.cls ≠ "java/lang/invoke/MethodHandle" ∧ yX5_go.cls ≠ "java/lang/invoke/VarHandle" ∧ (parseMethodDescriptor yX5_go.desc).map (fun d => d.parameters.length) = some 2 := by decide +kernel
theorem q_co_X5_total : Cond.code yX5_total cX5_total 2 (some .long) ∈ xTs := xTs_t 845 (by decide +kernel) (by decide +kernel)
abbrev w_X5_total : List Cond := [Cond.code yX5_total cX5_total 2 (some .long)]
theorem gi_X5_total : GoodIn xTs w_X5_total := fun _ h => by obtain rfl := List.mem_singleton.mp h; exact xGood q_co_X5_total (by decide +kernel)
theorem hd_X5_total : yX5_total.cls ≠ "java/lang/invoke/MethodHandle" ∧ yX5_total.cls ≠ "java/lang/invoke/VarHandle" ∧ (parseMethodDescriptor yX5_total.desc).map (fun d => d.parameters.length) = some 1 := by decide +kernel
theorem q_co_X5_filled : Cond.code yX5_filled cX5_filled 4 (some .double) ∈ xTs := xTs_t 849 (by decide +kernel) (by decide +kernel)
abbrev w_X5_filled : List Cond := [Cond.code yX5_filled cX5_filled 4 (some .double)]
theorem gi_X5_filled : GoodIn xTs w_X5_filled := fun _ h => by obtain rfl := List.mem_singleton.mp h; exact xGood q_co_X5_filled (by decide +kernel)
theorem hd_X5_filled : yX5_filled.cls ≠ "java/lang/invoke/MethodHandle" ∧ yX5_filled.cls ≠ "java/lang/invoke/VarHandle" ∧ (parseMethodDescriptor yX5_filled.desc).map (fun d => d.parameters.length) = some 0 := by decide +kernel
theorem q_co_X5_digest : Cond.code yX5_digest cX5_digest 8 (some .long) ∈ xTs := xTs_t 853 (by decide +kernel) (by decide +kernel)
abbrev w_X5_digest : List Cond := [Cond.code yX5_digest cX5_digest 8 (some .long)]
theorem gi_X5_digest : GoodIn xTs w_X5_digest := fun _ h => by obtain rfl := List.mem_singleton.mp h; exact xGood q_co_X5_digest (by decide +kernel)
theorem hd_X5_digest : yX5_digest.cls ≠ "java/lang/invoke/MethodHandle" ∧ yX5_digest.cls ≠ "java/lang/invoke/VarHandle" ∧ (parseMethodDescriptor yX5_digest.desc).map (fun d => d.parameters.length) = some 0 := by decide +kernel
theorem q_co_min : Cond.code Lib.Math.min.name Lib.Math.min.code 2 (some .int) ∈ xTs := xTs_t 379 (by decide +kernel) (by decide +kernel)
theorem q_co_max : Cond.code Lib.Math.max.name Lib.Math.max.code 2 (some .int) ∈ xTs := xTs_t 349 (by decide +kernel) (by decide +kernel)
theorem q_co_obj : Cond.code objectInit ⟨#[0xb1]⟩ 1 none ∈ xTs := xTs_t 30 (by decide +kernel) (by decide +kernel)
theorem qi_X0 : ∀ w ∈ wsX00, w ∈ xTs := fun w h => (show ∀ w ∈ wsX00, w ∈ lw_tbl ∧ xWok w = true by decide +kernel) w h |>.elim xTs_of
theorem qi_X1 : ∀ w ∈ wsX10, w ∈ xTs := fun w h => (show ∀ w ∈ wsX10, w ∈ lw_tbl ∧ xWok w = true by decide +kernel) w h |>.elim xTs_of
theorem qi_X2 : ∀ w ∈ wsX20, w ∈ xTs := fun w h => (show ∀ w ∈ wsX20, w ∈ lw_tbl ∧ xWok w = true by decide +kernel) w h |>.elim xTs_of
theorem qi_X3 : ∀ w ∈ wsX30, w ∈ xTs := fun w h => (show ∀ w ∈ wsX30, w ∈ lw_tbl ∧ xWok w = true by decide +kernel) w h |>.elim xTs_of
theorem qi_X4 : ∀ w ∈ wsX40, w ∈ xTs := fun w h => (show ∀ w ∈ wsX40, w ∈ lw_tbl ∧ xWok w = true by decide +kernel) w h |>.elim xTs_of
theorem qi_X5 : ∀ w ∈ wsX50, w ∈ xTs := fun w h => (show ∀ w ∈ wsX50, w ∈ lw_tbl ∧ xWok w = true by decide +kernel) w h |>.elim xTs_of
theorem qi_Jx4a65c : ∀ w ∈ wsJx4a65c0, w ∈ xTs := fun w h => (show ∀ w ∈ wsJx4a65c0, w ∈ lw_tbl ∧ xWok w = true by decide +kernel) w h |>.elim xTs_of
end
section
/-! Calls: of methods that only read (xR), of methods that write (xQi, xQl, xQv, xQr), of methods that may throw (xX); the throws of the class. -/
def xR (v : Option Value) : Array Value → State → Outcome → State → Prop := fun _ st oc t => oc = .returned v ∧ t.heap = st.heap
abbrev xQi (P : Int32 → Heap → Prop) (F : Nat → Prop) : Array Value → State → Outcome → State → Prop := va_Qi P (fun h t => t.heap = h) F
abbrev xQl (P : Int64 → Heap → Prop) (F : Nat → Prop) : Array Value → State → Outcome → State → Prop := va_Ql P (fun h t => t.heap = h) F
abbrev xQd (P : UInt64 → Heap → Prop) (F : Nat → Prop) : Array Value → State → Outcome → State → Prop := va_Qd P (fun h t => t.heap = h) F
abbrev xQv (P : Heap → Prop) (F : Nat → Prop) : Array Value → State → Outcome → State → Prop := va_Qv P (fun h t => t.heap = h) F
abbrev xQr (P : Nat → Heap → Prop) (F : Nat → Prop) : Array Value → State → Outcome → State → Prop := va_Qr (fun _ : Heap => True) (fun h a t => P a h ∧ t.heap = h) F
/-- which exceptions leave, with every old cell as it was -/
abbrev xX (PX : String → Prop) : String → State → State → Prop := vx_X (S := Unit) (fun _ => True) (fun E _ _ => PX E) (fun _ => False)
abbrev xNo : Nat → Prop := fun _ => False
section XC
variable {p : Program} {l : Launch} {e : Env} {R : Room} {s : State} {m : MethodId} {args : Array Value} {below : List Frame} {meth : Method} {c : Code} {H : Heap} {locs : List Loc} {cells slots : Nat} {Q : State → Prop}
variable {pc : Nat} {ls : Array Slot} {rest st0 : List Value} {a : Array Value} {A F : Nat → Prop} {mc ms : Nat}
theorem xcR {v : Option Value} (hr : va_Run p l e R s m args below meth c H locs cells slots 0 0 (F0 m pc ls st0) rest (xR v a) xNo) (k : W p l e R s m args below meth c H locs cells slots Q (F0 m (pc + 3) ls (v.toList ++ rest))) : W p l e R s m args below meth c H locs cells slots Q (F0 m pc ls st0) := by
  intro T hT X
  obtain ⟨v', st₀, t, T', L, h0, X', hL, e1, e2, ⟨hv, hh⟩, st⟩ := hr T hT X
  cases hv
  obtain ⟨t2, a1, b1⟩ := k T' (by rw [e1, hh, h0]) (Stand.forget X' (fun q h => (hL q h).elim))
  exact ⟨t2, st t2 a1, b1⟩
theorem xcRi {r : Int32} (hr : va_Run p l e R s m args below meth c H locs cells slots 0 0 (F0 m pc ls st0) rest (xR (some (.int r)) a) xNo) (k : W p l e R s m args below meth c H locs cells slots Q (F0 m (pc + 3) ls (.int r :: rest))) : W p l e R s m args below meth c H locs cells slots Q (F0 m pc ls st0) := xcR hr k
theorem xcRl {r : Int64} (hr : va_Run p l e R s m args below meth c H locs cells slots 0 0 (F0 m pc ls st0) rest (xR (some (.long r)) a) xNo) (k : W p l e R s m args below meth c H locs cells slots Q (F0 m (pc + 3) ls (.long r :: rest))) : W p l e R s m args below meth c H locs cells slots Q (F0 m pc ls st0) := xcR hr k
theorem xcRr {r : Nat} (hr : va_Run p l e R s m args below meth c H locs cells slots 0 0 (F0 m pc ls st0) rest (xR (some (.ref r)) a) xNo) (k : W p l e R s m args below meth c H locs cells slots Q (F0 m (pc + 3) ls (.ref r :: rest))) : W p l e R s m args below meth c H locs cells slots Q (F0 m pc ls st0) := xcR hr k
theorem xcRv (hr : va_Run p l e R s m args below meth c H locs cells slots 0 0 (F0 m pc ls st0) rest (xR none a) xNo) (k : W p l e R s m args below meth c H locs cells slots Q (F0 m (pc + 3) ls rest)) : W p l e R s m args below meth c H locs cells slots Q (F0 m pc ls st0) := xcR hr k
theorem xci {P : Int32 → Heap → Prop} (hr : va_Run p l e R s m args below meth c H locs cells slots mc ms (F0 m pc ls st0) rest (xQi P F a) F) (hS : va_S A s.heap H locs) (hF : ∀ q, F q → A q)
    (kk : ∀ (r : Int32) (H1 : Heap) (locs1 : List Loc), P r H1 → H.size ≤ H1.size → (∀ q : Nat, q < H.size → ¬ F q → H1[q]? = H[q]?) → va_S A s.heap H1 locs1 → W p l e R s m args below meth c H1 locs1 (cells + mc) (slots + ms) Q (F0 m (pc + 3) ls (.int r :: rest))) : W p l e R s m args below meth c H locs cells slots Q (F0 m pc ls st0) :=
  va_calli hr hS (fun q _ h => hF q h) hF (fun r u t H1 locs1 ht _ hp hb hz hk hS1 => kk r H1 locs1 (by subst ht; subst hb; exact hp) hz hk hS1)
theorem xcl {P : Int64 → Heap → Prop} (hr : va_Run p l e R s m args below meth c H locs cells slots mc ms (F0 m pc ls st0) rest (xQl P F a) F) (hS : va_S A s.heap H locs) (hF : ∀ q, F q → A q)
    (kk : ∀ (r : Int64) (H1 : Heap) (locs1 : List Loc), P r H1 → H.size ≤ H1.size → (∀ q : Nat, q < H.size → ¬ F q → H1[q]? = H[q]?) → va_S A s.heap H1 locs1 → W p l e R s m args below meth c H1 locs1 (cells + mc) (slots + ms) Q (F0 m (pc + 3) ls (.long r :: rest))) : W p l e R s m args below meth c H locs cells slots Q (F0 m pc ls st0) :=
  va_calll hr hS (fun q _ h => hF q h) hF (fun r u t H1 locs1 ht _ hp hb hz hk hS1 => kk r H1 locs1 (by subst ht; subst hb; exact hp) hz hk hS1)
theorem xcv {P : Heap → Prop} (hr : va_Run p l e R s m args below meth c H locs cells slots mc ms (F0 m pc ls st0) rest (xQv P F a) F) (hS : va_S A s.heap H locs) (hF : ∀ q, F q → A q)
    (kk : ∀ (H1 : Heap) (locs1 : List Loc), P H1 → H.size ≤ H1.size → (∀ q : Nat, q < H.size → ¬ F q → H1[q]? = H[q]?) → va_S A s.heap H1 locs1 → W p l e R s m args below meth c H1 locs1 (cells + mc) (slots + ms) Q (F0 m (pc + 3) ls rest)) : W p l e R s m args below meth c H locs cells slots Q (F0 m pc ls st0) :=
  va_callv hr hS (fun q _ h => hF q h) hF (fun u t H1 locs1 ht _ hp hb hz hk hS1 => kk H1 locs1 (by subst ht; subst hb; exact hp) hz hk hS1)
theorem xcr {P : Nat → Heap → Prop} (hr : va_Run p l e R s m args below meth c H locs cells slots mc ms (F0 m pc ls st0) rest (xQr P F a) F) (hS : va_S A s.heap H locs) (hF : ∀ q, F q → A q)
    (kk : ∀ (r : Nat) (H1 : Heap) (locs1 : List Loc), P r H1 → H.size ≤ H1.size → (∀ q : Nat, q < H.size → ¬ F q → H1[q]? = H[q]?) → va_S A s.heap H1 locs1 → W p l e R s m args below meth c H1 locs1 (cells + mc) (slots + ms) Q (F0 m (pc + 3) ls (.ref r :: rest))) : W p l e R s m args below meth c H locs cells slots Q (F0 m pc ls st0) :=
  va_callr hr hS (fun q _ h => hF q h) hF (fun u r t H1 locs1 ht _ _ hb hz hk hS1 => kk r H1 locs1 (by obtain ⟨h1, h2⟩ := hb; subst ht; subst h2; exact h1) hz hk hS1)
theorem xcXi {P : Int32 → Heap → Prop} {PX : String → Prop} (hr : vx_Run p l e R s m args below meth c H locs cells slots mc ms (F0 m pc ls st0) rest (xQi P F a) (xX PX) F) (hS : va_S A s.heap H locs) (hF : ∀ q, F q → A q)
    (kx : ∀ (E : String) (ce : Cell) (q9 : Addr) (H1 : Heap) (locs1 : List Loc), PX E → H.size ≤ H1.size → (∀ q : Nat, q < H.size → H1[q]? = H[q]?) → va_S A s.heap H1 locs1 → H1[q9]? = some ce → ce.vm = .none → s.vm.findClass E = some ce.cls → vx_W p l e R s m args below meth c H1 locs1 (cells + mc) (slots + ms) Q (F0 m pc ls rest) q9)
    (kk : ∀ (r : Int32) (H1 : Heap) (locs1 : List Loc), P r H1 → H.size ≤ H1.size → (∀ q : Nat, q < H.size → ¬ F q → H1[q]? = H[q]?) → va_S A s.heap H1 locs1 → W p l e R s m args below meth c H1 locs1 (cells + mc) (slots + ms) Q (F0 m (pc + 3) ls (.int r :: rest))) : W p l e R s m args below meth c H locs cells slots Q (F0 m pc ls st0) :=
  vx_calli hr hS (fun q _ h => hF q h) hF (fun q _ h => h.elim) (fun E ce q9 u t H1 locs1 ht _ _ hb hz hk hS1 h1 h2 h3 => kx E ce q9 H1 locs1 hb hz (fun q hq => hk q hq id) hS1 h1 h2 h3) (fun r u t H1 locs1 ht _ hp hb hz hk hS1 => kk r H1 locs1 (by subst ht; subst hb; exact hp) hz hk hS1)
theorem xcXl {P : Int64 → Heap → Prop} {PX : String → Prop} (hr : vx_Run p l e R s m args below meth c H locs cells slots mc ms (F0 m pc ls st0) rest (xQl P F a) (xX PX) F) (hS : va_S A s.heap H locs) (hF : ∀ q, F q → A q)
    (kx : ∀ (E : String) (ce : Cell) (q9 : Addr) (H1 : Heap) (locs1 : List Loc), PX E → H.size ≤ H1.size → (∀ q : Nat, q < H.size → H1[q]? = H[q]?) → va_S A s.heap H1 locs1 → H1[q9]? = some ce → ce.vm = .none → s.vm.findClass E = some ce.cls → vx_W p l e R s m args below meth c H1 locs1 (cells + mc) (slots + ms) Q (F0 m pc ls rest) q9)
    (kk : ∀ (r : Int64) (H1 : Heap) (locs1 : List Loc), P r H1 → H.size ≤ H1.size → (∀ q : Nat, q < H.size → ¬ F q → H1[q]? = H[q]?) → va_S A s.heap H1 locs1 → W p l e R s m args below meth c H1 locs1 (cells + mc) (slots + ms) Q (F0 m (pc + 3) ls (.long r :: rest))) : W p l e R s m args below meth c H locs cells slots Q (F0 m pc ls st0) :=
  vx_calll hr hS (fun q _ h => hF q h) hF (fun q _ h => h.elim) (fun E ce q9 u t H1 locs1 ht _ _ hb hz hk hS1 h1 h2 h3 => kx E ce q9 H1 locs1 hb hz (fun q hq => hk q hq id) hS1 h1 h2 h3) (fun r u t H1 locs1 ht _ hp hb hz hk hS1 => kk r H1 locs1 (by subst ht; subst hb; exact hp) hz hk hS1)
theorem xcXv {P : Heap → Prop} {PX : String → Prop} (hr : vx_Run p l e R s m args below meth c H locs cells slots mc ms (F0 m pc ls st0) rest (xQv P F a) (xX PX) F) (hS : va_S A s.heap H locs) (hF : ∀ q, F q → A q)
    (kx : ∀ (E : String) (ce : Cell) (q9 : Addr) (H1 : Heap) (locs1 : List Loc), PX E → H.size ≤ H1.size → (∀ q : Nat, q < H.size → H1[q]? = H[q]?) → va_S A s.heap H1 locs1 → H1[q9]? = some ce → ce.vm = .none → s.vm.findClass E = some ce.cls → vx_W p l e R s m args below meth c H1 locs1 (cells + mc) (slots + ms) Q (F0 m pc ls rest) q9)
    (kk : ∀ (H1 : Heap) (locs1 : List Loc), P H1 → H.size ≤ H1.size → (∀ q : Nat, q < H.size → ¬ F q → H1[q]? = H[q]?) → va_S A s.heap H1 locs1 → W p l e R s m args below meth c H1 locs1 (cells + mc) (slots + ms) Q (F0 m (pc + 3) ls rest)) : W p l e R s m args below meth c H locs cells slots Q (F0 m pc ls st0) :=
  vx_callv hr hS (fun q _ h => hF q h) hF (fun q _ h => h.elim) (fun E ce q9 u t H1 locs1 ht _ _ hb hz hk hS1 h1 h2 h3 => kx E ce q9 H1 locs1 hb hz (fun q hq => hk q hq id) hS1 h1 h2 h3) (fun u t H1 locs1 ht _ hp hb hz hk hS1 => kk H1 locs1 (by subst ht; subst hb; exact hp) hz hk hS1)
theorem xcXr {P : Nat → Heap → Prop} {PX : String → Prop} (hr : vx_Run p l e R s m args below meth c H locs cells slots mc ms (F0 m pc ls st0) rest (xQr P F a) (xX PX) F) (hS : va_S A s.heap H locs) (hF' : ∀ q, F q → A q)
    (kx : ∀ (E : String) (ce : Cell) (q9 : Addr) (H1 : Heap) (locs1 : List Loc), PX E → H.size ≤ H1.size → (∀ q : Nat, q < H.size → H1[q]? = H[q]?) → va_S A s.heap H1 locs1 → H1[q9]? = some ce → ce.vm = .none → s.vm.findClass E = some ce.cls → vx_W p l e R s m args below meth c H1 locs1 (cells + mc) (slots + ms) Q (F0 m pc ls rest) q9)
    (kk : ∀ (r : Nat) (H1 : Heap) (locs1 : List Loc), P r H1 → H.size ≤ H1.size → (∀ q : Nat, q < H.size → ¬ F q → H1[q]? = H[q]?) → va_S A s.heap H1 locs1 → W p l e R s m args below meth c H1 locs1 (cells + mc) (slots + ms) Q (F0 m (pc + 3) ls (.ref r :: rest))) : W p l e R s m args below meth c H locs cells slots Q (F0 m pc ls st0) := by
  intro T hT X
  rcases hr T hT X with ⟨v, st₀, t, T', L, h0, X', hL, e1, e2, ⟨⟨u, r, hv, -, hp, hb⟩, hF⟩, st⟩ | ⟨q, st₀, t, T', L, E, ce, h0, X', hL, e1, e2, ⟨u, -, hb, hF⟩, hce, hcv, hcl, st⟩
  · cases hv
    obtain ⟨k1, k2, k3⟩ := vx_keep h0 e1 hS (fun q _ h => hF' q h) hF' hL hF
    obtain ⟨t2, a1, b1⟩ := kk r T'.heap (locs ++ L) (by rw [e1, hb]; exact hp) k1 k2 k3 T' rfl X'
    exact ⟨t2, st t2 a1, b1⟩
  · obtain ⟨k1, k2, k3⟩ := vx_keep h0 e1 hS (fun q _ h => h.elim) hF' hL hF
    obtain ⟨t2, a1, b1⟩ := kx E ce q T'.heap (locs ++ L) hb k1 (fun q hq => k2 q hq id) k3 (by rw [e1]; exact hce) hcv hcl T' rfl X'
    exact ⟨t2, st.trans a1, b1⟩
end XC
abbrev xIAE : String := "java/lang/IllegalArgumentException"
abbrev xISE : String := "java/lang/IllegalStateException"
abbrev xIOB : String := "java/lang/IndexOutOfBoundsException"
abbrev xSup : List String := ["java/lang/RuntimeException", "java/lang/Exception"]
theorem xth_IAE : ∀ w ∈ vx_atS RX4 45 xIAE xSup, w ∈ xTs := fun w h => (show ∀ w ∈ vx_atS RX4 45 xIAE xSup, w ∈ lw_tbl ∧ xWok w = true by decide +kernel) w h |>.elim xTs_of
theorem xth_ISE : ∀ w ∈ vx_atS RX4 56 xISE xSup, w ∈ xTs := fun w h => (show ∀ w ∈ vx_atS RX4 56 xISE xSup, w ∈ lw_tbl ∧ xWok w = true by decide +kernel) w h |>.elim xTs_of
theorem xth_IOB : ∀ w ∈ vx_atS RX4 77 xIOB xSup, w ∈ xTs := fun w h => (show ∀ w ∈ vx_atS RX4 77 xIOB xSup, w ∈ lw_tbl ∧ xWok w = true by decide +kernel) w h |>.elim xTs_of
section XT
variable {p : Program} {l : Launch} {e : Env} {R : Room} {s : State} {m : MethodId} {args : Array Value} {below : List Frame} {meth : Method} {c : Code} {locs : List Loc} {cells slots mc ms : Nat} {cc : ByteArray} {pc : Nat} {ls : Array Slot} {rest : List Value} {D : va_G} {cA : Nat → ClassId} {e0 : Nat} {A : Nat → Prop} {Qc : Array Value → State → Outcome → State → Prop} {PX : String → Prop}
theorem xthrow (hexec : p.tables.exec = Jvm.exec) (hb : c.code = cc) (hl : l.stackTraces = false) (hE : xE D cA e0 A s.heap s) (hS : va_S A s.heap s.heap locs) (hown : s.vm.findClass RX4 = some m.cls) {cls text : String} {ik is ic : Nat}
    (hcls : Bundle.fit cls = true) (hk : Cond.classLink RX4 ik cls ∈ xTs) (hini : Cond.initialized cls ∈ xTs) (hat : ∀ w ∈ vx_atS RX4 ic cls xSup, w ∈ xTs) (hgood : ∀ w ∈ Cond.classLink RX4 ik cls :: Cond.initialized cls :: vx_atS RX4 ic cls xSup, vx_ot w = true)
    (hstr : (is, text) ∈ xStr) (hsize : ls.size = c.maxLocals)
    (d0 : decode cc pc = .ok (.new ik, 3)) (d3 : decode cc (pc + 3) = .ok (.dup, 1)) (d4 : decode cc (pc + 4) = .ok (.ldc is, 2)) (d6 : decode cc (pc + 6) = .ok (.invokespecial ic, 3)) (d9 : decode cc (pc + 9) = .ok (.athrow, 1))
    (hxt : ∀ x ∈ c.exceptionTable.toList, False) (hRf : 5 < R.frames) (hRl : (rest.map fun v => v.category).sum + 82 ≤ R.locals) (hRc : cells + 1 ≤ R.cells) (hRs : slots + 6 ≤ R.slots) (hlocks : meth.locks = false) (hPX : PX cls) (hc : cells + 1 ≤ mc) (hs : slots + 6 ≤ ms) :
    W p l e R s m args below meth c s.heap locs cells slots (vx_MQ below Qc (xX PX) args s mc ms A) (F0 m pc ls rest) := by
  obtain ⟨h1, -, h3, h4, -, -, -, -, -, h10⟩ := hE
  obtain ⟨sa, hsa⟩ := h10 _ hstr
  have hts := h1.all args
  exact vx_throwS hexec hb hl (names := xSup) hown hcls (by decide +kernel) (hts _ hk) (hts _ hini) hsa (fun w hw => hts _ (hat w hw)) hgood h3 h4 (A := A) hS hsize d0 d3 d4 d6 d9 (fun x hx => (hxt x hx).elim) hRf hRl hRc hRs hlocks (fun t _ h5 h6 => ⟨(), trivial, hPX, h5, fun q hq _ => h6 q hq⟩) hS.2.2 hc hs
theorem xgd_IAE : ∀ w ∈ Cond.classLink RX4 41 xIAE :: Cond.initialized xIAE :: vx_atS RX4 45 xIAE xSup, vx_ot w = true := by decide +kernel
theorem xgd_ISE : ∀ w ∈ Cond.classLink RX4 52 xISE :: Cond.initialized xISE :: vx_atS RX4 56 xISE xSup, vx_ot w = true := by decide +kernel
theorem xgd_IOB : ∀ w ∈ Cond.classLink RX4 73 xIOB :: Cond.initialized xIOB :: vx_atS RX4 77 xIOB xSup, vx_ot w = true := by decide +kernel
end XT
end
section
/-! What a state of the class is: numbers g (tables 0 limits, 1 boxes, 2 visits, 3 ways, 4 rooms, 5 stocks, 6 prices, 7 wants, 8 sold, 9 lost, 10 days, 11 slots, 12 prices of the planned changes, 13 the day; 14, 15, 16 the rows of survey, 17 the ways home, 18 the lists' modCounts), totals tt, N (0 machines, 1 changes, 2 and 3 the lists' places). -/
def xpm (p : Nat) : Nat := 9 * ((p / 9 + 8) % 9) + (p % 9 + 8) % 9
def xC (cA : Nat → ClassId) (ad : Nat → Nat → Nat) (g : Nat → Nat → Int32) (tt : Nat → Int64) (N : Nat → Nat) : Nat → Nat → va_E
  | 0, 0 => .inr (5, [.ref (ad 0 1), .ref (ad 0 2), .ref (ad 0 3), .ref (ad 0 4), .ref (ad 0 5), .ref (ad 0 6), .int (g 13 0), .long (tt 0), .long (tt 1), .long (tt 2), .long (tt 3)])
  | 0, 1 => .inr (0, [.int (g 18 0), .ref (ad 0 9), .int (nI (N 0))])
  | 0, 2 => .inr (0, [.int (g 18 1), .ref (ad 0 10), .int (nI (N 1))])
  | 0, 3 => .inr (3, [.ref (ad 0 7), .ref (ad 0 8)])
  | 0, 4 => .inl (cA 0, 8, .inl (g 14))
  | 0, 5 => .inl (cA 0, 8, .inl (g 15))
  | 0, 6 => .inl (cA 0, 8, .inl (g 16))
  | 0, 7 => .inl (cA 0, 81, .inl (fun p => g 3 (xpm p)))
  | 0, 8 => .inl (cA 0, 2048, .inl (g 17))
  | 0, 9 => .inl (cA 2, N 2, .inr (.inr (.inr (.inr (fun j => if j < N 0 then some (ad 1 j) else none)))))
  | 0, _ => .inl (cA 2, N 3, .inr (.inr (.inr (.inr (fun j => if j < N 1 then some (ad 4 j) else none)))))
  | 1, i => .inr (1, [.int (g 0 i), .ref (ad 2 i), .int (g 1 i), .int (g 2 i)])
  | 2, i => .inl (cA 3, 6, .inr (.inr (.inr (.inr (fun j => some (ad 3 (6 * i + j)))))))
  | 3, k => .inr (4, [.int (g 4 k), .int (g 5 k), .int (g 6 k), .int (g 7 k), .int (g 8 k), .int (g 9 k)])
  | _, k => .inr (2, [.ref (ad 3 (g 11 k).toNatClampNeg), .int (g 10 k), .int (g 12 k)])
def xV (N : Nat → Nat) (c j : Nat) : Prop := (c = 0 ∧ (j < 9 ∨ (j = 9 ∧ 0 < N 2) ∨ (j = 10 ∧ 0 < N 3))) ∨ (c = 1 ∧ j < N 0) ∨ (c = 2 ∧ j < N 0) ∨ (c = 3 ∧ j < 6 * N 0) ∨ (c = 4 ∧ j < N 1)
def xW (D : va_G) (cA : Nat → ClassId) (ad : Nat → Nat → Nat) (g : Nat → Nat → Int32) (tt : Nat → Int64) (N : Nat → Nat) (H : Heap) : Prop := ∀ c j, xV N c j → va_at D vwCl (ad c j, xC cA ad g tt N c j) H
def xA (A : Nat → Prop) (e0 : Nat) (ad : Nat → Nat → Nat) (N : Nat → Nat) : Prop := (∀ c j c' j', xV N c j → xV N c' j' → ad c j = ad c' j' → c = c' ∧ j = j') ∧ (∀ c j, xV N c j → A (ad c j)) ∧ (N 2 = 0 → ad 0 9 = e0) ∧ (N 3 = 0 → ad 0 10 = e0) ∧ N 0 ≤ 8 ∧ N 0 ≤ N 2 ∧ N 2 ≤ 10 ∧ N 1 ≤ 20 ∧ N 1 ≤ N 3 ∧ (N 3 = 0 ∨ N 3 = 10 ∨ N 3 = 15 ∨ N 3 = 22)
theorem xV0 {N : Nat → Nat} {j : Nat} (h : j < 9) : xV N 0 j := Or.inl ⟨rfl, Or.inl h⟩
theorem xV9 {N : Nat → Nat} (h : 0 < N 2) : xV N 0 9 := Or.inl ⟨rfl, Or.inr (Or.inl ⟨rfl, h⟩)⟩
theorem xV10 {N : Nat → Nat} (h : 0 < N 3) : xV N 0 10 := Or.inl ⟨rfl, Or.inr (Or.inr ⟨rfl, h⟩)⟩
theorem xV1 {N : Nat → Nat} {j : Nat} (h : j < N 0) : xV N 1 j := Or.inr (Or.inl ⟨rfl, h⟩)
theorem xV2 {N : Nat → Nat} {j : Nat} (h : j < N 0) : xV N 2 j := Or.inr (Or.inr (Or.inl ⟨rfl, h⟩))
theorem xV3 {N : Nat → Nat} {j : Nat} (h : j < 6 * N 0) : xV N 3 j := Or.inr (Or.inr (Or.inr (Or.inl ⟨rfl, h⟩)))
theorem xV4 {N : Nat → Nat} {j : Nat} (h : j < N 1) : xV N 4 j := Or.inr (Or.inr (Or.inr (Or.inr ⟨rfl, h⟩)))
section XW
variable {D : va_G} {cA : Nat → ClassId} {ad : Nat → Nat → Nat} {g : Nat → Nat → Int32} {tt : Nat → Int64} {N : Nat → Nat} {H H1 : Heap} {A : Nat → Prop} {e0 : Nat}
theorem xW.main (h : xW D cA ad g tt N H) : va_at D vwCl (ad 0 0, .inr (5, [.ref (ad 0 1), .ref (ad 0 2), .ref (ad 0 3), .ref (ad 0 4), .ref (ad 0 5), .ref (ad 0 6), .int (g 13 0), .long (tt 0), .long (tt 1), .long (tt 2), .long (tt 3)])) H := h 0 0 (xV0 (by omega))
theorem xW.ml (h : xW D cA ad g tt N H) : va_at D vwCl (ad 0 1, .inr (0, [.int (g 18 0), .ref (ad 0 9), .int (nI (N 0))])) H := h 0 1 (xV0 (by omega))
theorem xW.cl (h : xW D cA ad g tt N H) : va_at D vwCl (ad 0 2, .inr (0, [.int (g 18 1), .ref (ad 0 10), .int (nI (N 1))])) H := h 0 2 (xV0 (by omega))
theorem xW.roads (h : xW D cA ad g tt N H) : va_at D vwCl (ad 0 3, .inr (3, [.ref (ad 0 7), .ref (ad 0 8)])) H := h 0 3 (xV0 (by omega))
theorem xW.vt (h : xW D cA ad g tt N H) : va_at D vwCl (ad 0 4, .inl (cA 0, 8, .inl (g 14))) H := h 0 4 (xV0 (by omega))
theorem xW.lk (h : xW D cA ad g tt N H) : va_at D vwCl (ad 0 5, .inl (cA 0, 8, .inl (g 15))) H := h 0 5 (xV0 (by omega))
theorem xW.gn (h : xW D cA ad g tt N H) : va_at D vwCl (ad 0 6, .inl (cA 0, 8, .inl (g 16))) H := h 0 6 (xV0 (by omega))
theorem xW.mi (h : xW D cA ad g tt N H) : va_at D vwCl (ad 0 7, .inl (cA 0, 81, .inl (fun p => g 3 (xpm p)))) H := h 0 7 (xV0 (by omega))
theorem xW.hw (h : xW D cA ad g tt N H) : va_at D vwCl (ad 0 8, .inl (cA 0, 2048, .inl (g 17))) H := h 0 8 (xV0 (by omega))
theorem xW.md (h : xW D cA ad g tt N H) (k : 0 < N 2) : va_at D vwCl (ad 0 9, .inl (cA 2, N 2, .inr (.inr (.inr (.inr (fun j => if j < N 0 then some (ad 1 j) else none)))))) H := h 0 9 (xV9 k)
theorem xW.cd (h : xW D cA ad g tt N H) (k : 0 < N 3) : va_at D vwCl (ad 0 10, .inl (cA 2, N 3, .inr (.inr (.inr (.inr (fun j => if j < N 1 then some (ad 4 j) else none)))))) H := h 0 10 (xV10 k)
theorem xW.mach (h : xW D cA ad g tt N H) {i : Nat} (k : i < N 0) : va_at D vwCl (ad 1 i, .inr (1, [.int (g 0 i), .ref (ad 2 i), .int (g 1 i), .int (g 2 i)])) H := h 1 i (xV1 k)
theorem xW.row (h : xW D cA ad g tt N H) {i : Nat} (k : i < N 0) : va_at D vwCl (ad 2 i, .inl (cA 3, 6, .inr (.inr (.inr (.inr (fun j => some (ad 3 (6 * i + j)))))))) H := h 2 i (xV2 k)
theorem xW.slot (h : xW D cA ad g tt N H) {k : Nat} (hk : k < 6 * N 0) : va_at D vwCl (ad 3 k, .inr (4, [.int (g 4 k), .int (g 5 k), .int (g 6 k), .int (g 7 k), .int (g 8 k), .int (g 9 k)])) H := h 3 k (xV3 hk)
theorem xW.chg (h : xW D cA ad g tt N H) {k : Nat} (hk : k < N 1) : va_at D vwCl (ad 4 k, .inr (2, [.ref (ad 3 (g 11 k).toNatClampNeg), .int (g 10 k), .int (g 12 k)])) H := h 4 k (xV4 hk)
theorem xA.a (h : xA A e0 ad N) {c j : Nat} (k : xV N c j) : A (ad c j) := h.2.1 c j k
theorem xA.n8 (h : xA A e0 ad N) : N 0 ≤ 8 := h.2.2.2.2.1
/-- the cell c0, j0 is written: the new numbers say the same of all others -/
theorem xW.put {c0 j0 : Nat} {e : va_E} {g' : Nat → Nat → Int32} {tt' : Nat → Int64} (h : xW D cA ad g tt N H) (hA : xA A e0 ad N) (hv : xV N c0 j0) (hU : xUp D (ad c0 j0) e H H1) (he : xC cA ad g' tt' N c0 j0 = e) (ho : ∀ c j, xV N c j → ¬ (c = c0 ∧ j = j0) → xC cA ad g' tt' N c j = xC cA ad g tt N c j) : xW D cA ad g' tt' N H1 := by
  intro c j hcj
  by_cases hc : c = c0 ∧ j = j0
  · obtain ⟨rfl, rfl⟩ := hc
    rw [he]
    exact hU.1
  · rw [ho c j hcj hc]
    exact (h c j hcj).kept (hU.2.2 _ (fun z => hc (hA.1 c j c0 j0 hcj hv z)))
/-- nothing of this world was written -/
theorem xW.keep (h : xW D cA ad g tt N H) (hk : ∀ c j, xV N c j → H1[ad c j]? = H[ad c j]?) : xW D cA ad g tt N H1 := fun c j hcj => (h c j hcj).kept (hk c j hcj)
theorem xW.lt (h : xW D cA ad g tt N H) {c j : Nat} (hv : xV N c j) : ad c j < H.size := (h c j hv).lt
theorem xW.new {q : Nat} {e : va_E} (h : xW D cA ad g tt N H) (hN : xNw D q e H H1) : xW D cA ad g tt N H1 := h.keep fun c j hcj => hN.2.2.2 _ (h.lt hcj)
theorem xC_t4 {f : Nat → Int32} (c j : Nat) (h : c ≠ 3) : xC cA ad (va_up g 4 f) tt N c j = xC cA ad g tt N c j := by
  rcases c with _|_|_|_|c
  · rcases j with _|_|_|_|_|_|_|_|_|_|j
    · rfl
    · rfl
    · rfl
    · rfl
    · rfl
    · rfl
    · rfl
    · rfl
    · rfl
    · rfl
    · rfl
  · rfl
  · rfl
  · exact absurd rfl h
  · rfl
theorem xC_t5 {f : Nat → Int32} (c j : Nat) (h : c ≠ 3) : xC cA ad (va_up g 5 f) tt N c j = xC cA ad g tt N c j := by
  rcases c with _|_|_|_|c
  · rcases j with _|_|_|_|_|_|_|_|_|_|j
    · rfl
    · rfl
    · rfl
    · rfl
    · rfl
    · rfl
    · rfl
    · rfl
    · rfl
    · rfl
    · rfl
  · rfl
  · rfl
  · exact absurd rfl h
  · rfl
theorem xC_t6 {f : Nat → Int32} (c j : Nat) (h : c ≠ 3) : xC cA ad (va_up g 6 f) tt N c j = xC cA ad g tt N c j := by
  rcases c with _|_|_|_|c
  · rcases j with _|_|_|_|_|_|_|_|_|_|j
    · rfl
    · rfl
    · rfl
    · rfl
    · rfl
    · rfl
    · rfl
    · rfl
    · rfl
    · rfl
    · rfl
  · rfl
  · rfl
  · exact absurd rfl h
  · rfl
theorem xC_t7 {f : Nat → Int32} (c j : Nat) (h : c ≠ 3) : xC cA ad (va_up g 7 f) tt N c j = xC cA ad g tt N c j := by
  rcases c with _|_|_|_|c
  · rcases j with _|_|_|_|_|_|_|_|_|_|j
    · rfl
    · rfl
    · rfl
    · rfl
    · rfl
    · rfl
    · rfl
    · rfl
    · rfl
    · rfl
    · rfl
  · rfl
  · rfl
  · exact absurd rfl h
  · rfl
theorem xC_t8 {f : Nat → Int32} (c j : Nat) (h : c ≠ 3) : xC cA ad (va_up g 8 f) tt N c j = xC cA ad g tt N c j := by
  rcases c with _|_|_|_|c
  · rcases j with _|_|_|_|_|_|_|_|_|_|j
    · rfl
    · rfl
    · rfl
    · rfl
    · rfl
    · rfl
    · rfl
    · rfl
    · rfl
    · rfl
    · rfl
  · rfl
  · rfl
  · exact absurd rfl h
  · rfl
theorem xC_t9 {f : Nat → Int32} (c j : Nat) (h : c ≠ 3) : xC cA ad (va_up g 9 f) tt N c j = xC cA ad g tt N c j := by
  rcases c with _|_|_|_|c
  · rcases j with _|_|_|_|_|_|_|_|_|_|j
    · rfl
    · rfl
    · rfl
    · rfl
    · rfl
    · rfl
    · rfl
    · rfl
    · rfl
    · rfl
    · rfl
  · rfl
  · rfl
  · exact absurd rfl h
  · rfl
theorem xC_t1 {f : Nat → Int32} (c j : Nat) (h : c ≠ 1) : xC cA ad (va_up g 1 f) tt N c j = xC cA ad g tt N c j := by
  rcases c with _|_|_|_|c
  · rcases j with _|_|_|_|_|_|_|_|_|_|j
    · rfl
    · rfl
    · rfl
    · rfl
    · rfl
    · rfl
    · rfl
    · rfl
    · rfl
    · rfl
    · rfl
  · exact absurd rfl h
  · rfl
  · rfl
  · rfl
theorem xC_t2 {f : Nat → Int32} (c j : Nat) (h : c ≠ 1) : xC cA ad (va_up g 2 f) tt N c j = xC cA ad g tt N c j := by
  rcases c with _|_|_|_|c
  · rcases j with _|_|_|_|_|_|_|_|_|_|j
    · rfl
    · rfl
    · rfl
    · rfl
    · rfl
    · rfl
    · rfl
    · rfl
    · rfl
    · rfl
    · rfl
  · exact absurd rfl h
  · rfl
  · rfl
  · rfl
theorem xC_t13 {f : Nat → Int32} (c j : Nat) (h : ¬ (c = 0 ∧ j = 0)) : xC cA ad (va_up g 13 f) tt N c j = xC cA ad g tt N c j := by
  rcases c with _|_|_|_|c
  · rcases j with _|_|_|_|_|_|_|_|_|_|j
    · exact absurd (by omega) h
    · rfl
    · rfl
    · rfl
    · rfl
    · rfl
    · rfl
    · rfl
    · rfl
    · rfl
    · rfl
  · rfl
  · rfl
  · rfl
  · rfl
theorem xC_t14 {f : Nat → Int32} (c j : Nat) (h : ¬ (c = 0 ∧ j = 4)) : xC cA ad (va_up g 14 f) tt N c j = xC cA ad g tt N c j := by
  rcases c with _|_|_|_|c
  · rcases j with _|_|_|_|_|_|_|_|_|_|j
    · rfl
    · rfl
    · rfl
    · rfl
    · exact absurd (by omega) h
    · rfl
    · rfl
    · rfl
    · rfl
    · rfl
    · rfl
  · rfl
  · rfl
  · rfl
  · rfl
theorem xC_t15 {f : Nat → Int32} (c j : Nat) (h : ¬ (c = 0 ∧ j = 5)) : xC cA ad (va_up g 15 f) tt N c j = xC cA ad g tt N c j := by
  rcases c with _|_|_|_|c
  · rcases j with _|_|_|_|_|_|_|_|_|_|j
    · rfl
    · rfl
    · rfl
    · rfl
    · rfl
    · exact absurd (by omega) h
    · rfl
    · rfl
    · rfl
    · rfl
    · rfl
  · rfl
  · rfl
  · rfl
  · rfl
theorem xC_t16 {f : Nat → Int32} (c j : Nat) (h : ¬ (c = 0 ∧ j = 6)) : xC cA ad (va_up g 16 f) tt N c j = xC cA ad g tt N c j := by
  rcases c with _|_|_|_|c
  · rcases j with _|_|_|_|_|_|_|_|_|_|j
    · rfl
    · rfl
    · rfl
    · rfl
    · rfl
    · rfl
    · exact absurd (by omega) h
    · rfl
    · rfl
    · rfl
    · rfl
  · rfl
  · rfl
  · rfl
  · rfl
theorem xC_t17 {f : Nat → Int32} (c j : Nat) (h : ¬ (c = 0 ∧ j = 8)) : xC cA ad (va_up g 17 f) tt N c j = xC cA ad g tt N c j := by
  rcases c with _|_|_|_|c
  · rcases j with _|_|_|_|_|_|_|_|_|_|j
    · rfl
    · rfl
    · rfl
    · rfl
    · rfl
    · rfl
    · rfl
    · rfl
    · exact absurd (by omega) h
    · rfl
    · rfl
  · rfl
  · rfl
  · rfl
  · rfl
theorem xC_t3 {f : Nat → Int32} (c j : Nat) (h : ¬ (c = 0 ∧ j = 7)) : xC cA ad (va_up g 3 f) tt N c j = xC cA ad g tt N c j := by
  rcases c with _|_|_|_|c
  · rcases j with _|_|_|_|_|_|_|_|_|_|j
    · rfl
    · rfl
    · rfl
    · rfl
    · rfl
    · rfl
    · rfl
    · exact absurd (by omega) h
    · rfl
    · rfl
    · rfl
  · rfl
  · rfl
  · rfl
  · rfl
theorem xC_tt {tt' : Nat → Int64} (c j : Nat) (h : ¬ (c = 0 ∧ j = 0)) : xC cA ad g tt' N c j = xC cA ad g tt N c j := by
  rcases c with _|_|_|_|c
  · rcases j with _|_|_|_|_|_|_|_|_|_|j
    · exact absurd (by omega) h
    · rfl
    · rfl
    · rfl
    · rfl
    · rfl
    · rfl
    · rfl
    · rfl
    · rfl
    · rfl
  · rfl
  · rfl
  · rfl
  · rfl
theorem xW.ps4 {k : Nat} {v : Int32} (h : xW D cA ad g tt N H) (hA : xA A e0 ad N) (hk : k < 6 * N 0) (hU : xUp D (ad 3 k) (.inr (4, [.int v, .int (g 5 k), .int (g 6 k), .int (g 7 k), .int (g 8 k), .int (g 9 k)])) H H1) : xW D cA ad (va_up g 4 (upd (g 4) k v)) tt N H1 := by
  refine h.put hA (xV3 hk) hU (by simp [xC, va_up, upd]) (fun c j hv hn => ?_)
  by_cases hc : c = 3
  · subst hc
    have hj : j ≠ k := fun z => hn ⟨rfl, z⟩
    simp [xC, va_up, upd, hj]
  · exact xC_t4 c j hc
theorem xW.ps5 {k : Nat} {v : Int32} (h : xW D cA ad g tt N H) (hA : xA A e0 ad N) (hk : k < 6 * N 0) (hU : xUp D (ad 3 k) (.inr (4, [.int (g 4 k), .int v, .int (g 6 k), .int (g 7 k), .int (g 8 k), .int (g 9 k)])) H H1) : xW D cA ad (va_up g 5 (upd (g 5) k v)) tt N H1 := by
  refine h.put hA (xV3 hk) hU (by simp [xC, va_up, upd]) (fun c j hv hn => ?_)
  by_cases hc : c = 3
  · subst hc
    have hj : j ≠ k := fun z => hn ⟨rfl, z⟩
    simp [xC, va_up, upd, hj]
  · exact xC_t5 c j hc
theorem xW.ps6 {k : Nat} {v : Int32} (h : xW D cA ad g tt N H) (hA : xA A e0 ad N) (hk : k < 6 * N 0) (hU : xUp D (ad 3 k) (.inr (4, [.int (g 4 k), .int (g 5 k), .int v, .int (g 7 k), .int (g 8 k), .int (g 9 k)])) H H1) : xW D cA ad (va_up g 6 (upd (g 6) k v)) tt N H1 := by
  refine h.put hA (xV3 hk) hU (by simp [xC, va_up, upd]) (fun c j hv hn => ?_)
  by_cases hc : c = 3
  · subst hc
    have hj : j ≠ k := fun z => hn ⟨rfl, z⟩
    simp [xC, va_up, upd, hj]
  · exact xC_t6 c j hc
theorem xW.ps7 {k : Nat} {v : Int32} (h : xW D cA ad g tt N H) (hA : xA A e0 ad N) (hk : k < 6 * N 0) (hU : xUp D (ad 3 k) (.inr (4, [.int (g 4 k), .int (g 5 k), .int (g 6 k), .int v, .int (g 8 k), .int (g 9 k)])) H H1) : xW D cA ad (va_up g 7 (upd (g 7) k v)) tt N H1 := by
  refine h.put hA (xV3 hk) hU (by simp [xC, va_up, upd]) (fun c j hv hn => ?_)
  by_cases hc : c = 3
  · subst hc
    have hj : j ≠ k := fun z => hn ⟨rfl, z⟩
    simp [xC, va_up, upd, hj]
  · exact xC_t7 c j hc
theorem xW.ps8 {k : Nat} {v : Int32} (h : xW D cA ad g tt N H) (hA : xA A e0 ad N) (hk : k < 6 * N 0) (hU : xUp D (ad 3 k) (.inr (4, [.int (g 4 k), .int (g 5 k), .int (g 6 k), .int (g 7 k), .int v, .int (g 9 k)])) H H1) : xW D cA ad (va_up g 8 (upd (g 8) k v)) tt N H1 := by
  refine h.put hA (xV3 hk) hU (by simp [xC, va_up, upd]) (fun c j hv hn => ?_)
  by_cases hc : c = 3
  · subst hc
    have hj : j ≠ k := fun z => hn ⟨rfl, z⟩
    simp [xC, va_up, upd, hj]
  · exact xC_t8 c j hc
theorem xW.ps9 {k : Nat} {v : Int32} (h : xW D cA ad g tt N H) (hA : xA A e0 ad N) (hk : k < 6 * N 0) (hU : xUp D (ad 3 k) (.inr (4, [.int (g 4 k), .int (g 5 k), .int (g 6 k), .int (g 7 k), .int (g 8 k), .int v])) H H1) : xW D cA ad (va_up g 9 (upd (g 9) k v)) tt N H1 := by
  refine h.put hA (xV3 hk) hU (by simp [xC, va_up, upd]) (fun c j hv hn => ?_)
  by_cases hc : c = 3
  · subst hc
    have hj : j ≠ k := fun z => hn ⟨rfl, z⟩
    simp [xC, va_up, upd, hj]
  · exact xC_t9 c j hc
theorem xW.pm1 {i : Nat} {v : Int32} (h : xW D cA ad g tt N H) (hA : xA A e0 ad N) (hi : i < N 0) (hU : xUp D (ad 1 i) (.inr (1, [.int (g 0 i), .ref (ad 2 i), .int v, .int (g 2 i)])) H H1) : xW D cA ad (va_up g 1 (upd (g 1) i v)) tt N H1 := by
  refine h.put hA (xV1 hi) hU (by simp [xC, va_up, upd]) (fun c j hv hn => ?_)
  by_cases hc : c = 1
  · subst hc
    have hj : j ≠ i := fun z => hn ⟨rfl, z⟩
    simp [xC, va_up, upd, hj]
  · exact xC_t1 c j hc
theorem xW.pm2 {i : Nat} {v : Int32} (h : xW D cA ad g tt N H) (hA : xA A e0 ad N) (hi : i < N 0) (hU : xUp D (ad 1 i) (.inr (1, [.int (g 0 i), .ref (ad 2 i), .int (g 1 i), .int v])) H H1) : xW D cA ad (va_up g 2 (upd (g 2) i v)) tt N H1 := by
  refine h.put hA (xV1 hi) hU (by simp [xC, va_up, upd]) (fun c j hv hn => ?_)
  by_cases hc : c = 1
  · subst hc
    have hj : j ≠ i := fun z => hn ⟨rfl, z⟩
    simp [xC, va_up, upd, hj]
  · exact xC_t2 c j hc
theorem xW.pr14 {f : Nat → Int32} (h : xW D cA ad g tt N H) (hA : xA A e0 ad N) (hU : xUp D (ad 0 4) (.inl (cA 0, 8, .inl f)) H H1) : xW D cA ad (va_up g 14 f) tt N H1 := by
  refine h.put hA (xV0 (by omega)) hU (by simp [xC, va_up]) (fun c j hv hn => xC_t14 c j hn)
theorem xW.pr15 {f : Nat → Int32} (h : xW D cA ad g tt N H) (hA : xA A e0 ad N) (hU : xUp D (ad 0 5) (.inl (cA 0, 8, .inl f)) H H1) : xW D cA ad (va_up g 15 f) tt N H1 := by
  refine h.put hA (xV0 (by omega)) hU (by simp [xC, va_up]) (fun c j hv hn => xC_t15 c j hn)
theorem xW.pr16 {f : Nat → Int32} (h : xW D cA ad g tt N H) (hA : xA A e0 ad N) (hU : xUp D (ad 0 6) (.inl (cA 0, 8, .inl f)) H H1) : xW D cA ad (va_up g 16 f) tt N H1 := by
  refine h.put hA (xV0 (by omega)) hU (by simp [xC, va_up]) (fun c j hv hn => xC_t16 c j hn)
theorem xW.pr17 {f : Nat → Int32} (h : xW D cA ad g tt N H) (hA : xA A e0 ad N) (hU : xUp D (ad 0 8) (.inl (cA 0, 2048, .inl f)) H H1) : xW D cA ad (va_up g 17 f) tt N H1 := by
  refine h.put hA (xV0 (by omega)) hU (by simp [xC, va_up]) (fun c j hv hn => xC_t17 c j hn)
/-- the ways -/
theorem xW.pways {f f' : Nat → Int32} (h : xW D cA ad g tt N H) (hA : xA A e0 ad N) (hf : ∀ p, f' (xpm p) = f p) (hU : xUp D (ad 0 7) (.inl (cA 0, 81, .inl f)) H H1) : xW D cA ad (va_up g 3 f') tt N H1 := by
  refine h.put hA (xV0 (by omega)) hU (by simp [xC, va_up, hf]) (fun c j hv hn => xC_t3 c j hn)
/-- the main object's day and totals -/
theorem xW.pday {v : Int32} (h : xW D cA ad g tt N H) (hA : xA A e0 ad N) (hU : xUp D (ad 0 0) (.inr (5, [.ref (ad 0 1), .ref (ad 0 2), .ref (ad 0 3), .ref (ad 0 4), .ref (ad 0 5), .ref (ad 0 6), .int v, .long (tt 0), .long (tt 1), .long (tt 2), .long (tt 3)])) H H1) : xW D cA ad (va_up g 13 (upd (g 13) 0 v)) tt N H1 := by
  refine h.put hA (xV0 (by omega)) hU (by simp [xC, va_up, upd]) (fun c j hv hn => xC_t13 c j hn)
theorem xW.ptt {tt' : Nat → Int64} (h : xW D cA ad g tt N H) (hA : xA A e0 ad N) (hU : xUp D (ad 0 0) (.inr (5, [.ref (ad 0 1), .ref (ad 0 2), .ref (ad 0 3), .ref (ad 0 4), .ref (ad 0 5), .ref (ad 0 6), .int (g 13 0), .long (tt' 0), .long (tt' 1), .long (tt' 2), .long (tt' 3)])) H H1) : xW D cA ad g tt' N H1 := by
  refine h.put hA (xV0 (by omega)) hU rfl (fun c j hv hn => xC_tt c j hn)
end XW
end
section
/-! Plain mathematics: sums, the least way through a set of machines, bits. -/
def sumFrom (b : Int32) (f : Nat → Int32) : Nat → Int32
  | 0 => b
  | k + 1 => sumFrom b f k + f k
def lackF (g : Nat → Nat → Int32) (i : Nat) : Int32 := sumFrom (nI 0) (fun j => g 4 (6 * i + j) - g 5 (6 * i + j)) 6
def gainF (g : Nat → Nat → Int32) (i : Nat) : Int32 := sumFrom (g 1 i) (fun j => g 6 (6 * i + j) * (g 4 (6 * i + j) - g 5 (6 * i + j))) 6
def vtF (g : Nat → Nat → Int32) (i : Nat) : Int32 := nI 3 + (lackF g i + nI 4) / nI 5
def machF (g : Nat → Nat → Int32) (i : Nat) : Nat → Int32
  | 0 => g 1 i
  | 1 => g 0 i
  | 2 => lackF g i
  | 3 => gainF g i
  | _ => g 2 i
/-- the chosen members' sum -/
def selF (S : Nat) (f : Nat → Int32) (k : Nat) : Int32 := sumFrom (nI 0) (fun m => if S.testBit m then f m else nI 0) k
def wy (g : Nat → Nat → Int32) (a b : Nat) : Int32 := g 3 (9 * a + b)
def plI (a : Nat) : Int32 := if a = 8 then -1 else nI a
/-- the first member with the least value -/
def am (f : Nat → Int32) (S : Nat) : Nat → Option (Nat × Int32)
  | 0 => none
  | k + 1 => if S.testBit k then (match am f S k with
    | none => some (k, f k)
    | some y => if f k < y.2 then some (k, f k) else some y) else am f S k
def amV (f : Nat → Int32) (S : Nat) : Int32 := ((am f S 8).map Prod.snd).getD 0
def amI (f : Nat → Int32) (S : Nat) : Nat := ((am f S 8).map Prod.fst).getD 8
def twF (w : Nat → Nat → Int32) : Nat → Nat → Nat → Int32
  | 0, _, _ => 0
  | F + 1, S, a => if S = 0 then w a 8 else amV (fun m => w a m + twF w F (S - 2 ^ m) m) S
/-- the least minutes from place a through the set S to the depot -/
def tw (w : Nat → Nat → Int32) (S a : Nat) : Int32 := twF w (S + 1) S a
/-- the next machine of a round -/
def nx (w : Nat → Nat → Int32) (S a : Nat) : Nat := amI (fun m => w a m + tw w (S - 2 ^ m) m) S
def bc (S : Nat) : Nat := ((List.range 8).filter (fun m => S.testBit m)).length
theorem i_lt (a b : Int32) : a < b ↔ a.toInt < b.toInt := Int32.lt_iff_toInt_lt
theorem i_le (a b : Int32) : a ≤ b ↔ a.toInt ≤ b.toInt := Int32.le_iff_toInt_le
theorem i_eq (a b : Int32) : a = b ↔ a.toInt = b.toInt := ⟨fun h => by rw [h], fun h => Int32.toInt_inj.mp h⟩
theorem am_congr {f f' : Nat → Int32} {S : Nat} : ∀ {k : Nat}, (∀ m, m < k → S.testBit m = true → f m = f' m) → am f S k = am f' S k
  | 0, _ => rfl
  | k + 1, h => by
    have ih := am_congr (k := k) (fun m hm hb => h m (Nat.lt_succ_of_lt hm) hb)
    rw [am, am, ih]
    by_cases hb : S.testBit k = true
    · rw [h k (Nat.lt_succ_self k) hb]
    · rw [if_neg hb, if_neg hb]
theorem am_some {f : Nat → Int32} {S m : Nat} (hb : S.testBit m = true) : ∀ {k : Nat}, m < k → ∃ y, am f S k = some y
  | 0, h => absurd h (Nat.not_lt_zero _)
  | k + 1, h => by
    rw [am]
    by_cases hk : S.testBit k = true
    · rw [if_pos hk]
      cases am f S k with
      | none => exact ⟨_, rfl⟩
      | some y =>
        by_cases hc : f k < y.2
        · exact ⟨_, if_pos hc⟩
        · exact ⟨_, if_neg hc⟩
    · rw [if_neg hk]
      refine am_some hb ?_
      rcases Nat.lt_or_ge m k with q | q
      · exact q
      · have e : m = k := by omega
        subst e
        exact absurd hb hk
theorem am_spec {f : Nat → Int32} {S : Nat} : ∀ {k i : Nat} {y : Int32}, am f S k = some (i, y) → i < k ∧ S.testBit i = true ∧ f i = y ∧ (∀ j, j < k → S.testBit j = true → ¬ f j < y) ∧ ∀ j, j < i → S.testBit j = true → y < f j
  | 0, _, _, h => by simp [am] at h
  | k + 1, i, y, h => by
    rw [am] at h
    by_cases hk : S.testBit k = true
    · rw [if_pos hk] at h
      cases hm : am f S k with
      | none =>
        rw [hm] at h
        simp only [Option.some.injEq, Prod.mk.injEq] at h
        obtain ⟨rfl, rfl⟩ := h
        have no : ∀ j, j < k → ¬ S.testBit j = true := fun j hj hb => by
          obtain ⟨z, hz⟩ := am_some (f := f) hb hj
          rw [hm] at hz
          cases hz
        refine ⟨Nat.lt_succ_self k, hk, rfl, fun j hj hb => ?_, fun j hj hb => absurd hb (no j hj)⟩
        rcases Nat.lt_or_ge j k with q | q
        · exact absurd hb (no j q)
        · have e : j = k := by omega
          subst e
          rw [i_lt]
          omega
      | some z =>
        obtain ⟨i0, y0⟩ := z
        obtain ⟨h1, h2, h3, h4, h5⟩ := am_spec hm
        rw [hm] at h
        simp only at h
        by_cases hc : f k < y0
        · rw [if_pos hc] at h
          simp only [Option.some.injEq, Prod.mk.injEq] at h
          obtain ⟨rfl, rfl⟩ := h
          refine ⟨Nat.lt_succ_self k, hk, rfl, fun j hj hb => ?_, fun j hj hb => ?_⟩
          · rcases Nat.lt_or_ge j k with q | q
            · have := h4 j q hb
              rw [i_lt] at this hc ⊢
              omega
            · have e : j = k := by omega
              subst e
              rw [i_lt]
              omega
          · have := h4 j hj hb
            rw [i_lt] at this hc ⊢
            omega
        · rw [if_neg hc] at h
          simp only [Option.some.injEq, Prod.mk.injEq] at h
          obtain ⟨rfl, rfl⟩ := h
          refine ⟨Nat.lt_succ_of_lt h1, h2, h3, fun j hj hb => ?_, h5⟩
          rcases Nat.lt_or_ge j k with q | q
          · exact h4 j q hb
          · have e : j = k := by omega
            subst e
            exact hc
    · rw [if_neg hk] at h
      obtain ⟨h1, h2, h3, h4, h5⟩ := am_spec h
      refine ⟨Nat.lt_succ_of_lt h1, h2, h3, fun j hj hb => ?_, h5⟩
      rcases Nat.lt_or_ge j k with q | q
      · exact h4 j q hb
      · have e : j = k := by omega
        subst e
        exact absurd hb hk
theorem bit_ex : ∀ S, S < 256 → S ≠ 0 → ∃ m, m < 8 ∧ S.testBit m = true := by decide +kernel
theorem bit_le {S m : Nat} (h : S.testBit m = true) : 2 ^ m ≤ S := Nat.ge_two_pow_of_testBit h
theorem twF_eq (w : Nat → Nat → Int32) : ∀ (F F' S a : Nat), S < F → S < F' → twF w F S a = twF w F' S a
  | 0, _, _, _, h, _ => absurd h (Nat.not_lt_zero _)
  | _ + 1, 0, _, _, _, h => absurd h (Nat.not_lt_zero _)
  | F + 1, F' + 1, S, a, h, h' => by
    rw [twF, twF]
    by_cases h0 : S = 0
    · rw [if_pos h0, if_pos h0]
    · rw [if_neg h0, if_neg h0]
      unfold amV
      rw [am_congr (f' := fun m => w a m + twF w F' (S - 2 ^ m) m) (fun m _ hb => ?_)]
      have h2 := bit_le hb
      have h3 : 0 < 2 ^ m := Nat.two_pow_pos m
      show w a m + _ = w a m + _
      rw [twF_eq w F F' (S - 2 ^ m) m (by omega) (by omega)]
theorem tw_0 (w : Nat → Nat → Int32) (a : Nat) : tw w 0 a = w a 8 := by simp [tw, twF]
theorem tw_ne (w : Nat → Nat → Int32) {S : Nat} (a : Nat) (h0 : S ≠ 0) : tw w S a = amV (fun m => w a m + tw w (S - 2 ^ m) m) S := by
  unfold tw
  rw [twF, if_neg h0]
  unfold amV
  rw [am_congr (f' := fun m => w a m + twF w (S - 2 ^ m + 1) (S - 2 ^ m) m) (fun m _ hb => ?_)]
  have h2 := bit_le hb
  have h3 : 0 < 2 ^ m := Nat.two_pow_pos m
  show w a m + _ = w a m + _
  rw [twF_eq w S (S - 2 ^ m + 1) (S - 2 ^ m) m (by omega) (by omega)]
theorem nx_spec (w : Nat → Nat → Int32) {S : Nat} (a : Nat) (h : S < 256) (h0 : S ≠ 0) : nx w S a < 8 ∧ S.testBit (nx w S a) = true ∧ w a (nx w S a) + tw w (S - 2 ^ nx w S a) (nx w S a) = tw w S a ∧ ∀ j, j < nx w S a → S.testBit j = true → ¬ w a j + tw w (S - 2 ^ j) j = tw w S a := by
  obtain ⟨m, hm, hb⟩ := bit_ex S h h0
  obtain ⟨⟨i, y⟩, hy⟩ := am_some (f := fun m => w a m + tw w (S - 2 ^ m) m) hb hm
  obtain ⟨h1, h2, h3, h4, h5⟩ := am_spec hy
  have e1 : nx w S a = i := by unfold nx amI; rw [hy]; rfl
  have e2 : tw w S a = y := by rw [tw_ne w a h0]; unfold amV; rw [hy]; rfl
  rw [e1, e2]
  refine ⟨h1, h2, h3, fun j hj hbj hc => ?_⟩
  have t : y < w a j + tw w (S - 2 ^ j) j := h5 j hj hbj
  rw [i_lt] at t
  rw [i_eq] at hc
  omega
theorem p_bit : ∀ S, S < 256 → ∀ m, m < 8 → ((nI S >>> (nI m &&& 31)) &&& nI 1 = if S.testBit m then nI 1 else nI 0) := by decide +kernel
theorem p_wo : ∀ S, S < 256 → ∀ m, m < 8 → S.testBit m = true → nI S &&& ((nI 1 <<< (nI m &&& 31)) ^^^ (-1)) = nI (S - 2 ^ m) := by decide +kernel
theorem p_sub : ∀ S, S < 256 → ∀ m, m < 8 → S.testBit m = true → (S - 2 ^ m).testBit m = false ∧ bc S = bc (S - 2 ^ m) + 1 := by decide +kernel
theorem p_bc0 : ∀ S, S < 256 → bc S = 0 → S = 0 := by decide +kernel
theorem p_pw : ∀ n, n < 9 → (nI 1 <<< (nI n &&& 31)) = nI (2 ^ n) := by decide +kernel
theorem p_sub_bit : ∀ S, S < 256 → ∀ m, m < 8 → S.testBit m = true → ∀ j, j < 8 → (S - 2 ^ m).testBit j = true → S.testBit j = true := by decide +kernel
theorem bit_n {S n m : Nat} (h : S < 2 ^ n) (hb : S.testBit m = true) : m < n := by
  rcases Nat.lt_or_ge m n with q | q
  · exact q
  · have h1 := bit_le hb
    have h2 := Nat.pow_le_pow_right (n := 2) (by omega) q
    omega
theorem pow256 {n : Nat} (h : n ≤ 8) : 2 ^ n ≤ 256 := Nat.pow_le_pow_right (n := 2) (by omega) h
theorem xpm_pl {a b : Nat} (ha : a ≤ 8) (hb : b ≤ 8) : xpm ((a + 1) % 9 * 9 + (b + 1) % 9) = 9 * a + b := by
  unfold xpm
  have h1 : ((a + 1) % 9 * 9 + (b + 1) % 9) / 9 = (a + 1) % 9 := by omega
  have h2 : ((a + 1) % 9 * 9 + (b + 1) % 9) % 9 = (b + 1) % 9 := by omega
  rw [h1, h2]
  omega
theorem pl_1 : ∀ a, a < 9 → plI a + nI 1 = nI ((a + 1) % 9) := by decide +kernel
def ouI (v lo hi : Int32) : Int32 := if v < lo ∨ ¬ v ≤ hi then nI 1 else nI 0
theorem ou_iff (v lo hi : Int32) : ouI v lo hi = 0 ↔ lo.toInt ≤ v.toInt ∧ v.toInt ≤ hi.toInt := by
  unfold ouI
  by_cases h : v < lo ∨ ¬ v ≤ hi
  · rw [if_pos h]
    refine ⟨fun z => absurd z (by decide), fun z => ?_⟩
    rw [i_lt, i_le] at h
    omega
  · rw [if_neg h]
    refine ⟨fun _ => ?_, fun _ => rfl⟩
    rw [i_lt, i_le] at h
    omega
theorem nI_inj {a b : Nat} (ha : a < 2 ^ 31) (hb : b < 2 ^ 31) (h : nI a = nI b) : a = b := (nI_eq ha hb).mp h
theorem nI_ex {v : Int32} {b : Int} (h0 : 0 ≤ v.toInt) (h : v.toInt ≤ b) : ∃ i : Nat, (i : Int) ≤ b ∧ i < 2 ^ 31 ∧ v = nI i := by
  obtain ⟨j, hj, rfl⟩ := nI_of (x := v) (by rw [i_lt]; show ¬ v.toInt < 0; omega)
  rw [nI_toInt hj] at h
  exact ⟨j, h, hj, rfl⟩
theorem ou_k {v : Int32} {k : Nat} (hk : k < 2 ^ 30) : ouI v (nI 0) (nI k) = 0 ↔ ∃ j, j ≤ k ∧ v = nI j := by
  rw [ou_iff, nI_toInt (by omega), nI_toInt (by omega)]
  refine ⟨fun h => ?_, fun h => ?_⟩
  · obtain ⟨j, h1, -, h3⟩ := nI_ex h.1 h.2
    exact ⟨j, by omega, h3⟩
  · obtain ⟨j, h1, rfl⟩ := h
    rw [nI_toInt (by omega)]
    omega
theorem ou_m {v : Int32} {n : Nat} (hn : n < 2 ^ 30) : ouI v (nI 0) (nI n - nI 1) = 0 ↔ ∃ i, i < n ∧ v = nI i := by
  rw [ou_iff, nI_toInt (by omega), pk_sub_toInt hn (by omega)]
  refine ⟨fun h => ?_, fun h => ?_⟩
  · obtain ⟨j, h1, -, h3⟩ := nI_ex h.1 h.2
    exact ⟨j, by omega, h3⟩
  · obtain ⟨j, h1, rfl⟩ := h
    rw [nI_toInt (by omega)]
    omega
/-- a place, the depot or a machine, as the class tells it -/
def isPl (a : Int32) (pa : Nat) : Prop := pa ≤ 8 ∧ a + nI 1 = nI ((pa + 1) % 9)
theorem isPl_d : isPl (-1) 8 := ⟨by omega, by decide⟩
theorem isPl_m {m : Nat} (h : m < 8) : isPl (nI m) m := ⟨by omega, by rw [nI_add, show (m + 1) % 9 = m + 1 by omega]⟩
theorem pl_ix {a b : Int32} {pa pb : Nat} (ha : isPl a pa) (hb : isPl b pb) : (nI ((pa + 1) % 9 * 9) + b) + nI 1 = nI ((pa + 1) % 9 * 9 + (pb + 1) % 9) := by
  rw [Int32.add_assoc, hb.2, nI_add]
def amN (f : Nat → Int32) (S k : Nat) : Int32 := match am f S k with
  | none => -1
  | some y => nI y.1
def amL (f : Nat → Int32) (S k : Nat) : Int32 := match am f S k with
  | none => nI 0
  | some y => y.2
theorem amS_no {f : Nat → Int32} {S k : Nat} (h : ¬ S.testBit k = true) : amN f S (k + 1) = amN f S k ∧ amL f S (k + 1) = amL f S k := by
  have e : am f S (k + 1) = am f S k := by rw [am, if_neg h]
  unfold amN amL
  rw [e]
  exact ⟨rfl, rfl⟩
theorem amN_none {f : Nat → Int32} {S k : Nat} (hk : k ≤ 8) : amN f S k = -1 ↔ am f S k = none := by
  unfold amN
  cases h : am f S k with
  | none => exact ⟨fun _ => rfl, fun _ => rfl⟩
  | some y =>
    obtain ⟨i, z⟩ := y
    have h1 := (am_spec h).1
    refine ⟨fun q => ?_, fun q => by cases q⟩
    have h2 : (nI i).toInt = (-1 : Int32).toInt := by
      have q' : nI i = -1 := q
      rw [q']
    rw [nI_toInt (by omega)] at h2
    have h3 : (-1 : Int32).toInt = -1 := by decide
    omega
theorem amS_up {f : Nat → Int32} {S k : Nat} (hk : k ≤ 8) (h : S.testBit k = true) (hc : amN f S k = -1 ∨ f k < amL f S k) : amN f S (k + 1) = nI k ∧ amL f S (k + 1) = f k := by
  have e : am f S (k + 1) = some (k, f k) := by
    rw [am, if_pos h]
    cases hm : am f S k with
    | none => rfl
    | some y =>
      rcases hc with q | q
      · rw [amN_none hk, hm] at q
        cases q
      · unfold amL at q
        rw [hm] at q
        exact if_pos q
  unfold amN amL
  rw [e]
  exact ⟨rfl, rfl⟩
theorem amS_keep {f : Nat → Int32} {S k : Nat} (hk : k ≤ 8) (h : S.testBit k = true) (h1 : ¬ amN f S k = -1) (h2 : ¬ f k < amL f S k) : amN f S (k + 1) = amN f S k ∧ amL f S (k + 1) = amL f S k := by
  rw [amN_none hk] at h1
  cases hm : am f S k with
  | none => exact absurd hm h1
  | some y =>
    have e : am f S (k + 1) = some y := by
      rw [am, if_pos h, hm]
      unfold amL at h2
      rw [hm] at h2
      exact if_neg h2
    unfold amN amL
    rw [e, hm]
    exact ⟨rfl, rfl⟩
theorem amN_nx (w : Nat → Nat → Int32) {S : Nat} (a : Nat) (h : S < 256) (h0 : S ≠ 0) : amN (fun m => w a m + tw w (S - 2 ^ m) m) S 8 = nI (nx w S a) := by
  obtain ⟨m, hm, hb⟩ := bit_ex S h h0
  obtain ⟨y, hy⟩ := am_some (f := fun m => w a m + tw w (S - 2 ^ m) m) hb hm
  unfold amN nx amI
  rw [hy]
  rfl
theorem selF_no {S k : Nat} {f : Nat → Int32} (h : ¬ S.testBit k = true) : selF S f (k + 1) = selF S f k := by
  show sumFrom (nI 0) (fun m => if S.testBit m then f m else nI 0) k + (if S.testBit k then f k else nI 0) = _
  rw [if_neg h]
  exact Int32.add_zero _
theorem selF_yes {S k : Nat} {f : Nat → Int32} (h : S.testBit k = true) : selF S f (k + 1) = selF S f k + f k := by
  show sumFrom (nI 0) (fun m => if S.testBit m then f m else nI 0) k + (if S.testBit k then f k else nI 0) = _
  rw [if_pos h]
  rfl
/-- the ways home that are kept are right for the set S -/
def hwOK (g : Nat → Nat → Int32) (S : Nat) : Prop := ∀ m, m < 8 → S.testBit m = true → g 17 (S * 8 + m) = tw (wy g) (S - 2 ^ m) m
def mixF (d : Int64) (f : Nat → Int64) : Nat → Int64
  | 0 => d
  | k + 1 => mixF d f k * 31 + f k
def mixS (g : Nat → Nat → Int32) (i : Nat) (d : Int64) : Nat → Int64
  | 0 => d
  | k + 1 => mixF (mixS g i d k) (fun w => (g (4 + w) (6 * i + k)).toInt64) 6
theorem nI_toNat (v : Int32) : nI v.toBitVec.toNat = v := by
  apply Int32.toBitVec_inj.mp
  show BitVec.ofNat 32 v.toBitVec.toNat = v.toBitVec
  simp
theorem rs_iff {v : Int32} {n : Nat} (hn : n ≤ 8) : (v.toUInt32 >>> ((nI n).toUInt32 &&& Int32.toUInt32 31)).toInt32 = 0 ↔ ∃ S, S < 2 ^ n ∧ v = nI S := by
  have hs : (((nI n).toUInt32 &&& Int32.toUInt32 31).toBitVec % 32).toNat = n := (show ∀ n, n < 9 → (((nI n).toUInt32 &&& Int32.toUInt32 31).toBitVec % 32).toNat = n by decide +kernel) n (by omega)
  have h := pk_ushr v (nI n) n hs
  have h2 : 0 < 2 ^ n := Nat.two_pow_pos n
  refine ⟨fun z => ⟨v.toBitVec.toNat, ?_, (nI_toNat v).symm⟩, fun z => ?_⟩
  · rw [z] at h
    have h3 : (0 : Int32).toBitVec.toNat = 0 := by decide
    rw [h3] at h
    exact (Nat.div_eq_zero_iff_lt h2).mp h.symm
  · obtain ⟨S, hS, rfl⟩ := z
    have h4 := pow256 hn
    rw [pk_tn (by omega), (Nat.div_eq_zero_iff_lt h2).mpr hS] at h
    rw [← nI_toNat ((nI S).toUInt32 >>> ((nI n).toUInt32 &&& Int32.toUInt32 31)).toInt32, h]
    rfl
end
section
/-! What the calls answer, in plain words: both sides are held against these. -/
abbrev cl (v : Int32) : Nat := v.toNatClampNeg
def okM (n : Nat) (v : Int32) : Prop := ∃ i, i < n ∧ v = nI i
def okS (n : Nat) (v w : Int32) : Prop := ∃ i j, i < n ∧ j < 6 ∧ v = nI i ∧ w = nI j
def okT (n : Nat) (v : Int32) : Prop := ∃ S, S < 2 ^ n ∧ v = nI S
def okK (k : Nat) (v : Int32) : Prop := ∃ j, j ≤ k ∧ v = nI j
def okV (v x : Int32) : Prop := ∃ j, j < bc (cl v) ∧ x = nI j
def hwAll (g : Nat → Nat → Int32) (n : Nat) : Prop := ∀ S, S < 2 ^ n → hwOK g S
/-- what is left, and where it stands, after k machines of a round -/
def vs (w : Nat → Nat → Int32) (S : Nat) : Nat → Nat × Nat
  | 0 => (S, 8)
  | k + 1 => ((vs w S k).1 - 2 ^ nx w (vs w S k).1 (vs w S k).2, nx w (vs w S k).1 (vs w S k).2)
theorem vs_ok (w : Nat → Nat → Int32) {S n : Nat} (hn : n ≤ 8) (hS : S < 2 ^ n) : ∀ k, k ≤ bc S → (vs w S k).1 ≤ S ∧ bc (vs w S k).1 + k = bc S
  | 0, _ => ⟨Nat.le_refl _, rfl⟩
  | k + 1, h => by
    obtain ⟨h1, h2⟩ := vs_ok w hn hS k (by omega)
    have hp := pow256 hn
    have h0 : (vs w S k).1 ≠ 0 := fun z => by
      rw [z] at h2
      have : bc 0 = 0 := by decide
      omega
    obtain ⟨n1, n2, -, -⟩ := nx_spec w (vs w S k).2 (S := (vs w S k).1) (by omega) h0
    have h3 := (p_sub (vs w S k).1 (by omega) _ n1 n2).2
    refine ⟨?_, ?_⟩
    · exact Nat.le_trans (Nat.sub_le _ _) h1
    · show bc ((vs w S k).1 - _) + (k + 1) = bc S
      omega
theorem vs_next (w : Nat → Nat → Int32) {S n k : Nat} (hn : n ≤ 8) (hS : S < 2 ^ n) (hk : k < bc S) : (vs w S k).1 < 2 ^ n ∧ (vs w S k).1 ≠ 0 ∧ (vs w S (k + 1)).2 < n ∧ (vs w S k).1.testBit (vs w S (k + 1)).2 = true := by
  obtain ⟨h1, h2⟩ := vs_ok w hn hS k (by omega)
  have hp := pow256 hn
  have h0 : (vs w S k).1 ≠ 0 := fun z => by
    rw [z] at h2
    have : bc 0 = 0 := by decide
    omega
  obtain ⟨n1, n2, -, -⟩ := nx_spec w (vs w S k).2 (S := (vs w S k).1) (by omega) h0
  refine ⟨by omega, h0, ?_, n2⟩
  exact bit_n (Nat.lt_of_le_of_lt h1 hS) n2
theorem cl_nI {n : Nat} (h : n < 2 ^ 31) : cl (nI n) = n := nI_clamp h
def dW (g : Nat → Nat → Int32) (d : Int64) : Nat → Int64
  | 0 => d
  | k + 1 => mixF (dW g d k) (fun j => (wy g ((j + 8) % 9) k).toInt64) (k + 1)
def dM (g : Nat → Nat → Int32) (d : Int64) : Nat → Int64
  | 0 => d
  | k + 1 => mixS g k (mixF (dM g d k) (fun w => (machF g k w).toInt64) 5) 6
def digF (g : Nat → Nat → Int32) (tt : Nat → Int64) (n np : Nat) : Int64 :=
  ((((dM g (dW g ((211 * 31 + (g 13 0).toInt64) * 31 + (nI n).toInt64) n) n * 31 + (nI np).toInt64) * 31 + tt 0) * 31 + tt 1) * 31 + tt 2) * 31 + tt 3
def roF (g : Nat → Nat → Int32) (k : Nat) : Int32 := if g 5 k ≤ 0 ∨ g 7 k ≤ 0 then -1 else g 13 0 + (g 5 k - nI 1) / g 7 k
def bs1 (x : Int32) : Int32 := x - ((x.toUInt32 >>> ((nI 1).toUInt32 &&& Int32.toUInt32 31)).toInt32 &&& nI 1431655765)
def bs2 (x : Int32) : Int32 := (x &&& nI 858993459) + ((x.toUInt32 >>> ((nI 2).toUInt32 &&& Int32.toUInt32 31)).toInt32 &&& nI 858993459)
def bs3 (x : Int32) : Int32 := (x + (x.toUInt32 >>> ((nI 4).toUInt32 &&& Int32.toUInt32 31)).toInt32) &&& nI 252645135
def bs4 (x : Int32) : Int32 := x + (x.toUInt32 >>> ((nI 8).toUInt32 &&& Int32.toUInt32 31)).toInt32
def bs5 (x : Int32) : Int32 := x + (x.toUInt32 >>> ((nI 16).toUInt32 &&& Int32.toUInt32 31)).toInt32
theorem bs_bc : ∀ S, S < 256 → bs5 (bs4 (bs3 (bs2 (bs1 (nI S))))) &&& nI 63 = nI (bc S) := by decide +kernel
theorem bc_le : ∀ S, S < 256 → bc S ≤ 8 := by decide +kernel
theorem isPl_s {k : Nat} (h : k ≤ 8) : isPl (nI k - nI 1) ((k + 8) % 9) := ⟨by omega, by rw [Int32.sub_add_cancel, show ((k + 8) % 9 + 1) % 9 = k by omega]⟩
theorem nI_s1 (k : Nat) : nI k - nI 1 + 1 = nI (k + 1) - nI 1 := by
  rw [show nI (k + 1) = nI k + nI 1 from (nI_add k 1).symm, Int32.add_sub_cancel, show (1 : Int32) = nI 1 from rfl, Int32.sub_add_cancel]
end
section
/-! The methods that only read, the leaves first (by p10.py) -/
set_option maxHeartbeats 4000000 in
set_option maxRecDepth 100000 in
/-- outside(v, lo, hi) -/
theorem c_X4_outside (l : Launch) (D : va_G) (cA : Nat → ClassId) (e0 : Nat) (A : Nat → Prop) (H0 : Heap) (v lo hi : Int32) : Met l yX4_outside w_X4_outside ({ frames := 0, cells := 0, slots := 0, locals := 0 } : Room) (xPc D cA e0 A H0 [.int (v), .int (lo), .int (hi)]) (xR (some (.int (ouI v lo hi)))) 0 0 (xNo) := by
  refine Met.ofW (cc := cX4_outside) (maxL := 3) (ret := (some .boolean)) (by decide) rfl ?_
  intro p e s m args below meth c s₁ B hml hv
  obtain ⟨rfl, hH, hE⟩ := hv
  subst hH
  have hx := B.exec
  have hb := B.bytes
  have hr := B.returns
  have hts := hE.1.all ([.int (v), .int (lo), .int (hi)] : List Value).toArray
  have hown : s.vm.findClass RX4 = some m.cls := findClass_of_methodNamed B.named
  have hlocks := B.notSynchronized
  have hK := hE.2.1
  have hS : va_S A s.heap s.heap [] := va_S.rf
  have hl := lv_entry ([.int (v), .int (lo), .int (hi)]) (n := 3) (Nat.le_of_ble_eq_true rfl)
  rw [lg_entry_eq]
  generalize (lg_sl ([.int (v), .int (lo), .int (hi)]) ++ List.replicate (3 - (lg_sl ([.int (v), .int (lo), .int (hi)])).length) Slot.unset).toArray = ls at hl ⊢
  have hl : lv_has ls 3 [(0, .int (v)), (1, .int (lo)), (2, .int (hi))] := hl
  refine lv_iload_n hx hb dX4_outside_0 rfl (lv_at hl 0 rfl) ?_
  refine lv_iload_n hx hb dX4_outside_1 rfl (lv_at hl 1 rfl) ?_
  refine lv_icmp_lt (tgt := 10) hx hb dX4_outside_2 (by decide) (fun c2 => ?_) (fun c2 => ?_)
  · refine lv_iconst (v := nI 1) hx hb dX4_outside_10 (by decide) ?_
    refine lv_goto (tgt := 15) hx hb dX4_outside_11 (by decide) ?_
    have hres : nI 1 = ouI v lo hi := by simp [ouI, c2]
    exact W.zret (v := (nI 1)) (ty := .boolean) hx hb hr (by decide) (fun t ht _ => ⟨congrArg (fun z : Int32 => Outcome.returned (some (Value.int z))) hres, ht⟩) (fun q hq => absurd hq List.not_mem_nil) dX4_outside_15
  · refine lv_iload_n hx hb dX4_outside_5 rfl (lv_at hl 0 rfl) ?_
    refine lv_iload_n hx hb dX4_outside_6 rfl (lv_at hl 2 rfl) ?_
    refine lv_icmp_le (tgt := 14) hx hb dX4_outside_7 (by decide) (fun c7 => ?_) (fun c7 => ?_)
    · refine lv_iconst (v := nI 0) hx hb dX4_outside_14 (by decide) ?_
      have hres : nI 0 = ouI v lo hi := by simp [ouI, c2, c7]
      exact W.zret (v := (nI 0)) (ty := .boolean) hx hb hr (by decide) (fun t ht _ => ⟨congrArg (fun z : Int32 => Outcome.returned (some (Value.int z))) hres, ht⟩) (fun q hq => absurd hq List.not_mem_nil) dX4_outside_15
    · refine lv_iconst (v := nI 1) hx hb dX4_outside_10 (by decide) ?_
      refine lv_goto (tgt := 15) hx hb dX4_outside_11 (by decide) ?_
      have hres : nI 1 = ouI v lo hi := by simp [ouI, c2, c7]
      exact W.zret (v := (nI 1)) (ty := .boolean) hx hb hr (by decide) (fun t ht _ => ⟨congrArg (fun z : Int32 => Outcome.returned (some (Value.int z))) hres, ht⟩) (fun q hq => absurd hq List.not_mem_nil) dX4_outside_15
set_option maxHeartbeats 4000000 in
set_option maxRecDepth 100000 in
/-- contains(S, m) -/
theorem c_X4_contains (l : Launch) (D : va_G) (cA : Nat → ClassId) (e0 : Nat) (A : Nat → Prop) (H0 : Heap) (S m0 : Nat) (hSt : S < 256) (hm0 : m0 < 8) : Met l yX4_contains w_X4_contains ({ frames := 0, cells := 0, slots := 0, locals := 0 } : Room) (xPc D cA e0 A H0 [.int (nI (S)), .int (nI (m0))]) (xR (some (.int (if S.testBit m0 then nI 1 else nI 0)))) 0 0 (xNo) := by
  refine Met.ofW (cc := cX4_contains) (maxL := 2) (ret := (some .boolean)) (by decide) rfl ?_
  intro p e s m args below meth c s₁ B hml hv
  obtain ⟨rfl, hH, hE⟩ := hv
  subst hH
  have hx := B.exec
  have hb := B.bytes
  have hr := B.returns
  have hts := hE.1.all ([.int (nI (S)), .int (nI (m0))] : List Value).toArray
  have hown : s.vm.findClass RX4 = some m.cls := findClass_of_methodNamed B.named
  have hlocks := B.notSynchronized
  have hK := hE.2.1
  have hS : va_S A s.heap s.heap [] := va_S.rf
  have hl := lv_entry ([.int (nI (S)), .int (nI (m0))]) (n := 2) (Nat.le_of_ble_eq_true rfl)
  rw [lg_entry_eq]
  generalize (lg_sl ([.int (nI (S)), .int (nI (m0))]) ++ List.replicate (2 - (lg_sl ([.int (nI (S)), .int (nI (m0))])).length) Slot.unset).toArray = ls at hl ⊢
  have hl : lv_has ls 2 [(0, .int (nI (S))), (1, .int (nI (m0)))] := hl
  refine lv_iload_n hx hb dX4_contains_0 rfl (lv_at hl 0 rfl) ?_
  refine lv_iload_n hx hb dX4_contains_1 rfl (lv_at hl 1 rfl) ?_
  refine lv_ishr hx hb dX4_contains_2 ?_
  refine lv_iconst (v := nI 1) hx hb dX4_contains_3 (by decide) ?_
  refine lv_iand hx hb dX4_contains_4 ?_
  refine xtop (show ((nI (S)) >>> (nI (m0) &&& 31)) &&& (nI 1) = if S.testBit m0 then nI 1 else nI 0 from p_bit S hSt m0 hm0) ?_
  refine lv_if_eq (tgt := 12) hx hb dX4_contains_5 (by decide) (fun c5 => ?_) (fun c5 => ?_)
  · have hbit : ¬ S.testBit m0 = true := fun z => by rw [if_pos z] at c5; exact absurd c5 (by decide)
    refine lv_iconst (v := nI 0) hx hb dX4_contains_12 (by decide) ?_
    have hres : nI 0 = (if S.testBit m0 then nI 1 else nI 0) := by simp [hbit]
    exact W.zret (v := (nI 0)) (ty := .boolean) hx hb hr (by decide) (fun t ht _ => ⟨congrArg (fun z : Int32 => Outcome.returned (some (Value.int z))) hres, ht⟩) (fun q hq => absurd hq List.not_mem_nil) dX4_contains_13
  · have hbit : S.testBit m0 = true := by
      cases hq : S.testBit m0 with
      | true => rfl
      | false => rw [hq] at c5; exact absurd rfl c5
    refine lv_iconst (v := nI 1) hx hb dX4_contains_8 (by decide) ?_
    refine lv_goto (tgt := 13) hx hb dX4_contains_9 (by decide) ?_
    have hres : nI 1 = (if S.testBit m0 then nI 1 else nI 0) := by simp [hbit]
    exact W.zret (v := (nI 1)) (ty := .boolean) hx hb hr (by decide) (fun t ht _ => ⟨congrArg (fun z : Int32 => Outcome.returned (some (Value.int z))) hres, ht⟩) (fun q hq => absurd hq List.not_mem_nil) dX4_contains_13
set_option maxHeartbeats 4000000 in
set_option maxRecDepth 100000 in
/-- without(S, m) where m is in S -/
theorem c_X4_without (l : Launch) (D : va_G) (cA : Nat → ClassId) (e0 : Nat) (A : Nat → Prop) (H0 : Heap) (S m0 : Nat) (hSt : S < 256) (hm0 : m0 < 8) (hbit : S.testBit m0 = true) : Met l yX4_without w_X4_without ({ frames := 0, cells := 0, slots := 0, locals := 0 } : Room) (xPc D cA e0 A H0 [.int (nI (S)), .int (nI (m0))]) (xR (some (.int (nI (S - 2 ^ m0))))) 0 0 (xNo) := by
  refine Met.ofW (cc := cX4_without) (maxL := 2) (ret := (some .int)) (by decide) rfl ?_
  intro p e s m args below meth c s₁ B hml hv
  obtain ⟨rfl, hH, hE⟩ := hv
  subst hH
  have hx := B.exec
  have hb := B.bytes
  have hr := B.returns
  have hts := hE.1.all ([.int (nI (S)), .int (nI (m0))] : List Value).toArray
  have hown : s.vm.findClass RX4 = some m.cls := findClass_of_methodNamed B.named
  have hlocks := B.notSynchronized
  have hK := hE.2.1
  have hS : va_S A s.heap s.heap [] := va_S.rf
  have hl := lv_entry ([.int (nI (S)), .int (nI (m0))]) (n := 2) (Nat.le_of_ble_eq_true rfl)
  rw [lg_entry_eq]
  generalize (lg_sl ([.int (nI (S)), .int (nI (m0))]) ++ List.replicate (2 - (lg_sl ([.int (nI (S)), .int (nI (m0))])).length) Slot.unset).toArray = ls at hl ⊢
  have hl : lv_has ls 2 [(0, .int (nI (S))), (1, .int (nI (m0)))] := hl
  refine lv_iload_n hx hb dX4_without_0 rfl (lv_at hl 0 rfl) ?_
  refine lv_iconst (v := nI 1) hx hb dX4_without_1 (by decide) ?_
  refine lv_iload_n hx hb dX4_without_2 rfl (lv_at hl 1 rfl) ?_
  refine lv_ishl hx hb dX4_without_3 ?_
  refine lv_iconst (v := (-1)) hx hb dX4_without_4 (by decide) ?_
  refine lv_ixor hx hb dX4_without_5 ?_
  refine lv_iand hx hb dX4_without_6 ?_
  refine xtop (show (nI (S)) &&& (((nI 1) <<< (nI (m0) &&& 31)) ^^^ ((-1))) = nI (S - 2 ^ m0) from p_wo S hSt m0 hm0 hbit) ?_
  exact W.iret (v := (nI (S - 2 ^ m0))) hx hb hr (fun t ht _ => ⟨rfl, ht⟩) (fun q hq => absurd hq List.not_mem_nil) dX4_without_7
set_option maxHeartbeats 4000000 in
set_option maxRecDepth 100000 in
/-- mixed(d, x) -/
theorem c_X4_mixed (l : Launch) (D : va_G) (cA : Nat → ClassId) (e0 : Nat) (A : Nat → Prop) (H0 : Heap) (d0 x0 : Int64) : Met l yX4_mixed w_X4_mixed ({ frames := 0, cells := 0, slots := 0, locals := 0 } : Room) (xPc D cA e0 A H0 [.long (d0), .long (x0)]) (xR (some (.long (d0 * 31 + x0)))) 0 0 (xNo) := by
  refine Met.ofW (cc := cX4_mixed) (maxL := 4) (ret := (some .long)) (by decide) rfl ?_
  intro p e s m args below meth c s₁ B hml hv
  obtain ⟨rfl, hH, hE⟩ := hv
  subst hH
  have hx := B.exec
  have hb := B.bytes
  have hr := B.returns
  have hts := hE.1.all ([.long (d0), .long (x0)] : List Value).toArray
  have hown : s.vm.findClass RX4 = some m.cls := findClass_of_methodNamed B.named
  have hlocks := B.notSynchronized
  have hK := hE.2.1
  have hS : va_S A s.heap s.heap [] := va_S.rf
  have hl := lv_entry ([.long (d0), .long (x0)]) (n := 4) (Nat.le_of_ble_eq_true rfl)
  rw [lg_entry_eq]
  generalize (lg_sl ([.long (d0), .long (x0)]) ++ List.replicate (4 - (lg_sl ([.long (d0), .long (x0)])).length) Slot.unset).toArray = ls at hl ⊢
  have hl : lv_has ls 4 [(0, .long (d0)), (2, .long (x0))] := hl
  refine lv_lload_n hx hb dX4_mixed_0 rfl (lv_at hl 0 rfl) ?_
  refine lv_ldc2 (v := 31) hx hb hown (hts _ q_ko_X4_230) dX4_mixed_1 ?_
  refine lv_lmul hx hb dX4_mixed_4 ?_
  refine lv_lload_n hx hb dX4_mixed_5 rfl (lv_at hl 1 rfl) ?_
  refine lv_ladd hx hb dX4_mixed_6 ?_
  exact W.lret (v := ((d0 * 31) + x0)) hx hb hr (fun t ht _ => ⟨rfl, ht⟩) (fun q hq => absurd hq List.not_mem_nil) dX4_mixed_7
set_option maxHeartbeats 4000000 in
set_option maxRecDepth 100000 in
/-- Slot.lacking() -/
theorem c_X3_lacking (l : Launch) (D : va_G) (cA : Nat → ClassId) (e0 : Nat) (A : Nat → Prop) (H0 : Heap) (ad : Nat → Nat → Nat) (g : Nat → Nat → Int32) (tt : Nat → Int64) (N : Nat → Nat) (hX : xW D cA ad g tt N H0) (k : Nat) (hk : k < 6 * N 0) : Met l yX3_lacking w_X3_lacking ({ frames := 0, cells := 0, slots := 0, locals := 0 } : Room) (xPc D cA e0 A H0 [.ref (ad 3 k)]) (xR (some (.int (g 4 k - g 5 k)))) 0 0 (xNo) := by
  refine Met.ofW (cc := cX3_lacking) (maxL := 1) (ret := (some .int)) (by decide) rfl ?_
  intro p e s m args below meth c s₁ B hml hv
  obtain ⟨rfl, hH, hE⟩ := hv
  subst hH
  have hx := B.exec
  have hb := B.bytes
  have hr := B.returns
  have hts := hE.1.all ([.ref (ad 3 k)] : List Value).toArray
  have hown : s.vm.findClass RX3 = some m.cls := findClass_of_methodNamed B.named
  have hlocks := B.notSynchronized
  have hK := hE.2.1
  have hS : va_S A s.heap s.heap [] := va_S.rf
  have hl := lv_entry ([.ref (ad 3 k)]) (n := 1) (Nat.le_of_ble_eq_true rfl)
  rw [lg_entry_eq]
  generalize (lg_sl ([.ref (ad 3 k)]) ++ List.replicate (1 - (lg_sl ([.ref (ad 3 k)])).length) Slot.unset).toArray = ls at hl ⊢
  have hl : lv_has ls 1 [(0, .ref (ad 3 k))] := hl
  refine lv_aload_n hx hb dX3_lacking_0 rfl (lv_at hl 0 rfl) ?_
  refine va_get (D := D) (ci := 4) (v := .int (g 4 k)) (C := RX3) (T := TX3) (N := 6) hx hb hts qi_X3 hown hK (xP1 (hX.slot hk)) 0 rfl rfl 0 (by decide) (hts _ q_fl_X3_13) (fun _ h9 => h9) rfl dX3_lacking_1 ?_
  refine lv_aload_n hx hb dX3_lacking_4 rfl (lv_at hl 0 rfl) ?_
  refine va_get (D := D) (ci := 4) (v := .int (g 5 k)) (C := RX3) (T := TX3) (N := 6) hx hb hts qi_X3 hown hK (xP1 (hX.slot hk)) 0 rfl rfl 1 (by decide) (hts _ q_fl_X3_16) (fun _ h9 => h9) rfl dX3_lacking_5 ?_
  refine lv_isub hx hb dX3_lacking_8 ?_
  exact W.iret (v := ((g 4 k) - (g 5 k))) hx hb hr (fun t ht _ => ⟨rfl, ht⟩) (fun q hq => absurd hq List.not_mem_nil) dX3_lacking_9
set_option maxHeartbeats 4000000 in
set_option maxRecDepth 100000 in
/-- Slot.fact(w) -/
theorem c_X3_fact (l : Launch) (D : va_G) (cA : Nat → ClassId) (e0 : Nat) (A : Nat → Prop) (H0 : Heap) (ad : Nat → Nat → Nat) (g : Nat → Nat → Int32) (tt : Nat → Int64) (N : Nat → Nat) (hX : xW D cA ad g tt N H0) (k w : Nat) (hk : k < 6 * N 0) (hw : w < 6) : Met l yX3_fact w_X3_fact ({ frames := 0, cells := 0, slots := 0, locals := 0 } : Room) (xPc D cA e0 A H0 [.ref (ad 3 k), .int (nI (w))]) (xR (some (.int (g (4 + w) k)))) 0 0 (xNo) := by
  refine Met.ofW (cc := cX3_fact) (maxL := 2) (ret := (some .int)) (by decide) rfl ?_
  intro p e s m args below meth c s₁ B hml hv
  obtain ⟨rfl, hH, hE⟩ := hv
  subst hH
  have hx := B.exec
  have hb := B.bytes
  have hr := B.returns
  have hts := hE.1.all ([.ref (ad 3 k), .int (nI (w))] : List Value).toArray
  have hown : s.vm.findClass RX3 = some m.cls := findClass_of_methodNamed B.named
  have hlocks := B.notSynchronized
  have hK := hE.2.1
  have hS : va_S A s.heap s.heap [] := va_S.rf
  have hl := lv_entry ([.ref (ad 3 k), .int (nI (w))]) (n := 2) (Nat.le_of_ble_eq_true rfl)
  rw [lg_entry_eq]
  generalize (lg_sl ([.ref (ad 3 k), .int (nI (w))]) ++ List.replicate (2 - (lg_sl ([.ref (ad 3 k), .int (nI (w))])).length) Slot.unset).toArray = ls at hl ⊢
  have hl : lv_has ls 2 [(0, .ref (ad 3 k)), (1, .int (nI (w)))] := hl
  refine lv_iload_n hx hb dX3_fact_0 rfl (lv_at hl 1 rfl) ?_
  by_cases hw0 : w = 0
  · subst hw0
    refine lv_tableIn (tgt := 36) (off := 35) hx hb dX3_fact_1 (by decide) (by decide) (by decide) (by decide) ?_
    refine lv_aload_n hx hb dX3_fact_36 rfl (lv_at hl 0 rfl) ?_
    refine va_get (D := D) (ci := 4) (v := .int (g 4 k)) (C := RX3) (T := TX3) (N := 6) hx hb hts qi_X3 hown hK (xP1 (hX.slot hk)) 0 rfl rfl 0 (by decide) (hts _ q_fl_X3_13) (fun _ h9 => h9) rfl dX3_fact_37 ?_
    exact W.iret (v := (g 4 k)) hx hb hr (fun t ht _ => ⟨rfl, ht⟩) (fun q hq => absurd hq List.not_mem_nil) dX3_fact_40
  by_cases hw1 : w = 1
  · subst hw1
    refine lv_tableIn (tgt := 41) (off := 40) hx hb dX3_fact_1 (by decide) (by decide) (by decide) (by decide) ?_
    refine lv_aload_n hx hb dX3_fact_41 rfl (lv_at hl 0 rfl) ?_
    refine va_get (D := D) (ci := 4) (v := .int (g 5 k)) (C := RX3) (T := TX3) (N := 6) hx hb hts qi_X3 hown hK (xP1 (hX.slot hk)) 0 rfl rfl 1 (by decide) (hts _ q_fl_X3_16) (fun _ h9 => h9) rfl dX3_fact_42 ?_
    exact W.iret (v := (g 5 k)) hx hb hr (fun t ht _ => ⟨rfl, ht⟩) (fun q hq => absurd hq List.not_mem_nil) dX3_fact_45
  by_cases hw2 : w = 2
  · subst hw2
    refine lv_tableIn (tgt := 46) (off := 45) hx hb dX3_fact_1 (by decide) (by decide) (by decide) (by decide) ?_
    refine lv_aload_n hx hb dX3_fact_46 rfl (lv_at hl 0 rfl) ?_
    refine va_get (D := D) (ci := 4) (v := .int (g 6 k)) (C := RX3) (T := TX3) (N := 6) hx hb hts qi_X3 hown hK (xP1 (hX.slot hk)) 0 rfl rfl 2 (by decide) (hts _ q_fl_X3_7) (fun _ h9 => h9) rfl dX3_fact_47 ?_
    exact W.iret (v := (g 6 k)) hx hb hr (fun t ht _ => ⟨rfl, ht⟩) (fun q hq => absurd hq List.not_mem_nil) dX3_fact_50
  by_cases hw3 : w = 3
  · subst hw3
    refine lv_tableIn (tgt := 51) (off := 50) hx hb dX3_fact_1 (by decide) (by decide) (by decide) (by decide) ?_
    refine lv_aload_n hx hb dX3_fact_51 rfl (lv_at hl 0 rfl) ?_
    refine va_get (D := D) (ci := 4) (v := .int (g 7 k)) (C := RX3) (T := TX3) (N := 6) hx hb hts qi_X3 hown hK (xP1 (hX.slot hk)) 0 rfl rfl 3 (by decide) (hts _ q_fl_X3_19) (fun _ h9 => h9) rfl dX3_fact_52 ?_
    exact W.iret (v := (g 7 k)) hx hb hr (fun t ht _ => ⟨rfl, ht⟩) (fun q hq => absurd hq List.not_mem_nil) dX3_fact_55
  by_cases hw4 : w = 4
  · subst hw4
    refine lv_tableIn (tgt := 56) (off := 55) hx hb dX3_fact_1 (by decide) (by decide) (by decide) (by decide) ?_
    refine lv_aload_n hx hb dX3_fact_56 rfl (lv_at hl 0 rfl) ?_
    refine va_get (D := D) (ci := 4) (v := .int (g 8 k)) (C := RX3) (T := TX3) (N := 6) hx hb hts qi_X3 hown hK (xP1 (hX.slot hk)) 0 rfl rfl 4 (by decide) (hts _ q_fl_X3_22) (fun _ h9 => h9) rfl dX3_fact_57 ?_
    exact W.iret (v := (g 8 k)) hx hb hr (fun t ht _ => ⟨rfl, ht⟩) (fun q hq => absurd hq List.not_mem_nil) dX3_fact_60
  refine lv_tableOut (tgt := 61) hx hb dX3_fact_1 (Or.inr (by rw [nI_toInt (by omega)]; omega)) (by decide) ?_
  refine lv_aload_n hx hb dX3_fact_61 rfl (lv_at hl 0 rfl) ?_
  refine va_get (D := D) (ci := 4) (v := .int (g 9 k)) (C := RX3) (T := TX3) (N := 6) hx hb hts qi_X3 hown hK (xP1 (hX.slot hk)) 0 rfl rfl 5 (by decide) (hts _ q_fl_X3_25) (fun _ h9 => h9) rfl dX3_fact_62 ?_
  have hres : g 9 k = g (4 + w) k := by rw [show w = 5 by omega]
  exact W.iret (v := (g 9 k)) hx hb hr (fun t ht _ => ⟨congrArg (fun z : Int32 => Outcome.returned (some (Value.int z))) hres, ht⟩) (fun q hq => absurd hq List.not_mem_nil) dX3_fact_65
set_option maxHeartbeats 4000000 in
set_option maxRecDepth 100000 in
/-- Machine.lacking() -/
theorem c_X0_lacking (l : Launch) (D : va_G) (cA : Nat → ClassId) (e0 : Nat) (A : Nat → Prop) (H0 : Heap) (ad : Nat → Nat → Nat) (g : Nat → Nat → Int32) (tt : Nat → Int64) (N : Nat → Nat) (hX : xW D cA ad g tt N H0) (i0 : Nat) (hi0 : i0 < N 0) : Met l yX0_lacking w_X0_lacking ({ frames := 1, cells := 0, slots := 0, locals := 20 } : Room) (xPc D cA e0 A H0 [.ref (ad 1 i0)]) (xR (some (.int (lackF g i0)))) 0 0 (xNo) := by
  refine Met.ofW (cc := cX0_lacking) (maxL := 3) (ret := (some .int)) (by decide) rfl ?_
  intro p e s m args below meth c s₁ B hml hv
  obtain ⟨rfl, hH, hE⟩ := hv
  subst hH
  have hx := B.exec
  have hb := B.bytes
  have hr := B.returns
  have hts := hE.1.all ([.ref (ad 1 i0)] : List Value).toArray
  have hown : s.vm.findClass RX0 = some m.cls := findClass_of_methodNamed B.named
  have hlocks := B.notSynchronized
  have hK := hE.2.1
  have hS : va_S A s.heap s.heap [] := va_S.rf
  have hl := lv_entry ([.ref (ad 1 i0)]) (n := 3) (Nat.le_of_ble_eq_true rfl)
  rw [lg_entry_eq]
  generalize (lg_sl ([.ref (ad 1 i0)]) ++ List.replicate (3 - (lg_sl ([.ref (ad 1 i0)])).length) Slot.unset).toArray = ls at hl ⊢
  have hl : lv_has ls 3 [(0, .ref (ad 1 i0))] := hl
  refine lv_iconst (v := nI 0) hx hb dX0_lacking_0 (by decide) ?_
  refine lv_istore_n (lv' := [(1, .int (nI 0)), (0, .ref (ad 1 i0))]) hx hb dX0_lacking_1 rfl hl (by decide) rfl (fun ls hl => ?_)
  refine lv_iconst (v := nI 0) hx hb dX0_lacking_2 (by decide) ?_
  refine lv_istore_n (lv' := [(2, .int (nI 0)), (1, .int (nI 0)), (0, .ref (ad 1 i0))]) hx hb dX0_lacking_3 rfl hl (by decide) rfl (fun ls hl => ?_)
  have LOOP4 : ∀ (n4 : Nat) (i : Nat) (ls : Array Slot), i ≤ 6 → (6 - i) < n4 → lv_has ls 3 [(2, .int (nI (i))), (1, .int (sumFrom (nI 0) (fun j => g 4 (6 * i0 + j) - g 5 (6 * i0 + j)) i)), (0, .ref (ad 1 i0))] → W p l e (headSpec w_X0_lacking ({ frames := 1, cells := 0, slots := 0, locals := 20 } : Room)).room s m ([.ref (ad 1 i0)] : List Value).toArray below meth c s.heap [] 0 0 (MQ below (xR (some (.int (lackF g i0)))) ([.ref (ad 1 i0)] : List Value).toArray s 0 0 (xNo)) (F0 m 4 ls []) := by
    intro n4
    induction n4 with
    | zero => intro i ls hi hmeas hl; exact absurd hmeas (Nat.not_lt_zero _)
    | succ n4 ih4 =>
      intro i ls hi hmeas hl
      refine lv_iload_n hx hb dX0_lacking_4 rfl (lv_at hl 0 rfl) ?_
      refine lv_bipush (v := nI 6) hx hb dX0_lacking_5 (by decide) ?_
      refine lv_icmp_ge (tgt := 28) hx hb dX0_lacking_7 (by decide) (fun c7 => ?_) (fun c7 => ?_)
      · have c7 : 6 ≤ i := (nI_leI (a := 6) (b := i) (by omega) (by omega)).mp c7
        have hi6 : i = 6 := by omega
        refine lv_iload_n hx hb dX0_lacking_28 rfl (lv_at hl 1 rfl) ?_
        have hres : sumFrom (nI 0) (fun j => g 4 (6 * i0 + j) - g 5 (6 * i0 + j)) i = lackF g i0 := by subst hi6; rfl
        exact W.iret (v := (sumFrom (nI 0) (fun j => g 4 (6 * i0 + j) - g 5 (6 * i0 + j)) i)) hx hb hr (fun t ht _ => ⟨congrArg (fun z : Int32 => Outcome.returned (some (Value.int z))) hres, ht⟩) (fun q hq => absurd hq List.not_mem_nil) dX0_lacking_29
      · have c7 : ¬ (6 ≤ i) := fun z => c7 ((nI_leI (a := 6) (b := i) (by omega) (by omega)).mpr z)
        refine lv_iload_n hx hb dX0_lacking_10 rfl (lv_at hl 1 rfl) ?_
        refine lv_aload_n hx hb dX0_lacking_11 rfl (lv_at hl 2 rfl) ?_
        refine va_get (D := D) (ci := 1) (v := .ref (ad 2 i0)) (C := RX0) (T := TX0) (N := 4) hx hb hts qi_X0 hown hK (xP1 (hX.mach hi0)) 0 rfl rfl 1 (by decide) (hts _ q_fl_X0_11) (fun _ h9 => h9) rfl dX0_lacking_12 ?_
        refine lv_iload_n hx hb dX0_lacking_15 rfl (lv_at hl 0 rfl) ?_
        refine va_aldq hx hb hK (xP1 (hX.row hi0)) 0 3 rfl rfl (i := nI (i)) (vp_in_nI (n := i) (by omega) (by omega)) dX0_lacking_16 ?_
        refine xtopv (y := .ref (ad 3 (6 * i0 + i))) (by rw [nI_clamp (n := i) (by omega)] <;> rfl) ?_
        refine xcRi (va_runV (As := []) (rest := [.int (sumFrom (nI 0) (fun j => g 4 (6 * i0 + j) - g 5 (6 * i0 + j)) i)]) ⟨hx, hb, hml, hown, hts⟩ (c_X3_lacking l D cA e0 A s.heap ad g tt N hX (6 * i0 + i) (by omega)) ⟨(callB_of 0 hts gi_X3_lacking rfl rfl rfl (hts _ q_ini_X3) (hts _ q_ml_X0_22) hd_X3_lacking ⟨Nat.le_of_ble_eq_true rfl, Nat.le_of_ble_eq_true rfl⟩), hts _ q_im_X3_lacking, hts _ q_sel_X3_X3_lacking⟩ (xpV hE hS (hX.slot (k := 6 * i0 + i) (by omega)) rfl) rfl rfl hl.1 rfl (lv_room (Nat.le_of_ble_eq_true rfl)) dX0_lacking_17 ⟨Nat.le_of_ble_eq_true rfl, Nat.le_of_ble_eq_true rfl⟩) ?_
        refine lv_iadd hx hb dX0_lacking_20 ?_
        refine lv_istore_n (lv' := [(1, .int ((sumFrom (nI 0) (fun j => g 4 (6 * i0 + j) - g 5 (6 * i0 + j)) i) + (g 4 (6 * i0 + i) - g 5 (6 * i0 + i)))), (2, .int (nI (i))), (0, .ref (ad 1 i0))]) hx hb dX0_lacking_21 rfl hl (by decide) rfl (fun ls hl => ?_)
        refine lv_iinc (v := nI (i + 1)) (lv' := [(2, .int (nI (i + 1))), (1, .int ((sumFrom (nI 0) (fun j => g 4 (6 * i0 + j) - g 5 (6 * i0 + j)) i) + (g 4 (6 * i0 + i) - g 5 (6 * i0 + i)))), (0, .ref (ad 1 i0))]) hx hb dX0_lacking_22 hl (k := 1) rfl (nI_add i 1) (by decide) rfl (fun ls hl => ?_)
        refine lv_goto (tgt := 4) hx hb dX0_lacking_25 (by decide) ?_
        exact ih4 (i + 1) _ (by omega) (by omega) (lv_sub hl [0, 1, 2] rfl)
  exact LOOP4 _ 0 _ (by omega) (Nat.lt_succ_self _) (lv_sub hl [0, 1, 2] rfl)
set_option maxHeartbeats 4000000 in
set_option maxRecDepth 100000 in
/-- Machine.gain() -/
theorem c_X0_gain (l : Launch) (D : va_G) (cA : Nat → ClassId) (e0 : Nat) (A : Nat → Prop) (H0 : Heap) (ad : Nat → Nat → Nat) (g : Nat → Nat → Int32) (tt : Nat → Int64) (N : Nat → Nat) (hX : xW D cA ad g tt N H0) (i0 : Nat) (hi0 : i0 < N 0) : Met l yX0_gain w_X0_gain ({ frames := 1, cells := 0, slots := 0, locals := 20 } : Room) (xPc D cA e0 A H0 [.ref (ad 1 i0)]) (xR (some (.int (gainF g i0)))) 0 0 (xNo) := by
  refine Met.ofW (cc := cX0_gain) (maxL := 3) (ret := (some .int)) (by decide) rfl ?_
  intro p e s m args below meth c s₁ B hml hv
  obtain ⟨rfl, hH, hE⟩ := hv
  subst hH
  have hx := B.exec
  have hb := B.bytes
  have hr := B.returns
  have hts := hE.1.all ([.ref (ad 1 i0)] : List Value).toArray
  have hown : s.vm.findClass RX0 = some m.cls := findClass_of_methodNamed B.named
  have hlocks := B.notSynchronized
  have hK := hE.2.1
  have hS : va_S A s.heap s.heap [] := va_S.rf
  have hl := lv_entry ([.ref (ad 1 i0)]) (n := 3) (Nat.le_of_ble_eq_true rfl)
  rw [lg_entry_eq]
  generalize (lg_sl ([.ref (ad 1 i0)]) ++ List.replicate (3 - (lg_sl ([.ref (ad 1 i0)])).length) Slot.unset).toArray = ls at hl ⊢
  have hl : lv_has ls 3 [(0, .ref (ad 1 i0))] := hl
  refine lv_aload_n hx hb dX0_gain_0 rfl (lv_at hl 0 rfl) ?_
  refine va_get (D := D) (ci := 1) (v := .int (g 1 i0)) (C := RX0) (T := TX0) (N := 4) hx hb hts qi_X0 hown hK (xP1 (hX.mach hi0)) 0 rfl rfl 2 (by decide) (hts _ q_fl_X0_26) (fun _ h9 => h9) rfl dX0_gain_1 ?_
  refine lv_istore_n (lv' := [(1, .int (g 1 i0)), (0, .ref (ad 1 i0))]) hx hb dX0_gain_4 rfl hl (by decide) rfl (fun ls hl => ?_)
  refine lv_iconst (v := nI 0) hx hb dX0_gain_5 (by decide) ?_
  refine lv_istore_n (lv' := [(2, .int (nI 0)), (1, .int (g 1 i0)), (0, .ref (ad 1 i0))]) hx hb dX0_gain_6 rfl hl (by decide) rfl (fun ls hl => ?_)
  have LOOP7 : ∀ (n7 : Nat) (i : Nat) (ls : Array Slot), i ≤ 6 → (6 - i) < n7 → lv_has ls 3 [(2, .int (nI (i))), (1, .int (sumFrom (g 1 i0) (fun j => g 6 (6 * i0 + j) * (g 4 (6 * i0 + j) - g 5 (6 * i0 + j))) i)), (0, .ref (ad 1 i0))] → W p l e (headSpec w_X0_gain ({ frames := 1, cells := 0, slots := 0, locals := 20 } : Room)).room s m ([.ref (ad 1 i0)] : List Value).toArray below meth c s.heap [] 0 0 (MQ below (xR (some (.int (gainF g i0)))) ([.ref (ad 1 i0)] : List Value).toArray s 0 0 (xNo)) (F0 m 7 ls []) := by
    intro n7
    induction n7 with
    | zero => intro i ls hi hmeas hl; exact absurd hmeas (Nat.not_lt_zero _)
    | succ n7 ih7 =>
      intro i ls hi hmeas hl
      refine lv_iload_n hx hb dX0_gain_7 rfl (lv_at hl 0 rfl) ?_
      refine lv_bipush (v := nI 6) hx hb dX0_gain_8 (by decide) ?_
      refine lv_icmp_ge (tgt := 41) hx hb dX0_gain_10 (by decide) (fun c10 => ?_) (fun c10 => ?_)
      · have c10 : 6 ≤ i := (nI_leI (a := 6) (b := i) (by omega) (by omega)).mp c10
        have hi6 : i = 6 := by omega
        refine lv_iload_n hx hb dX0_gain_41 rfl (lv_at hl 1 rfl) ?_
        have hres : sumFrom (g 1 i0) (fun j => g 6 (6 * i0 + j) * (g 4 (6 * i0 + j) - g 5 (6 * i0 + j))) i = gainF g i0 := by subst hi6; rfl
        exact W.iret (v := (sumFrom (g 1 i0) (fun j => g 6 (6 * i0 + j) * (g 4 (6 * i0 + j) - g 5 (6 * i0 + j))) i)) hx hb hr (fun t ht _ => ⟨congrArg (fun z : Int32 => Outcome.returned (some (Value.int z))) hres, ht⟩) (fun q hq => absurd hq List.not_mem_nil) dX0_gain_42
      · have c10 : ¬ (6 ≤ i) := fun z => c10 ((nI_leI (a := 6) (b := i) (by omega) (by omega)).mpr z)
        refine lv_iload_n hx hb dX0_gain_13 rfl (lv_at hl 1 rfl) ?_
        refine lv_aload_n hx hb dX0_gain_14 rfl (lv_at hl 2 rfl) ?_
        refine va_get (D := D) (ci := 1) (v := .ref (ad 2 i0)) (C := RX0) (T := TX0) (N := 4) hx hb hts qi_X0 hown hK (xP1 (hX.mach hi0)) 0 rfl rfl 1 (by decide) (hts _ q_fl_X0_11) (fun _ h9 => h9) rfl dX0_gain_15 ?_
        refine lv_iload_n hx hb dX0_gain_18 rfl (lv_at hl 0 rfl) ?_
        refine va_aldq hx hb hK (xP1 (hX.row hi0)) 0 3 rfl rfl (i := nI (i)) (vp_in_nI (n := i) (by omega) (by omega)) dX0_gain_19 ?_
        refine xtopv (y := .ref (ad 3 (6 * i0 + i))) (by rw [nI_clamp (n := i) (by omega)] <;> rfl) ?_
        refine va_get (D := D) (ci := 4) (v := .int (g 6 (6 * i0 + i))) (C := RX3) (T := TX3) (N := 6) hx hb hts qi_X3 hown hK (xP1 (hX.slot (k := 6 * i0 + i) (by omega))) 0 rfl rfl 2 (by decide) (hts _ q_fl_X0_29) (fun _ h9 => h9) rfl dX0_gain_20 ?_
        refine lv_aload_n hx hb dX0_gain_23 rfl (lv_at hl 2 rfl) ?_
        refine va_get (D := D) (ci := 1) (v := .ref (ad 2 i0)) (C := RX0) (T := TX0) (N := 4) hx hb hts qi_X0 hown hK (xP1 (hX.mach hi0)) 0 rfl rfl 1 (by decide) (hts _ q_fl_X0_11) (fun _ h9 => h9) rfl dX0_gain_24 ?_
        refine lv_iload_n hx hb dX0_gain_27 rfl (lv_at hl 0 rfl) ?_
        refine va_aldq hx hb hK (xP1 (hX.row hi0)) 0 3 rfl rfl (i := nI (i)) (vp_in_nI (n := i) (by omega) (by omega)) dX0_gain_28 ?_
        refine xtopv (y := .ref (ad 3 (6 * i0 + i))) (by rw [nI_clamp (n := i) (by omega)] <;> rfl) ?_
        refine xcRi (va_runV (As := []) (rest := [.int (g 6 (6 * i0 + i)), .int (sumFrom (g 1 i0) (fun j => g 6 (6 * i0 + j) * (g 4 (6 * i0 + j) - g 5 (6 * i0 + j))) i)]) ⟨hx, hb, hml, hown, hts⟩ (c_X3_lacking l D cA e0 A s.heap ad g tt N hX (6 * i0 + i) (by omega)) ⟨(callB_of 0 hts gi_X3_lacking rfl rfl rfl (hts _ q_ini_X3) (hts _ q_ml_X0_22) hd_X3_lacking ⟨Nat.le_of_ble_eq_true rfl, Nat.le_of_ble_eq_true rfl⟩), hts _ q_im_X3_lacking, hts _ q_sel_X3_X3_lacking⟩ (xpV hE hS (hX.slot (k := 6 * i0 + i) (by omega)) rfl) rfl rfl hl.1 rfl (lv_room (Nat.le_of_ble_eq_true rfl)) dX0_gain_29 ⟨Nat.le_of_ble_eq_true rfl, Nat.le_of_ble_eq_true rfl⟩) ?_
        refine lv_imul hx hb dX0_gain_32 ?_
        refine lv_iadd hx hb dX0_gain_33 ?_
        refine lv_istore_n (lv' := [(1, .int ((sumFrom (g 1 i0) (fun j => g 6 (6 * i0 + j) * (g 4 (6 * i0 + j) - g 5 (6 * i0 + j))) i) + ((g 6 (6 * i0 + i)) * (g 4 (6 * i0 + i) - g 5 (6 * i0 + i))))), (2, .int (nI (i))), (0, .ref (ad 1 i0))]) hx hb dX0_gain_34 rfl hl (by decide) rfl (fun ls hl => ?_)
        refine lv_iinc (v := nI (i + 1)) (lv' := [(2, .int (nI (i + 1))), (1, .int ((sumFrom (g 1 i0) (fun j => g 6 (6 * i0 + j) * (g 4 (6 * i0 + j) - g 5 (6 * i0 + j))) i) + ((g 6 (6 * i0 + i)) * (g 4 (6 * i0 + i) - g 5 (6 * i0 + i))))), (0, .ref (ad 1 i0))]) hx hb dX0_gain_35 hl (k := 1) rfl (nI_add i 1) (by decide) rfl (fun ls hl => ?_)
        refine lv_goto (tgt := 7) hx hb dX0_gain_38 (by decide) ?_
        exact ih7 (i + 1) _ (by omega) (by omega) (lv_sub hl [0, 1, 2] rfl)
  exact LOOP7 _ 0 _ (by omega) (Nat.lt_succ_self _) (lv_sub hl [0, 1, 2] rfl)
set_option maxHeartbeats 4000000 in
set_option maxRecDepth 100000 in
/-- Machine.visitTime() -/
theorem c_X0_visitTime (l : Launch) (D : va_G) (cA : Nat → ClassId) (e0 : Nat) (A : Nat → Prop) (H0 : Heap) (ad : Nat → Nat → Nat) (g : Nat → Nat → Int32) (tt : Nat → Int64) (N : Nat → Nat) (hX : xW D cA ad g tt N H0) (i0 : Nat) (hi0 : i0 < N 0) : Met l yX0_visitTime w_X0_visitTime ({ frames := 2, cells := 0, slots := 0, locals := 42 } : Room) (xPc D cA e0 A H0 [.ref (ad 1 i0)]) (xR (some (.int (vtF g i0)))) 0 0 (xNo) := by
  refine Met.ofW (cc := cX0_visitTime) (maxL := 1) (ret := (some .int)) (by decide) rfl ?_
  intro p e s m args below meth c s₁ B hml hv
  obtain ⟨rfl, hH, hE⟩ := hv
  subst hH
  have hx := B.exec
  have hb := B.bytes
  have hr := B.returns
  have hts := hE.1.all ([.ref (ad 1 i0)] : List Value).toArray
  have hown : s.vm.findClass RX0 = some m.cls := findClass_of_methodNamed B.named
  have hlocks := B.notSynchronized
  have hK := hE.2.1
  have hS : va_S A s.heap s.heap [] := va_S.rf
  have hl := lv_entry ([.ref (ad 1 i0)]) (n := 1) (Nat.le_of_ble_eq_true rfl)
  rw [lg_entry_eq]
  generalize (lg_sl ([.ref (ad 1 i0)]) ++ List.replicate (1 - (lg_sl ([.ref (ad 1 i0)])).length) Slot.unset).toArray = ls at hl ⊢
  have hl : lv_has ls 1 [(0, .ref (ad 1 i0))] := hl
  refine lv_iconst (v := nI 3) hx hb dX0_visitTime_0 (by decide) ?_
  refine lv_aload_n hx hb dX0_visitTime_1 rfl (lv_at hl 0 rfl) ?_
  refine xcRi (va_runV (As := []) (rest := [.int (nI 3)]) ⟨hx, hb, hml, hown, hts⟩ (c_X0_lacking l D cA e0 A s.heap ad g tt N hX i0 hi0) ⟨(callB_of 0 hts gi_X0_lacking rfl rfl rfl (hts _ q_ini_X0) (hts _ q_ml_X0_32) hd_X0_lacking ⟨Nat.le_of_ble_eq_true rfl, Nat.le_of_ble_eq_true rfl⟩), hts _ q_im_X0_lacking, hts _ q_sel_X0_X0_lacking⟩ (xpV hE hS (hX.mach hi0) rfl) rfl rfl hl.1 rfl (lv_room (Nat.le_of_ble_eq_true rfl)) dX0_visitTime_2 ⟨Nat.le_of_ble_eq_true rfl, Nat.le_of_ble_eq_true rfl⟩) ?_
  refine lv_iconst (v := nI 4) hx hb dX0_visitTime_5 (by decide) ?_
  refine lv_iadd hx hb dX0_visitTime_6 ?_
  refine lv_iconst (v := nI 5) hx hb dX0_visitTime_7 (by decide) ?_
  refine lv_idiv hx hb dX0_visitTime_8 (by decide) ?_
  refine lv_iadd hx hb dX0_visitTime_9 ?_
  exact W.iret (v := ((nI 3) + (((lackF g i0) + (nI 4)) / (nI 5)))) hx hb hr (fun t ht _ => ⟨rfl, ht⟩) (fun q hq => absurd hq List.not_mem_nil) dX0_visitTime_10
theorem machF_0 (g : Nat → Nat → Int32) (i : Nat) : machF g i 0 = g 1 i := rfl
theorem machF_1 (g : Nat → Nat → Int32) (i : Nat) : machF g i 1 = g 0 i := rfl
theorem machF_2 (g : Nat → Nat → Int32) (i : Nat) : machF g i 2 = lackF g i := rfl
theorem machF_3 (g : Nat → Nat → Int32) (i : Nat) : machF g i 3 = gainF g i := rfl
theorem machF_4 (g : Nat → Nat → Int32) (i : Nat) : machF g i 4 = g 2 i := rfl
set_option maxHeartbeats 4000000 in
set_option maxRecDepth 100000 in
/-- Machine.fact(w) -/
theorem c_X0_fact (l : Launch) (D : va_G) (cA : Nat → ClassId) (e0 : Nat) (A : Nat → Prop) (H0 : Heap) (ad : Nat → Nat → Nat) (g : Nat → Nat → Int32) (tt : Nat → Int64) (N : Nat → Nat) (hX : xW D cA ad g tt N H0) (i0 : Nat) (hi0 : i0 < N 0) (w : Nat) (hw : w < 5) : Met l yX0_fact w_X0_fact ({ frames := 2, cells := 0, slots := 0, locals := 42 } : Room) (xPc D cA e0 A H0 [.ref (ad 1 i0), .int (nI (w))]) (xR (some (.int (machF g i0 w)))) 0 0 (xNo) := by
  refine Met.ofW (cc := cX0_fact) (maxL := 2) (ret := (some .int)) (by decide) rfl ?_
  intro p e s m args below meth c s₁ B hml hv
  obtain ⟨rfl, hH, hE⟩ := hv
  subst hH
  have hx := B.exec
  have hb := B.bytes
  have hr := B.returns
  have hts := hE.1.all ([.ref (ad 1 i0), .int (nI (w))] : List Value).toArray
  have hown : s.vm.findClass RX0 = some m.cls := findClass_of_methodNamed B.named
  have hlocks := B.notSynchronized
  have hK := hE.2.1
  have hS : va_S A s.heap s.heap [] := va_S.rf
  have hl := lv_entry ([.ref (ad 1 i0), .int (nI (w))]) (n := 2) (Nat.le_of_ble_eq_true rfl)
  rw [lg_entry_eq]
  generalize (lg_sl ([.ref (ad 1 i0), .int (nI (w))]) ++ List.replicate (2 - (lg_sl ([.ref (ad 1 i0), .int (nI (w))])).length) Slot.unset).toArray = ls at hl ⊢
  have hl : lv_has ls 2 [(0, .ref (ad 1 i0)), (1, .int (nI (w)))] := hl
  refine lv_iload_n hx hb dX0_fact_0 rfl (lv_at hl 1 rfl) ?_
  by_cases hw0 : w = 0
  · subst hw0
    refine lv_tableIn (tgt := 32) (off := 31) hx hb dX0_fact_1 (by decide) (by decide) (by decide) (by decide) ?_
    refine lv_aload_n hx hb dX0_fact_32 rfl (lv_at hl 0 rfl) ?_
    refine va_get (D := D) (ci := 1) (v := .int (g 1 i0)) (C := RX0) (T := TX0) (N := 4) hx hb hts qi_X0 hown hK (xP1 (hX.mach hi0)) 0 rfl rfl 2 (by decide) (hts _ q_fl_X0_26) (fun _ h9 => h9) rfl dX0_fact_33 ?_
    have hres : g 1 i0 = machF g i0 0 := (machF_0 g i0).symm
    exact W.iret (v := (g 1 i0)) hx hb hr (fun t ht _ => ⟨congrArg (fun z : Int32 => Outcome.returned (some (Value.int z))) hres, ht⟩) (fun q hq => absurd hq List.not_mem_nil) dX0_fact_36
  by_cases hw1 : w = 1
  · subst hw1
    refine lv_tableIn (tgt := 37) (off := 36) hx hb dX0_fact_1 (by decide) (by decide) (by decide) (by decide) ?_
    refine lv_aload_n hx hb dX0_fact_37 rfl (lv_at hl 0 rfl) ?_
    refine va_get (D := D) (ci := 1) (v := .int (g 0 i0)) (C := RX0) (T := TX0) (N := 4) hx hb hts qi_X0 hown hK (xP1 (hX.mach hi0)) 0 rfl rfl 0 (by decide) (hts _ q_fl_X0_17) (fun _ h9 => h9) rfl dX0_fact_38 ?_
    have hres : g 0 i0 = machF g i0 1 := (machF_1 g i0).symm
    exact W.iret (v := (g 0 i0)) hx hb hr (fun t ht _ => ⟨congrArg (fun z : Int32 => Outcome.returned (some (Value.int z))) hres, ht⟩) (fun q hq => absurd hq List.not_mem_nil) dX0_fact_41
  by_cases hw2 : w = 2
  · subst hw2
    refine lv_tableIn (tgt := 42) (off := 41) hx hb dX0_fact_1 (by decide) (by decide) (by decide) (by decide) ?_
    refine lv_aload_n hx hb dX0_fact_42 rfl (lv_at hl 0 rfl) ?_
    refine xcRi (va_runV (As := []) (rest := []) ⟨hx, hb, hml, hown, hts⟩ (c_X0_lacking l D cA e0 A s.heap ad g tt N hX i0 hi0) ⟨(callB_of 0 hts gi_X0_lacking rfl rfl rfl (hts _ q_ini_X0) (hts _ q_ml_X0_32) hd_X0_lacking ⟨Nat.le_of_ble_eq_true rfl, Nat.le_of_ble_eq_true rfl⟩), hts _ q_im_X0_lacking, hts _ q_sel_X0_X0_lacking⟩ (xpV hE hS (hX.mach hi0) rfl) rfl rfl hl.1 rfl (lv_room (Nat.le_of_ble_eq_true rfl)) dX0_fact_43 ⟨Nat.le_of_ble_eq_true rfl, Nat.le_of_ble_eq_true rfl⟩) ?_
    have hres : lackF g i0 = machF g i0 2 := (machF_2 g i0).symm
    exact W.iret (v := (lackF g i0)) hx hb hr (fun t ht _ => ⟨congrArg (fun z : Int32 => Outcome.returned (some (Value.int z))) hres, ht⟩) (fun q hq => absurd hq List.not_mem_nil) dX0_fact_46
  by_cases hw3 : w = 3
  · subst hw3
    refine lv_tableIn (tgt := 47) (off := 46) hx hb dX0_fact_1 (by decide) (by decide) (by decide) (by decide) ?_
    refine lv_aload_n hx hb dX0_fact_47 rfl (lv_at hl 0 rfl) ?_
    refine xcRi (va_runV (As := []) (rest := []) ⟨hx, hb, hml, hown, hts⟩ (c_X0_gain l D cA e0 A s.heap ad g tt N hX i0 hi0) ⟨(callB_of 0 hts gi_X0_gain rfl rfl rfl (hts _ q_ini_X0) (hts _ q_ml_X0_33) hd_X0_gain ⟨Nat.le_of_ble_eq_true rfl, Nat.le_of_ble_eq_true rfl⟩), hts _ q_im_X0_gain, hts _ q_sel_X0_X0_gain⟩ (xpV hE hS (hX.mach hi0) rfl) rfl rfl hl.1 rfl (lv_room (Nat.le_of_ble_eq_true rfl)) dX0_fact_48 ⟨Nat.le_of_ble_eq_true rfl, Nat.le_of_ble_eq_true rfl⟩) ?_
    have hres : gainF g i0 = machF g i0 3 := (machF_3 g i0).symm
    exact W.iret (v := (gainF g i0)) hx hb hr (fun t ht _ => ⟨congrArg (fun z : Int32 => Outcome.returned (some (Value.int z))) hres, ht⟩) (fun q hq => absurd hq List.not_mem_nil) dX0_fact_51
  refine lv_tableOut (tgt := 52) hx hb dX0_fact_1 (Or.inr (by rw [nI_toInt (by omega)]; omega)) (by decide) ?_
  refine lv_aload_n hx hb dX0_fact_52 rfl (lv_at hl 0 rfl) ?_
  refine va_get (D := D) (ci := 1) (v := .int (g 2 i0)) (C := RX0) (T := TX0) (N := 4) hx hb hts qi_X0 hown hK (xP1 (hX.mach hi0)) 0 rfl rfl 3 (by decide) (hts _ q_fl_X0_36) (fun _ h9 => h9) rfl dX0_fact_53 ?_
  have hres : g 2 i0 = machF g i0 w := by rw [show w = 4 by omega, machF_4]
  exact W.iret (v := (g 2 i0)) hx hb hr (fun t ht _ => ⟨congrArg (fun z : Int32 => Outcome.returned (some (Value.int z))) hres, ht⟩) (fun q hq => absurd hq List.not_mem_nil) dX0_fact_56
end
section
/-! Lists read; ways read; sums over a set (by p11.py) -/
set_option maxHeartbeats 4000000 in
set_option maxRecDepth 100000 in
/-- ArrayList.size() -/
theorem c_Jx4a65c_size_8abf5 (l : Launch) (D : va_G) (cA : Nat → ClassId) (e0 : Nat) (A : Nat → Prop) (H0 : Heap) (a0 : Nat) (mc0 : Int32) (dr : Nat) (sz : Int32) (hL : va_at D vwCl (a0, .inr (0, [.int mc0, .ref dr, .int sz])) H0) : Met l yJx4a65c_size_8abf5 w_Jx4a65c_size_8abf5 ({ frames := 0, cells := 0, slots := 0, locals := 0 } : Room) (xPc D cA e0 A H0 [.ref (a0)]) (xR (some (.int sz))) 0 0 (xNo) := by
  refine Met.ofW (cc := cJx4a65c_size_8abf5) (maxL := 1) (ret := (some .int)) (by decide) rfl ?_
  intro p e s m args below meth c s₁ B hml hv
  obtain ⟨rfl, hH, hE⟩ := hv
  subst hH
  have hx := B.exec
  have hb := B.bytes
  have hr := B.returns
  have hts := hE.1.all ([.ref (a0)] : List Value).toArray
  have hown : s.vm.findClass RJx4a65c = some m.cls := findClass_of_methodNamed B.named
  have hlocks := B.notSynchronized
  have hK := hE.2.1
  have hS : va_S A s.heap s.heap [] := va_S.rf
  have hl := lv_entry ([.ref (a0)]) (n := 1) (Nat.le_of_ble_eq_true rfl)
  rw [lg_entry_eq]
  generalize (lg_sl ([.ref (a0)]) ++ List.replicate (1 - (lg_sl ([.ref (a0)])).length) Slot.unset).toArray = ls at hl ⊢
  have hl : lv_has ls 1 [(0, .ref (a0))] := hl
  refine lv_aload_n hx hb dJx4a65c_size_8abf5_0 rfl (lv_at hl 0 rfl) ?_
  refine va_get (D := D) (ci := 0) (v := .int (sz)) (C := RJx4a65c) (T := TJx4a65c) (N := 3) hx hb hts qi_Jx4a65c hown hK (xP1 hL) 0 rfl rfl 2 (by decide) (hts _ q_fl_Jx4a65c_48) (fun _ h9 => h9) rfl dJx4a65c_size_8abf5_1 ?_
  exact W.iret (v := sz) hx hb hr (fun t ht _ => ⟨rfl, ht⟩) (fun q hq => absurd hq List.not_mem_nil) dJx4a65c_size_8abf5_4
set_option maxHeartbeats 4000000 in
set_option maxRecDepth 100000 in
/-- ArrayList.elementData(i) -/
theorem c_Jx4a65c_elementData_915e3 (l : Launch) (D : va_G) (cA : Nat → ClassId) (e0 : Nat) (A : Nat → Prop) (H0 : Heap) (a0 : Nat) (mc0 : Int32) (dr : Nat) (sz : Int32) (hL : va_at D vwCl (a0, .inr (0, [.int mc0, .ref dr, .int sz])) H0) (cap : Nat) (f : Nat → Option Nat) (hF : va_at D vwCl (dr, .inl (cA 2, cap, .inr (.inr (.inr (.inr f))))) H0) (i q0 : Nat) (hi : i < cap) (hc : cap < 2 ^ 31) (hq : f i = some q0) : Met l yJx4a65c_elementData_915e3 w_Jx4a65c_elementData_915e3 ({ frames := 0, cells := 0, slots := 0, locals := 0 } : Room) (xPc D cA e0 A H0 [.ref (a0), .int (nI (i))]) (xR (some (.ref q0))) 0 0 (xNo) := by
  refine Met.ofW (cc := cJx4a65c_elementData_915e3) (maxL := 2) (ret := (some (.object "java/lang/Object"))) (by decide) rfl ?_
  intro p e s m args below meth c s₁ B hml hv
  obtain ⟨rfl, hH, hE⟩ := hv
  subst hH
  have hx := B.exec
  have hb := B.bytes
  have hr := B.returns
  have hts := hE.1.all ([.ref (a0), .int (nI (i))] : List Value).toArray
  have hown : s.vm.findClass RJx4a65c = some m.cls := findClass_of_methodNamed B.named
  have hlocks := B.notSynchronized
  have hK := hE.2.1
  have hS : va_S A s.heap s.heap [] := va_S.rf
  have hl := lv_entry ([.ref (a0), .int (nI (i))]) (n := 2) (Nat.le_of_ble_eq_true rfl)
  rw [lg_entry_eq]
  generalize (lg_sl ([.ref (a0), .int (nI (i))]) ++ List.replicate (2 - (lg_sl ([.ref (a0), .int (nI (i))])).length) Slot.unset).toArray = ls at hl ⊢
  have hl : lv_has ls 2 [(0, .ref (a0)), (1, .int (nI (i)))] := hl
  refine lv_aload_n hx hb dJx4a65c_elementData_915e3_0 rfl (lv_at hl 0 rfl) ?_
  refine va_get (D := D) (ci := 0) (v := .ref (dr)) (C := RJx4a65c) (T := TJx4a65c) (N := 3) hx hb hts qi_Jx4a65c hown hK (xP1 hL) 0 rfl rfl 1 (by decide) (hts _ q_fl_Jx4a65c_9) (fun _ h9 => h9) rfl dJx4a65c_elementData_915e3_1 ?_
  refine lv_iload_n hx hb dJx4a65c_elementData_915e3_4 rfl (lv_at hl 1 rfl) ?_
  refine va_aldq hx hb hK (xP1 hF) 0 2 rfl rfl (i := nI (i)) (vp_in_nI (n := i) (by omega) (by omega)) dJx4a65c_elementData_915e3_5 ?_
  refine xtopv (y := .ref (q0)) (by rw [nI_clamp (n := i) (by omega), hq] <;> rfl) ?_
  exact W.aret (v := .ref q0) hx hb hr (Or.inl ⟨_, rfl⟩) (Or.inr ⟨_, rfl⟩) (fun t ht _ => ⟨rfl, ht⟩) (fun q hq => absurd hq List.not_mem_nil) dJx4a65c_elementData_915e3_6
set_option maxHeartbeats 4000000 in
set_option maxRecDepth 100000 in
/-- Preconditions.checkIndex(i, n, null) in range -/
theorem c_J3_checkIndex_8e157 (l : Launch) (D : va_G) (cA : Nat → ClassId) (e0 : Nat) (A : Nat → Prop) (H0 : Heap) (i n : Nat) (hi : i < n) (hn : n < 2 ^ 31) : Met l yJ3_checkIndex_8e157 w_J3_checkIndex_8e157 ({ frames := 0, cells := 0, slots := 0, locals := 0 } : Room) (xPc D cA e0 A H0 [.int (nI (i)), .int (nI (n)), .null]) (xR (some (.int (nI i)))) 0 0 (xNo) := by
  refine Met.ofW (cc := cJ3_checkIndex_8e157) (maxL := 3) (ret := (some .int)) (by decide) rfl ?_
  intro p e s m args below meth c s₁ B hml hv
  obtain ⟨rfl, hH, hE⟩ := hv
  subst hH
  have hx := B.exec
  have hb := B.bytes
  have hr := B.returns
  have hts := hE.1.all ([.int (nI (i)), .int (nI (n)), .null] : List Value).toArray
  have hown : s.vm.findClass RJ3 = some m.cls := findClass_of_methodNamed B.named
  have hlocks := B.notSynchronized
  have hK := hE.2.1
  have hS : va_S A s.heap s.heap [] := va_S.rf
  have hl := lv_entry ([.int (nI (i)), .int (nI (n)), .null]) (n := 3) (Nat.le_of_ble_eq_true rfl)
  rw [lg_entry_eq]
  generalize (lg_sl ([.int (nI (i)), .int (nI (n)), .null]) ++ List.replicate (3 - (lg_sl ([.int (nI (i)), .int (nI (n)), .null])).length) Slot.unset).toArray = ls at hl ⊢
  have hl : lv_has ls 3 [(0, .int (nI (i))), (1, .int (nI (n))), (2, .null)] := hl
  refine lv_iload_n hx hb dJ3_checkIndex_8e157_0 rfl (lv_at hl 0 rfl) ?_
  refine lv_if_lt (tgt := 9) hx hb dJ3_checkIndex_8e157_1 (by decide) (fun hno => absurd hno (nI_pos (by omega))) (fun _ => ?_)
  refine lv_iload_n hx hb dJ3_checkIndex_8e157_4 rfl (lv_at hl 0 rfl) ?_
  refine lv_iload_n hx hb dJ3_checkIndex_8e157_5 rfl (lv_at hl 1 rfl) ?_
  refine lv_icmp_lt (tgt := 16) hx hb dJ3_checkIndex_8e157_6 (by decide) (fun _ => ?_) (fun hno => absurd (nI_lt hi (by omega)) hno)
  refine lv_iload_n hx hb dJ3_checkIndex_8e157_16 rfl (lv_at hl 0 rfl) ?_
  exact W.iret (v := (nI (i))) hx hb hr (fun t ht _ => ⟨rfl, ht⟩) (fun q hq => absurd hq List.not_mem_nil) dJ3_checkIndex_8e157_17
set_option maxHeartbeats 4000000 in
set_option maxRecDepth 100000 in
/-- Objects.checkIndex(i, n) in range -/
theorem c_J15_checkIndex_7cf53 (l : Launch) (D : va_G) (cA : Nat → ClassId) (e0 : Nat) (A : Nat → Prop) (H0 : Heap) (i n : Nat) (hi : i < n) (hn : n < 2 ^ 31) : Met l yJ15_checkIndex_7cf53 w_J15_checkIndex_7cf53 ({ frames := 1, cells := 0, slots := 0, locals := 22 } : Room) (xPc D cA e0 A H0 [.int (nI (i)), .int (nI (n))]) (xR (some (.int (nI i)))) 0 0 (xNo) := by
  refine Met.ofW (cc := cJ15_checkIndex_7cf53) (maxL := 2) (ret := (some .int)) (by decide) rfl ?_
  intro p e s m args below meth c s₁ B hml hv
  obtain ⟨rfl, hH, hE⟩ := hv
  subst hH
  have hx := B.exec
  have hb := B.bytes
  have hr := B.returns
  have hts := hE.1.all ([.int (nI (i)), .int (nI (n))] : List Value).toArray
  have hown : s.vm.findClass RJ15 = some m.cls := findClass_of_methodNamed B.named
  have hlocks := B.notSynchronized
  have hK := hE.2.1
  have hS : va_S A s.heap s.heap [] := va_S.rf
  have hl := lv_entry ([.int (nI (i)), .int (nI (n))]) (n := 2) (Nat.le_of_ble_eq_true rfl)
  rw [lg_entry_eq]
  generalize (lg_sl ([.int (nI (i)), .int (nI (n))]) ++ List.replicate (2 - (lg_sl ([.int (nI (i)), .int (nI (n))])).length) Slot.unset).toArray = ls at hl ⊢
  have hl : lv_has ls 2 [(0, .int (nI (i))), (1, .int (nI (n)))] := hl
  refine lv_iload_n hx hb dJ15_checkIndex_7cf53_0 rfl (lv_at hl 0 rfl) ?_
  refine lv_iload_n hx hb dJ15_checkIndex_7cf53_1 rfl (lv_at hl 1 rfl) ?_
  refine lv_null hx hb dJ15_checkIndex_7cf53_2 ?_
  refine xcRi (va_runS (As := [.int (nI (i)), .int (nI (n)), .null]) (rest := []) ⟨hx, hb, hml, hown, hts⟩ (c_J3_checkIndex_8e157 l D cA e0 A s.heap i n hi hn) ⟨(callB_of 3 hts gi_J3_checkIndex_8e157 rfl rfl rfl (hts _ q_ini_J3) (hts _ q_ml_J15_105) hd_J3_checkIndex_8e157 ⟨Nat.le_of_ble_eq_true rfl, Nat.le_of_ble_eq_true rfl⟩), hts _ q_st_J3_checkIndex_8e157⟩ (xpS hE hS) rfl rfl hl.1 rfl (lv_room (Nat.le_of_ble_eq_true rfl)) dJ15_checkIndex_7cf53_3 ⟨Nat.le_of_ble_eq_true rfl, Nat.le_of_ble_eq_true rfl⟩) ?_
  exact W.iret (v := (nI (i))) hx hb hr (fun t ht _ => ⟨rfl, ht⟩) (fun q hq => absurd hq List.not_mem_nil) dJ15_checkIndex_7cf53_6
set_option maxHeartbeats 4000000 in
set_option maxRecDepth 100000 in
/-- ArrayList.get(i) -/
theorem c_Jx4a65c_get_915e3 (l : Launch) (D : va_G) (cA : Nat → ClassId) (e0 : Nat) (A : Nat → Prop) (H0 : Heap) (a0 : Nat) (mc0 : Int32) (dr : Nat) (n : Nat) (hL : va_at D vwCl (a0, .inr (0, [.int mc0, .ref dr, .int (nI n)])) H0) (cap : Nat) (f : Nat → Option Nat) (hF : va_at D vwCl (dr, .inl (cA 2, cap, .inr (.inr (.inr (.inr f))))) H0) (i q0 : Nat) (hi : i < n) (hn : n ≤ cap) (hc : cap < 2 ^ 31) (hq : f i = some q0) : Met l yJx4a65c_get_915e3 w_Jx4a65c_get_915e3 ({ frames := 2, cells := 0, slots := 0, locals := 43 } : Room) (xPc D cA e0 A H0 [.ref (a0), .int (nI (i))]) (xR (some (.ref q0))) 0 0 (xNo) := by
  refine Met.ofW (cc := cJx4a65c_get_915e3) (maxL := 2) (ret := (some (.object "java/lang/Object"))) (by decide) rfl ?_
  intro p e s m args below meth c s₁ B hml hv
  obtain ⟨rfl, hH, hE⟩ := hv
  subst hH
  have hx := B.exec
  have hb := B.bytes
  have hr := B.returns
  have hts := hE.1.all ([.ref (a0), .int (nI (i))] : List Value).toArray
  have hown : s.vm.findClass RJx4a65c = some m.cls := findClass_of_methodNamed B.named
  have hlocks := B.notSynchronized
  have hK := hE.2.1
  have hS : va_S A s.heap s.heap [] := va_S.rf
  have hl := lv_entry ([.ref (a0), .int (nI (i))]) (n := 2) (Nat.le_of_ble_eq_true rfl)
  rw [lg_entry_eq]
  generalize (lg_sl ([.ref (a0), .int (nI (i))]) ++ List.replicate (2 - (lg_sl ([.ref (a0), .int (nI (i))])).length) Slot.unset).toArray = ls at hl ⊢
  have hl : lv_has ls 2 [(0, .ref (a0)), (1, .int (nI (i)))] := hl
  refine lv_iload_n hx hb dJx4a65c_get_915e3_0 rfl (lv_at hl 1 rfl) ?_
  refine lv_aload_n hx hb dJx4a65c_get_915e3_1 rfl (lv_at hl 0 rfl) ?_
  refine va_get (D := D) (ci := 0) (v := .int (nI (n))) (C := RJx4a65c) (T := TJx4a65c) (N := 3) hx hb hts qi_Jx4a65c hown hK (xP1 hL) 0 rfl rfl 2 (by decide) (hts _ q_fl_Jx4a65c_48) (fun _ h9 => h9) rfl dJx4a65c_get_915e3_2 ?_
  refine xcRi (va_runS (As := [.int (nI (i)), .int (nI (n))]) (rest := []) ⟨hx, hb, hml, hown, hts⟩ (c_J15_checkIndex_7cf53 l D cA e0 A s.heap i n hi (by omega)) ⟨(callB_of 2 hts gi_J15_checkIndex_7cf53 rfl rfl rfl (hts _ q_ini_J15) (hts _ q_ml_Jx4a65c_118) hd_J15_checkIndex_7cf53 ⟨Nat.le_of_ble_eq_true rfl, Nat.le_of_ble_eq_true rfl⟩), hts _ q_st_J15_checkIndex_7cf53⟩ (xpS hE hS) rfl rfl hl.1 rfl (lv_room (Nat.le_of_ble_eq_true rfl)) dJx4a65c_get_915e3_5 ⟨Nat.le_of_ble_eq_true rfl, Nat.le_of_ble_eq_true rfl⟩) ?_
  refine lv_pop hx hb dJx4a65c_get_915e3_8 rfl ?_
  refine lv_aload_n hx hb dJx4a65c_get_915e3_9 rfl (lv_at hl 0 rfl) ?_
  refine lv_iload_n hx hb dJx4a65c_get_915e3_10 rfl (lv_at hl 1 rfl) ?_
  refine xcRr (va_runV (As := [.int (nI (i))]) (rest := []) ⟨hx, hb, hml, hown, hts⟩ (c_Jx4a65c_elementData_915e3 l D cA e0 A s.heap a0 mc0 dr (nI n) hL cap f hF i q0 (by omega) hc hq) ⟨(callB_of 1 hts gi_Jx4a65c_elementData_915e3 rfl rfl rfl (hts _ q_ini_Jx4a65c) (hts _ q_ml_Jx4a65c_123) hd_Jx4a65c_elementData_915e3 ⟨Nat.le_of_ble_eq_true rfl, Nat.le_of_ble_eq_true rfl⟩), hts _ q_im_Jx4a65c_elementData_915e3, hts _ q_sel_Jx4a65c_Jx4a65c_elementData_915e3⟩ (xpV hE hS hL rfl) rfl rfl hl.1 rfl (lv_room (Nat.le_of_ble_eq_true rfl)) dJx4a65c_get_915e3_11 ⟨Nat.le_of_ble_eq_true rfl, Nat.le_of_ble_eq_true rfl⟩) ?_
  exact W.aret (v := .ref q0) hx hb hr (Or.inl ⟨_, rfl⟩) (Or.inr ⟨_, rfl⟩) (fun t ht _ => ⟨rfl, ht⟩) (fun q hq => absurd hq List.not_mem_nil) dJx4a65c_get_915e3_14
set_option maxHeartbeats 4000000 in
set_option maxRecDepth 100000 in
/-- Roads.between(a, b) -/
theorem c_X2_between (l : Launch) (D : va_G) (cA : Nat → ClassId) (e0 : Nat) (A : Nat → Prop) (H0 : Heap) (ad : Nat → Nat → Nat) (g : Nat → Nat → Int32) (tt : Nat → Int64) (N : Nat → Nat) (hX : xW D cA ad g tt N H0) (a b : Int32) (pa pb : Nat) (ha : isPl a pa) (hb9 : isPl b pb) : Met l yX2_between w_X2_between ({ frames := 0, cells := 0, slots := 0, locals := 0 } : Room) (xPc D cA e0 A H0 [.ref (ad 0 3), .int (a), .int (b)]) (xR (some (.int (wy g pa pb)))) 0 0 (xNo) := by
  refine Met.ofW (cc := cX2_between) (maxL := 3) (ret := (some .int)) (by decide) rfl ?_
  intro p e s m args below meth c s₁ B hml hv
  obtain ⟨rfl, hH, hE⟩ := hv
  subst hH
  have hx := B.exec
  have hb := B.bytes
  have hr := B.returns
  have hts := hE.1.all ([.ref (ad 0 3), .int (a), .int (b)] : List Value).toArray
  have hown : s.vm.findClass RX2 = some m.cls := findClass_of_methodNamed B.named
  have hlocks := B.notSynchronized
  have hK := hE.2.1
  have hS : va_S A s.heap s.heap [] := va_S.rf
  have hl := lv_entry ([.ref (ad 0 3), .int (a), .int (b)]) (n := 3) (Nat.le_of_ble_eq_true rfl)
  rw [lg_entry_eq]
  generalize (lg_sl ([.ref (ad 0 3), .int (a), .int (b)]) ++ List.replicate (3 - (lg_sl ([.ref (ad 0 3), .int (a), .int (b)])).length) Slot.unset).toArray = ls at hl ⊢
  have hl : lv_has ls 3 [(0, .ref (ad 0 3)), (1, .int (a)), (2, .int (b))] := hl
  have ha8 := ha.1
  have hb8 := hb9.1
  refine lv_aload_n hx hb dX2_between_0 rfl (lv_at hl 0 rfl) ?_
  refine va_get (D := D) (ci := 3) (v := .ref (ad 0 7)) (C := RX2) (T := TX2) (N := 2) hx hb hts qi_X2 hown hK (xP1 (hX.roads)) 0 rfl rfl 0 (by decide) (hts _ q_fl_X2_11) (fun _ h9 => h9) rfl dX2_between_1 ?_
  refine lv_iload_n hx hb dX2_between_4 rfl (lv_at hl 1 rfl) ?_
  refine lv_iconst (v := nI 1) hx hb dX2_between_5 (by decide) ?_
  refine lv_iadd hx hb dX2_between_6 ?_
  refine xtop (show a + (nI 1) = nI ((pa + 1) % 9) from ha.2) ?_
  refine lv_bipush (v := nI 9) hx hb dX2_between_7 (by decide) ?_
  refine lv_imul hx hb dX2_between_9 ?_
  refine xtop (show (nI ((pa + 1) % 9)) * (nI 9) = nI (((pa + 1) % 9) * 9) from pk_mul ((pa + 1) % 9) 9) ?_
  refine lv_iload_n hx hb dX2_between_10 rfl (lv_at hl 2 rfl) ?_
  refine lv_iadd hx hb dX2_between_11 ?_
  refine lv_iconst (v := nI 1) hx hb dX2_between_12 (by decide) ?_
  refine lv_iadd hx hb dX2_between_13 ?_
  refine xtop (show ((nI (((pa + 1) % 9) * 9)) + b) + (nI 1) = nI ((pa + 1) % 9 * 9 + (pb + 1) % 9) from pl_ix ha hb9) ?_
  refine va_iald hx hb hK (xP1 (hX.mi)) 0 0 rfl rfl (i := nI ((pa + 1) % 9 * 9 + (pb + 1) % 9)) (vp_in_nI (n := (pa + 1) % 9 * 9 + (pb + 1) % 9) (by omega) (by omega)) dX2_between_14 ?_
  refine xtop (show (fun z => g 3 (xpm z)) (nI ((pa + 1) % 9 * 9 + (pb + 1) % 9)).toNatClampNeg = wy g pa pb from by
      rw [nI_clamp (n := (pa + 1) % 9 * 9 + (pb + 1) % 9) (by omega)]
      show g 3 (xpm ((pa + 1) % 9 * 9 + (pb + 1) % 9)) = _
      rw [xpm_pl ha8 hb8]
      rfl) ?_
  exact W.iret (v := (wy g pa pb)) hx hb hr (fun t ht _ => ⟨rfl, ht⟩) (fun q hq => absurd hq List.not_mem_nil) dX2_between_15
set_option maxHeartbeats 4000000 in
set_option maxRecDepth 100000 in
/-- Roads.leastBy(a, m, S) -/
theorem c_X2_leastBy (l : Launch) (D : va_G) (cA : Nat → ClassId) (e0 : Nat) (A : Nat → Prop) (H0 : Heap) (ad : Nat → Nat → Nat) (g : Nat → Nat → Int32) (tt : Nat → Int64) (N : Nat → Nat) (hX : xW D cA ad g tt N H0) (a : Int32) (pa m1 S : Nat) (ha : isPl a pa) (hm1 : m1 < 8) (hSt : S < 256) (hbit : S.testBit m1 = true) (hh : hwOK g S) : Met l yX2_leastBy w_X2_leastBy ({ frames := 1, cells := 0, slots := 0, locals := 22 } : Room) (xPc D cA e0 A H0 [.ref (ad 0 3), .int (a), .int (nI (m1)), .int (nI (S))]) (xR (some (.int (wy g pa m1 + tw (wy g) (S - 2 ^ m1) m1)))) 0 0 (xNo) := by
  refine Met.ofW (cc := cX2_leastBy) (maxL := 4) (ret := (some .int)) (by decide) rfl ?_
  intro p e s m args below meth c s₁ B hml hv
  obtain ⟨rfl, hH, hE⟩ := hv
  subst hH
  have hx := B.exec
  have hb := B.bytes
  have hr := B.returns
  have hts := hE.1.all ([.ref (ad 0 3), .int (a), .int (nI (m1)), .int (nI (S))] : List Value).toArray
  have hown : s.vm.findClass RX2 = some m.cls := findClass_of_methodNamed B.named
  have hlocks := B.notSynchronized
  have hK := hE.2.1
  have hS : va_S A s.heap s.heap [] := va_S.rf
  have hl := lv_entry ([.ref (ad 0 3), .int (a), .int (nI (m1)), .int (nI (S))]) (n := 4) (Nat.le_of_ble_eq_true rfl)
  rw [lg_entry_eq]
  generalize (lg_sl ([.ref (ad 0 3), .int (a), .int (nI (m1)), .int (nI (S))]) ++ List.replicate (4 - (lg_sl ([.ref (ad 0 3), .int (a), .int (nI (m1)), .int (nI (S))])).length) Slot.unset).toArray = ls at hl ⊢
  have hl : lv_has ls 4 [(0, .ref (ad 0 3)), (1, .int (a)), (2, .int (nI (m1))), (3, .int (nI (S)))] := hl
  refine lv_aload_n hx hb dX2_leastBy_0 rfl (lv_at hl 0 rfl) ?_
  refine lv_iload_n hx hb dX2_leastBy_1 rfl (lv_at hl 1 rfl) ?_
  refine lv_iload_n hx hb dX2_leastBy_2 rfl (lv_at hl 2 rfl) ?_
  refine xcRi (va_runV (As := [.int (a), .int (nI (m1))]) (rest := []) ⟨hx, hb, hml, hown, hts⟩ (c_X2_between l D cA e0 A s.heap ad g tt N hX a (nI m1) pa m1 ha (isPl_m hm1)) ⟨(callB_of 2 hts gi_X2_between rfl rfl rfl (hts _ q_ini_X2) (hts _ q_ml_X2_29) hd_X2_between ⟨Nat.le_of_ble_eq_true rfl, Nat.le_of_ble_eq_true rfl⟩), hts _ q_im_X2_between, hts _ q_sel_X2_X2_between⟩ (xpV hE hS (hX.roads) rfl) rfl rfl hl.1 rfl (lv_room (Nat.le_of_ble_eq_true rfl)) dX2_leastBy_3 ⟨Nat.le_of_ble_eq_true rfl, Nat.le_of_ble_eq_true rfl⟩) ?_
  refine lv_aload_n hx hb dX2_leastBy_6 rfl (lv_at hl 0 rfl) ?_
  refine va_get (D := D) (ci := 3) (v := .ref (ad 0 8)) (C := RX2) (T := TX2) (N := 2) hx hb hts qi_X2 hown hK (xP1 (hX.roads)) 0 rfl rfl 1 (by decide) (hts _ q_fl_X2_15) (fun _ h9 => h9) rfl dX2_leastBy_7 ?_
  refine lv_iload_n hx hb dX2_leastBy_10 rfl (lv_at hl 3 rfl) ?_
  refine lv_bipush (v := nI 8) hx hb dX2_leastBy_11 (by decide) ?_
  refine lv_imul hx hb dX2_leastBy_13 ?_
  refine xtop (show (nI (S)) * (nI 8) = nI (S * 8) from pk_mul S 8) ?_
  refine lv_iload_n hx hb dX2_leastBy_14 rfl (lv_at hl 2 rfl) ?_
  refine lv_iadd hx hb dX2_leastBy_15 ?_
  refine xtop (show (nI (S * 8)) + (nI (m1)) = nI ((S * 8) + m1) from nI_add (S * 8) m1) ?_
  refine va_iald hx hb hK (xP1 (hX.hw)) 0 0 rfl rfl (i := nI ((S * 8) + m1)) (vp_in_nI (n := (S * 8) + m1) (by omega) (by omega)) dX2_leastBy_16 ?_
  refine xtop (show (fun z => g 17 z) (nI ((S * 8) + m1)).toNatClampNeg = tw (wy g) (S - 2 ^ m1) m1 from by rw [nI_clamp (n := S * 8 + m1) (by omega)]; exact hh m1 hm1 hbit) ?_
  refine lv_iadd hx hb dX2_leastBy_17 ?_
  exact W.iret (v := ((wy g pa m1) + (tw (wy g) (S - 2 ^ m1) m1))) hx hb hr (fun t ht _ => ⟨rfl, ht⟩) (fun q hq => absurd hq List.not_mem_nil) dX2_leastBy_18
set_option maxHeartbeats 4000000 in
set_option maxRecDepth 100000 in
/-- Roads.nextStop(a, S) -/
theorem c_X2_nextStop (l : Launch) (D : va_G) (cA : Nat → ClassId) (e0 : Nat) (A : Nat → Prop) (H0 : Heap) (ad : Nat → Nat → Nat) (g : Nat → Nat → Int32) (tt : Nat → Int64) (N : Nat → Nat) (hX : xW D cA ad g tt N H0) (a : Int32) (pa S : Nat) (ha : isPl a pa) (hSt : S < 256) (hh : hwOK g S) : Met l yX2_nextStop w_X2_nextStop ({ frames := 2, cells := 0, slots := 0, locals := 45 } : Room) (xPc D cA e0 A H0 [.ref (ad 0 3), .int (a), .int (nI (S))]) (xR (some (.int (amN (fun m => wy g pa m + tw (wy g) (S - 2 ^ m) m) S 8)))) 0 0 (xNo) := by
  refine Met.ofW (cc := cX2_nextStop) (maxL := 7) (ret := (some .int)) (by decide) rfl ?_
  intro p e s m args below meth c s₁ B hml hv
  obtain ⟨rfl, hH, hE⟩ := hv
  subst hH
  have hx := B.exec
  have hb := B.bytes
  have hr := B.returns
  have hts := hE.1.all ([.ref (ad 0 3), .int (a), .int (nI (S))] : List Value).toArray
  have hown : s.vm.findClass RX2 = some m.cls := findClass_of_methodNamed B.named
  have hlocks := B.notSynchronized
  have hK := hE.2.1
  have hS : va_S A s.heap s.heap [] := va_S.rf
  have hl := lv_entry ([.ref (ad 0 3), .int (a), .int (nI (S))]) (n := 7) (Nat.le_of_ble_eq_true rfl)
  rw [lg_entry_eq]
  generalize (lg_sl ([.ref (ad 0 3), .int (a), .int (nI (S))]) ++ List.replicate (7 - (lg_sl ([.ref (ad 0 3), .int (a), .int (nI (S))])).length) Slot.unset).toArray = ls at hl ⊢
  have hl : lv_has ls 7 [(0, .ref (ad 0 3)), (1, .int (a)), (2, .int (nI (S)))] := hl
  refine lv_iconst (v := (-1)) hx hb dX2_nextStop_0 (by decide) ?_
  refine lv_istore_n (lv' := [(3, .int ((-1))), (0, .ref (ad 0 3)), (1, .int (a)), (2, .int (nI (S)))]) hx hb dX2_nextStop_1 rfl hl (by decide) rfl (fun ls hl => ?_)
  refine lv_iconst (v := nI 0) hx hb dX2_nextStop_2 (by decide) ?_
  refine lv_istore (lv' := [(4, .int (nI 0)), (3, .int ((-1))), (0, .ref (ad 0 3)), (1, .int (a)), (2, .int (nI (S)))]) hx hb dX2_nextStop_3 hl (by decide) rfl (fun ls hl => ?_)
  refine lv_iconst (v := nI 0) hx hb dX2_nextStop_5 (by decide) ?_
  refine lv_istore (lv' := [(5, .int (nI 0)), (4, .int (nI 0)), (3, .int ((-1))), (0, .ref (ad 0 3)), (1, .int (a)), (2, .int (nI (S)))]) hx hb dX2_nextStop_6 hl (by decide) rfl (fun ls hl => ?_)
  have LOOP8 : ∀ (n8 : Nat) (i : Nat) (nxt : Int32) (lst : Int32) (ls : Array Slot), i ≤ 8 → nxt = amN (fun m => wy g pa m + tw (wy g) (S - 2 ^ m) m) S i → lst = amL (fun m => wy g pa m + tw (wy g) (S - 2 ^ m) m) S i → (8 - i) < n8 → lv_has ls 7 [(5, .int (nI (i))), (4, .int (lst)), (3, .int (nxt)), (0, .ref (ad 0 3)), (1, .int (a)), (2, .int (nI (S)))] → W p l e (headSpec w_X2_nextStop ({ frames := 2, cells := 0, slots := 0, locals := 45 } : Room)).room s m ([.ref (ad 0 3), .int (a), .int (nI (S))] : List Value).toArray below meth c s.heap [] 0 0 (MQ below (xR (some (.int (amN (fun m => wy g pa m + tw (wy g) (S - 2 ^ m) m) S 8)))) ([.ref (ad 0 3), .int (a), .int (nI (S))] : List Value).toArray s 0 0 (xNo)) (F0 m 8 ls []) := by
    intro n8
    induction n8 with
    | zero => intro i nxt lst ls hi hn hlst hmeas hl; exact absurd hmeas (Nat.not_lt_zero _)
    | succ n8 ih8 =>
      intro i nxt lst ls hi hn hlst hmeas hl
      refine lv_iload hx hb dX2_nextStop_8 (lv_at hl 0 rfl) ?_
      refine lv_bipush (v := nI 8) hx hb dX2_nextStop_10 (by decide) ?_
      refine lv_icmp_ge (tgt := 59) hx hb dX2_nextStop_12 (by decide) (fun c12 => ?_) (fun c12 => ?_)
      · have c12 : 8 ≤ i := (nI_leI (a := 8) (b := i) (by omega) (by omega)).mp c12
        have hi8 : i = 8 := by omega
        subst hi8
        refine lv_iload_n hx hb dX2_nextStop_59 rfl (lv_at hl 2 rfl) ?_
        have hres : nxt = amN (fun m => wy g pa m + tw (wy g) (S - 2 ^ m) m) S 8 := hn
        exact W.iret (v := nxt) hx hb hr (fun t ht _ => ⟨congrArg (fun z : Int32 => Outcome.returned (some (Value.int z))) hres, ht⟩) (fun q hq => absurd hq List.not_mem_nil) dX2_nextStop_60
      · have c12 : ¬ (8 ≤ i) := fun z => c12 ((nI_leI (a := 8) (b := i) (by omega) (by omega)).mpr z)
        refine lv_iload_n hx hb dX2_nextStop_15 rfl (lv_at hl 5 rfl) ?_
        refine lv_iload hx hb dX2_nextStop_16 (lv_at hl 0 rfl) ?_
        refine xcRi (va_runSN (As := [.int (nI (S)), .int (nI (i))]) (rest := []) ⟨hx, hb, hml, hown, hts⟩ (c_X4_contains l D cA e0 A s.heap S i hSt (by omega)) ⟨(va_cnB 2 hts gi_X4_contains rfl rfl rfl (hE.1 _ q_mn_X2_18) (hts _ q_ini_X4) hd_X4_contains ⟨Nat.le_of_ble_eq_true rfl, Nat.le_of_ble_eq_true rfl⟩), hts _ q_st_X4_contains, trivial⟩ (xpS hE hS) rfl rfl hl.1 rfl (lv_room (Nat.le_of_ble_eq_true rfl)) dX2_nextStop_18 ⟨Nat.le_of_ble_eq_true rfl, Nat.le_of_ble_eq_true rfl⟩) ?_
        refine lv_if_eq (tgt := 53) hx hb dX2_nextStop_21 (by decide) (fun c21 => ?_) (fun c21 => ?_)
        · have hbit : ¬ S.testBit i = true := fun z => by rw [if_pos z] at c21; exact absurd c21 (by decide)
          refine lv_iinc (v := nI (i + 1)) (lv' := [(5, .int (nI (i + 1))), (4, .int (lst)), (3, .int (nxt)), (0, .ref (ad 0 3)), (1, .int (a)), (2, .int (nI (S)))]) hx hb dX2_nextStop_53 hl (k := 0) rfl (nI_add i 1) (by decide) rfl (fun ls hl => ?_)
          refine lv_goto (tgt := 8) hx hb dX2_nextStop_56 (by decide) ?_
          exact ih8 (i + 1) nxt (lst) _ (by omega) (by rw [hn]; exact (amS_no hbit).1.symm) (by rw [hlst]; exact (amS_no hbit).2.symm) (by omega) (lv_sub hl [0, 1, 2, 3, 4, 5] rfl)
        · have hbit : S.testBit i = true := by
            cases hq : S.testBit i with
            | true => rfl
            | false => rw [hq] at c21; exact absurd rfl c21
          refine lv_aload_n hx hb dX2_nextStop_24 rfl (lv_at hl 3 rfl) ?_
          refine lv_iload_n hx hb dX2_nextStop_25 rfl (lv_at hl 4 rfl) ?_
          refine lv_iload hx hb dX2_nextStop_26 (lv_at hl 0 rfl) ?_
          refine lv_iload_n hx hb dX2_nextStop_28 rfl (lv_at hl 5 rfl) ?_
          refine xcRi (va_runV (As := [.int (a), .int (nI (i)), .int (nI (S))]) (rest := []) ⟨hx, hb, hml, hown, hts⟩ (c_X2_leastBy l D cA e0 A s.heap ad g tt N hX a pa i S ha (by omega) hSt hbit hh) ⟨(callB_of 3 hts gi_X2_leastBy rfl rfl rfl (hts _ q_ini_X2) (hts _ q_ml_X2_35) hd_X2_leastBy ⟨Nat.le_of_ble_eq_true rfl, Nat.le_of_ble_eq_true rfl⟩), hts _ q_im_X2_leastBy, hts _ q_sel_X2_X2_leastBy⟩ (xpV hE hS (hX.roads) rfl) rfl rfl hl.1 rfl (lv_room (Nat.le_of_ble_eq_true rfl)) dX2_nextStop_29 ⟨Nat.le_of_ble_eq_true rfl, Nat.le_of_ble_eq_true rfl⟩) ?_
          refine lv_istore (lv' := [(6, .int (wy g pa i + tw (wy g) (S - 2 ^ i) i)), (5, .int (nI (i))), (4, .int (lst)), (3, .int (nxt)), (0, .ref (ad 0 3)), (1, .int (a)), (2, .int (nI (S)))]) hx hb dX2_nextStop_32 hl (by decide) rfl (fun ls hl => ?_)
          refine lv_iload_n hx hb dX2_nextStop_34 rfl (lv_at hl 3 rfl) ?_
          refine lv_iconst (v := (-1)) hx hb dX2_nextStop_35 (by decide) ?_
          refine lv_icmp_eq (tgt := 46) hx hb dX2_nextStop_36 (by decide) (fun c36 => ?_) (fun c36 => ?_)
          · refine lv_iload hx hb dX2_nextStop_46 (lv_at hl 1 rfl) ?_
            refine lv_istore_n (lv' := [(3, .int (nI (i))), (6, .int (wy g pa i + tw (wy g) (S - 2 ^ i) i)), (5, .int (nI (i))), (4, .int (lst)), (0, .ref (ad 0 3)), (1, .int (a)), (2, .int (nI (S)))]) hx hb dX2_nextStop_48 rfl hl (by decide) rfl (fun ls hl => ?_)
            refine lv_iload hx hb dX2_nextStop_49 (lv_at hl 1 rfl) ?_
            refine lv_istore (lv' := [(4, .int (wy g pa i + tw (wy g) (S - 2 ^ i) i)), (3, .int (nI (i))), (6, .int (wy g pa i + tw (wy g) (S - 2 ^ i) i)), (5, .int (nI (i))), (0, .ref (ad 0 3)), (1, .int (a)), (2, .int (nI (S)))]) hx hb dX2_nextStop_51 hl (by decide) rfl (fun ls hl => ?_)
            refine lv_iinc (v := nI (i + 1)) (lv' := [(5, .int (nI (i + 1))), (4, .int (wy g pa i + tw (wy g) (S - 2 ^ i) i)), (3, .int (nI (i))), (6, .int (wy g pa i + tw (wy g) (S - 2 ^ i) i)), (0, .ref (ad 0 3)), (1, .int (a)), (2, .int (nI (S)))]) hx hb dX2_nextStop_53 hl (k := 3) rfl (nI_add i 1) (by decide) rfl (fun ls hl => ?_)
            refine lv_goto (tgt := 8) hx hb dX2_nextStop_56 (by decide) ?_
            exact ih8 (i + 1) (nI (i)) (wy g pa i + tw (wy g) (S - 2 ^ i) i) _ (by omega) (amS_up (f := fun m => wy g pa m + tw (wy g) (S - 2 ^ m) m) (by omega) hbit (Or.inl (by rw [← hn]; exact c36))).1.symm (amS_up (f := fun m => wy g pa m + tw (wy g) (S - 2 ^ m) m) (by omega) hbit (Or.inl (by rw [← hn]; exact c36))).2.symm (by omega) (lv_sub hl [0, 1, 2, 4, 5, 6] rfl)
          · refine lv_iload hx hb dX2_nextStop_39 (lv_at hl 0 rfl) ?_
            refine lv_iload hx hb dX2_nextStop_41 (lv_at hl 2 rfl) ?_
            refine lv_icmp_ge (tgt := 53) hx hb dX2_nextStop_43 (by decide) (fun c43 => ?_) (fun c43 => ?_)
            · refine lv_iinc (v := nI (i + 1)) (lv' := [(5, .int (nI (i + 1))), (6, .int (wy g pa i + tw (wy g) (S - 2 ^ i) i)), (4, .int (lst)), (3, .int (nxt)), (0, .ref (ad 0 3)), (1, .int (a)), (2, .int (nI (S)))]) hx hb dX2_nextStop_53 hl (k := 1) rfl (nI_add i 1) (by decide) rfl (fun ls hl => ?_)
              refine lv_goto (tgt := 8) hx hb dX2_nextStop_56 (by decide) ?_
              exact ih8 (i + 1) nxt (lst) _ (by omega) (by rw [hn]; exact (amS_keep (by omega) hbit (fun z => c36 (by rw [hn]; exact z)) (fun z => by have z1 : wy g pa i + tw (wy g) (S - 2 ^ i) i < amL (fun m => wy g pa m + tw (wy g) (S - 2 ^ m) m) S i := z; rw [← hlst, i_lt] at z1; rw [i_le] at c43; omega)).1.symm) (by rw [hlst]; exact (amS_keep (by omega) hbit (fun z => c36 (by rw [hn]; exact z)) (fun z => by have z1 : wy g pa i + tw (wy g) (S - 2 ^ i) i < amL (fun m => wy g pa m + tw (wy g) (S - 2 ^ m) m) S i := z; rw [← hlst, i_lt] at z1; rw [i_le] at c43; omega)).2.symm) (by omega) (lv_sub hl [0, 2, 3, 4, 5, 6] rfl)
            · refine lv_iload hx hb dX2_nextStop_46 (lv_at hl 1 rfl) ?_
              refine lv_istore_n (lv' := [(3, .int (nI (i))), (6, .int (wy g pa i + tw (wy g) (S - 2 ^ i) i)), (5, .int (nI (i))), (4, .int (lst)), (0, .ref (ad 0 3)), (1, .int (a)), (2, .int (nI (S)))]) hx hb dX2_nextStop_48 rfl hl (by decide) rfl (fun ls hl => ?_)
              refine lv_iload hx hb dX2_nextStop_49 (lv_at hl 1 rfl) ?_
              refine lv_istore (lv' := [(4, .int (wy g pa i + tw (wy g) (S - 2 ^ i) i)), (3, .int (nI (i))), (6, .int (wy g pa i + tw (wy g) (S - 2 ^ i) i)), (5, .int (nI (i))), (0, .ref (ad 0 3)), (1, .int (a)), (2, .int (nI (S)))]) hx hb dX2_nextStop_51 hl (by decide) rfl (fun ls hl => ?_)
              refine lv_iinc (v := nI (i + 1)) (lv' := [(5, .int (nI (i + 1))), (4, .int (wy g pa i + tw (wy g) (S - 2 ^ i) i)), (3, .int (nI (i))), (6, .int (wy g pa i + tw (wy g) (S - 2 ^ i) i)), (0, .ref (ad 0 3)), (1, .int (a)), (2, .int (nI (S)))]) hx hb dX2_nextStop_53 hl (k := 3) rfl (nI_add i 1) (by decide) rfl (fun ls hl => ?_)
              refine lv_goto (tgt := 8) hx hb dX2_nextStop_56 (by decide) ?_
              exact ih8 (i + 1) (nI (i)) (wy g pa i + tw (wy g) (S - 2 ^ i) i) _ (by omega) (amS_up (f := fun m => wy g pa m + tw (wy g) (S - 2 ^ m) m) (by omega) hbit (Or.inr (show wy g pa i + tw (wy g) (S - 2 ^ i) i < _ from by rw [← hlst, i_lt]; rw [i_le] at c43; omega))).1.symm (amS_up (f := fun m => wy g pa m + tw (wy g) (S - 2 ^ m) m) (by omega) hbit (Or.inr (show wy g pa i + tw (wy g) (S - 2 ^ i) i < _ from by rw [← hlst, i_lt]; rw [i_le] at c43; omega))).2.symm (by omega) (lv_sub hl [0, 1, 2, 4, 5, 6] rfl)
  exact LOOP8 _ 0 (-1) (nI 0) _ (by omega) rfl rfl (Nat.lt_succ_self _) (lv_sub hl [0, 1, 2, 3, 4, 5] rfl)
set_option maxHeartbeats 4000000 in
set_option maxRecDepth 100000 in
/-- Roads.leastFrom(a, S) -/
theorem c_X2_leastFrom (l : Launch) (D : va_G) (cA : Nat → ClassId) (e0 : Nat) (A : Nat → Prop) (H0 : Heap) (ad : Nat → Nat → Nat) (g : Nat → Nat → Int32) (tt : Nat → Int64) (N : Nat → Nat) (hX : xW D cA ad g tt N H0) (a : Int32) (pa S : Nat) (ha : isPl a pa) (hSt : S < 256) (hh : hwOK g S) : Met l yX2_leastFrom w_X2_leastFrom ({ frames := 3, cells := 0, slots := 0, locals := 71 } : Room) (xPc D cA e0 A H0 [.ref (ad 0 3), .int (a), .int (nI (S))]) (xR (some (.int (tw (wy g) S pa)))) 0 0 (xNo) := by
  refine Met.ofW (cc := cX2_leastFrom) (maxL := 3) (ret := (some .int)) (by decide) rfl ?_
  intro p e s m args below meth c s₁ B hml hv
  obtain ⟨rfl, hH, hE⟩ := hv
  subst hH
  have hx := B.exec
  have hb := B.bytes
  have hr := B.returns
  have hts := hE.1.all ([.ref (ad 0 3), .int (a), .int (nI (S))] : List Value).toArray
  have hown : s.vm.findClass RX2 = some m.cls := findClass_of_methodNamed B.named
  have hlocks := B.notSynchronized
  have hK := hE.2.1
  have hS : va_S A s.heap s.heap [] := va_S.rf
  have hl := lv_entry ([.ref (ad 0 3), .int (a), .int (nI (S))]) (n := 3) (Nat.le_of_ble_eq_true rfl)
  rw [lg_entry_eq]
  generalize (lg_sl ([.ref (ad 0 3), .int (a), .int (nI (S))]) ++ List.replicate (3 - (lg_sl ([.ref (ad 0 3), .int (a), .int (nI (S))])).length) Slot.unset).toArray = ls at hl ⊢
  have hl : lv_has ls 3 [(0, .ref (ad 0 3)), (1, .int (a)), (2, .int (nI (S)))] := hl
  refine lv_iload_n hx hb dX2_leastFrom_0 rfl (lv_at hl 2 rfl) ?_
  refine lv_if_ne (tgt := 11) hx hb dX2_leastFrom_1 (by decide) (fun c1 => ?_) (fun c1 => ?_)
  · have h0 : S ≠ 0 := fun z => c1 (by rw [z]; rfl)
    refine lv_aload_n hx hb dX2_leastFrom_11 rfl (lv_at hl 0 rfl) ?_
    refine lv_iload_n hx hb dX2_leastFrom_12 rfl (lv_at hl 1 rfl) ?_
    refine lv_aload_n hx hb dX2_leastFrom_13 rfl (lv_at hl 0 rfl) ?_
    refine lv_iload_n hx hb dX2_leastFrom_14 rfl (lv_at hl 1 rfl) ?_
    refine lv_iload_n hx hb dX2_leastFrom_15 rfl (lv_at hl 2 rfl) ?_
    refine xcRi (va_runV (As := [.int (a), .int (nI (S))]) (rest := [.int (a), .ref (ad 0 3)]) ⟨hx, hb, hml, hown, hts⟩ (c_X2_nextStop l D cA e0 A s.heap ad g tt N hX a pa S ha hSt hh) ⟨(callB_of 2 hts gi_X2_nextStop rfl rfl rfl (hts _ q_ini_X2) (hts _ q_ml_X2_32) hd_X2_nextStop ⟨Nat.le_of_ble_eq_true rfl, Nat.le_of_ble_eq_true rfl⟩), hts _ q_im_X2_nextStop, hts _ q_sel_X2_X2_nextStop⟩ (xpV hE hS (hX.roads) rfl) rfl rfl hl.1 rfl (lv_room (Nat.le_of_ble_eq_true rfl)) dX2_leastFrom_16 ⟨Nat.le_of_ble_eq_true rfl, Nat.le_of_ble_eq_true rfl⟩) ?_
    refine xtop (show amN (fun m => wy g pa m + tw (wy g) (S - 2 ^ m) m) S 8 = nI (nx (wy g) S pa) from amN_nx (wy g) pa hSt h0) ?_
    refine lv_iload_n hx hb dX2_leastFrom_19 rfl (lv_at hl 2 rfl) ?_
    refine xcRi (va_runV (As := [.int (a), .int (nI (nx (wy g) S pa)), .int (nI (S))]) (rest := []) ⟨hx, hb, hml, hown, hts⟩ (c_X2_leastBy l D cA e0 A s.heap ad g tt N hX a pa (nx (wy g) S pa) S ha (nx_spec (wy g) pa hSt h0).1 hSt (nx_spec (wy g) pa hSt h0).2.1 hh) ⟨(callB_of 3 hts gi_X2_leastBy rfl rfl rfl (hts _ q_ini_X2) (hts _ q_ml_X2_35) hd_X2_leastBy ⟨Nat.le_of_ble_eq_true rfl, Nat.le_of_ble_eq_true rfl⟩), hts _ q_im_X2_leastBy, hts _ q_sel_X2_X2_leastBy⟩ (xpV hE hS (hX.roads) rfl) rfl rfl hl.1 rfl (lv_room (Nat.le_of_ble_eq_true rfl)) dX2_leastFrom_20 ⟨Nat.le_of_ble_eq_true rfl, Nat.le_of_ble_eq_true rfl⟩) ?_
    have hres : wy g pa (nx (wy g) S pa) + tw (wy g) (S - 2 ^ nx (wy g) S pa) (nx (wy g) S pa) = tw (wy g) S pa := (nx_spec (wy g) pa hSt h0).2.2.1
    exact W.iret (v := (wy g pa (nx (wy g) S pa) + tw (wy g) (S - 2 ^ nx (wy g) S pa) (nx (wy g) S pa))) hx hb hr (fun t ht _ => ⟨congrArg (fun z : Int32 => Outcome.returned (some (Value.int z))) hres, ht⟩) (fun q hq => absurd hq List.not_mem_nil) dX2_leastFrom_23
  · have h0 : S = 0 := nI_inj (a := S) (b := 0) (by omega) (by omega) c1
    refine lv_aload_n hx hb dX2_leastFrom_4 rfl (lv_at hl 0 rfl) ?_
    refine lv_iload_n hx hb dX2_leastFrom_5 rfl (lv_at hl 1 rfl) ?_
    refine lv_iconst (v := (-1)) hx hb dX2_leastFrom_6 (by decide) ?_
    refine xcRi (va_runV (As := [.int (a), .int ((-1))]) (rest := []) ⟨hx, hb, hml, hown, hts⟩ (c_X2_between l D cA e0 A s.heap ad g tt N hX a (-1) pa 8 ha isPl_d) ⟨(callB_of 2 hts gi_X2_between rfl rfl rfl (hts _ q_ini_X2) (hts _ q_ml_X2_29) hd_X2_between ⟨Nat.le_of_ble_eq_true rfl, Nat.le_of_ble_eq_true rfl⟩), hts _ q_im_X2_between, hts _ q_sel_X2_X2_between⟩ (xpV hE hS (hX.roads) rfl) rfl rfl hl.1 rfl (lv_room (Nat.le_of_ble_eq_true rfl)) dX2_leastFrom_7 ⟨Nat.le_of_ble_eq_true rfl, Nat.le_of_ble_eq_true rfl⟩) ?_
    have hres : wy g pa 8 = tw (wy g) S pa := by rw [h0, tw_0]
    exact W.iret (v := (wy g pa 8)) hx hb hr (fun t ht _ => ⟨congrArg (fun z : Int32 => Outcome.returned (some (Value.int z))) hres, ht⟩) (fun q hq => absurd hq List.not_mem_nil) dX2_leastFrom_10
set_option maxHeartbeats 4000000 in
set_option maxRecDepth 100000 in
/-- sumOver(S, row) -/
theorem c_X4_sumOver (l : Launch) (D : va_G) (cA : Nat → ClassId) (e0 : Nat) (A : Nat → Prop) (H0 : Heap) (S a1 : Nat) (f : Nat → Int32) (hSt : S < 256) (hF : va_at D vwCl (a1, .inl (cA 0, 8, .inl f)) H0) : Met l yX4_sumOver w_X4_sumOver ({ frames := 1, cells := 0, slots := 0, locals := 21 } : Room) (xPc D cA e0 A H0 [.int (nI (S)), .ref (a1)]) (xR (some (.int (selF S f 8)))) 0 0 (xNo) := by
  refine Met.ofW (cc := cX4_sumOver) (maxL := 4) (ret := (some .int)) (by decide) rfl ?_
  intro p e s m args below meth c s₁ B hml hv
  obtain ⟨rfl, hH, hE⟩ := hv
  subst hH
  have hx := B.exec
  have hb := B.bytes
  have hr := B.returns
  have hts := hE.1.all ([.int (nI (S)), .ref (a1)] : List Value).toArray
  have hown : s.vm.findClass RX4 = some m.cls := findClass_of_methodNamed B.named
  have hlocks := B.notSynchronized
  have hK := hE.2.1
  have hS : va_S A s.heap s.heap [] := va_S.rf
  have hl := lv_entry ([.int (nI (S)), .ref (a1)]) (n := 4) (Nat.le_of_ble_eq_true rfl)
  rw [lg_entry_eq]
  generalize (lg_sl ([.int (nI (S)), .ref (a1)]) ++ List.replicate (4 - (lg_sl ([.int (nI (S)), .ref (a1)])).length) Slot.unset).toArray = ls at hl ⊢
  have hl : lv_has ls 4 [(0, .int (nI (S))), (1, .ref (a1))] := hl
  refine lv_iconst (v := nI 0) hx hb dX4_sumOver_0 (by decide) ?_
  refine lv_istore_n (lv' := [(2, .int (nI 0)), (0, .int (nI (S))), (1, .ref (a1))]) hx hb dX4_sumOver_1 rfl hl (by decide) rfl (fun ls hl => ?_)
  refine lv_iconst (v := nI 0) hx hb dX4_sumOver_2 (by decide) ?_
  refine lv_istore_n (lv' := [(3, .int (nI 0)), (2, .int (nI 0)), (0, .int (nI (S))), (1, .ref (a1))]) hx hb dX4_sumOver_3 rfl hl (by decide) rfl (fun ls hl => ?_)
  have LOOP4 : ∀ (n4 : Nat) (i : Nat) (acc : Int32) (ls : Array Slot), i ≤ 8 → acc = selF S f i → (8 - i) < n4 → lv_has ls 4 [(3, .int (nI (i))), (2, .int (acc)), (0, .int (nI (S))), (1, .ref (a1))] → W p l e (headSpec w_X4_sumOver ({ frames := 1, cells := 0, slots := 0, locals := 21 } : Room)).room s m ([.int (nI (S)), .ref (a1)] : List Value).toArray below meth c s.heap [] 0 0 (MQ below (xR (some (.int (selF S f 8)))) ([.int (nI (S)), .ref (a1)] : List Value).toArray s 0 0 (xNo)) (F0 m 4 ls []) := by
    intro n4
    induction n4 with
    | zero => intro i acc ls hi hacc hmeas hl; exact absurd hmeas (Nat.not_lt_zero _)
    | succ n4 ih4 =>
      intro i acc ls hi hacc hmeas hl
      refine lv_iload_n hx hb dX4_sumOver_4 rfl (lv_at hl 0 rfl) ?_
      refine lv_aload_n hx hb dX4_sumOver_5 rfl (lv_at hl 3 rfl) ?_
      refine va_alen hx hb hK (xP1 hF) 0 0 rfl rfl (v := nI (8)) rfl dX4_sumOver_6 ?_
      refine lv_icmp_ge (tgt := 30) hx hb dX4_sumOver_7 (by decide) (fun c7 => ?_) (fun c7 => ?_)
      · have c7 : 8 ≤ i := (nI_leI (a := 8) (b := i) (by omega) (by omega)).mp c7
        have hi8 : i = 8 := by omega
        subst hi8
        refine lv_iload_n hx hb dX4_sumOver_30 rfl (lv_at hl 1 rfl) ?_
        have hres : acc = selF S f 8 := hacc
        exact W.iret (v := acc) hx hb hr (fun t ht _ => ⟨congrArg (fun z : Int32 => Outcome.returned (some (Value.int z))) hres, ht⟩) (fun q hq => absurd hq List.not_mem_nil) dX4_sumOver_31
      · have c7 : ¬ (8 ≤ i) := fun z => c7 ((nI_leI (a := 8) (b := i) (by omega) (by omega)).mpr z)
        refine lv_iload_n hx hb dX4_sumOver_10 rfl (lv_at hl 2 rfl) ?_
        refine lv_iload_n hx hb dX4_sumOver_11 rfl (lv_at hl 0 rfl) ?_
        refine xcRi (va_runS (As := [.int (nI (S)), .int (nI (i))]) (rest := []) ⟨hx, hb, hml, hown, hts⟩ (c_X4_contains l D cA e0 A s.heap S i hSt (by omega)) ⟨(callB_of 2 hts gi_X4_contains rfl rfl rfl (hts _ q_ini_X4) (hts _ q_ml_X4_226) hd_X4_contains ⟨Nat.le_of_ble_eq_true rfl, Nat.le_of_ble_eq_true rfl⟩), hts _ q_st_X4_contains⟩ (xpS hE hS) rfl rfl hl.1 rfl (lv_room (Nat.le_of_ble_eq_true rfl)) dX4_sumOver_12 ⟨Nat.le_of_ble_eq_true rfl, Nat.le_of_ble_eq_true rfl⟩) ?_
        refine lv_if_eq (tgt := 24) hx hb dX4_sumOver_15 (by decide) (fun c15 => ?_) (fun c15 => ?_)
        · have hbit : ¬ S.testBit i = true := fun z => by rw [if_pos z] at c15; exact absurd c15 (by decide)
          refine lv_iinc (v := nI (i + 1)) (lv' := [(3, .int (nI (i + 1))), (2, .int (acc)), (0, .int (nI (S))), (1, .ref (a1))]) hx hb dX4_sumOver_24 hl (k := 0) rfl (nI_add i 1) (by decide) rfl (fun ls hl => ?_)
          refine lv_goto (tgt := 4) hx hb dX4_sumOver_27 (by decide) ?_
          exact ih4 (i + 1) (acc) _ (by omega) (by rw [selF_no hbit]; exact hacc) (by omega) (lv_sub hl [0, 1, 2, 3] rfl)
        · have hbit : S.testBit i = true := by
            cases hq : S.testBit i with
            | true => rfl
            | false => rw [hq] at c15; exact absurd rfl c15
          refine lv_iload_n hx hb dX4_sumOver_18 rfl (lv_at hl 1 rfl) ?_
          refine lv_aload_n hx hb dX4_sumOver_19 rfl (lv_at hl 3 rfl) ?_
          refine lv_iload_n hx hb dX4_sumOver_20 rfl (lv_at hl 0 rfl) ?_
          refine va_iald hx hb hK (xP1 hF) 0 0 rfl rfl (i := nI (i)) (vp_in_nI (n := i) (by omega) (by omega)) dX4_sumOver_21 ?_
          refine xtop (show (fun z => f z) (nI (i)).toNatClampNeg = f i from by rw [nI_clamp (n := i) (by omega)]) ?_
          refine lv_iadd hx hb dX4_sumOver_22 ?_
          refine lv_istore_n (lv' := [(2, .int (acc + (f i))), (3, .int (nI (i))), (0, .int (nI (S))), (1, .ref (a1))]) hx hb dX4_sumOver_23 rfl hl (by decide) rfl (fun ls hl => ?_)
          refine lv_iinc (v := nI (i + 1)) (lv' := [(3, .int (nI (i + 1))), (2, .int (acc + (f i))), (0, .int (nI (S))), (1, .ref (a1))]) hx hb dX4_sumOver_24 hl (k := 1) rfl (nI_add i 1) (by decide) rfl (fun ls hl => ?_)
          refine lv_goto (tgt := 4) hx hb dX4_sumOver_27 (by decide) ?_
          exact ih4 (i + 1) (acc + (f i)) _ (by omega) (by rw [selF_yes hbit, hacc]) (by omega) (lv_sub hl [0, 1, 2, 3] rfl)
  exact LOOP4 _ 0 (nI 0) _ (by omega) rfl (Nat.lt_succ_self _) (lv_sub hl [0, 1, 2, 3] rfl)
set_option maxHeartbeats 4000000 in
set_option maxRecDepth 100000 in
/-- roundTime(S) -/
theorem c_X4_roundTime (l : Launch) (D : va_G) (cA : Nat → ClassId) (e0 : Nat) (A : Nat → Prop) (H0 : Heap) (ad : Nat → Nat → Nat) (g : Nat → Nat → Int32) (tt : Nat → Int64) (N : Nat → Nat) (hX : xW D cA ad g tt N H0) (S : Nat) (hSt : S < 256) (hh : hwOK g S) : Met l yX4_roundTime w_X4_roundTime ({ frames := 4, cells := 0, slots := 0, locals := 93 } : Room) (xPc D cA e0 A H0 [.ref (ad 0 0), .int (nI (S))]) (xR (some (.int (tw (wy g) S 8 + selF S (g 14) 8)))) 0 0 (xNo) := by
  refine Met.ofW (cc := cX4_roundTime) (maxL := 2) (ret := (some .int)) (by decide) rfl ?_
  intro p e s m args below meth c s₁ B hml hv
  obtain ⟨rfl, hH, hE⟩ := hv
  subst hH
  have hx := B.exec
  have hb := B.bytes
  have hr := B.returns
  have hts := hE.1.all ([.ref (ad 0 0), .int (nI (S))] : List Value).toArray
  have hown : s.vm.findClass RX4 = some m.cls := findClass_of_methodNamed B.named
  have hlocks := B.notSynchronized
  have hK := hE.2.1
  have hS : va_S A s.heap s.heap [] := va_S.rf
  have hl := lv_entry ([.ref (ad 0 0), .int (nI (S))]) (n := 2) (Nat.le_of_ble_eq_true rfl)
  rw [lg_entry_eq]
  generalize (lg_sl ([.ref (ad 0 0), .int (nI (S))]) ++ List.replicate (2 - (lg_sl ([.ref (ad 0 0), .int (nI (S))])).length) Slot.unset).toArray = ls at hl ⊢
  have hl : lv_has ls 2 [(0, .ref (ad 0 0)), (1, .int (nI (S)))] := hl
  refine lv_aload_n hx hb dX4_roundTime_0 rfl (lv_at hl 0 rfl) ?_
  refine va_get (D := D) (ci := 5) (v := .ref (ad 0 3)) (C := RX4) (T := TX4) (N := 11) hx hb hts qi_X4 hown hK (xP1 (hX.main)) 0 rfl rfl 2 (by decide) (hts _ q_fl_X4_22) (fun _ h9 => h9) rfl dX4_roundTime_1 ?_
  refine lv_iconst (v := (-1)) hx hb dX4_roundTime_4 (by decide) ?_
  refine lv_iload_n hx hb dX4_roundTime_5 rfl (lv_at hl 1 rfl) ?_
  refine xcRi (va_runV (As := [.int ((-1)), .int (nI (S))]) (rest := []) ⟨hx, hb, hml, hown, hts⟩ (c_X2_leastFrom l D cA e0 A s.heap ad g tt N hX (-1) 8 S isPl_d hSt hh) ⟨(callB_of 2 hts gi_X2_leastFrom rfl rfl rfl (hts _ q_ini_X2) (hts _ q_ml_X4_158) hd_X2_leastFrom ⟨Nat.le_of_ble_eq_true rfl, Nat.le_of_ble_eq_true rfl⟩), hts _ q_im_X2_leastFrom, hts _ q_sel_X2_X2_leastFrom⟩ (xpV hE hS (hX.roads) rfl) rfl rfl hl.1 rfl (lv_room (Nat.le_of_ble_eq_true rfl)) dX4_roundTime_6 ⟨Nat.le_of_ble_eq_true rfl, Nat.le_of_ble_eq_true rfl⟩) ?_
  refine lv_iload_n hx hb dX4_roundTime_9 rfl (lv_at hl 1 rfl) ?_
  refine lv_aload_n hx hb dX4_roundTime_10 rfl (lv_at hl 0 rfl) ?_
  refine va_get (D := D) (ci := 5) (v := .ref (ad 0 4)) (C := RX4) (T := TX4) (N := 11) hx hb hts qi_X4 hown hK (xP1 (hX.main)) 0 rfl rfl 3 (by decide) (hts _ q_fl_X4_26) (fun _ h9 => h9) rfl dX4_roundTime_11 ?_
  refine xcRi (va_runS (As := [.int (nI (S)), .ref (ad 0 4)]) (rest := [.int (tw (wy g) S 8)]) ⟨hx, hb, hml, hown, hts⟩ (c_X4_sumOver l D cA e0 A s.heap S (ad 0 4) (g 14) hSt (hX.vt)) ⟨(callB_of 2 hts gi_X4_sumOver rfl rfl rfl (hts _ q_ini_X4) (hts _ q_ml_X4_185) hd_X4_sumOver ⟨Nat.le_of_ble_eq_true rfl, Nat.le_of_ble_eq_true rfl⟩), hts _ q_st_X4_sumOver⟩ (xpS hE hS) rfl rfl hl.1 rfl (lv_room (Nat.le_of_ble_eq_true rfl)) dX4_roundTime_14 ⟨Nat.le_of_ble_eq_true rfl, Nat.le_of_ble_eq_true rfl⟩) ?_
  refine lv_iadd hx hb dX4_roundTime_17 ?_
  exact W.iret (v := ((tw (wy g) S 8) + (selF S (g 14) 8))) hx hb hr (fun t ht _ => ⟨rfl, ht⟩) (fun q hq => absurd hq List.not_mem_nil) dX4_roundTime_18
end
section
/-! The class: small methods, what it refuses (by p12.py) -/
theorem ou_nar (v lo hi : Int32) : narrow .boolean (.int (ouI v lo hi)) = .int (ouI v lo hi) := by
  unfold ouI
  by_cases h : v < lo ∨ ¬ v ≤ hi
  · rw [if_pos h]; decide
  · rw [if_neg h]; decide
set_option maxHeartbeats 4000000 in
set_option maxRecDepth 100000 in
/-- isNoMachine(v) -/
theorem c_X4_isNoMachine (l : Launch) (D : va_G) (cA : Nat → ClassId) (e0 : Nat) (A : Nat → Prop) (H0 : Heap) (ad : Nat → Nat → Nat) (g : Nat → Nat → Int32) (tt : Nat → Int64) (N : Nat → Nat) (hX : xW D cA ad g tt N H0) (v : Int32) : Met l yX4_isNoMachine w_X4_isNoMachine ({ frames := 1, cells := 0, slots := 0, locals := 22 } : Room) (xPc D cA e0 A H0 [.ref (ad 0 0), .int (v)]) (xR (some (.int (ouI v (nI 0) (nI (N 0) - nI 1))))) 0 0 (xNo) := by
  refine Met.ofW (cc := cX4_isNoMachine) (maxL := 2) (ret := (some .boolean)) (by decide) rfl ?_
  intro p e s m args below meth c s₁ B hml hv
  obtain ⟨rfl, hH, hE⟩ := hv
  subst hH
  have hx := B.exec
  have hb := B.bytes
  have hr := B.returns
  have hts := hE.1.all ([.ref (ad 0 0), .int (v)] : List Value).toArray
  have hown : s.vm.findClass RX4 = some m.cls := findClass_of_methodNamed B.named
  have hlocks := B.notSynchronized
  have hK := hE.2.1
  have hS : va_S A s.heap s.heap [] := va_S.rf
  have hl := lv_entry ([.ref (ad 0 0), .int (v)]) (n := 2) (Nat.le_of_ble_eq_true rfl)
  rw [lg_entry_eq]
  generalize (lg_sl ([.ref (ad 0 0), .int (v)]) ++ List.replicate (2 - (lg_sl ([.ref (ad 0 0), .int (v)])).length) Slot.unset).toArray = ls at hl ⊢
  have hl : lv_has ls 2 [(0, .ref (ad 0 0)), (1, .int (v))] := hl
  refine lv_iload_n hx hb dX4_isNoMachine_0 rfl (lv_at hl 1 rfl) ?_
  refine lv_iconst (v := nI 0) hx hb dX4_isNoMachine_1 (by decide) ?_
  refine lv_aload_n hx hb dX4_isNoMachine_2 rfl (lv_at hl 0 rfl) ?_
  refine va_get (D := D) (ci := 5) (v := .ref (ad 0 1)) (C := RX4) (T := TX4) (N := 11) hx hb hts qi_X4 hown hK (xP1 (hX.main)) 0 rfl rfl 0 (by decide) (hts _ q_fl_X4_10) (fun _ h9 => h9) rfl dX4_isNoMachine_3 ?_
  refine xcRi (va_runV (As := []) (rest := [.int (nI 0), .int (v)]) ⟨hx, hb, hml, hown, hts⟩ (c_Jx4a65c_size_8abf5 l D cA e0 A s.heap (ad 0 1) (g 18 0) (ad 0 9) (nI (N 0)) (hX.ml)) ⟨(callB_of 0 hts gi_Jx4a65c_size_8abf5 rfl rfl rfl (hts _ q_ini_Jx4a65c) (hts _ q_ml_X4_48) hd_Jx4a65c_size_8abf5 ⟨Nat.le_of_ble_eq_true rfl, Nat.le_of_ble_eq_true rfl⟩), hts _ q_im_Jx4a65c_size_8abf5, hts _ q_sel_Jx4a65c_Jx4a65c_size_8abf5⟩ (xpV hE hS (hX.ml) rfl) rfl rfl hl.1 rfl (lv_room (Nat.le_of_ble_eq_true rfl)) dX4_isNoMachine_6 ⟨Nat.le_of_ble_eq_true rfl, Nat.le_of_ble_eq_true rfl⟩) ?_
  refine lv_iconst (v := nI 1) hx hb dX4_isNoMachine_9 (by decide) ?_
  refine lv_isub hx hb dX4_isNoMachine_10 ?_
  refine xcRi (va_runS (As := [.int (v), .int (nI 0), .int ((nI (N 0)) - (nI 1))]) (rest := []) ⟨hx, hb, hml, hown, hts⟩ (c_X4_outside l D cA e0 A s.heap v (nI 0) ((nI (N 0)) - (nI 1))) ⟨(callB_of 3 hts gi_X4_outside rfl rfl rfl (hts _ q_ini_X4) (hts _ q_ml_X4_37) hd_X4_outside ⟨Nat.le_of_ble_eq_true rfl, Nat.le_of_ble_eq_true rfl⟩), hts _ q_st_X4_outside⟩ (xpS hE hS) rfl rfl hl.1 rfl (lv_room (Nat.le_of_ble_eq_true rfl)) dX4_isNoMachine_11 ⟨Nat.le_of_ble_eq_true rfl, Nat.le_of_ble_eq_true rfl⟩) ?_
  exact W.zret (v := (ouI v (nI 0) ((nI (N 0)) - (nI 1)))) (ty := .boolean) hx hb hr (ou_nar _ _ _) (fun t ht _ => ⟨rfl, ht⟩) (fun q hq => absurd hq List.not_mem_nil) dX4_isNoMachine_14
set_option maxHeartbeats 4000000 in
set_option maxRecDepth 100000 in
/-- isNoPlace(v) -/
theorem c_X4_isNoPlace (l : Launch) (D : va_G) (cA : Nat → ClassId) (e0 : Nat) (A : Nat → Prop) (H0 : Heap) (ad : Nat → Nat → Nat) (g : Nat → Nat → Int32) (tt : Nat → Int64) (N : Nat → Nat) (hX : xW D cA ad g tt N H0) (v : Int32) : Met l yX4_isNoPlace w_X4_isNoPlace ({ frames := 2, cells := 0, slots := 0, locals := 43 } : Room) (xPc D cA e0 A H0 [.ref (ad 0 0), .int (v)]) (xR (some (.int (if v = -1 ∨ ouI v (nI 0) (nI (N 0) - nI 1) = 0 then nI 0 else nI 1)))) 0 0 (xNo) := by
  refine Met.ofW (cc := cX4_isNoPlace) (maxL := 2) (ret := (some .boolean)) (by decide) rfl ?_
  intro p e s m args below meth c s₁ B hml hv
  obtain ⟨rfl, hH, hE⟩ := hv
  subst hH
  have hx := B.exec
  have hb := B.bytes
  have hr := B.returns
  have hts := hE.1.all ([.ref (ad 0 0), .int (v)] : List Value).toArray
  have hown : s.vm.findClass RX4 = some m.cls := findClass_of_methodNamed B.named
  have hlocks := B.notSynchronized
  have hK := hE.2.1
  have hS : va_S A s.heap s.heap [] := va_S.rf
  have hl := lv_entry ([.ref (ad 0 0), .int (v)]) (n := 2) (Nat.le_of_ble_eq_true rfl)
  rw [lg_entry_eq]
  generalize (lg_sl ([.ref (ad 0 0), .int (v)]) ++ List.replicate (2 - (lg_sl ([.ref (ad 0 0), .int (v)])).length) Slot.unset).toArray = ls at hl ⊢
  have hl : lv_has ls 2 [(0, .ref (ad 0 0)), (1, .int (v))] := hl
  refine lv_iload_n hx hb dX4_isNoPlace_0 rfl (lv_at hl 1 rfl) ?_
  refine lv_iconst (v := (-1)) hx hb dX4_isNoPlace_1 (by decide) ?_
  refine lv_icmp_eq (tgt := 17) hx hb dX4_isNoPlace_2 (by decide) (fun c2 => ?_) (fun c2 => ?_)
  · have hr9 : (if v = -1 ∨ ouI v (nI 0) (nI (N 0) - nI 1) = 0 then nI 0 else nI 1) = nI 0 := if_pos (Or.inl c2)
    refine lv_iconst (v := nI 0) hx hb dX4_isNoPlace_17 (by decide) ?_
    have hres : nI 0 = (if v = -1 ∨ ouI v (nI 0) (nI (N 0) - nI 1) = 0 then nI 0 else nI 1) := hr9.symm
    exact W.zret (v := (nI 0)) (ty := .boolean) hx hb hr (by decide) (fun t ht _ => ⟨congrArg (fun z : Int32 => Outcome.returned (some (Value.int z))) hres, ht⟩) (fun q hq => absurd hq List.not_mem_nil) dX4_isNoPlace_18
  · refine lv_aload_n hx hb dX4_isNoPlace_5 rfl (lv_at hl 0 rfl) ?_
    refine lv_iload_n hx hb dX4_isNoPlace_6 rfl (lv_at hl 1 rfl) ?_
    refine xcRi (va_runV (As := [.int (v)]) (rest := []) ⟨hx, hb, hml, hown, hts⟩ (c_X4_isNoMachine l D cA e0 A s.heap ad g tt N hX v) ⟨(callB_of 1 hts gi_X4_isNoMachine rfl rfl rfl (hts _ q_ini_X4) (hts _ q_ml_X4_232) hd_X4_isNoMachine ⟨Nat.le_of_ble_eq_true rfl, Nat.le_of_ble_eq_true rfl⟩), hts _ q_im_X4_isNoMachine, hts _ q_sel_X4_X4_isNoMachine⟩ (xpV hE hS (hX.main) rfl) rfl rfl hl.1 rfl (lv_room (Nat.le_of_ble_eq_true rfl)) dX4_isNoPlace_7 ⟨Nat.le_of_ble_eq_true rfl, Nat.le_of_ble_eq_true rfl⟩) ?_
    refine lv_if_eq (tgt := 17) hx hb dX4_isNoPlace_10 (by decide) (fun c10 => ?_) (fun c10 => ?_)
    · have hr9 : (if v = -1 ∨ ouI v (nI 0) (nI (N 0) - nI 1) = 0 then nI 0 else nI 1) = nI 0 := if_pos (Or.inr c10)
      refine lv_iconst (v := nI 0) hx hb dX4_isNoPlace_17 (by decide) ?_
      have hres : nI 0 = (if v = -1 ∨ ouI v (nI 0) (nI (N 0) - nI 1) = 0 then nI 0 else nI 1) := hr9.symm
      exact W.zret (v := (nI 0)) (ty := .boolean) hx hb hr (by decide) (fun t ht _ => ⟨congrArg (fun z : Int32 => Outcome.returned (some (Value.int z))) hres, ht⟩) (fun q hq => absurd hq List.not_mem_nil) dX4_isNoPlace_18
    · have hr9 : (if v = -1 ∨ ouI v (nI 0) (nI (N 0) - nI 1) = 0 then nI 0 else nI 1) = nI 1 := if_neg (fun z => z.elim c2 c10)
      refine lv_iconst (v := nI 1) hx hb dX4_isNoPlace_13 (by decide) ?_
      refine lv_goto (tgt := 18) hx hb dX4_isNoPlace_14 (by decide) ?_
      have hres : nI 1 = (if v = -1 ∨ ouI v (nI 0) (nI (N 0) - nI 1) = 0 then nI 0 else nI 1) := hr9.symm
      exact W.zret (v := (nI 1)) (ty := .boolean) hx hb hr (by decide) (fun t ht _ => ⟨congrArg (fun z : Int32 => Outcome.returned (some (Value.int z))) hres, ht⟩) (fun q hq => absurd hq List.not_mem_nil) dX4_isNoPlace_18
set_option maxHeartbeats 4000000 in
set_option maxRecDepth 100000 in
/-- X4_machineCount -/
theorem c_X4_machineCount (l : Launch) (D : va_G) (cA : Nat → ClassId) (e0 : Nat) (A : Nat → Prop) (H0 : Heap) (ad : Nat → Nat → Nat) (g : Nat → Nat → Int32) (tt : Nat → Int64) (N : Nat → Nat) (hX : xW D cA ad g tt N H0) : Met l yX4_machineCount w_X4_machineCount ({ frames := 1, cells := 0, slots := 0, locals := 20 } : Room) (xPc D cA e0 A H0 [.ref (ad 0 0)]) (xR (some (.int (nI (N 0))))) 0 0 (xNo) := by
  refine Met.ofW (cc := cX4_machineCount) (maxL := 1) (ret := (some .int)) (by decide) rfl ?_
  intro p e s m args below meth c s₁ B hml hv
  obtain ⟨rfl, hH, hE⟩ := hv
  subst hH
  have hx := B.exec
  have hb := B.bytes
  have hr := B.returns
  have hts := hE.1.all ([.ref (ad 0 0)] : List Value).toArray
  have hown : s.vm.findClass RX4 = some m.cls := findClass_of_methodNamed B.named
  have hlocks := B.notSynchronized
  have hK := hE.2.1
  have hS : va_S A s.heap s.heap [] := va_S.rf
  have hl := lv_entry ([.ref (ad 0 0)]) (n := 1) (Nat.le_of_ble_eq_true rfl)
  rw [lg_entry_eq]
  generalize (lg_sl ([.ref (ad 0 0)]) ++ List.replicate (1 - (lg_sl ([.ref (ad 0 0)])).length) Slot.unset).toArray = ls at hl ⊢
  have hl : lv_has ls 1 [(0, .ref (ad 0 0))] := hl
  refine lv_aload_n hx hb dX4_machineCount_0 rfl (lv_at hl 0 rfl) ?_
  refine va_get (D := D) (ci := 5) (v := .ref (ad 0 1)) (C := RX4) (T := TX4) (N := 11) hx hb hts qi_X4 hown hK (xP1 (hX.main)) 0 rfl rfl 0 (by decide) (hts _ q_fl_X4_10) (fun _ h9 => h9) rfl dX4_machineCount_1 ?_
  refine xcRi (va_runV (As := []) (rest := []) ⟨hx, hb, hml, hown, hts⟩ (c_Jx4a65c_size_8abf5 l D cA e0 A s.heap (ad 0 1) (g 18 0) (ad 0 9) (nI (N 0)) (hX.ml)) ⟨(callB_of 0 hts gi_Jx4a65c_size_8abf5 rfl rfl rfl (hts _ q_ini_Jx4a65c) (hts _ q_ml_X4_48) hd_Jx4a65c_size_8abf5 ⟨Nat.le_of_ble_eq_true rfl, Nat.le_of_ble_eq_true rfl⟩), hts _ q_im_Jx4a65c_size_8abf5, hts _ q_sel_Jx4a65c_Jx4a65c_size_8abf5⟩ (xpV hE hS (hX.ml) rfl) rfl rfl hl.1 rfl (lv_room (Nat.le_of_ble_eq_true rfl)) dX4_machineCount_4 ⟨Nat.le_of_ble_eq_true rfl, Nat.le_of_ble_eq_true rfl⟩) ?_
  exact W.iret (v := (nI (N 0))) hx hb hr (fun t ht _ => ⟨rfl, ht⟩) (fun q hq => absurd hq List.not_mem_nil) dX4_machineCount_7
set_option maxHeartbeats 4000000 in
set_option maxRecDepth 100000 in
/-- X4_planned -/
theorem c_X4_planned (l : Launch) (D : va_G) (cA : Nat → ClassId) (e0 : Nat) (A : Nat → Prop) (H0 : Heap) (ad : Nat → Nat → Nat) (g : Nat → Nat → Int32) (tt : Nat → Int64) (N : Nat → Nat) (hX : xW D cA ad g tt N H0) : Met l yX4_planned w_X4_planned ({ frames := 1, cells := 0, slots := 0, locals := 20 } : Room) (xPc D cA e0 A H0 [.ref (ad 0 0)]) (xR (some (.int (nI (N 1))))) 0 0 (xNo) := by
  refine Met.ofW (cc := cX4_planned) (maxL := 1) (ret := (some .int)) (by decide) rfl ?_
  intro p e s m args below meth c s₁ B hml hv
  obtain ⟨rfl, hH, hE⟩ := hv
  subst hH
  have hx := B.exec
  have hb := B.bytes
  have hr := B.returns
  have hts := hE.1.all ([.ref (ad 0 0)] : List Value).toArray
  have hown : s.vm.findClass RX4 = some m.cls := findClass_of_methodNamed B.named
  have hlocks := B.notSynchronized
  have hK := hE.2.1
  have hS : va_S A s.heap s.heap [] := va_S.rf
  have hl := lv_entry ([.ref (ad 0 0)]) (n := 1) (Nat.le_of_ble_eq_true rfl)
  rw [lg_entry_eq]
  generalize (lg_sl ([.ref (ad 0 0)]) ++ List.replicate (1 - (lg_sl ([.ref (ad 0 0)])).length) Slot.unset).toArray = ls at hl ⊢
  have hl : lv_has ls 1 [(0, .ref (ad 0 0))] := hl
  refine lv_aload_n hx hb dX4_planned_0 rfl (lv_at hl 0 rfl) ?_
  refine va_get (D := D) (ci := 5) (v := .ref (ad 0 2)) (C := RX4) (T := TX4) (N := 11) hx hb hts qi_X4 hown hK (xP1 (hX.main)) 0 rfl rfl 1 (by decide) (hts _ q_fl_X4_16) (fun _ h9 => h9) rfl dX4_planned_1 ?_
  refine xcRi (va_runV (As := []) (rest := []) ⟨hx, hb, hml, hown, hts⟩ (c_Jx4a65c_size_8abf5 l D cA e0 A s.heap (ad 0 2) (g 18 1) (ad 0 10) (nI (N 1)) (hX.cl)) ⟨(callB_of 0 hts gi_Jx4a65c_size_8abf5 rfl rfl rfl (hts _ q_ini_Jx4a65c) (hts _ q_ml_X4_48) hd_Jx4a65c_size_8abf5 ⟨Nat.le_of_ble_eq_true rfl, Nat.le_of_ble_eq_true rfl⟩), hts _ q_im_Jx4a65c_size_8abf5, hts _ q_sel_Jx4a65c_Jx4a65c_size_8abf5⟩ (xpV hE hS (hX.cl) rfl) rfl rfl hl.1 rfl (lv_room (Nat.le_of_ble_eq_true rfl)) dX4_planned_4 ⟨Nat.le_of_ble_eq_true rfl, Nat.le_of_ble_eq_true rfl⟩) ?_
  exact W.iret (v := (nI (N 1))) hx hb hr (fun t ht _ => ⟨rfl, ht⟩) (fun q hq => absurd hq List.not_mem_nil) dX4_planned_7
set_option maxHeartbeats 4000000 in
set_option maxRecDepth 100000 in
/-- today() -/
theorem c_X4_today (l : Launch) (D : va_G) (cA : Nat → ClassId) (e0 : Nat) (A : Nat → Prop) (H0 : Heap) (ad : Nat → Nat → Nat) (g : Nat → Nat → Int32) (tt : Nat → Int64) (N : Nat → Nat) (hX : xW D cA ad g tt N H0) : Met l yX4_today w_X4_today ({ frames := 0, cells := 0, slots := 0, locals := 0 } : Room) (xPc D cA e0 A H0 [.ref (ad 0 0)]) (xR (some (.int (g 13 0)))) 0 0 (xNo) := by
  refine Met.ofW (cc := cX4_today) (maxL := 1) (ret := (some .int)) (by decide) rfl ?_
  intro p e s m args below meth c s₁ B hml hv
  obtain ⟨rfl, hH, hE⟩ := hv
  subst hH
  have hx := B.exec
  have hb := B.bytes
  have hr := B.returns
  have hts := hE.1.all ([.ref (ad 0 0)] : List Value).toArray
  have hown : s.vm.findClass RX4 = some m.cls := findClass_of_methodNamed B.named
  have hlocks := B.notSynchronized
  have hK := hE.2.1
  have hS : va_S A s.heap s.heap [] := va_S.rf
  have hl := lv_entry ([.ref (ad 0 0)]) (n := 1) (Nat.le_of_ble_eq_true rfl)
  rw [lg_entry_eq]
  generalize (lg_sl ([.ref (ad 0 0)]) ++ List.replicate (1 - (lg_sl ([.ref (ad 0 0)])).length) Slot.unset).toArray = ls at hl ⊢
  have hl : lv_has ls 1 [(0, .ref (ad 0 0))] := hl
  refine lv_aload_n hx hb dX4_today_0 rfl (lv_at hl 0 rfl) ?_
  refine va_get (D := D) (ci := 5) (v := .int (g 13 0)) (C := RX4) (T := TX4) (N := 11) hx hb hts qi_X4 hown hK (xP1 (hX.main)) 0 rfl rfl 6 (by decide) (hts _ q_fl_X4_115) (fun _ h9 => h9) rfl dX4_today_1 ?_
  exact W.iret (v := (g 13 0)) hx hb hr (fun t ht _ => ⟨rfl, ht⟩) (fun q hq => absurd hq List.not_mem_nil) dX4_today_4
set_option maxHeartbeats 4000000 in
set_option maxRecDepth 100000 in
/-- machineAt(v) -/
theorem c_X4_machineAt (l : Launch) (D : va_G) (cA : Nat → ClassId) (e0 : Nat) (A : Nat → Prop) (H0 : Heap) (ad : Nat → Nat → Nat) (g : Nat → Nat → Int32) (tt : Nat → Int64) (N : Nat → Nat) (hX : xW D cA ad g tt N H0) (v : Int32) (hA : xA A e0 ad N) (hl9 : l.stackTraces = false) : vx_Met l yX4_machineAt w_X4_machineAt ({ frames := 6, cells := 1, slots := 6, locals := 100 } : Room) (xPc D cA e0 A H0 [.ref (ad 0 0), .int (v)]) (xQr (fun r h => h = H0 ∧ ∃ i, i < N 0 ∧ v = nI i ∧ r = ad 1 i) A) (xX (fun E => E = xIOB ∧ ¬ ∃ i, i < N 0 ∧ v = nI i)) 1 6 (A) := by
  refine vx_ofW (cc := cX4_machineAt) (maxL := 2) (ret := (some (.object "VendingRounds$Machine"))) (by decide) rfl ?_
  intro p e s m args below meth c s₁ B hml hxt hv
  obtain ⟨rfl, hH, hE⟩ := hv
  subst hH
  have hx := B.exec
  have hb := B.bytes
  have hr := B.returns
  have hts := hE.1.all ([.ref (ad 0 0), .int (v)] : List Value).toArray
  have hown : s.vm.findClass RX4 = some m.cls := findClass_of_methodNamed B.named
  have hlocks := B.notSynchronized
  have hK := hE.2.1
  have hS : va_S A s.heap s.heap [] := va_S.rf
  have hl := lv_entry ([.ref (ad 0 0), .int (v)]) (n := 2) (Nat.le_of_ble_eq_true rfl)
  rw [lg_entry_eq]
  generalize (lg_sl ([.ref (ad 0 0), .int (v)]) ++ List.replicate (2 - (lg_sl ([.ref (ad 0 0), .int (v)])).length) Slot.unset).toArray = ls at hl ⊢
  have hl : lv_has ls 2 [(0, .ref (ad 0 0)), (1, .int (v))] := hl
  refine lv_aload_n hx hb dX4_machineAt_0 rfl (lv_at hl 0 rfl) ?_
  refine lv_iload_n hx hb dX4_machineAt_1 rfl (lv_at hl 1 rfl) ?_
  refine xcRi (va_runV (As := [.int (v)]) (rest := []) ⟨hx, hb, hml, hown, hts⟩ (c_X4_isNoMachine l D cA e0 A s.heap ad g tt N hX v) ⟨(callB_of 1 hts gi_X4_isNoMachine rfl rfl rfl (hts _ q_ini_X4) (hts _ q_ml_X4_232) hd_X4_isNoMachine ⟨Nat.le_of_ble_eq_true rfl, Nat.le_of_ble_eq_true rfl⟩), hts _ q_im_X4_isNoMachine, hts _ q_sel_X4_X4_isNoMachine⟩ (xpV hE hS (hX.main) rfl) rfl rfl hl.1 rfl (lv_room (Nat.le_of_ble_eq_true rfl)) dX4_machineAt_2 ⟨Nat.le_of_ble_eq_true rfl, Nat.le_of_ble_eq_true rfl⟩) ?_
  refine lv_if_eq (tgt := 18) hx hb dX4_machineAt_5 (by decide) (fun c5 => ?_) (fun c5 => ?_)
  · obtain ⟨i0, hi0, rfl⟩ := (ou_m (by have := hA.n8; omega)).mp c5
    have hN2 : 0 < N 2 := by have := hA.2.2.2.2.2.1; omega
    refine lv_aload_n hx hb dX4_machineAt_18 rfl (lv_at hl 0 rfl) ?_
    refine va_get (D := D) (ci := 5) (v := .ref (ad 0 1)) (C := RX4) (T := TX4) (N := 11) hx hb hts qi_X4 hown hK (xP1 (hX.main)) 0 rfl rfl 0 (by decide) (hts _ q_fl_X4_10) (fun _ h9 => h9) rfl dX4_machineAt_19 ?_
    refine lv_iload_n hx hb dX4_machineAt_22 rfl (lv_at hl 1 rfl) ?_
    refine xcRr (va_runV (As := [.int (nI (i0))]) (rest := []) ⟨hx, hb, hml, hown, hts⟩ (c_Jx4a65c_get_915e3 l D cA e0 A s.heap (ad 0 1) (g 18 0) (ad 0 9) (N 0) (hX.ml) (N 2) (fun j => if j < N 0 then some (ad 1 j) else none) (hX.md hN2) i0 (ad 1 i0) hi0 hA.2.2.2.2.2.1 (by have := hA.2.2.2.2.2.2.1; omega) (if_pos hi0)) ⟨(callB_of 1 hts gi_Jx4a65c_get_915e3 rfl rfl rfl (hts _ q_ini_Jx4a65c) (hts _ q_ml_X4_196) hd_Jx4a65c_get_915e3 ⟨Nat.le_of_ble_eq_true rfl, Nat.le_of_ble_eq_true rfl⟩), hts _ q_im_Jx4a65c_get_915e3, hts _ q_sel_Jx4a65c_Jx4a65c_get_915e3⟩ (xpV hE hS (hX.ml) rfl) rfl rfl hl.1 rfl (lv_room (Nat.le_of_ble_eq_true rfl)) dX4_machineAt_23 ⟨Nat.le_of_ble_eq_true rfl, Nat.le_of_ble_eq_true rfl⟩) ?_
    refine va_castS hx hb hown (hts _ q_cl_X4_57) (hK.1 1 _ rfl).2 (va_recv hK (xP1 (hX.mach hi0)) (ci := 1) (q0 := 0) rfl rfl) dX4_machineAt_26 ?_
    refine vx_ret ?_
    have hpost := (⟨rfl, i0, hi0, rfl, rfl⟩ : s.heap = s.heap ∧ ∃ i, i < N 0 ∧ nI i0 = nI i ∧ ad 1 i0 = ad 1 i)
    refine W.widen (k := 1) (n := 6) (by omega) (by omega) ?_
    exact W.aret (v := .ref (ad 1 i0)) hx hb hr (Or.inl ⟨_, rfl⟩) (Or.inr ⟨_, rfl⟩) (fun t ht _ => ⟨⟨s.heap, (ad 1 i0), rfl, trivial, hpost, ht⟩, hS.F ht⟩) hS.2.2 dX4_machineAt_29
  · exact xthrow (cls := xIOB) (text := "there is no such machine") hx hb hl9 hE hS hown (by decide +kernel) q_cl_X4_73 q_ini_java_lang_IndexOutOfBoundsException xth_IOB xgd_IOB (by decide) (hl.1.trans hml.symm) dX4_machineAt_8 dX4_machineAt_11 dX4_machineAt_12 dX4_machineAt_14 dX4_machineAt_17 hxt (Nat.le_of_ble_eq_true rfl) (Nat.le_of_ble_eq_true rfl) (Nat.le_of_ble_eq_true rfl) (Nat.le_of_ble_eq_true rfl) hlocks (⟨rfl, fun z => c5 ((ou_m (by have := hA.n8; omega)).mpr z)⟩) (Nat.le_of_ble_eq_true rfl) (Nat.le_of_ble_eq_true rfl)
set_option maxHeartbeats 4000000 in
set_option maxRecDepth 100000 in
/-- slotAt(v, w) -/
theorem c_X4_slotAt (l : Launch) (D : va_G) (cA : Nat → ClassId) (e0 : Nat) (A : Nat → Prop) (H0 : Heap) (ad : Nat → Nat → Nat) (g : Nat → Nat → Int32) (tt : Nat → Int64) (N : Nat → Nat) (hX : xW D cA ad g tt N H0) (v w : Int32) (hA : xA A e0 ad N) (hl9 : l.stackTraces = false) : vx_Met l yX4_slotAt w_X4_slotAt ({ frames := 7, cells := 2, slots := 12, locals := 121 } : Room) (xPc D cA e0 A H0 [.ref (ad 0 0), .int (v), .int (w)]) (xQr (fun r h => h = H0 ∧ ∃ i j, i < N 0 ∧ j < 6 ∧ v = nI i ∧ w = nI j ∧ r = ad 3 (6 * i + j)) A) (xX (fun E => E = xIOB ∧ ¬ ∃ i j, i < N 0 ∧ j < 6 ∧ v = nI i ∧ w = nI j)) 2 12 (A) := by
  refine vx_ofW (cc := cX4_slotAt) (maxL := 4) (ret := (some (.object "VendingRounds$Slot"))) (by decide) rfl ?_
  intro p e s m args below meth c s₁ B hml hxt hv
  obtain ⟨rfl, hH, hE⟩ := hv
  subst hH
  have hx := B.exec
  have hb := B.bytes
  have hr := B.returns
  have hts := hE.1.all ([.ref (ad 0 0), .int (v), .int (w)] : List Value).toArray
  have hown : s.vm.findClass RX4 = some m.cls := findClass_of_methodNamed B.named
  have hlocks := B.notSynchronized
  have hK := hE.2.1
  have hS : va_S A s.heap s.heap [] := va_S.rf
  have hl := lv_entry ([.ref (ad 0 0), .int (v), .int (w)]) (n := 4) (Nat.le_of_ble_eq_true rfl)
  rw [lg_entry_eq]
  generalize (lg_sl ([.ref (ad 0 0), .int (v), .int (w)]) ++ List.replicate (4 - (lg_sl ([.ref (ad 0 0), .int (v), .int (w)])).length) Slot.unset).toArray = ls at hl ⊢
  have hl : lv_has ls 4 [(0, .ref (ad 0 0)), (1, .int (v)), (2, .int (w))] := hl
  refine lv_aload_n hx hb dX4_slotAt_0 rfl (lv_at hl 0 rfl) ?_
  refine lv_iload_n hx hb dX4_slotAt_1 rfl (lv_at hl 1 rfl) ?_
  refine xcXr (vx_runV (As := [.int (v)]) (rest := []) ⟨hx, hb, hml, hown, hts⟩ (c_X4_machineAt l D cA e0 A s.heap ad g tt N hX v hA hl9) ⟨(callB_of 1 hts gi_X4_machineAt rfl rfl rfl (hts _ q_ini_X4) (hts _ q_ml_X4_138) hd_X4_machineAt ⟨Nat.le_of_ble_eq_true rfl, Nat.le_of_ble_eq_true rfl⟩), hts _ q_im_X4_machineAt, hts _ q_sel_X4_X4_machineAt⟩ (xpV hE hS (hX.main) rfl) rfl rfl hl.1 rfl (lv_room (Nat.le_of_ble_eq_true rfl)) dX4_slotAt_2 ⟨Nat.le_of_ble_eq_true rfl, Nat.le_of_ble_eq_true rfl⟩) hS (fun q h => h) (fun E9 ce9 q9 H9 locs9 hPX9 hz9 hk9 hS9 hc9 hv9 hcl9 => ?_) (fun r9_1 H1 locs hP9 hz9 hk9 hS => ?_)
  · exact vx_out (fun x h => (hxt x h).elim) hlocks hc9 hv9 hcl9 (fun t ht _ => ⟨(), trivial, ⟨hPX9.1, fun ⟨i, _, h1, _, h3, _⟩ => hPX9.2 ⟨i, h1, h3⟩⟩, by rw [ht]; exact hz9, fun q hq _ => by rw [ht]; exact hk9 q hq⟩) hS9.2.2 (Nat.le_of_ble_eq_true rfl) (Nat.le_of_ble_eq_true rfl)
  obtain ⟨rfl, i0, hi0, rfl, rfl⟩ := hP9
  refine lv_astore_n (lv' := [(3, .ref (ad 1 i0)), (0, .ref (ad 0 0)), (1, .int (nI (i0))), (2, .int (w))]) hx hb dX4_slotAt_5 rfl hl (by decide) rfl (fun ls hl => ?_)
  refine lv_iload_n hx hb dX4_slotAt_6 rfl (lv_at hl 3 rfl) ?_
  refine lv_iconst (v := nI 0) hx hb dX4_slotAt_7 (by decide) ?_
  refine lv_iconst (v := nI 5) hx hb dX4_slotAt_8 (by decide) ?_
  refine xcRi (va_runS (As := [.int (w), .int (nI 0), .int (nI 5)]) (rest := []) ⟨hx, hb, hml, hown, hts⟩ (c_X4_outside l D cA e0 A s.heap w (nI 0) (nI 5)) ⟨(callB_of 3 hts gi_X4_outside rfl rfl rfl (hts _ q_ini_X4) (hts _ q_ml_X4_37) hd_X4_outside ⟨Nat.le_of_ble_eq_true rfl, Nat.le_of_ble_eq_true rfl⟩), hts _ q_st_X4_outside⟩ (xpS hE hS) rfl rfl hl.1 rfl (lv_room (Nat.le_of_ble_eq_true rfl)) dX4_slotAt_9 ⟨Nat.le_of_ble_eq_true rfl, Nat.le_of_ble_eq_true rfl⟩) ?_
  refine lv_if_eq (tgt := 25) hx hb dX4_slotAt_12 (by decide) (fun c12 => ?_) (fun c12 => ?_)
  · obtain ⟨j0, hj0, rfl⟩ := (ou_k (by omega)).mp c12
    refine lv_aload_n hx hb dX4_slotAt_25 rfl (lv_at hl 0 rfl) ?_
    refine va_get (D := D) (ci := 1) (v := .ref (ad 2 i0)) (C := RX0) (T := TX0) (N := 4) hx hb hts qi_X0 hown hK (xP1 (hX.mach hi0)) 0 rfl rfl 1 (by decide) (hts _ q_fl_X4_212) (fun _ h9 => h9) rfl dX4_slotAt_26 ?_
    refine lv_iload_n hx hb dX4_slotAt_29 rfl (lv_at hl 3 rfl) ?_
    refine va_aldq hx hb hK (xP1 (hX.row hi0)) 0 3 rfl rfl (i := nI (j0)) (vp_in_nI (n := j0) (by omega) (by omega)) dX4_slotAt_30 ?_
    refine xtopv (y := .ref (ad 3 (6 * i0 + j0))) (by rw [nI_clamp (n := j0) (by omega)] <;> rfl) ?_
    refine vx_ret ?_
    have hpost := (⟨rfl, i0, j0, hi0, by omega, rfl, rfl, rfl⟩ : s.heap = s.heap ∧ ∃ i j, i < N 0 ∧ j < 6 ∧ nI i0 = nI i ∧ nI j0 = nI j ∧ ad 3 (6 * i0 + j0) = ad 3 (6 * i + j))
    refine W.widen (k := 2) (n := 12) (by omega) (by omega) ?_
    exact W.aret (v := .ref (ad 3 (6 * i0 + j0))) hx hb hr (Or.inl ⟨_, rfl⟩) (Or.inr ⟨_, rfl⟩) (fun t ht _ => ⟨⟨s.heap, (ad 3 (6 * i0 + j0)), rfl, trivial, hpost, ht⟩, hS.F ht⟩) hS.2.2 dX4_slotAt_31
  · exact xthrow (cls := xIOB) (text := "product is not 0 to 5") hx hb hl9 hE hS hown (by decide +kernel) q_cl_X4_73 q_ini_java_lang_IndexOutOfBoundsException xth_IOB xgd_IOB (by decide) (hl.1.trans hml.symm) dX4_slotAt_15 dX4_slotAt_18 dX4_slotAt_19 dX4_slotAt_21 dX4_slotAt_24 hxt (Nat.le_of_ble_eq_true rfl) (Nat.le_of_ble_eq_true rfl) (Nat.le_of_ble_eq_true rfl) (Nat.le_of_ble_eq_true rfl) hlocks (⟨rfl, fun ⟨_, j, _, h2, _, h4⟩ => c12 ((ou_k (by omega)).mpr ⟨j, by omega, h4⟩)⟩) (Nat.le_of_ble_eq_true rfl) (Nat.le_of_ble_eq_true rfl)
set_option maxHeartbeats 4000000 in
set_option maxRecDepth 100000 in
/-- requireSet(v) -/
theorem c_X4_requireSet (l : Launch) (D : va_G) (cA : Nat → ClassId) (e0 : Nat) (A : Nat → Prop) (H0 : Heap) (ad : Nat → Nat → Nat) (g : Nat → Nat → Int32) (tt : Nat → Int64) (N : Nat → Nat) (hX : xW D cA ad g tt N H0) (v : Int32) (hA : xA A e0 ad N) (hl9 : l.stackTraces = false) : vx_Met l yX4_requireSet w_X4_requireSet ({ frames := 6, cells := 1, slots := 6, locals := 100 } : Room) (xPc D cA e0 A H0 [.ref (ad 0 0), .int (v)]) (xQv (fun h => h = H0 ∧ ∃ S, S < 2 ^ N 0 ∧ v = nI S) A) (xX (fun E => E = xIAE ∧ ¬ ∃ S, S < 2 ^ N 0 ∧ v = nI S)) 1 6 (A) := by
  refine vx_ofW (cc := cX4_requireSet) (maxL := 2) (ret := none) (by decide) rfl ?_
  intro p e s m args below meth c s₁ B hml hxt hv
  obtain ⟨rfl, hH, hE⟩ := hv
  subst hH
  have hx := B.exec
  have hb := B.bytes
  have hr := B.returns
  have hts := hE.1.all ([.ref (ad 0 0), .int (v)] : List Value).toArray
  have hown : s.vm.findClass RX4 = some m.cls := findClass_of_methodNamed B.named
  have hlocks := B.notSynchronized
  have hK := hE.2.1
  have hS : va_S A s.heap s.heap [] := va_S.rf
  have hl := lv_entry ([.ref (ad 0 0), .int (v)]) (n := 2) (Nat.le_of_ble_eq_true rfl)
  rw [lg_entry_eq]
  generalize (lg_sl ([.ref (ad 0 0), .int (v)]) ++ List.replicate (2 - (lg_sl ([.ref (ad 0 0), .int (v)])).length) Slot.unset).toArray = ls at hl ⊢
  have hl : lv_has ls 2 [(0, .ref (ad 0 0)), (1, .int (v))] := hl
  refine lv_iload_n hx hb dX4_requireSet_0 rfl (lv_at hl 1 rfl) ?_
  refine lv_aload_n hx hb dX4_requireSet_1 rfl (lv_at hl 0 rfl) ?_
  refine va_get (D := D) (ci := 5) (v := .ref (ad 0 1)) (C := RX4) (T := TX4) (N := 11) hx hb hts qi_X4 hown hK (xP1 (hX.main)) 0 rfl rfl 0 (by decide) (hts _ q_fl_X4_10) (fun _ h9 => h9) rfl dX4_requireSet_2 ?_
  refine xcRi (va_runV (As := []) (rest := [.int (v)]) ⟨hx, hb, hml, hown, hts⟩ (c_Jx4a65c_size_8abf5 l D cA e0 A s.heap (ad 0 1) (g 18 0) (ad 0 9) (nI (N 0)) (hX.ml)) ⟨(callB_of 0 hts gi_Jx4a65c_size_8abf5 rfl rfl rfl (hts _ q_ini_Jx4a65c) (hts _ q_ml_X4_48) hd_Jx4a65c_size_8abf5 ⟨Nat.le_of_ble_eq_true rfl, Nat.le_of_ble_eq_true rfl⟩), hts _ q_im_Jx4a65c_size_8abf5, hts _ q_sel_Jx4a65c_Jx4a65c_size_8abf5⟩ (xpV hE hS (hX.ml) rfl) rfl rfl hl.1 rfl (lv_room (Nat.le_of_ble_eq_true rfl)) dX4_requireSet_5 ⟨Nat.le_of_ble_eq_true rfl, Nat.le_of_ble_eq_true rfl⟩) ?_
  refine lv_iushr (v := (v.toUInt32 >>> ((nI (N 0)).toUInt32 &&& Int32.toUInt32 31)).toInt32) hx hb dX4_requireSet_8 rfl ?_
  refine lv_if_eq (tgt := 22) hx hb dX4_requireSet_9 (by decide) (fun c9 => ?_) (fun c9 => ?_)
  · refine vx_ret ?_
    have hpost := (⟨rfl, (rs_iff hA.n8).mp c9⟩ : s.heap = s.heap ∧ ∃ S, S < 2 ^ N 0 ∧ v = nI S)
    refine W.widen (k := 1) (n := 6) (by omega) (by omega) ?_
    exact W.vret hx hb hr (fun t ht _ => ⟨⟨s.heap, rfl, hpost, ht⟩, hS.F ht⟩) hS.2.2 dX4_requireSet_22
  · exact xthrow (cls := xIAE) (text := "machines contains something that is no machine") hx hb hl9 hE hS hown (by decide +kernel) q_cl_X4_41 q_ini_java_lang_IllegalArgumentException xth_IAE xgd_IAE (by decide) (hl.1.trans hml.symm) dX4_requireSet_12 dX4_requireSet_15 dX4_requireSet_16 dX4_requireSet_18 dX4_requireSet_21 hxt (Nat.le_of_ble_eq_true rfl) (Nat.le_of_ble_eq_true rfl) (Nat.le_of_ble_eq_true rfl) (Nat.le_of_ble_eq_true rfl) hlocks (⟨rfl, fun z => c9 ((rs_iff hA.n8).mpr z)⟩) (Nat.le_of_ble_eq_true rfl) (Nat.le_of_ble_eq_true rfl)
set_option maxHeartbeats 4000000 in
set_option maxRecDepth 100000 in
/-- requireLoad(v) -/
theorem c_X4_requireLoad (l : Launch) (D : va_G) (cA : Nat → ClassId) (e0 : Nat) (A : Nat → Prop) (H0 : Heap) (v : Int32) (hl9 : l.stackTraces = false) : vx_Met l yX4_requireLoad w_X4_requireLoad ({ frames := 6, cells := 1, slots := 6, locals := 100 } : Room) (xPc D cA e0 A H0 [.int (v)]) (xQv (fun h => h = H0 ∧ ∃ k, k ≤ 2000 ∧ v = nI k) A) (xX (fun E => E = xIAE ∧ ¬ ∃ k, k ≤ 2000 ∧ v = nI k)) 1 6 (A) := by
  refine vx_ofW (cc := cX4_requireLoad) (maxL := 1) (ret := none) (by decide) rfl ?_
  intro p e s m args below meth c s₁ B hml hxt hv
  obtain ⟨rfl, hH, hE⟩ := hv
  subst hH
  have hx := B.exec
  have hb := B.bytes
  have hr := B.returns
  have hts := hE.1.all ([.int (v)] : List Value).toArray
  have hown : s.vm.findClass RX4 = some m.cls := findClass_of_methodNamed B.named
  have hlocks := B.notSynchronized
  have hK := hE.2.1
  have hS : va_S A s.heap s.heap [] := va_S.rf
  have hl := lv_entry ([.int (v)]) (n := 1) (Nat.le_of_ble_eq_true rfl)
  rw [lg_entry_eq]
  generalize (lg_sl ([.int (v)]) ++ List.replicate (1 - (lg_sl ([.int (v)])).length) Slot.unset).toArray = ls at hl ⊢
  have hl : lv_has ls 1 [(0, .int (v))] := hl
  refine lv_iload_n hx hb dX4_requireLoad_0 rfl (lv_at hl 0 rfl) ?_
  refine lv_iconst (v := nI 0) hx hb dX4_requireLoad_1 (by decide) ?_
  refine lv_sipush (v := nI 2000) hx hb dX4_requireLoad_2 (by decide) ?_
  refine xcRi (va_runS (As := [.int (v), .int (nI 0), .int (nI 2000)]) (rest := []) ⟨hx, hb, hml, hown, hts⟩ (c_X4_outside l D cA e0 A s.heap v (nI 0) (nI 2000)) ⟨(callB_of 3 hts gi_X4_outside rfl rfl rfl (hts _ q_ini_X4) (hts _ q_ml_X4_37) hd_X4_outside ⟨Nat.le_of_ble_eq_true rfl, Nat.le_of_ble_eq_true rfl⟩), hts _ q_st_X4_outside⟩ (xpS hE hS) rfl rfl hl.1 rfl (lv_room (Nat.le_of_ble_eq_true rfl)) dX4_requireLoad_5 ⟨Nat.le_of_ble_eq_true rfl, Nat.le_of_ble_eq_true rfl⟩) ?_
  refine lv_if_eq (tgt := 21) hx hb dX4_requireLoad_8 (by decide) (fun c8 => ?_) (fun c8 => ?_)
  · refine vx_ret ?_
    have hpost := (⟨rfl, (ou_k (by omega)).mp c8⟩ : s.heap = s.heap ∧ ∃ k, k ≤ 2000 ∧ v = nI k)
    refine W.widen (k := 1) (n := 6) (by omega) (by omega) ?_
    exact W.vret hx hb hr (fun t ht _ => ⟨⟨s.heap, rfl, hpost, ht⟩, hS.F ht⟩) hS.2.2 dX4_requireLoad_21
  · exact xthrow (cls := xIAE) (text := "load is not 0 to 2000") hx hb hl9 hE hS hown (by decide +kernel) q_cl_X4_41 q_ini_java_lang_IllegalArgumentException xth_IAE xgd_IAE (by decide) (hl.1.trans hml.symm) dX4_requireLoad_11 dX4_requireLoad_14 dX4_requireLoad_15 dX4_requireLoad_17 dX4_requireLoad_20 hxt (Nat.le_of_ble_eq_true rfl) (Nat.le_of_ble_eq_true rfl) (Nat.le_of_ble_eq_true rfl) (Nat.le_of_ble_eq_true rfl) hlocks (⟨rfl, fun z => c8 ((ou_k (by omega)).mpr z)⟩) (Nat.le_of_ble_eq_true rfl) (Nat.le_of_ble_eq_true rfl)
end
section
/-! The class: calls that only read (by p13.py) -/
set_option maxHeartbeats 4000000 in
set_option maxRecDepth 100000 in
/-- Integer.bitCount(S) -/
theorem c_J6_bitCount_0f7a4 (l : Launch) (D : va_G) (cA : Nat → ClassId) (e0 : Nat) (A : Nat → Prop) (H0 : Heap) (S : Nat) (hSt : S < 256) : Met l yJ6_bitCount_0f7a4 w_J6_bitCount_0f7a4 ({ frames := 0, cells := 0, slots := 0, locals := 0 } : Room) (xPc D cA e0 A H0 [.int (nI (S))]) (xR (some (.int (nI (bc S))))) 0 0 (xNo) := by
  refine Met.ofW (cc := cJ6_bitCount_0f7a4) (maxL := 1) (ret := (some .int)) (by decide) rfl ?_
  intro p e s m args below meth c s₁ B hml hv
  obtain ⟨rfl, hH, hE⟩ := hv
  subst hH
  have hx := B.exec
  have hb := B.bytes
  have hr := B.returns
  have hts := hE.1.all ([.int (nI (S))] : List Value).toArray
  have hown : s.vm.findClass RJ6 = some m.cls := findClass_of_methodNamed B.named
  have hlocks := B.notSynchronized
  have hK := hE.2.1
  have hS : va_S A s.heap s.heap [] := va_S.rf
  have hl := lv_entry ([.int (nI (S))]) (n := 1) (Nat.le_of_ble_eq_true rfl)
  rw [lg_entry_eq]
  generalize (lg_sl ([.int (nI (S))]) ++ List.replicate (1 - (lg_sl ([.int (nI (S))])).length) Slot.unset).toArray = ls at hl ⊢
  have hl : lv_has ls 1 [(0, .int (nI (S)))] := hl
  refine lv_iload_n hx hb dJ6_bitCount_0f7a4_0 rfl (lv_at hl 0 rfl) ?_
  refine lv_iload_n hx hb dJ6_bitCount_0f7a4_1 rfl (lv_at hl 0 rfl) ?_
  refine lv_iconst (v := nI 1) hx hb dJ6_bitCount_0f7a4_2 (by decide) ?_
  refine lv_iushr (v := ((nI (S)).toUInt32 >>> ((nI 1).toUInt32 &&& Int32.toUInt32 31)).toInt32) hx hb dJ6_bitCount_0f7a4_3 rfl ?_
  refine lv_ldcw (v := nI 1431655765) hx hb hown (hts _ q_ko_J6_265) dJ6_bitCount_0f7a4_4 ?_
  refine lv_iand hx hb dJ6_bitCount_0f7a4_7 ?_
  refine lv_isub hx hb dJ6_bitCount_0f7a4_8 ?_
  refine xtop (show (nI (S)) - ((((nI (S)).toUInt32 >>> ((nI 1).toUInt32 &&& Int32.toUInt32 31)).toInt32) &&& (nI 1431655765)) = bs1 (nI S) from rfl) ?_
  refine lv_istore_n (lv' := [(0, .int (bs1 (nI S)))]) hx hb dJ6_bitCount_0f7a4_9 rfl hl (by decide) rfl (fun ls hl => ?_)
  refine lv_iload_n hx hb dJ6_bitCount_0f7a4_10 rfl (lv_at hl 0 rfl) ?_
  refine lv_ldcw (v := nI 858993459) hx hb hown (hts _ q_ko_J6_266) dJ6_bitCount_0f7a4_11 ?_
  refine lv_iand hx hb dJ6_bitCount_0f7a4_14 ?_
  refine lv_iload_n hx hb dJ6_bitCount_0f7a4_15 rfl (lv_at hl 0 rfl) ?_
  refine lv_iconst (v := nI 2) hx hb dJ6_bitCount_0f7a4_16 (by decide) ?_
  refine lv_iushr (v := ((bs1 (nI S)).toUInt32 >>> ((nI 2).toUInt32 &&& Int32.toUInt32 31)).toInt32) hx hb dJ6_bitCount_0f7a4_17 rfl ?_
  refine lv_ldcw (v := nI 858993459) hx hb hown (hts _ q_ko_J6_266) dJ6_bitCount_0f7a4_18 ?_
  refine lv_iand hx hb dJ6_bitCount_0f7a4_21 ?_
  refine lv_iadd hx hb dJ6_bitCount_0f7a4_22 ?_
  refine xtop (show ((bs1 (nI S)) &&& (nI 858993459)) + ((((bs1 (nI S)).toUInt32 >>> ((nI 2).toUInt32 &&& Int32.toUInt32 31)).toInt32) &&& (nI 858993459)) = bs2 (bs1 (nI S)) from rfl) ?_
  refine lv_istore_n (lv' := [(0, .int (bs2 (bs1 (nI S))))]) hx hb dJ6_bitCount_0f7a4_23 rfl hl (by decide) rfl (fun ls hl => ?_)
  refine lv_iload_n hx hb dJ6_bitCount_0f7a4_24 rfl (lv_at hl 0 rfl) ?_
  refine lv_iload_n hx hb dJ6_bitCount_0f7a4_25 rfl (lv_at hl 0 rfl) ?_
  refine lv_iconst (v := nI 4) hx hb dJ6_bitCount_0f7a4_26 (by decide) ?_
  refine lv_iushr (v := ((bs2 (bs1 (nI S))).toUInt32 >>> ((nI 4).toUInt32 &&& Int32.toUInt32 31)).toInt32) hx hb dJ6_bitCount_0f7a4_27 rfl ?_
  refine lv_iadd hx hb dJ6_bitCount_0f7a4_28 ?_
  refine lv_ldcw (v := nI 252645135) hx hb hown (hts _ q_ko_J6_267) dJ6_bitCount_0f7a4_29 ?_
  refine lv_iand hx hb dJ6_bitCount_0f7a4_32 ?_
  refine xtop (show ((bs2 (bs1 (nI S))) + (((bs2 (bs1 (nI S))).toUInt32 >>> ((nI 4).toUInt32 &&& Int32.toUInt32 31)).toInt32)) &&& (nI 252645135) = bs3 (bs2 (bs1 (nI S))) from rfl) ?_
  refine lv_istore_n (lv' := [(0, .int (bs3 (bs2 (bs1 (nI S)))))]) hx hb dJ6_bitCount_0f7a4_33 rfl hl (by decide) rfl (fun ls hl => ?_)
  refine lv_iload_n hx hb dJ6_bitCount_0f7a4_34 rfl (lv_at hl 0 rfl) ?_
  refine lv_iload_n hx hb dJ6_bitCount_0f7a4_35 rfl (lv_at hl 0 rfl) ?_
  refine lv_bipush (v := nI 8) hx hb dJ6_bitCount_0f7a4_36 (by decide) ?_
  refine lv_iushr (v := ((bs3 (bs2 (bs1 (nI S)))).toUInt32 >>> ((nI 8).toUInt32 &&& Int32.toUInt32 31)).toInt32) hx hb dJ6_bitCount_0f7a4_38 rfl ?_
  refine lv_iadd hx hb dJ6_bitCount_0f7a4_39 ?_
  refine xtop (show (bs3 (bs2 (bs1 (nI S)))) + (((bs3 (bs2 (bs1 (nI S)))).toUInt32 >>> ((nI 8).toUInt32 &&& Int32.toUInt32 31)).toInt32) = bs4 (bs3 (bs2 (bs1 (nI S)))) from rfl) ?_
  refine lv_istore_n (lv' := [(0, .int (bs4 (bs3 (bs2 (bs1 (nI S))))))]) hx hb dJ6_bitCount_0f7a4_40 rfl hl (by decide) rfl (fun ls hl => ?_)
  refine lv_iload_n hx hb dJ6_bitCount_0f7a4_41 rfl (lv_at hl 0 rfl) ?_
  refine lv_iload_n hx hb dJ6_bitCount_0f7a4_42 rfl (lv_at hl 0 rfl) ?_
  refine lv_bipush (v := nI 16) hx hb dJ6_bitCount_0f7a4_43 (by decide) ?_
  refine lv_iushr (v := ((bs4 (bs3 (bs2 (bs1 (nI S))))).toUInt32 >>> ((nI 16).toUInt32 &&& Int32.toUInt32 31)).toInt32) hx hb dJ6_bitCount_0f7a4_45 rfl ?_
  refine lv_iadd hx hb dJ6_bitCount_0f7a4_46 ?_
  refine xtop (show (bs4 (bs3 (bs2 (bs1 (nI S))))) + (((bs4 (bs3 (bs2 (bs1 (nI S))))).toUInt32 >>> ((nI 16).toUInt32 &&& Int32.toUInt32 31)).toInt32) = bs5 (bs4 (bs3 (bs2 (bs1 (nI S))))) from rfl) ?_
  refine lv_istore_n (lv' := [(0, .int (bs5 (bs4 (bs3 (bs2 (bs1 (nI S)))))))]) hx hb dJ6_bitCount_0f7a4_47 rfl hl (by decide) rfl (fun ls hl => ?_)
  refine lv_iload_n hx hb dJ6_bitCount_0f7a4_48 rfl (lv_at hl 0 rfl) ?_
  refine lv_bipush (v := nI 63) hx hb dJ6_bitCount_0f7a4_49 (by decide) ?_
  refine lv_iand hx hb dJ6_bitCount_0f7a4_51 ?_
  refine xtop (show (bs5 (bs4 (bs3 (bs2 (bs1 (nI S)))))) &&& (nI 63) = nI (bc S) from bs_bc S hSt) ?_
  exact W.iret (v := (nI (bc S))) hx hb hr (fun t ht _ => ⟨rfl, ht⟩) (fun q hq => absurd hq List.not_mem_nil) dJ6_bitCount_0f7a4_52
set_option maxHeartbeats 4000000 in
set_option maxRecDepth 100000 in
/-- mixedMachine(d, m) -/
theorem c_X4_mixedMachine (l : Launch) (D : va_G) (cA : Nat → ClassId) (e0 : Nat) (A : Nat → Prop) (H0 : Heap) (ad : Nat → Nat → Nat) (g : Nat → Nat → Int32) (tt : Nat → Int64) (N : Nat → Nat) (hX : xW D cA ad g tt N H0) (d0 : Int64) (i0 : Nat) (hi0 : i0 < N 0) : Met l yX4_mixedMachine w_X4_mixedMachine ({ frames := 3, cells := 0, slots := 0, locals := 63 } : Room) (xPc D cA e0 A H0 [.long (d0), .ref (ad 1 i0)]) (xR (some (.long (mixS g i0 (mixF d0 (fun w => (machF g i0 w).toInt64) 5) 6)))) 0 0 (xNo) := by
  refine Met.ofW (cc := cX4_mixedMachine) (maxL := 5) (ret := (some .long)) (by decide) rfl ?_
  intro p e s m args below meth c s₁ B hml hv
  obtain ⟨rfl, hH, hE⟩ := hv
  subst hH
  have hx := B.exec
  have hb := B.bytes
  have hr := B.returns
  have hts := hE.1.all ([.long (d0), .ref (ad 1 i0)] : List Value).toArray
  have hown : s.vm.findClass RX4 = some m.cls := findClass_of_methodNamed B.named
  have hlocks := B.notSynchronized
  have hK := hE.2.1
  have hS : va_S A s.heap s.heap [] := va_S.rf
  have hl := lv_entry ([.long (d0), .ref (ad 1 i0)]) (n := 5) (Nat.le_of_ble_eq_true rfl)
  rw [lg_entry_eq]
  generalize (lg_sl ([.long (d0), .ref (ad 1 i0)]) ++ List.replicate (5 - (lg_sl ([.long (d0), .ref (ad 1 i0)])).length) Slot.unset).toArray = ls at hl ⊢
  have hl : lv_has ls 5 [(0, .long (d0)), (2, .ref (ad 1 i0))] := hl
  refine lv_iconst (v := nI 0) hx hb dX4_mixedMachine_0 (by decide) ?_
  refine lv_istore_n (lv' := [(3, .int (nI 0)), (0, .long (d0)), (2, .ref (ad 1 i0))]) hx hb dX4_mixedMachine_1 rfl hl (by decide) rfl (fun ls hl => ?_)
  have LOOP2 : ∀ (n2 : Nat) (i : Nat) (acc : Int64) (ls : Array Slot), i ≤ 5 → acc = mixF d0 (fun w => (machF g i0 w).toInt64) i → (5 - i) < n2 → lv_has ls 5 [(0, .long (acc)), (3, .int (nI (i))), (2, .ref (ad 1 i0))] → W p l e (headSpec w_X4_mixedMachine ({ frames := 3, cells := 0, slots := 0, locals := 63 } : Room)).room s m ([.long (d0), .ref (ad 1 i0)] : List Value).toArray below meth c s.heap [] 0 0 (MQ below (xR (some (.long (mixS g i0 (mixF d0 (fun w => (machF g i0 w).toInt64) 5) 6)))) ([.long (d0), .ref (ad 1 i0)] : List Value).toArray s 0 0 (xNo)) (F0 m 2 ls []) := by
    intro n2
    induction n2 with
    | zero => intro i acc ls hi hacc hmeas hl; exact absurd hmeas (Nat.not_lt_zero _)
    | succ n2 ih2 =>
      intro i acc ls hi hacc hmeas hl
      refine lv_iload_n hx hb dX4_mixedMachine_2 rfl (lv_at hl 1 rfl) ?_
      refine lv_iconst (v := nI 5) hx hb dX4_mixedMachine_3 (by decide) ?_
      refine lv_icmp_ge (tgt := 24) hx hb dX4_mixedMachine_4 (by decide) (fun c4 => ?_) (fun c4 => ?_)
      · have c4 : 5 ≤ i := (nI_leI (a := 5) (b := i) (by omega) (by omega)).mp c4
        have hi5 : i = 5 := by omega
        refine lv_iconst (v := nI 0) hx hb dX4_mixedMachine_24 (by decide) ?_
        refine lv_istore_n (lv' := [(3, .int (nI 0)), (0, .long (acc)), (2, .ref (ad 1 i0))]) hx hb dX4_mixedMachine_25 rfl hl (by decide) rfl (fun ls hl => ?_)
        have LOOP26 : ∀ (n26 : Nat) (k : Nat) (acc2 : Int64) (ls : Array Slot), k ≤ 6 → acc2 = mixS g i0 (mixF d0 (fun w => (machF g i0 w).toInt64) 5) k → (6 - k) < n26 → lv_has ls 5 [(0, .long (acc2)), (3, .int (nI (k))), (2, .ref (ad 1 i0))] → W p l e (headSpec w_X4_mixedMachine ({ frames := 3, cells := 0, slots := 0, locals := 63 } : Room)).room s m ([.long (d0), .ref (ad 1 i0)] : List Value).toArray below meth c s.heap [] 0 0 (MQ below (xR (some (.long (mixS g i0 (mixF d0 (fun w => (machF g i0 w).toInt64) 5) 6)))) ([.long (d0), .ref (ad 1 i0)] : List Value).toArray s 0 0 (xNo)) (F0 m 26 ls []) := by
          intro n26
          induction n26 with
          | zero => intro k acc2 ls hk hacc2 hmeas hl; exact absurd hmeas (Nat.not_lt_zero _)
          | succ n26 ih26 =>
            intro k acc2 ls hk hacc2 hmeas hl
            refine lv_iload_n hx hb dX4_mixedMachine_26 rfl (lv_at hl 1 rfl) ?_
            refine lv_bipush (v := nI 6) hx hb dX4_mixedMachine_27 (by decide) ?_
            refine lv_icmp_ge (tgt := 71) hx hb dX4_mixedMachine_29 (by decide) (fun c29 => ?_) (fun c29 => ?_)
            · have c29 : 6 ≤ k := (nI_leI (a := 6) (b := k) (by omega) (by omega)).mp c29
              have hk6 : k = 6 := by omega
              refine lv_lload_n hx hb dX4_mixedMachine_71 rfl (lv_at hl 0 rfl) ?_
              have hres : acc2 = mixS g i0 (mixF d0 (fun w => (machF g i0 w).toInt64) 5) 6 := by rw [hacc2]; subst hk6; rfl
              exact W.lret (v := acc2) hx hb hr (fun t ht _ => ⟨congrArg (fun z : Int64 => Outcome.returned (some (Value.long z))) hres, ht⟩) (fun q hq => absurd hq List.not_mem_nil) dX4_mixedMachine_72
            · have c29 : ¬ (6 ≤ k) := fun z => c29 ((nI_leI (a := 6) (b := k) (by omega) (by omega)).mpr z)
              refine lv_iconst (v := nI 0) hx hb dX4_mixedMachine_32 (by decide) ?_
              refine lv_istore (lv' := [(4, .int (nI 0)), (0, .long (acc2)), (3, .int (nI (k))), (2, .ref (ad 1 i0))]) hx hb dX4_mixedMachine_33 hl (by decide) rfl (fun ls hl => ?_)
              have LOOP35 : ∀ (n35 : Nat) (j : Nat) (acc3 : Int64) (ls : Array Slot), j ≤ 6 → acc3 = mixF (mixS g i0 (mixF d0 (fun w => (machF g i0 w).toInt64) 5) k) (fun w => (g (4 + w) (6 * i0 + k)).toInt64) j → (6 - j) < n35 → lv_has ls 5 [(0, .long (acc3)), (4, .int (nI (j))), (3, .int (nI (k))), (2, .ref (ad 1 i0))] → W p l e (headSpec w_X4_mixedMachine ({ frames := 3, cells := 0, slots := 0, locals := 63 } : Room)).room s m ([.long (d0), .ref (ad 1 i0)] : List Value).toArray below meth c s.heap [] 0 0 (MQ below (xR (some (.long (mixS g i0 (mixF d0 (fun w => (machF g i0 w).toInt64) 5) 6)))) ([.long (d0), .ref (ad 1 i0)] : List Value).toArray s 0 0 (xNo)) (F0 m 35 ls []) := by
                intro n35
                induction n35 with
                | zero => intro j acc3 ls hj hacc3 hmeas hl; exact absurd hmeas (Nat.not_lt_zero _)
                | succ n35 ih35 =>
                  intro j acc3 ls hj hacc3 hmeas hl
                  refine lv_iload hx hb dX4_mixedMachine_35 (lv_at hl 1 rfl) ?_
                  refine lv_bipush (v := nI 6) hx hb dX4_mixedMachine_37 (by decide) ?_
                  refine lv_icmp_ge (tgt := 65) hx hb dX4_mixedMachine_39 (by decide) (fun c39 => ?_) (fun c39 => ?_)
                  · have c39 : 6 ≤ j := (nI_leI (a := 6) (b := j) (by omega) (by omega)).mp c39
                    have hj6 : j = 6 := by omega
                    refine lv_iinc (v := nI (k + 1)) (lv' := [(3, .int (nI (k + 1))), (0, .long (acc3)), (4, .int (nI (j))), (2, .ref (ad 1 i0))]) hx hb dX4_mixedMachine_65 hl (k := 2) rfl (nI_add k 1) (by decide) rfl (fun ls hl => ?_)
                    refine lv_goto (tgt := 26) hx hb dX4_mixedMachine_68 (by decide) ?_
                    exact ih26 (k + 1) acc3 _ (by omega) (by rw [hacc3]; subst hj6; rfl) (by omega) (lv_sub hl [1, 0, 3] rfl)
                  · have c39 : ¬ (6 ≤ j) := fun z => c39 ((nI_leI (a := 6) (b := j) (by omega) (by omega)).mpr z)
                    refine lv_lload_n hx hb dX4_mixedMachine_42 rfl (lv_at hl 0 rfl) ?_
                    refine lv_aload_n hx hb dX4_mixedMachine_43 rfl (lv_at hl 3 rfl) ?_
                    refine va_get (D := D) (ci := 1) (v := .ref (ad 2 i0)) (C := RX0) (T := TX0) (N := 4) hx hb hts qi_X0 hown hK (xP1 (hX.mach hi0)) 0 rfl rfl 1 (by decide) (hts _ q_fl_X4_212) (fun _ h9 => h9) rfl dX4_mixedMachine_44 ?_
                    refine lv_iload_n hx hb dX4_mixedMachine_47 rfl (lv_at hl 2 rfl) ?_
                    refine va_aldq hx hb hK (xP1 (hX.row hi0)) 0 3 rfl rfl (i := nI (k)) (vp_in_nI (n := k) (by omega) (by omega)) dX4_mixedMachine_48 ?_
                    refine xtopv (y := .ref (ad 3 (6 * i0 + k))) (by rw [nI_clamp (n := k) (by omega)] <;> rfl) ?_
                    refine lv_iload hx hb dX4_mixedMachine_49 (lv_at hl 1 rfl) ?_
                    refine xcRi (va_runV (As := [.int (nI (j))]) (rest := [.long (acc3)]) ⟨hx, hb, hml, hown, hts⟩ (c_X3_fact l D cA e0 A s.heap ad g tt N hX (6 * i0 + k) j (by omega) (by omega)) ⟨(callB_of 1 hts gi_X3_fact rfl rfl rfl (hts _ q_ini_X3) (hts _ q_ml_X4_134) hd_X3_fact ⟨Nat.le_of_ble_eq_true rfl, Nat.le_of_ble_eq_true rfl⟩), hts _ q_im_X3_fact, hts _ q_sel_X3_X3_fact⟩ (xpV hE hS (hX.slot (k := 6 * i0 + k) (by omega)) rfl) rfl rfl hl.1 rfl (lv_room (Nat.le_of_ble_eq_true rfl)) dX4_mixedMachine_51 ⟨Nat.le_of_ble_eq_true rfl, Nat.le_of_ble_eq_true rfl⟩) ?_
                    refine lv_i2l (v := (g (4 + j) (6 * i0 + k)).toInt64) hx hb dX4_mixedMachine_54 rfl ?_
                    refine xcRl (va_runS (As := [.long (acc3), .long ((g (4 + j) (6 * i0 + k)).toInt64)]) (rest := []) ⟨hx, hb, hml, hown, hts⟩ (c_X4_mixed l D cA e0 A s.heap acc3 ((g (4 + j) (6 * i0 + k)).toInt64)) ⟨(callB_of 2 hts gi_X4_mixed rfl rfl rfl (hts _ q_ini_X4) (hts _ q_ml_X4_218) hd_X4_mixed ⟨Nat.le_of_ble_eq_true rfl, Nat.le_of_ble_eq_true rfl⟩), hts _ q_st_X4_mixed⟩ (xpS hE hS) rfl rfl hl.1 rfl (lv_room (Nat.le_of_ble_eq_true rfl)) dX4_mixedMachine_55 ⟨Nat.le_of_ble_eq_true rfl, Nat.le_of_ble_eq_true rfl⟩) ?_
                    refine lv_lstore_n (lv' := [(0, .long (acc3 * 31 + ((g (4 + j) (6 * i0 + k)).toInt64))), (4, .int (nI (j))), (3, .int (nI (k))), (2, .ref (ad 1 i0))]) hx hb dX4_mixedMachine_58 rfl hl (by decide) rfl (fun ls hl => ?_)
                    refine lv_iinc (v := nI (j + 1)) (lv' := [(4, .int (nI (j + 1))), (0, .long (acc3 * 31 + ((g (4 + j) (6 * i0 + k)).toInt64))), (3, .int (nI (k))), (2, .ref (ad 1 i0))]) hx hb dX4_mixedMachine_59 hl (k := 1) rfl (nI_add j 1) (by decide) rfl (fun ls hl => ?_)
                    refine lv_goto (tgt := 35) hx hb dX4_mixedMachine_62 (by decide) ?_
                    exact ih35 (j + 1) (acc3 * 31 + ((g (4 + j) (6 * i0 + k)).toInt64)) _ (by omega) (by rw [hacc3]; rfl) (by omega) (lv_sub hl [1, 0, 2, 3] rfl)
              exact LOOP35 _ 0 acc2 _ (by omega) (by rw [hacc2]; rfl) (Nat.lt_succ_self _) (lv_sub hl [1, 0, 2, 3] rfl)
        exact LOOP26 _ 0 acc _ (by omega) (by rw [hacc]; subst hi5; rfl) (Nat.lt_succ_self _) (lv_sub hl [1, 0, 2] rfl)
      · have c4 : ¬ (5 ≤ i) := fun z => c4 ((nI_leI (a := 5) (b := i) (by omega) (by omega)).mpr z)
        refine lv_lload_n hx hb dX4_mixedMachine_7 rfl (lv_at hl 0 rfl) ?_
        refine lv_aload_n hx hb dX4_mixedMachine_8 rfl (lv_at hl 2 rfl) ?_
        refine lv_iload_n hx hb dX4_mixedMachine_9 rfl (lv_at hl 1 rfl) ?_
        refine xcRi (va_runV (As := [.int (nI (i))]) (rest := [.long (acc)]) ⟨hx, hb, hml, hown, hts⟩ (c_X0_fact l D cA e0 A s.heap ad g tt N hX i0 hi0 i (by omega)) ⟨(callB_of 1 hts gi_X0_fact rfl rfl rfl (hts _ q_ini_X0) (hts _ q_ml_X4_144) hd_X0_fact ⟨Nat.le_of_ble_eq_true rfl, Nat.le_of_ble_eq_true rfl⟩), hts _ q_im_X0_fact, hts _ q_sel_X0_X0_fact⟩ (xpV hE hS (hX.mach hi0) rfl) rfl rfl hl.1 rfl (lv_room (Nat.le_of_ble_eq_true rfl)) dX4_mixedMachine_10 ⟨Nat.le_of_ble_eq_true rfl, Nat.le_of_ble_eq_true rfl⟩) ?_
        refine lv_i2l (v := (machF g i0 i).toInt64) hx hb dX4_mixedMachine_13 rfl ?_
        refine xcRl (va_runS (As := [.long (acc), .long ((machF g i0 i).toInt64)]) (rest := []) ⟨hx, hb, hml, hown, hts⟩ (c_X4_mixed l D cA e0 A s.heap acc ((machF g i0 i).toInt64)) ⟨(callB_of 2 hts gi_X4_mixed rfl rfl rfl (hts _ q_ini_X4) (hts _ q_ml_X4_218) hd_X4_mixed ⟨Nat.le_of_ble_eq_true rfl, Nat.le_of_ble_eq_true rfl⟩), hts _ q_st_X4_mixed⟩ (xpS hE hS) rfl rfl hl.1 rfl (lv_room (Nat.le_of_ble_eq_true rfl)) dX4_mixedMachine_14 ⟨Nat.le_of_ble_eq_true rfl, Nat.le_of_ble_eq_true rfl⟩) ?_
        refine lv_lstore_n (lv' := [(0, .long (acc * 31 + ((machF g i0 i).toInt64))), (3, .int (nI (i))), (2, .ref (ad 1 i0))]) hx hb dX4_mixedMachine_17 rfl hl (by decide) rfl (fun ls hl => ?_)
        refine lv_iinc (v := nI (i + 1)) (lv' := [(3, .int (nI (i + 1))), (0, .long (acc * 31 + ((machF g i0 i).toInt64))), (2, .ref (ad 1 i0))]) hx hb dX4_mixedMachine_18 hl (k := 1) rfl (nI_add i 1) (by decide) rfl (fun ls hl => ?_)
        refine lv_goto (tgt := 2) hx hb dX4_mixedMachine_21 (by decide) ?_
        exact ih2 (i + 1) (acc * 31 + ((machF g i0 i).toInt64)) _ (by omega) (by rw [hacc]; rfl) (by omega) (lv_sub hl [1, 0, 2] rfl)
  exact LOOP2 _ 0 d0 _ (by omega) rfl (Nat.lt_succ_self _) (lv_sub hl [1, 0, 2] rfl)
set_option maxHeartbeats 4000000 in
set_option maxRecDepth 100000 in
/-- digest() -/
theorem c_X4_digest (l : Launch) (D : va_G) (cA : Nat → ClassId) (e0 : Nat) (A : Nat → Prop) (H0 : Heap) (ad : Nat → Nat → Nat) (g : Nat → Nat → Int32) (tt : Nat → Int64) (N : Nat → Nat) (hX : xW D cA ad g tt N H0) (hA : xA A e0 ad N) : Met l yX4_digest w_X4_digest ({ frames := 4, cells := 0, slots := 0, locals := 87 } : Room) (xPc D cA e0 A H0 [.ref (ad 0 0)]) (xR (some (.long (digF g tt (N 0) (N 1))))) 0 0 (xNo) := by
  refine Met.ofW (cc := cX4_digest) (maxL := 6) (ret := (some .long)) (by decide) rfl ?_
  intro p e s m args below meth c s₁ B hml hv
  obtain ⟨rfl, hH, hE⟩ := hv
  subst hH
  have hx := B.exec
  have hb := B.bytes
  have hr := B.returns
  have hts := hE.1.all ([.ref (ad 0 0)] : List Value).toArray
  have hown : s.vm.findClass RX4 = some m.cls := findClass_of_methodNamed B.named
  have hlocks := B.notSynchronized
  have hK := hE.2.1
  have hS : va_S A s.heap s.heap [] := va_S.rf
  have hl := lv_entry ([.ref (ad 0 0)]) (n := 6) (Nat.le_of_ble_eq_true rfl)
  rw [lg_entry_eq]
  generalize (lg_sl ([.ref (ad 0 0)]) ++ List.replicate (6 - (lg_sl ([.ref (ad 0 0)])).length) Slot.unset).toArray = ls at hl ⊢
  have hl : lv_has ls 6 [(0, .ref (ad 0 0))] := hl
  have hn8 := hA.n8
  refine lv_aload_n hx hb dX4_digest_0 rfl (lv_at hl 0 rfl) ?_
  refine va_get (D := D) (ci := 5) (v := .ref (ad 0 1)) (C := RX4) (T := TX4) (N := 11) hx hb hts qi_X4 hown hK (xP1 (hX.main)) 0 rfl rfl 0 (by decide) (hts _ q_fl_X4_10) (fun _ h9 => h9) rfl dX4_digest_1 ?_
  refine xcRi (va_runV (As := []) (rest := []) ⟨hx, hb, hml, hown, hts⟩ (c_Jx4a65c_size_8abf5 l D cA e0 A s.heap (ad 0 1) (g 18 0) (ad 0 9) (nI (N 0)) (hX.ml)) ⟨(callB_of 0 hts gi_Jx4a65c_size_8abf5 rfl rfl rfl (hts _ q_ini_Jx4a65c) (hts _ q_ml_X4_48) hd_Jx4a65c_size_8abf5 ⟨Nat.le_of_ble_eq_true rfl, Nat.le_of_ble_eq_true rfl⟩), hts _ q_im_Jx4a65c_size_8abf5, hts _ q_sel_Jx4a65c_Jx4a65c_size_8abf5⟩ (xpV hE hS (hX.ml) rfl) rfl rfl hl.1 rfl (lv_room (Nat.le_of_ble_eq_true rfl)) dX4_digest_4 ⟨Nat.le_of_ble_eq_true rfl, Nat.le_of_ble_eq_true rfl⟩) ?_
  refine lv_istore_n (lv' := [(1, .int (nI (N 0))), (0, .ref (ad 0 0))]) hx hb dX4_digest_7 rfl hl (by decide) rfl (fun ls hl => ?_)
  refine lv_ldc2 (v := 211) hx hb hown (hts _ q_ko_X4_216) dX4_digest_8 ?_
  refine lv_aload_n hx hb dX4_digest_11 rfl (lv_at hl 1 rfl) ?_
  refine va_get (D := D) (ci := 5) (v := .int (g 13 0)) (C := RX4) (T := TX4) (N := 11) hx hb hts qi_X4 hown hK (xP1 (hX.main)) 0 rfl rfl 6 (by decide) (hts _ q_fl_X4_115) (fun _ h9 => h9) rfl dX4_digest_12 ?_
  refine lv_i2l (v := (g 13 0).toInt64) hx hb dX4_digest_15 rfl ?_
  refine xcRl (va_runS (As := [.long (211), .long ((g 13 0).toInt64)]) (rest := []) ⟨hx, hb, hml, hown, hts⟩ (c_X4_mixed l D cA e0 A s.heap 211 ((g 13 0).toInt64)) ⟨(callB_of 2 hts gi_X4_mixed rfl rfl rfl (hts _ q_ini_X4) (hts _ q_ml_X4_218) hd_X4_mixed ⟨Nat.le_of_ble_eq_true rfl, Nat.le_of_ble_eq_true rfl⟩), hts _ q_st_X4_mixed⟩ (xpS hE hS) rfl rfl hl.1 rfl (lv_room (Nat.le_of_ble_eq_true rfl)) dX4_digest_16 ⟨Nat.le_of_ble_eq_true rfl, Nat.le_of_ble_eq_true rfl⟩) ?_
  refine lv_iload_n hx hb dX4_digest_19 rfl (lv_at hl 0 rfl) ?_
  refine lv_i2l (v := (nI (N 0)).toInt64) hx hb dX4_digest_20 rfl ?_
  refine xcRl (va_runS (As := [.long (211 * 31 + ((g 13 0).toInt64)), .long ((nI (N 0)).toInt64)]) (rest := []) ⟨hx, hb, hml, hown, hts⟩ (c_X4_mixed l D cA e0 A s.heap (211 * 31 + ((g 13 0).toInt64)) ((nI (N 0)).toInt64)) ⟨(callB_of 2 hts gi_X4_mixed rfl rfl rfl (hts _ q_ini_X4) (hts _ q_ml_X4_218) hd_X4_mixed ⟨Nat.le_of_ble_eq_true rfl, Nat.le_of_ble_eq_true rfl⟩), hts _ q_st_X4_mixed⟩ (xpS hE hS) rfl rfl hl.1 rfl (lv_room (Nat.le_of_ble_eq_true rfl)) dX4_digest_21 ⟨Nat.le_of_ble_eq_true rfl, Nat.le_of_ble_eq_true rfl⟩) ?_
  refine lv_lstore_n (lv' := [(2, .long ((211 * 31 + ((g 13 0).toInt64)) * 31 + ((nI (N 0)).toInt64))), (1, .int (nI (N 0))), (0, .ref (ad 0 0))]) hx hb dX4_digest_24 rfl hl (by decide) rfl (fun ls hl => ?_)
  refine lv_iconst (v := nI 0) hx hb dX4_digest_25 (by decide) ?_
  refine lv_istore (lv' := [(4, .int (nI 0)), (2, .long ((211 * 31 + ((g 13 0).toInt64)) * 31 + ((nI (N 0)).toInt64))), (1, .int (nI (N 0))), (0, .ref (ad 0 0))]) hx hb dX4_digest_26 hl (by decide) rfl (fun ls hl => ?_)
  have LOOP28 : ∀ (n28 : Nat) (i : Nat) (acc : Int64) (ls : Array Slot), i ≤ N 0 → acc = dW g ((211 * 31 + (g 13 0).toInt64) * 31 + (nI (N 0)).toInt64) i → (N 0 - i) < n28 → lv_has ls 6 [(2, .long (acc)), (4, .int (nI (i))), (1, .int (nI (N 0))), (0, .ref (ad 0 0))] → W p l e (headSpec w_X4_digest ({ frames := 4, cells := 0, slots := 0, locals := 87 } : Room)).room s m ([.ref (ad 0 0)] : List Value).toArray below meth c s.heap [] 0 0 (MQ below (xR (some (.long (digF g tt (N 0) (N 1))))) ([.ref (ad 0 0)] : List Value).toArray s 0 0 (xNo)) (F0 m 28 ls []) := by
    intro n28
    induction n28 with
    | zero => intro i acc ls hi hacc hmeas hl; exact absurd hmeas (Nat.not_lt_zero _)
    | succ n28 ih28 =>
      intro i acc ls hi hacc hmeas hl
      refine lv_iload hx hb dX4_digest_28 (lv_at hl 1 rfl) ?_
      refine lv_iload_n hx hb dX4_digest_30 rfl (lv_at hl 2 rfl) ?_
      refine lv_icmp_ge (tgt := 73) hx hb dX4_digest_31 (by decide) (fun c31 => ?_) (fun c31 => ?_)
      · have c31 : (N 0) ≤ i := (nI_leI (a := N 0) (b := i) (by omega) (by omega)).mp c31
        refine lv_iconst (v := nI 0) hx hb dX4_digest_73 (by decide) ?_
        refine lv_istore (lv' := [(4, .int (nI 0)), (2, .long (acc)), (1, .int (nI (N 0))), (0, .ref (ad 0 0))]) hx hb dX4_digest_74 hl (by decide) rfl (fun ls hl => ?_)
        have LOOP76 : ∀ (n76 : Nat) (i : Nat) (acc3 : Int64) (ls : Array Slot), i ≤ N 0 → acc3 = dM g (dW g ((211 * 31 + (g 13 0).toInt64) * 31 + (nI (N 0)).toInt64) (N 0)) i → (N 0 - i) < n76 → lv_has ls 6 [(2, .long (acc3)), (4, .int (nI (i))), (1, .int (nI (N 0))), (0, .ref (ad 0 0))] → W p l e (headSpec w_X4_digest ({ frames := 4, cells := 0, slots := 0, locals := 87 } : Room)).room s m ([.ref (ad 0 0)] : List Value).toArray below meth c s.heap [] 0 0 (MQ below (xR (some (.long (digF g tt (N 0) (N 1))))) ([.ref (ad 0 0)] : List Value).toArray s 0 0 (xNo)) (F0 m 76 ls []) := by
          intro n76
          induction n76 with
          | zero => intro i acc3 ls hi hacc3 hmeas hl; exact absurd hmeas (Nat.not_lt_zero _)
          | succ n76 ih76 =>
            intro i acc3 ls hi hacc3 hmeas hl
            refine lv_iload hx hb dX4_digest_76 (lv_at hl 1 rfl) ?_
            refine lv_iload_n hx hb dX4_digest_78 rfl (lv_at hl 2 rfl) ?_
            refine lv_icmp_ge (tgt := 105) hx hb dX4_digest_79 (by decide) (fun c79 => ?_) (fun c79 => ?_)
            · have c79 : (N 0) ≤ i := (nI_leI (a := N 0) (b := i) (by omega) (by omega)).mp c79
              refine lv_lload_n hx hb dX4_digest_105 rfl (lv_at hl 0 rfl) ?_
              refine lv_aload_n hx hb dX4_digest_106 rfl (lv_at hl 3 rfl) ?_
              refine va_get (D := D) (ci := 5) (v := .ref (ad 0 2)) (C := RX4) (T := TX4) (N := 11) hx hb hts qi_X4 hown hK (xP1 (hX.main)) 0 rfl rfl 1 (by decide) (hts _ q_fl_X4_16) (fun _ h9 => h9) rfl dX4_digest_107 ?_
              refine xcRi (va_runV (As := []) (rest := [.long (acc3)]) ⟨hx, hb, hml, hown, hts⟩ (c_Jx4a65c_size_8abf5 l D cA e0 A s.heap (ad 0 2) (g 18 1) (ad 0 10) (nI (N 1)) (hX.cl)) ⟨(callB_of 0 hts gi_Jx4a65c_size_8abf5 rfl rfl rfl (hts _ q_ini_Jx4a65c) (hts _ q_ml_X4_48) hd_Jx4a65c_size_8abf5 ⟨Nat.le_of_ble_eq_true rfl, Nat.le_of_ble_eq_true rfl⟩), hts _ q_im_Jx4a65c_size_8abf5, hts _ q_sel_Jx4a65c_Jx4a65c_size_8abf5⟩ (xpV hE hS (hX.cl) rfl) rfl rfl hl.1 rfl (lv_room (Nat.le_of_ble_eq_true rfl)) dX4_digest_110 ⟨Nat.le_of_ble_eq_true rfl, Nat.le_of_ble_eq_true rfl⟩) ?_
              refine lv_i2l (v := (nI (N 1)).toInt64) hx hb dX4_digest_113 rfl ?_
              refine xcRl (va_runS (As := [.long (acc3), .long ((nI (N 1)).toInt64)]) (rest := []) ⟨hx, hb, hml, hown, hts⟩ (c_X4_mixed l D cA e0 A s.heap acc3 ((nI (N 1)).toInt64)) ⟨(callB_of 2 hts gi_X4_mixed rfl rfl rfl (hts _ q_ini_X4) (hts _ q_ml_X4_218) hd_X4_mixed ⟨Nat.le_of_ble_eq_true rfl, Nat.le_of_ble_eq_true rfl⟩), hts _ q_st_X4_mixed⟩ (xpS hE hS) rfl rfl hl.1 rfl (lv_room (Nat.le_of_ble_eq_true rfl)) dX4_digest_114 ⟨Nat.le_of_ble_eq_true rfl, Nat.le_of_ble_eq_true rfl⟩) ?_
              refine lv_lstore_n (lv' := [(2, .long (acc3 * 31 + ((nI (N 1)).toInt64))), (4, .int (nI (i))), (1, .int (nI (N 0))), (0, .ref (ad 0 0))]) hx hb dX4_digest_117 rfl hl (by decide) rfl (fun ls hl => ?_)
              refine lv_lload_n hx hb dX4_digest_118 rfl (lv_at hl 0 rfl) ?_
              refine lv_aload_n hx hb dX4_digest_119 rfl (lv_at hl 3 rfl) ?_
              refine va_get (D := D) (ci := 5) (v := .long (tt 0)) (C := RX4) (T := TX4) (N := 11) hx hb hts qi_X4 hown hK (xP1 (hX.main)) 0 rfl rfl 7 (by decide) (hts _ q_fl_X4_206) (fun _ h9 => h9) rfl dX4_digest_120 ?_
              refine xcRl (va_runS (As := [.long (acc3 * 31 + ((nI (N 1)).toInt64)), .long (tt 0)]) (rest := []) ⟨hx, hb, hml, hown, hts⟩ (c_X4_mixed l D cA e0 A s.heap (acc3 * 31 + ((nI (N 1)).toInt64)) (tt 0)) ⟨(callB_of 2 hts gi_X4_mixed rfl rfl rfl (hts _ q_ini_X4) (hts _ q_ml_X4_218) hd_X4_mixed ⟨Nat.le_of_ble_eq_true rfl, Nat.le_of_ble_eq_true rfl⟩), hts _ q_st_X4_mixed⟩ (xpS hE hS) rfl rfl hl.1 rfl (lv_room (Nat.le_of_ble_eq_true rfl)) dX4_digest_123 ⟨Nat.le_of_ble_eq_true rfl, Nat.le_of_ble_eq_true rfl⟩) ?_
              refine lv_aload_n hx hb dX4_digest_126 rfl (lv_at hl 3 rfl) ?_
              refine va_get (D := D) (ci := 5) (v := .long (tt 1)) (C := RX4) (T := TX4) (N := 11) hx hb hts qi_X4 hown hK (xP1 (hX.main)) 0 rfl rfl 8 (by decide) (hts _ q_fl_X4_189) (fun _ h9 => h9) rfl dX4_digest_127 ?_
              refine xcRl (va_runS (As := [.long ((acc3 * 31 + ((nI (N 1)).toInt64)) * 31 + (tt 0)), .long (tt 1)]) (rest := []) ⟨hx, hb, hml, hown, hts⟩ (c_X4_mixed l D cA e0 A s.heap ((acc3 * 31 + ((nI (N 1)).toInt64)) * 31 + (tt 0)) (tt 1)) ⟨(callB_of 2 hts gi_X4_mixed rfl rfl rfl (hts _ q_ini_X4) (hts _ q_ml_X4_218) hd_X4_mixed ⟨Nat.le_of_ble_eq_true rfl, Nat.le_of_ble_eq_true rfl⟩), hts _ q_st_X4_mixed⟩ (xpS hE hS) rfl rfl hl.1 rfl (lv_room (Nat.le_of_ble_eq_true rfl)) dX4_digest_130 ⟨Nat.le_of_ble_eq_true rfl, Nat.le_of_ble_eq_true rfl⟩) ?_
              refine lv_lstore_n (lv' := [(2, .long (((acc3 * 31 + ((nI (N 1)).toInt64)) * 31 + (tt 0)) * 31 + (tt 1))), (4, .int (nI (i))), (1, .int (nI (N 0))), (0, .ref (ad 0 0))]) hx hb dX4_digest_133 rfl hl (by decide) rfl (fun ls hl => ?_)
              refine lv_lload_n hx hb dX4_digest_134 rfl (lv_at hl 0 rfl) ?_
              refine lv_aload_n hx hb dX4_digest_135 rfl (lv_at hl 3 rfl) ?_
              refine va_get (D := D) (ci := 5) (v := .long (tt 2)) (C := RX4) (T := TX4) (N := 11) hx hb hts qi_X4 hown hK (xP1 (hX.main)) 0 rfl rfl 9 (by decide) (hts _ q_fl_X4_209) (fun _ h9 => h9) rfl dX4_digest_136 ?_
              refine xcRl (va_runS (As := [.long (((acc3 * 31 + ((nI (N 1)).toInt64)) * 31 + (tt 0)) * 31 + (tt 1)), .long (tt 2)]) (rest := []) ⟨hx, hb, hml, hown, hts⟩ (c_X4_mixed l D cA e0 A s.heap (((acc3 * 31 + ((nI (N 1)).toInt64)) * 31 + (tt 0)) * 31 + (tt 1)) (tt 2)) ⟨(callB_of 2 hts gi_X4_mixed rfl rfl rfl (hts _ q_ini_X4) (hts _ q_ml_X4_218) hd_X4_mixed ⟨Nat.le_of_ble_eq_true rfl, Nat.le_of_ble_eq_true rfl⟩), hts _ q_st_X4_mixed⟩ (xpS hE hS) rfl rfl hl.1 rfl (lv_room (Nat.le_of_ble_eq_true rfl)) dX4_digest_139 ⟨Nat.le_of_ble_eq_true rfl, Nat.le_of_ble_eq_true rfl⟩) ?_
              refine lv_aload_n hx hb dX4_digest_142 rfl (lv_at hl 3 rfl) ?_
              refine va_get (D := D) (ci := 5) (v := .long (tt 3)) (C := RX4) (T := TX4) (N := 11) hx hb hts qi_X4 hown hK (xP1 (hX.main)) 0 rfl rfl 10 (by decide) (hts _ q_fl_X4_193) (fun _ h9 => h9) rfl dX4_digest_143 ?_
              refine xcRl (va_runS (As := [.long ((((acc3 * 31 + ((nI (N 1)).toInt64)) * 31 + (tt 0)) * 31 + (tt 1)) * 31 + (tt 2)), .long (tt 3)]) (rest := []) ⟨hx, hb, hml, hown, hts⟩ (c_X4_mixed l D cA e0 A s.heap ((((acc3 * 31 + ((nI (N 1)).toInt64)) * 31 + (tt 0)) * 31 + (tt 1)) * 31 + (tt 2)) (tt 3)) ⟨(callB_of 2 hts gi_X4_mixed rfl rfl rfl (hts _ q_ini_X4) (hts _ q_ml_X4_218) hd_X4_mixed ⟨Nat.le_of_ble_eq_true rfl, Nat.le_of_ble_eq_true rfl⟩), hts _ q_st_X4_mixed⟩ (xpS hE hS) rfl rfl hl.1 rfl (lv_room (Nat.le_of_ble_eq_true rfl)) dX4_digest_146 ⟨Nat.le_of_ble_eq_true rfl, Nat.le_of_ble_eq_true rfl⟩) ?_
              have hres : ((((acc3 * 31 + ((nI (N 1)).toInt64)) * 31 + (tt 0)) * 31 + (tt 1)) * 31 + (tt 2)) * 31 + (tt 3) = digF g tt (N 0) (N 1) := by rw [hacc3, show i = N 0 by omega]; rfl
              exact W.lret (v := (((((acc3 * 31 + ((nI (N 1)).toInt64)) * 31 + (tt 0)) * 31 + (tt 1)) * 31 + (tt 2)) * 31 + (tt 3))) hx hb hr (fun t ht _ => ⟨congrArg (fun z : Int64 => Outcome.returned (some (Value.long z))) hres, ht⟩) (fun q hq => absurd hq List.not_mem_nil) dX4_digest_149
            · have c79 : ¬ ((N 0) ≤ i) := fun z => c79 ((nI_leI (a := N 0) (b := i) (by omega) (by omega)).mpr z)
              have c79 : i < N 0 := by omega
              refine lv_lload_n hx hb dX4_digest_82 rfl (lv_at hl 0 rfl) ?_
              refine lv_aload_n hx hb dX4_digest_83 rfl (lv_at hl 3 rfl) ?_
              refine va_get (D := D) (ci := 5) (v := .ref (ad 0 1)) (C := RX4) (T := TX4) (N := 11) hx hb hts qi_X4 hown hK (xP1 (hX.main)) 0 rfl rfl 0 (by decide) (hts _ q_fl_X4_10) (fun _ h9 => h9) rfl dX4_digest_84 ?_
              refine lv_iload hx hb dX4_digest_87 (lv_at hl 1 rfl) ?_
              refine xcRr (va_runV (As := [.int (nI (i))]) (rest := [.long (acc3)]) ⟨hx, hb, hml, hown, hts⟩ (c_Jx4a65c_get_915e3 l D cA e0 A s.heap (ad 0 1) (g 18 0) (ad 0 9) (N 0) (hX.ml) (N 2) (fun j => if j < N 0 then some (ad 1 j) else none) (hX.md (by have := hA.2.2.2.2.2.1; omega)) i (ad 1 i) c79 hA.2.2.2.2.2.1 (by have := hA.2.2.2.2.2.2.1; omega) (if_pos c79)) ⟨(callB_of 1 hts gi_Jx4a65c_get_915e3 rfl rfl rfl (hts _ q_ini_Jx4a65c) (hts _ q_ml_X4_196) hd_Jx4a65c_get_915e3 ⟨Nat.le_of_ble_eq_true rfl, Nat.le_of_ble_eq_true rfl⟩), hts _ q_im_Jx4a65c_get_915e3, hts _ q_sel_Jx4a65c_Jx4a65c_get_915e3⟩ (xpV hE hS (hX.ml) rfl) rfl rfl hl.1 rfl (lv_room (Nat.le_of_ble_eq_true rfl)) dX4_digest_89 ⟨Nat.le_of_ble_eq_true rfl, Nat.le_of_ble_eq_true rfl⟩) ?_
              refine va_castS hx hb hown (hts _ q_cl_X4_57) (hK.1 1 _ rfl).2 (va_recv hK (xP1 (hX.mach c79)) (ci := 1) (q0 := 0) rfl rfl) dX4_digest_92 ?_
              refine xcRl (va_runS (As := [.long (acc3), .ref (ad 1 i)]) (rest := []) ⟨hx, hb, hml, hown, hts⟩ (c_X4_mixedMachine l D cA e0 A s.heap ad g tt N hX acc3 i c79 ) ⟨(callB_of 2 hts gi_X4_mixedMachine rfl rfl rfl (hts _ q_ini_X4) (hts _ q_ml_X4_222) hd_X4_mixedMachine ⟨Nat.le_of_ble_eq_true rfl, Nat.le_of_ble_eq_true rfl⟩), hts _ q_st_X4_mixedMachine⟩ (xpS hE hS) rfl rfl hl.1 rfl (lv_room (Nat.le_of_ble_eq_true rfl)) dX4_digest_95 ⟨Nat.le_of_ble_eq_true rfl, Nat.le_of_ble_eq_true rfl⟩) ?_
              refine lv_lstore_n (lv' := [(2, .long (mixS g i (mixF acc3 (fun w => (machF g i w).toInt64) 5) 6)), (4, .int (nI (i))), (1, .int (nI (N 0))), (0, .ref (ad 0 0))]) hx hb dX4_digest_98 rfl hl (by decide) rfl (fun ls hl => ?_)
              refine lv_iinc (v := nI (i + 1)) (lv' := [(4, .int (nI (i + 1))), (2, .long (mixS g i (mixF acc3 (fun w => (machF g i w).toInt64) 5) 6)), (1, .int (nI (N 0))), (0, .ref (ad 0 0))]) hx hb dX4_digest_99 hl (k := 1) rfl (nI_add i 1) (by decide) rfl (fun ls hl => ?_)
              refine lv_goto (tgt := 76) hx hb dX4_digest_102 (by decide) ?_
              exact ih76 (i + 1) (mixS g i (mixF acc3 (fun w => (machF g i w).toInt64) 5) 6) _ (by omega) (by rw [hacc3]; rfl) (by omega) (lv_sub hl [1, 0, 2, 3] rfl)
        exact LOOP76 _ 0 acc _ (by omega) (by rw [hacc, show i = N 0 by omega]; rfl) (Nat.lt_succ_self _) (lv_sub hl [1, 0, 2, 3] rfl)
      · have c31 : ¬ ((N 0) ≤ i) := fun z => c31 ((nI_leI (a := N 0) (b := i) (by omega) (by omega)).mpr z)
        refine lv_iconst (v := (-1)) hx hb dX4_digest_34 (by decide) ?_
        refine lv_istore (lv' := [(5, .int ((-1))), (2, .long (acc)), (4, .int (nI (i))), (1, .int (nI (N 0))), (0, .ref (ad 0 0))]) hx hb dX4_digest_35 hl (by decide) rfl (fun ls hl => ?_)
        have LOOP37 : ∀ (n37 : Nat) (j : Nat) (acc2 : Int64) (ls : Array Slot), j ≤ i + 1 → acc2 = mixF (dW g ((211 * 31 + (g 13 0).toInt64) * 31 + (nI (N 0)).toInt64) i) (fun j => (wy g ((j + 8) % 9) i).toInt64) j → (i + 1 - j) < n37 → lv_has ls 6 [(2, .long (acc2)), (5, .int (nI j - nI 1)), (4, .int (nI (i))), (1, .int (nI (N 0))), (0, .ref (ad 0 0))] → W p l e (headSpec w_X4_digest ({ frames := 4, cells := 0, slots := 0, locals := 87 } : Room)).room s m ([.ref (ad 0 0)] : List Value).toArray below meth c s.heap [] 0 0 (MQ below (xR (some (.long (digF g tt (N 0) (N 1))))) ([.ref (ad 0 0)] : List Value).toArray s 0 0 (xNo)) (F0 m 37 ls []) := by
          intro n37
          induction n37 with
          | zero => intro j acc2 ls hj hacc2 hmeas hl; exact absurd hmeas (Nat.not_lt_zero _)
          | succ n37 ih37 =>
            intro j acc2 ls hj hacc2 hmeas hl
            refine lv_iload hx hb dX4_digest_37 (lv_at hl 1 rfl) ?_
            refine lv_iload hx hb dX4_digest_39 (lv_at hl 2 rfl) ?_
            refine lv_icmp_ge (tgt := 67) hx hb dX4_digest_41 (by decide) (fun c41 => ?_) (fun c41 => ?_)
            · have hj9 : j = i + 1 := by
                rw [i_le, pk_sub_toInt (by omega) (by omega), nI_toInt (by omega)] at c41
                omega
              refine lv_iinc (v := nI (i + 1)) (lv' := [(4, .int (nI (i + 1))), (2, .long (acc2)), (5, .int (nI j - nI 1)), (1, .int (nI (N 0))), (0, .ref (ad 0 0))]) hx hb dX4_digest_67 hl (k := 2) rfl (nI_add i 1) (by decide) rfl (fun ls hl => ?_)
              refine lv_goto (tgt := 28) hx hb dX4_digest_70 (by decide) ?_
              exact ih28 (i + 1) acc2 _ (by omega) (by rw [hacc2]; subst hj9; rfl) (by omega) (lv_sub hl [1, 0, 3, 4] rfl)
            · have c41 : j < i + 1 := by
                rw [i_le, pk_sub_toInt (by omega) (by omega), nI_toInt (by omega)] at c41
                omega
              refine lv_lload_n hx hb dX4_digest_44 rfl (lv_at hl 0 rfl) ?_
              refine lv_aload_n hx hb dX4_digest_45 rfl (lv_at hl 4 rfl) ?_
              refine va_get (D := D) (ci := 5) (v := .ref (ad 0 3)) (C := RX4) (T := TX4) (N := 11) hx hb hts qi_X4 hown hK (xP1 (hX.main)) 0 rfl rfl 2 (by decide) (hts _ q_fl_X4_22) (fun _ h9 => h9) rfl dX4_digest_46 ?_
              refine lv_iload hx hb dX4_digest_49 (lv_at hl 1 rfl) ?_
              refine lv_iload hx hb dX4_digest_51 (lv_at hl 2 rfl) ?_
              refine xcRi (va_runV (As := [.int (nI j - nI 1), .int (nI (i))]) (rest := [.long (acc2)]) ⟨hx, hb, hml, hown, hts⟩ (c_X2_between l D cA e0 A s.heap ad g tt N hX (nI j - nI 1) (nI i) ((j + 8) % 9) i (isPl_s (by omega)) (isPl_m (by omega))) ⟨(callB_of 2 hts gi_X2_between rfl rfl rfl (hts _ q_ini_X2) (hts _ q_ml_X4_82) hd_X2_between ⟨Nat.le_of_ble_eq_true rfl, Nat.le_of_ble_eq_true rfl⟩), hts _ q_im_X2_between, hts _ q_sel_X2_X2_between⟩ (xpV hE hS (hX.roads) rfl) rfl rfl hl.1 rfl (lv_room (Nat.le_of_ble_eq_true rfl)) dX4_digest_53 ⟨Nat.le_of_ble_eq_true rfl, Nat.le_of_ble_eq_true rfl⟩) ?_
              refine lv_i2l (v := (wy g ((j + 8) % 9) i).toInt64) hx hb dX4_digest_56 rfl ?_
              refine xcRl (va_runS (As := [.long (acc2), .long ((wy g ((j + 8) % 9) i).toInt64)]) (rest := []) ⟨hx, hb, hml, hown, hts⟩ (c_X4_mixed l D cA e0 A s.heap acc2 ((wy g ((j + 8) % 9) i).toInt64)) ⟨(callB_of 2 hts gi_X4_mixed rfl rfl rfl (hts _ q_ini_X4) (hts _ q_ml_X4_218) hd_X4_mixed ⟨Nat.le_of_ble_eq_true rfl, Nat.le_of_ble_eq_true rfl⟩), hts _ q_st_X4_mixed⟩ (xpS hE hS) rfl rfl hl.1 rfl (lv_room (Nat.le_of_ble_eq_true rfl)) dX4_digest_57 ⟨Nat.le_of_ble_eq_true rfl, Nat.le_of_ble_eq_true rfl⟩) ?_
              refine lv_lstore_n (lv' := [(2, .long (acc2 * 31 + ((wy g ((j + 8) % 9) i).toInt64))), (5, .int (nI j - nI 1)), (4, .int (nI (i))), (1, .int (nI (N 0))), (0, .ref (ad 0 0))]) hx hb dX4_digest_60 rfl hl (by decide) rfl (fun ls hl => ?_)
              refine lv_iinc (v := nI (j + 1) - nI 1) (lv' := [(5, .int (nI (j + 1) - nI 1)), (2, .long (acc2 * 31 + ((wy g ((j + 8) % 9) i).toInt64))), (4, .int (nI (i))), (1, .int (nI (N 0))), (0, .ref (ad 0 0))]) hx hb dX4_digest_61 hl (k := 1) rfl (nI_s1 j) (by decide) rfl (fun ls hl => ?_)
              refine lv_goto (tgt := 37) hx hb dX4_digest_64 (by decide) ?_
              exact ih37 (j + 1) (acc2 * 31 + ((wy g ((j + 8) % 9) i).toInt64)) _ (by omega) (by rw [hacc2]; rfl) (by omega) (lv_sub hl [1, 0, 2, 3, 4] rfl)
        exact LOOP37 _ 0 acc _ (by omega) (by rw [hacc]; rfl) (Nat.lt_succ_self _) (lv_sub hl [1, 0, 2, 3, 4] rfl)
  exact LOOP28 _ 0 ((211 * 31 + ((g 13 0).toInt64)) * 31 + ((nI (N 0)).toInt64)) _ (by omega) rfl (Nat.lt_succ_self _) (lv_sub hl [1, 0, 2, 3] rfl)
end
section
/-! The class: calls that only read and may refuse (by p14.py) -/
set_option maxHeartbeats 4000000 in
set_option maxRecDepth 100000 in
/-- slot(v, w, x) -/
theorem c_X4_slot (l : Launch) (D : va_G) (cA : Nat → ClassId) (e0 : Nat) (A : Nat → Prop) (H0 : Heap) (ad : Nat → Nat → Nat) (g : Nat → Nat → Int32) (tt : Nat → Int64) (N : Nat → Nat) (hX : xW D cA ad g tt N H0) (v w x : Int32) (hA : xA A e0 ad N) (hl9 : l.stackTraces = false) : vx_Met l yX4_slot w_X4_slot ({ frames := 8, cells := 3, slots := 18, locals := 144 } : Room) (xPc D cA e0 A H0 [.ref (ad 0 0), .int (v), .int (w), .int (x)]) (xQi (fun r h => h = H0 ∧ (okS (N 0) v w ∧ okK 5 x) ∧ r = g (4 + cl x) (6 * cl v + cl w)) A) (xX (fun E => E = xIOB ∧ ¬ (okS (N 0) v w ∧ okK 5 x))) 3 18 (A) := by
  refine vx_ofW (cc := cX4_slot) (maxL := 5) (ret := (some .int)) (by decide) rfl ?_
  intro p e s m args below meth c s₁ B hml hxt hv
  obtain ⟨rfl, hH, hE⟩ := hv
  subst hH
  have hx := B.exec
  have hb := B.bytes
  have hr := B.returns
  have hts := hE.1.all ([.ref (ad 0 0), .int (v), .int (w), .int (x)] : List Value).toArray
  have hown : s.vm.findClass RX4 = some m.cls := findClass_of_methodNamed B.named
  have hlocks := B.notSynchronized
  have hK := hE.2.1
  have hS : va_S A s.heap s.heap [] := va_S.rf
  have hl := lv_entry ([.ref (ad 0 0), .int (v), .int (w), .int (x)]) (n := 5) (Nat.le_of_ble_eq_true rfl)
  rw [lg_entry_eq]
  generalize (lg_sl ([.ref (ad 0 0), .int (v), .int (w), .int (x)]) ++ List.replicate (5 - (lg_sl ([.ref (ad 0 0), .int (v), .int (w), .int (x)])).length) Slot.unset).toArray = ls at hl ⊢
  have hl : lv_has ls 5 [(0, .ref (ad 0 0)), (1, .int (v)), (2, .int (w)), (3, .int (x))] := hl
  have hn8 := hA.n8
  refine lv_aload_n hx hb dX4_slot_0 rfl (lv_at hl 0 rfl) ?_
  refine lv_iload_n hx hb dX4_slot_1 rfl (lv_at hl 1 rfl) ?_
  refine lv_iload_n hx hb dX4_slot_2 rfl (lv_at hl 2 rfl) ?_
  refine xcXr (vx_runV (As := [.int (v), .int (w)]) (rest := []) ⟨hx, hb, hml, hown, hts⟩ (c_X4_slotAt l D cA e0 A s.heap ad g tt N hX v w hA hl9) ⟨(callB_of 2 hts gi_X4_slotAt rfl rfl rfl (hts _ q_ini_X4) (hts _ q_ml_X4_90) hd_X4_slotAt ⟨Nat.le_of_ble_eq_true rfl, Nat.le_of_ble_eq_true rfl⟩), hts _ q_im_X4_slotAt, hts _ q_sel_X4_X4_slotAt⟩ (xpV hE hS (hX.main) rfl) rfl rfl hl.1 rfl (lv_room (Nat.le_of_ble_eq_true rfl)) dX4_slot_3 ⟨Nat.le_of_ble_eq_true rfl, Nat.le_of_ble_eq_true rfl⟩) hS (fun q h => h) (fun E9 ce9 q9 H9 locs9 hPX9 hz9 hk9 hS9 hc9 hv9 hcl9 => ?_) (fun r9_1 H1 locs hP9 hz9 hk9 hS => ?_)
  · exact vx_out (fun x h => (hxt x h).elim) hlocks hc9 hv9 hcl9 (fun t ht _ => ⟨(), trivial, ⟨hPX9.1, fun z => hPX9.2 z.1⟩, by rw [ht]; exact hz9, fun q hq _ => by rw [ht]; exact hk9 q hq⟩) hS9.2.2 (Nat.le_of_ble_eq_true rfl) (Nat.le_of_ble_eq_true rfl)
  obtain ⟨rfl, i0, j0, hi0, hj0, rfl, rfl, rfl⟩ := hP9
  refine lv_astore (lv' := [(4, .ref (ad 3 (6 * i0 + j0))), (0, .ref (ad 0 0)), (1, .int (nI (i0))), (2, .int (nI (j0))), (3, .int (x))]) hx hb dX4_slot_6 hl (by decide) rfl (fun ls hl => ?_)
  refine lv_iload_n hx hb dX4_slot_8 rfl (lv_at hl 4 rfl) ?_
  refine lv_iconst (v := nI 0) hx hb dX4_slot_9 (by decide) ?_
  refine lv_iconst (v := nI 5) hx hb dX4_slot_10 (by decide) ?_
  refine xcRi (va_runS (As := [.int (x), .int (nI 0), .int (nI 5)]) (rest := []) ⟨hx, hb, hml, hown, hts⟩ (c_X4_outside l D cA e0 A s.heap x (nI 0) (nI 5)) ⟨(callB_of 3 hts gi_X4_outside rfl rfl rfl (hts _ q_ini_X4) (hts _ q_ml_X4_37) hd_X4_outside ⟨Nat.le_of_ble_eq_true rfl, Nat.le_of_ble_eq_true rfl⟩), hts _ q_st_X4_outside⟩ (xpS hE hS) rfl rfl hl.1 rfl (lv_room (Nat.le_of_ble_eq_true rfl)) dX4_slot_11 ⟨Nat.le_of_ble_eq_true rfl, Nat.le_of_ble_eq_true rfl⟩) ?_
  refine lv_if_eq (tgt := 27) hx hb dX4_slot_14 (by decide) (fun c14 => ?_) (fun c14 => ?_)
  · obtain ⟨x0, hx0, rfl⟩ := (ou_k (by omega)).mp c14
    refine lv_aload hx hb dX4_slot_27 (lv_at hl 0 rfl) ?_
    refine lv_iload_n hx hb dX4_slot_29 rfl (lv_at hl 4 rfl) ?_
    refine xcRi (va_runV (As := [.int (nI (x0))]) (rest := []) ⟨hx, hb, hml, hown, hts⟩ (c_X3_fact l D cA e0 A s.heap ad g tt N hX (6 * i0 + j0) x0 (by omega) (by omega)) ⟨(callB_of 1 hts gi_X3_fact rfl rfl rfl (hts _ q_ini_X3) (hts _ q_ml_X4_134) hd_X3_fact ⟨Nat.le_of_ble_eq_true rfl, Nat.le_of_ble_eq_true rfl⟩), hts _ q_im_X3_fact, hts _ q_sel_X3_X3_fact⟩ (xpV hE hS (hX.slot (k := 6 * i0 + j0) (by omega)) rfl) rfl rfl hl.1 rfl (lv_room (Nat.le_of_ble_eq_true rfl)) dX4_slot_30 ⟨Nat.le_of_ble_eq_true rfl, Nat.le_of_ble_eq_true rfl⟩) ?_
    refine vx_ret ?_
    have hpost := (⟨rfl, ⟨⟨i0, j0, hi0, hj0, rfl, rfl⟩, x0, hx0, rfl⟩, by rw [cl_nI (n := i0) (by omega), cl_nI (n := j0) (by omega), cl_nI (n := x0) (by omega)]⟩ : s.heap = s.heap ∧ (okS (N 0) (nI i0) (nI j0) ∧ okK 5 (nI x0)) ∧ g (4 + x0) (6 * i0 + j0) = g (4 + cl (nI x0)) (6 * cl (nI i0) + cl (nI j0)))
    refine W.widen (k := 3) (n := 18) (by omega) (by omega) ?_
    exact W.iret (v := (g (4 + x0) (6 * i0 + j0))) hx hb hr (fun t ht _ => ⟨⟨(g (4 + x0) (6 * i0 + j0)), s.heap, rfl, hpost, ht⟩, hS.F ht⟩) hS.2.2 dX4_slot_33
  · exact xthrow (cls := xIOB) (text := "what is not 0 to 5") hx hb hl9 hE hS hown (by decide +kernel) q_cl_X4_73 q_ini_java_lang_IndexOutOfBoundsException xth_IOB xgd_IOB (by decide) (hl.1.trans hml.symm) dX4_slot_17 dX4_slot_20 dX4_slot_21 dX4_slot_23 dX4_slot_26 hxt (Nat.le_of_ble_eq_true rfl) (Nat.le_of_ble_eq_true rfl) (Nat.le_of_ble_eq_true rfl) (Nat.le_of_ble_eq_true rfl) hlocks (⟨rfl, fun z => c14 ((ou_k (by omega)).mpr z.2)⟩) (Nat.le_of_ble_eq_true rfl) (Nat.le_of_ble_eq_true rfl)
set_option maxHeartbeats 4000000 in
set_option maxRecDepth 100000 in
/-- machine(v, x) -/
theorem c_X4_machine (l : Launch) (D : va_G) (cA : Nat → ClassId) (e0 : Nat) (A : Nat → Prop) (H0 : Heap) (ad : Nat → Nat → Nat) (g : Nat → Nat → Int32) (tt : Nat → Int64) (N : Nat → Nat) (hX : xW D cA ad g tt N H0) (v x : Int32) (hA : xA A e0 ad N) (hl9 : l.stackTraces = false) : vx_Met l yX4_machine w_X4_machine ({ frames := 7, cells := 2, slots := 12, locals := 121 } : Room) (xPc D cA e0 A H0 [.ref (ad 0 0), .int (v), .int (x)]) (xQi (fun r h => h = H0 ∧ (okM (N 0) v ∧ okK 4 x) ∧ r = machF g (cl v) (cl x)) A) (xX (fun E => E = xIOB ∧ ¬ (okM (N 0) v ∧ okK 4 x))) 2 12 (A) := by
  refine vx_ofW (cc := cX4_machine) (maxL := 4) (ret := (some .int)) (by decide) rfl ?_
  intro p e s m args below meth c s₁ B hml hxt hv
  obtain ⟨rfl, hH, hE⟩ := hv
  subst hH
  have hx := B.exec
  have hb := B.bytes
  have hr := B.returns
  have hts := hE.1.all ([.ref (ad 0 0), .int (v), .int (x)] : List Value).toArray
  have hown : s.vm.findClass RX4 = some m.cls := findClass_of_methodNamed B.named
  have hlocks := B.notSynchronized
  have hK := hE.2.1
  have hS : va_S A s.heap s.heap [] := va_S.rf
  have hl := lv_entry ([.ref (ad 0 0), .int (v), .int (x)]) (n := 4) (Nat.le_of_ble_eq_true rfl)
  rw [lg_entry_eq]
  generalize (lg_sl ([.ref (ad 0 0), .int (v), .int (x)]) ++ List.replicate (4 - (lg_sl ([.ref (ad 0 0), .int (v), .int (x)])).length) Slot.unset).toArray = ls at hl ⊢
  have hl : lv_has ls 4 [(0, .ref (ad 0 0)), (1, .int (v)), (2, .int (x))] := hl
  have hn8 := hA.n8
  refine lv_aload_n hx hb dX4_machine_0 rfl (lv_at hl 0 rfl) ?_
  refine lv_iload_n hx hb dX4_machine_1 rfl (lv_at hl 1 rfl) ?_
  refine xcXr (vx_runV (As := [.int (v)]) (rest := []) ⟨hx, hb, hml, hown, hts⟩ (c_X4_machineAt l D cA e0 A s.heap ad g tt N hX v hA hl9) ⟨(callB_of 1 hts gi_X4_machineAt rfl rfl rfl (hts _ q_ini_X4) (hts _ q_ml_X4_138) hd_X4_machineAt ⟨Nat.le_of_ble_eq_true rfl, Nat.le_of_ble_eq_true rfl⟩), hts _ q_im_X4_machineAt, hts _ q_sel_X4_X4_machineAt⟩ (xpV hE hS (hX.main) rfl) rfl rfl hl.1 rfl (lv_room (Nat.le_of_ble_eq_true rfl)) dX4_machine_2 ⟨Nat.le_of_ble_eq_true rfl, Nat.le_of_ble_eq_true rfl⟩) hS (fun q h => h) (fun E9 ce9 q9 H9 locs9 hPX9 hz9 hk9 hS9 hc9 hv9 hcl9 => ?_) (fun r9_1 H1 locs hP9 hz9 hk9 hS => ?_)
  · exact vx_out (fun x h => (hxt x h).elim) hlocks hc9 hv9 hcl9 (fun t ht _ => ⟨(), trivial, ⟨hPX9.1, fun z => hPX9.2 z.1⟩, by rw [ht]; exact hz9, fun q hq _ => by rw [ht]; exact hk9 q hq⟩) hS9.2.2 (Nat.le_of_ble_eq_true rfl) (Nat.le_of_ble_eq_true rfl)
  obtain ⟨rfl, i0, hi0, rfl, rfl⟩ := hP9
  refine lv_astore_n (lv' := [(3, .ref (ad 1 i0)), (0, .ref (ad 0 0)), (1, .int (nI (i0))), (2, .int (x))]) hx hb dX4_machine_5 rfl hl (by decide) rfl (fun ls hl => ?_)
  refine lv_iload_n hx hb dX4_machine_6 rfl (lv_at hl 3 rfl) ?_
  refine lv_iconst (v := nI 0) hx hb dX4_machine_7 (by decide) ?_
  refine lv_iconst (v := nI 4) hx hb dX4_machine_8 (by decide) ?_
  refine xcRi (va_runS (As := [.int (x), .int (nI 0), .int (nI 4)]) (rest := []) ⟨hx, hb, hml, hown, hts⟩ (c_X4_outside l D cA e0 A s.heap x (nI 0) (nI 4)) ⟨(callB_of 3 hts gi_X4_outside rfl rfl rfl (hts _ q_ini_X4) (hts _ q_ml_X4_37) hd_X4_outside ⟨Nat.le_of_ble_eq_true rfl, Nat.le_of_ble_eq_true rfl⟩), hts _ q_st_X4_outside⟩ (xpS hE hS) rfl rfl hl.1 rfl (lv_room (Nat.le_of_ble_eq_true rfl)) dX4_machine_9 ⟨Nat.le_of_ble_eq_true rfl, Nat.le_of_ble_eq_true rfl⟩) ?_
  refine lv_if_eq (tgt := 25) hx hb dX4_machine_12 (by decide) (fun c12 => ?_) (fun c12 => ?_)
  · obtain ⟨x0, hx0, rfl⟩ := (ou_k (by omega)).mp c12
    refine lv_aload_n hx hb dX4_machine_25 rfl (lv_at hl 0 rfl) ?_
    refine lv_iload_n hx hb dX4_machine_26 rfl (lv_at hl 3 rfl) ?_
    refine xcRi (va_runV (As := [.int (nI (x0))]) (rest := []) ⟨hx, hb, hml, hown, hts⟩ (c_X0_fact l D cA e0 A s.heap ad g tt N hX i0 hi0 x0 (by omega)) ⟨(callB_of 1 hts gi_X0_fact rfl rfl rfl (hts _ q_ini_X0) (hts _ q_ml_X4_144) hd_X0_fact ⟨Nat.le_of_ble_eq_true rfl, Nat.le_of_ble_eq_true rfl⟩), hts _ q_im_X0_fact, hts _ q_sel_X0_X0_fact⟩ (xpV hE hS (hX.mach hi0) rfl) rfl rfl hl.1 rfl (lv_room (Nat.le_of_ble_eq_true rfl)) dX4_machine_27 ⟨Nat.le_of_ble_eq_true rfl, Nat.le_of_ble_eq_true rfl⟩) ?_
    refine vx_ret ?_
    have hpost := (⟨rfl, ⟨⟨i0, hi0, rfl⟩, x0, hx0, rfl⟩, by rw [cl_nI (n := i0) (by omega), cl_nI (n := x0) (by omega)]⟩ : s.heap = s.heap ∧ (okM (N 0) (nI i0) ∧ okK 4 (nI x0)) ∧ machF g i0 x0 = machF g (cl (nI i0)) (cl (nI x0)))
    refine W.widen (k := 2) (n := 12) (by omega) (by omega) ?_
    exact W.iret (v := (machF g i0 x0)) hx hb hr (fun t ht _ => ⟨⟨(machF g i0 x0), s.heap, rfl, hpost, ht⟩, hS.F ht⟩) hS.2.2 dX4_machine_30
  · exact xthrow (cls := xIOB) (text := "what is not 0 to 4") hx hb hl9 hE hS hown (by decide +kernel) q_cl_X4_73 q_ini_java_lang_IndexOutOfBoundsException xth_IOB xgd_IOB (by decide) (hl.1.trans hml.symm) dX4_machine_15 dX4_machine_18 dX4_machine_19 dX4_machine_21 dX4_machine_24 hxt (Nat.le_of_ble_eq_true rfl) (Nat.le_of_ble_eq_true rfl) (Nat.le_of_ble_eq_true rfl) (Nat.le_of_ble_eq_true rfl) hlocks (⟨rfl, fun z => c12 ((ou_k (by omega)).mpr z.2)⟩) (Nat.le_of_ble_eq_true rfl) (Nat.le_of_ble_eq_true rfl)
set_option maxHeartbeats 4000000 in
set_option maxRecDepth 100000 in
/-- runsOut(v, w) -/
theorem c_X4_runsOut (l : Launch) (D : va_G) (cA : Nat → ClassId) (e0 : Nat) (A : Nat → Prop) (H0 : Heap) (ad : Nat → Nat → Nat) (g : Nat → Nat → Int32) (tt : Nat → Int64) (N : Nat → Nat) (hX : xW D cA ad g tt N H0) (v w : Int32) (hA : xA A e0 ad N) (hl9 : l.stackTraces = false) : vx_Met l yX4_runsOut w_X4_runsOut ({ frames := 8, cells := 2, slots := 12, locals := 144 } : Room) (xPc D cA e0 A H0 [.ref (ad 0 0), .int (v), .int (w)]) (xQi (fun r h => h = H0 ∧ okS (N 0) v w ∧ r = roF g (6 * cl v + cl w)) A) (xX (fun E => E = xIOB ∧ ¬ okS (N 0) v w)) 2 12 (A) := by
  refine vx_ofW (cc := cX4_runsOut) (maxL := 4) (ret := (some .int)) (by decide) rfl ?_
  intro p e s m args below meth c s₁ B hml hxt hv
  obtain ⟨rfl, hH, hE⟩ := hv
  subst hH
  have hx := B.exec
  have hb := B.bytes
  have hr := B.returns
  have hts := hE.1.all ([.ref (ad 0 0), .int (v), .int (w)] : List Value).toArray
  have hown : s.vm.findClass RX4 = some m.cls := findClass_of_methodNamed B.named
  have hlocks := B.notSynchronized
  have hK := hE.2.1
  have hS : va_S A s.heap s.heap [] := va_S.rf
  have hl := lv_entry ([.ref (ad 0 0), .int (v), .int (w)]) (n := 4) (Nat.le_of_ble_eq_true rfl)
  rw [lg_entry_eq]
  generalize (lg_sl ([.ref (ad 0 0), .int (v), .int (w)]) ++ List.replicate (4 - (lg_sl ([.ref (ad 0 0), .int (v), .int (w)])).length) Slot.unset).toArray = ls at hl ⊢
  have hl : lv_has ls 4 [(0, .ref (ad 0 0)), (1, .int (v)), (2, .int (w))] := hl
  have hn8 := hA.n8
  refine lv_aload_n hx hb dX4_runsOut_0 rfl (lv_at hl 0 rfl) ?_
  refine lv_iload_n hx hb dX4_runsOut_1 rfl (lv_at hl 1 rfl) ?_
  refine lv_iload_n hx hb dX4_runsOut_2 rfl (lv_at hl 2 rfl) ?_
  refine xcXr (vx_runV (As := [.int (v), .int (w)]) (rest := []) ⟨hx, hb, hml, hown, hts⟩ (c_X4_slotAt l D cA e0 A s.heap ad g tt N hX v w hA hl9) ⟨(callB_of 2 hts gi_X4_slotAt rfl rfl rfl (hts _ q_ini_X4) (hts _ q_ml_X4_90) hd_X4_slotAt ⟨Nat.le_of_ble_eq_true rfl, Nat.le_of_ble_eq_true rfl⟩), hts _ q_im_X4_slotAt, hts _ q_sel_X4_X4_slotAt⟩ (xpV hE hS (hX.main) rfl) rfl rfl hl.1 rfl (lv_room (Nat.le_of_ble_eq_true rfl)) dX4_runsOut_3 ⟨Nat.le_of_ble_eq_true rfl, Nat.le_of_ble_eq_true rfl⟩) hS (fun q h => h) (fun E9 ce9 q9 H9 locs9 hPX9 hz9 hk9 hS9 hc9 hv9 hcl9 => ?_) (fun r9_1 H1 locs hP9 hz9 hk9 hS => ?_)
  · exact vx_out (fun x h => (hxt x h).elim) hlocks hc9 hv9 hcl9 (fun t ht _ => ⟨(), trivial, hPX9, by rw [ht]; exact hz9, fun q hq _ => by rw [ht]; exact hk9 q hq⟩) hS9.2.2 (Nat.le_of_ble_eq_true rfl) (Nat.le_of_ble_eq_true rfl)
  obtain ⟨rfl, i0, j0, hi0, hj0, rfl, rfl, rfl⟩ := hP9
  refine lv_astore_n (lv' := [(3, .ref (ad 3 (6 * i0 + j0))), (0, .ref (ad 0 0)), (1, .int (nI (i0))), (2, .int (nI (j0)))]) hx hb dX4_runsOut_6 rfl hl (by decide) rfl (fun ls hl => ?_)
  refine lv_aload_n hx hb dX4_runsOut_7 rfl (lv_at hl 0 rfl) ?_
  refine va_get (D := D) (ci := 4) (v := .int (g 5 (6 * i0 + j0))) (C := RX3) (T := TX3) (N := 6) hx hb hts qi_X3 hown hK (xP1 (hX.slot (k := 6 * i0 + j0) (by omega))) 0 rfl rfl 1 (by decide) (hts _ q_fl_X4_104) (fun _ h9 => h9) rfl dX4_runsOut_8 ?_
  refine lv_if_le (tgt := 21) hx hb dX4_runsOut_11 (by decide) (fun c11 => ?_) (fun c11 => ?_)
  · refine lv_iconst (v := (-1)) hx hb dX4_runsOut_21 (by decide) ?_
    refine vx_ret ?_
    have hpost := (⟨rfl, ⟨i0, j0, hi0, hj0, rfl, rfl⟩, by rw [cl_nI (n := i0) (by omega), cl_nI (n := j0) (by omega)]; unfold roF; exact (if_pos (Or.inl c11)).symm⟩ : s.heap = s.heap ∧ okS (N 0) (nI i0) (nI j0) ∧ (-1) = roF g (6 * cl (nI i0) + cl (nI j0)))
    refine W.widen (k := 2) (n := 12) (by omega) (by omega) ?_
    exact W.iret (v := ((-1))) hx hb hr (fun t ht _ => ⟨⟨((-1)), s.heap, rfl, hpost, ht⟩, hS.F ht⟩) hS.2.2 dX4_runsOut_22
  · refine lv_aload_n hx hb dX4_runsOut_14 rfl (lv_at hl 0 rfl) ?_
    refine va_get (D := D) (ci := 4) (v := .int (g 7 (6 * i0 + j0))) (C := RX3) (T := TX3) (N := 6) hx hb hts qi_X3 hown hK (xP1 (hX.slot (k := 6 * i0 + j0) (by omega))) 0 rfl rfl 3 (by decide) (hts _ q_fl_X4_112) (fun _ h9 => h9) rfl dX4_runsOut_15 ?_
    refine lv_if_gt (tgt := 23) hx hb dX4_runsOut_18 (by decide) (fun c18 => ?_) (fun c18 => ?_)
    · refine lv_aload_n hx hb dX4_runsOut_23 rfl (lv_at hl 1 rfl) ?_
      refine va_get (D := D) (ci := 5) (v := .int (g 13 0)) (C := RX4) (T := TX4) (N := 11) hx hb hts qi_X4 hown hK (xP1 (hX.main)) 0 rfl rfl 6 (by decide) (hts _ q_fl_X4_115) (fun _ h9 => h9) rfl dX4_runsOut_24 ?_
      refine lv_aload_n hx hb dX4_runsOut_27 rfl (lv_at hl 0 rfl) ?_
      refine va_get (D := D) (ci := 4) (v := .int (g 5 (6 * i0 + j0))) (C := RX3) (T := TX3) (N := 6) hx hb hts qi_X3 hown hK (xP1 (hX.slot (k := 6 * i0 + j0) (by omega))) 0 rfl rfl 1 (by decide) (hts _ q_fl_X4_104) (fun _ h9 => h9) rfl dX4_runsOut_28 ?_
      refine lv_iconst (v := nI 1) hx hb dX4_runsOut_31 (by decide) ?_
      refine lv_isub hx hb dX4_runsOut_32 ?_
      refine lv_aload_n hx hb dX4_runsOut_33 rfl (lv_at hl 0 rfl) ?_
      refine va_get (D := D) (ci := 4) (v := .int (g 7 (6 * i0 + j0))) (C := RX3) (T := TX3) (N := 6) hx hb hts qi_X3 hown hK (xP1 (hX.slot (k := 6 * i0 + j0) (by omega))) 0 rfl rfl 3 (by decide) (hts _ q_fl_X4_112) (fun _ h9 => h9) rfl dX4_runsOut_34 ?_
      refine lv_idiv hx hb dX4_runsOut_37 (fun z => by rw [z] at c18; exact absurd c18 (by decide)) ?_
      refine lv_iadd hx hb dX4_runsOut_38 ?_
      refine vx_ret ?_
      have hpost := (⟨rfl, ⟨i0, j0, hi0, hj0, rfl, rfl⟩, by rw [cl_nI (n := i0) (by omega), cl_nI (n := j0) (by omega)]; unfold roF; exact (if_neg (fun z => z.elim (fun q => c11 q) (fun q => by rw [i_le] at q; rw [i_lt] at c18; omega))).symm⟩ : s.heap = s.heap ∧ okS (N 0) (nI i0) (nI j0) ∧ (g 13 0) + (((g 5 (6 * i0 + j0)) - (nI 1)) / (g 7 (6 * i0 + j0))) = roF g (6 * cl (nI i0) + cl (nI j0)))
      refine W.widen (k := 2) (n := 12) (by omega) (by omega) ?_
      exact W.iret (v := ((g 13 0) + (((g 5 (6 * i0 + j0)) - (nI 1)) / (g 7 (6 * i0 + j0))))) hx hb hr (fun t ht _ => ⟨⟨((g 13 0) + (((g 5 (6 * i0 + j0)) - (nI 1)) / (g 7 (6 * i0 + j0)))), s.heap, rfl, hpost, ht⟩, hS.F ht⟩) hS.2.2 dX4_runsOut_39
    · refine lv_iconst (v := (-1)) hx hb dX4_runsOut_21 (by decide) ?_
      refine vx_ret ?_
      have hpost := (⟨rfl, ⟨i0, j0, hi0, hj0, rfl, rfl⟩, by rw [cl_nI (n := i0) (by omega), cl_nI (n := j0) (by omega)]; unfold roF; exact (if_pos (Or.inr (by rw [i_le]; rw [i_lt] at c18; omega))).symm⟩ : s.heap = s.heap ∧ okS (N 0) (nI i0) (nI j0) ∧ (-1) = roF g (6 * cl (nI i0) + cl (nI j0)))
      refine W.widen (k := 2) (n := 12) (by omega) (by omega) ?_
      exact W.iret (v := ((-1))) hx hb hr (fun t ht _ => ⟨⟨((-1)), s.heap, rfl, hpost, ht⟩, hS.F ht⟩) hS.2.2 dX4_runsOut_22
set_option maxHeartbeats 4000000 in
set_option maxRecDepth 100000 in
/-- drive(v) -/
theorem c_X4_drive (l : Launch) (D : va_G) (cA : Nat → ClassId) (e0 : Nat) (A : Nat → Prop) (H0 : Heap) (ad : Nat → Nat → Nat) (g : Nat → Nat → Int32) (tt : Nat → Int64) (N : Nat → Nat) (hX : xW D cA ad g tt N H0) (v : Int32) (hA : xA A e0 ad N) (hW : hwAll g (N 0)) (hl9 : l.stackTraces = false) : vx_Met l yX4_drive w_X4_drive ({ frames := 7, cells := 1, slots := 6, locals := 121 } : Room) (xPc D cA e0 A H0 [.ref (ad 0 0), .int (v)]) (xQi (fun r h => h = H0 ∧ okT (N 0) v ∧ r = tw (wy g) (cl v) 8) A) (xX (fun E => E = xIAE ∧ ¬ okT (N 0) v)) 1 6 (A) := by
  refine vx_ofW (cc := cX4_drive) (maxL := 2) (ret := (some .int)) (by decide) rfl ?_
  intro p e s m args below meth c s₁ B hml hxt hv
  obtain ⟨rfl, hH, hE⟩ := hv
  subst hH
  have hx := B.exec
  have hb := B.bytes
  have hr := B.returns
  have hts := hE.1.all ([.ref (ad 0 0), .int (v)] : List Value).toArray
  have hown : s.vm.findClass RX4 = some m.cls := findClass_of_methodNamed B.named
  have hlocks := B.notSynchronized
  have hK := hE.2.1
  have hS : va_S A s.heap s.heap [] := va_S.rf
  have hl := lv_entry ([.ref (ad 0 0), .int (v)]) (n := 2) (Nat.le_of_ble_eq_true rfl)
  rw [lg_entry_eq]
  generalize (lg_sl ([.ref (ad 0 0), .int (v)]) ++ List.replicate (2 - (lg_sl ([.ref (ad 0 0), .int (v)])).length) Slot.unset).toArray = ls at hl ⊢
  have hl : lv_has ls 2 [(0, .ref (ad 0 0)), (1, .int (v))] := hl
  refine lv_aload_n hx hb dX4_drive_0 rfl (lv_at hl 0 rfl) ?_
  refine lv_iload_n hx hb dX4_drive_1 rfl (lv_at hl 1 rfl) ?_
  refine xcXv (vx_runV (As := [.int (v)]) (rest := []) ⟨hx, hb, hml, hown, hts⟩ (c_X4_requireSet l D cA e0 A s.heap ad g tt N hX v hA hl9) ⟨(callB_of 1 hts gi_X4_requireSet rfl rfl rfl (hts _ q_ini_X4) (hts _ q_ml_X4_155) hd_X4_requireSet ⟨Nat.le_of_ble_eq_true rfl, Nat.le_of_ble_eq_true rfl⟩), hts _ q_im_X4_requireSet, hts _ q_sel_X4_X4_requireSet⟩ (xpV hE hS (hX.main) rfl) rfl rfl hl.1 rfl (lv_room (Nat.le_of_ble_eq_true rfl)) dX4_drive_2 ⟨Nat.le_of_ble_eq_true rfl, Nat.le_of_ble_eq_true rfl⟩) hS (fun q h => h) (fun E9 ce9 q9 H9 locs9 hPX9 hz9 hk9 hS9 hc9 hv9 hcl9 => ?_) (fun H1 locs hP9 hz9 hk9 hS => ?_)
  · exact vx_out (fun x h => (hxt x h).elim) hlocks hc9 hv9 hcl9 (fun t ht _ => ⟨(), trivial, hPX9, by rw [ht]; exact hz9, fun q hq _ => by rw [ht]; exact hk9 q hq⟩) hS9.2.2 (Nat.le_of_ble_eq_true rfl) (Nat.le_of_ble_eq_true rfl)
  obtain ⟨rfl, S, hS2, rfl⟩ := hP9
  have hSt : S < 256 := Nat.lt_of_lt_of_le hS2 (pow256 hA.n8)
  refine lv_aload_n hx hb dX4_drive_5 rfl (lv_at hl 0 rfl) ?_
  refine va_get (D := D) (ci := 5) (v := .ref (ad 0 3)) (C := RX4) (T := TX4) (N := 11) hx hb hts qi_X4 hown hK (xP1 (hX.main)) 0 rfl rfl 2 (by decide) (hts _ q_fl_X4_22) (fun _ h9 => h9) rfl dX4_drive_6 ?_
  refine lv_iconst (v := (-1)) hx hb dX4_drive_9 (by decide) ?_
  refine lv_iload_n hx hb dX4_drive_10 rfl (lv_at hl 1 rfl) ?_
  refine xcRi (va_runV (As := [.int ((-1)), .int (nI (S))]) (rest := []) ⟨hx, hb, hml, hown, hts⟩ (c_X2_leastFrom l D cA e0 A s.heap ad g tt N hX (-1) 8 S isPl_d hSt (hW S hS2)) ⟨(callB_of 2 hts gi_X2_leastFrom rfl rfl rfl (hts _ q_ini_X2) (hts _ q_ml_X4_158) hd_X2_leastFrom ⟨Nat.le_of_ble_eq_true rfl, Nat.le_of_ble_eq_true rfl⟩), hts _ q_im_X2_leastFrom, hts _ q_sel_X2_X2_leastFrom⟩ (xpV hE hS (hX.roads) rfl) rfl rfl hl.1 rfl (lv_room (Nat.le_of_ble_eq_true rfl)) dX4_drive_11 ⟨Nat.le_of_ble_eq_true rfl, Nat.le_of_ble_eq_true rfl⟩) ?_
  refine vx_ret ?_
  have hpost := (⟨rfl, ⟨S, hS2, rfl⟩, by rw [cl_nI (n := S) (by omega)]⟩ : s.heap = s.heap ∧ okT (N 0) (nI S) ∧ tw (wy g) S 8 = tw (wy g) (cl (nI S)) 8)
  refine W.widen (k := 1) (n := 6) (by omega) (by omega) ?_
  exact W.iret (v := (tw (wy g) S 8)) hx hb hr (fun t ht _ => ⟨⟨(tw (wy g) S 8), s.heap, rfl, hpost, ht⟩, hS.F ht⟩) hS.2.2 dX4_drive_14
set_option maxHeartbeats 4000000 in
set_option maxRecDepth 100000 in
/-- visit(v, x) -/
theorem c_X4_visit (l : Launch) (D : va_G) (cA : Nat → ClassId) (e0 : Nat) (A : Nat → Prop) (H0 : Heap) (ad : Nat → Nat → Nat) (g : Nat → Nat → Int32) (tt : Nat → Int64) (N : Nat → Nat) (hX : xW D cA ad g tt N H0) (v x : Int32) (hA : xA A e0 ad N) (hW : hwAll g (N 0)) (hl9 : l.stackTraces = false) : vx_Met l yX4_visit w_X4_visit ({ frames := 7, cells := 2, slots := 12, locals := 121 } : Room) (xPc D cA e0 A H0 [.ref (ad 0 0), .int (v), .int (x)]) (xQi (fun r h => h = H0 ∧ (okT (N 0) v ∧ okV v x) ∧ r = nI (vs (wy g) (cl v) (cl x + 1)).2) A) (xX (fun E => (E = xIAE ∧ ¬ okT (N 0) v) ∨ (E = xIOB ∧ okT (N 0) v ∧ ¬ okV v x))) 2 12 (A) := by
  refine vx_ofW (cc := cX4_visit) (maxL := 6) (ret := (some .int)) (by decide) rfl ?_
  intro p e s m args below meth c s₁ B hml hxt hv
  obtain ⟨rfl, hH, hE⟩ := hv
  subst hH
  have hx := B.exec
  have hb := B.bytes
  have hr := B.returns
  have hts := hE.1.all ([.ref (ad 0 0), .int (v), .int (x)] : List Value).toArray
  have hown : s.vm.findClass RX4 = some m.cls := findClass_of_methodNamed B.named
  have hlocks := B.notSynchronized
  have hK := hE.2.1
  have hS : va_S A s.heap s.heap [] := va_S.rf
  have hl := lv_entry ([.ref (ad 0 0), .int (v), .int (x)]) (n := 6) (Nat.le_of_ble_eq_true rfl)
  rw [lg_entry_eq]
  generalize (lg_sl ([.ref (ad 0 0), .int (v), .int (x)]) ++ List.replicate (6 - (lg_sl ([.ref (ad 0 0), .int (v), .int (x)])).length) Slot.unset).toArray = ls at hl ⊢
  have hl : lv_has ls 6 [(0, .ref (ad 0 0)), (1, .int (v)), (2, .int (x))] := hl
  refine lv_aload_n hx hb dX4_visit_0 rfl (lv_at hl 0 rfl) ?_
  refine lv_iload_n hx hb dX4_visit_1 rfl (lv_at hl 1 rfl) ?_
  refine xcXv (vx_runV (As := [.int (v)]) (rest := []) ⟨hx, hb, hml, hown, hts⟩ (c_X4_requireSet l D cA e0 A s.heap ad g tt N hX v hA hl9) ⟨(callB_of 1 hts gi_X4_requireSet rfl rfl rfl (hts _ q_ini_X4) (hts _ q_ml_X4_155) hd_X4_requireSet ⟨Nat.le_of_ble_eq_true rfl, Nat.le_of_ble_eq_true rfl⟩), hts _ q_im_X4_requireSet, hts _ q_sel_X4_X4_requireSet⟩ (xpV hE hS (hX.main) rfl) rfl rfl hl.1 rfl (lv_room (Nat.le_of_ble_eq_true rfl)) dX4_visit_2 ⟨Nat.le_of_ble_eq_true rfl, Nat.le_of_ble_eq_true rfl⟩) hS (fun q h => h) (fun E9 ce9 q9 H9 locs9 hPX9 hz9 hk9 hS9 hc9 hv9 hcl9 => ?_) (fun H1 locs hP9 hz9 hk9 hS => ?_)
  · exact vx_out (fun x h => (hxt x h).elim) hlocks hc9 hv9 hcl9 (fun t ht _ => ⟨(), trivial, Or.inl hPX9, by rw [ht]; exact hz9, fun q hq _ => by rw [ht]; exact hk9 q hq⟩) hS9.2.2 (Nat.le_of_ble_eq_true rfl) (Nat.le_of_ble_eq_true rfl)
  obtain ⟨rfl, S, hS2, rfl⟩ := hP9
  have hSt : S < 256 := Nat.lt_of_lt_of_le hS2 (pow256 hA.n8)
  refine lv_iload_n hx hb dX4_visit_5 rfl (lv_at hl 2 rfl) ?_
  refine lv_iconst (v := nI 0) hx hb dX4_visit_6 (by decide) ?_
  refine lv_iload_n hx hb dX4_visit_7 rfl (lv_at hl 1 rfl) ?_
  refine xcRi (va_runS (As := [.int (nI (S))]) (rest := [.int (nI 0), .int (x)]) ⟨hx, hb, hml, hown, hts⟩ (c_J6_bitCount_0f7a4 l D cA e0 A s.heap S hSt) ⟨(callB_of 1 hts gi_J6_bitCount_0f7a4 rfl rfl rfl (hts _ q_ini_J6) (hts _ q_ml_X4_161) hd_J6_bitCount_0f7a4 ⟨Nat.le_of_ble_eq_true rfl, Nat.le_of_ble_eq_true rfl⟩), hts _ q_st_J6_bitCount_0f7a4⟩ (xpS hE hS) rfl rfl hl.1 rfl (lv_room (Nat.le_of_ble_eq_true rfl)) dX4_visit_8 ⟨Nat.le_of_ble_eq_true rfl, Nat.le_of_ble_eq_true rfl⟩) ?_
  refine lv_iconst (v := nI 1) hx hb dX4_visit_11 (by decide) ?_
  refine lv_isub hx hb dX4_visit_12 ?_
  refine xcRi (va_runS (As := [.int (x), .int (nI 0), .int ((nI (bc S)) - (nI 1))]) (rest := []) ⟨hx, hb, hml, hown, hts⟩ (c_X4_outside l D cA e0 A s.heap x (nI 0) ((nI (bc S)) - (nI 1))) ⟨(callB_of 3 hts gi_X4_outside rfl rfl rfl (hts _ q_ini_X4) (hts _ q_ml_X4_37) hd_X4_outside ⟨Nat.le_of_ble_eq_true rfl, Nat.le_of_ble_eq_true rfl⟩), hts _ q_st_X4_outside⟩ (xpS hE hS) rfl rfl hl.1 rfl (lv_room (Nat.le_of_ble_eq_true rfl)) dX4_visit_13 ⟨Nat.le_of_ble_eq_true rfl, Nat.le_of_ble_eq_true rfl⟩) ?_
  refine lv_if_eq (tgt := 29) hx hb dX4_visit_16 (by decide) (fun c16 => ?_) (fun c16 => ?_)
  · have hb8 := bc_le S hSt
    obtain ⟨x0, hx0, rfl⟩ := (ou_m (by omega)).mp c16
    refine lv_iconst (v := (-1)) hx hb dX4_visit_29 (by decide) ?_
    refine lv_istore_n (lv' := [(3, .int ((-1))), (0, .ref (ad 0 0)), (1, .int (nI (S))), (2, .int (nI (x0)))]) hx hb dX4_visit_30 rfl hl (by decide) rfl (fun ls hl => ?_)
    refine lv_iload_n hx hb dX4_visit_31 rfl (lv_at hl 2 rfl) ?_
    refine lv_istore (lv' := [(4, .int (nI (S))), (3, .int ((-1))), (0, .ref (ad 0 0)), (1, .int (nI (S))), (2, .int (nI (x0)))]) hx hb dX4_visit_32 hl (by decide) rfl (fun ls hl => ?_)
    refine lv_iconst (v := nI 0) hx hb dX4_visit_34 (by decide) ?_
    refine lv_istore (lv' := [(5, .int (nI 0)), (4, .int (nI (S))), (3, .int ((-1))), (0, .ref (ad 0 0)), (1, .int (nI (S))), (2, .int (nI (x0)))]) hx hb dX4_visit_35 hl (by decide) rfl (fun ls hl => ?_)
    have LOOP37 : ∀ (n37 : Nat) (k : Nat) (hv : Int32) (ls : Array Slot), (k ≤ x0 + 1) → (isPl hv (vs (wy g) S k).2) → (0 < k → hv = nI (vs (wy g) S k).2) → (x0 + 1 - k) < n37 → lv_has ls 6 [(3, .int (hv)), (4, .int (nI ((vs (wy g) S k).1))), (5, .int (nI (k))), (0, .ref (ad 0 0)), (2, .int (nI (x0)))] → W p l e (headSpec w_X4_visit ({ frames := 7, cells := 2, slots := 12, locals := 121 } : Room)).room s m ([.ref (ad 0 0), .int ((nI S)), .int ((nI x0))] : List Value).toArray below meth c s.heap locs (0 + 1) (0 + 6) (vx_MQ below (xQi (fun r h => h = s.heap ∧ (okT (N 0) (nI S) ∧ okV (nI S) (nI x0)) ∧ r = nI (vs (wy g) (cl (nI S)) (cl (nI x0) + 1)).2) A) (xX (fun E => (E = xIAE ∧ ¬ okT (N 0) (nI S)) ∨ (E = xIOB ∧ okT (N 0) (nI S) ∧ ¬ okV (nI S) (nI x0)))) ([.ref (ad 0 0), .int ((nI S)), .int ((nI x0))] : List Value).toArray s 2 12 (A)) (F0 m 37 ls []) := by
      intro n37
      induction n37 with
      | zero => intro k hv ls hk hpl hlast hmeas hl; exact absurd hmeas (Nat.not_lt_zero _)
      | succ n37 ih37 =>
        intro k hv ls hk hpl hlast hmeas hl
        refine lv_iload hx hb dX4_visit_37 (lv_at hl 2 rfl) ?_
        refine lv_iload_n hx hb dX4_visit_39 rfl (lv_at hl 4 rfl) ?_
        refine lv_icmp_gt (tgt := 68) hx hb dX4_visit_40 (by decide) (fun c40 => ?_) (fun c40 => ?_)
        · have c40 : x0 < k := (nI_ltI (a := x0) (b := k) (by omega) (by omega)).mp c40
          have hk9 : k = x0 + 1 := by omega
          subst hk9
          refine lv_iload_n hx hb dX4_visit_68 rfl (lv_at hl 0 rfl) ?_
          refine vx_ret ?_
          have hpost := (⟨rfl, ⟨⟨S, hS2, rfl⟩, x0, by rw [cl_nI (n := S) (by omega)]; exact hx0, rfl⟩, by rw [cl_nI (n := S) (by omega), cl_nI (n := x0) (by omega)]; exact hlast (by omega)⟩ : s.heap = s.heap ∧ (okT (N 0) (nI S) ∧ okV (nI S) (nI x0)) ∧ hv = nI (vs (wy g) (cl (nI S)) (cl (nI x0) + 1)).2)
          refine W.widen (k := 2) (n := 12) (by omega) (by omega) ?_
          exact W.iret (v := hv) hx hb hr (fun t ht _ => ⟨⟨hv, s.heap, rfl, hpost, ht⟩, hS.F ht⟩) hS.2.2 dX4_visit_69
        · have c40 : ¬ (x0 < k) := fun z => c40 ((nI_ltI (a := x0) (b := k) (by omega) (by omega)).mpr z)
          obtain ⟨v1, v2, v3, v4⟩ := vs_next (wy g) (k := k) hA.n8 hS2 (by omega)
          have hn8 := hA.n8
          have h256 := pow256 hn8
          refine lv_aload_n hx hb dX4_visit_43 rfl (lv_at hl 3 rfl) ?_
          refine va_get (D := D) (ci := 5) (v := .ref (ad 0 3)) (C := RX4) (T := TX4) (N := 11) hx hb hts qi_X4 hown hK (xP1 (hX.main)) 0 rfl rfl 2 (by decide) (hts _ q_fl_X4_22) (fun _ h9 => h9) rfl dX4_visit_44 ?_
          refine lv_iload_n hx hb dX4_visit_47 rfl (lv_at hl 0 rfl) ?_
          refine lv_iload hx hb dX4_visit_48 (lv_at hl 1 rfl) ?_
          refine xcRi (va_runV (As := [.int (hv), .int (nI ((vs (wy g) S k).1))]) (rest := []) ⟨hx, hb, hml, hown, hts⟩ (c_X2_nextStop l D cA e0 A s.heap ad g tt N hX hv (vs (wy g) S k).2 (vs (wy g) S k).1 hpl (by omega) (hW _ v1)) ⟨(callB_of 2 hts gi_X2_nextStop rfl rfl rfl (hts _ q_ini_X2) (hts _ q_ml_X4_168) hd_X2_nextStop ⟨Nat.le_of_ble_eq_true rfl, Nat.le_of_ble_eq_true rfl⟩), hts _ q_im_X2_nextStop, hts _ q_sel_X2_X2_nextStop⟩ (xpV hE hS (hX.roads) rfl) rfl rfl hl.1 rfl (lv_room (Nat.le_of_ble_eq_true rfl)) dX4_visit_50 ⟨Nat.le_of_ble_eq_true rfl, Nat.le_of_ble_eq_true rfl⟩) ?_
          refine xtop (show amN (fun m => wy g (vs (wy g) S k).2 m + tw (wy g) ((vs (wy g) S k).1 - 2 ^ m) m) (vs (wy g) S k).1 8 = nI ((vs (wy g) S (k + 1)).2) from amN_nx (wy g) _ (by omega) v2) ?_
          refine lv_istore_n (lv' := [(3, .int (nI ((vs (wy g) S (k + 1)).2))), (4, .int (nI ((vs (wy g) S k).1))), (5, .int (nI (k))), (0, .ref (ad 0 0)), (2, .int (nI (x0)))]) hx hb dX4_visit_53 rfl hl (by decide) rfl (fun ls hl => ?_)
          refine lv_iload hx hb dX4_visit_54 (lv_at hl 1 rfl) ?_
          refine lv_iload_n hx hb dX4_visit_56 rfl (lv_at hl 0 rfl) ?_
          refine xcRi (va_runS (As := [.int (nI ((vs (wy g) S k).1)), .int (nI ((vs (wy g) S (k + 1)).2))]) (rest := []) ⟨hx, hb, hml, hown, hts⟩ (c_X4_without l D cA e0 A s.heap (vs (wy g) S k).1 (vs (wy g) S (k + 1)).2 (by omega) (by omega) v4) ⟨(callB_of 2 hts gi_X4_without rfl rfl rfl (hts _ q_ini_X4) (hts _ q_ml_X4_171) hd_X4_without ⟨Nat.le_of_ble_eq_true rfl, Nat.le_of_ble_eq_true rfl⟩), hts _ q_st_X4_without⟩ (xpS hE hS) rfl rfl hl.1 rfl (lv_room (Nat.le_of_ble_eq_true rfl)) dX4_visit_57 ⟨Nat.le_of_ble_eq_true rfl, Nat.le_of_ble_eq_true rfl⟩) ?_
          refine lv_istore (lv' := [(4, .int (nI ((vs (wy g) S (k + 1)).1))), (3, .int (nI ((vs (wy g) S (k + 1)).2))), (5, .int (nI (k))), (0, .ref (ad 0 0)), (2, .int (nI (x0)))]) hx hb dX4_visit_60 hl (by decide) rfl (fun ls hl => ?_)
          refine lv_iinc (v := nI (k + 1)) (lv' := [(5, .int (nI (k + 1))), (4, .int (nI ((vs (wy g) S (k + 1)).1))), (3, .int (nI ((vs (wy g) S (k + 1)).2))), (0, .ref (ad 0 0)), (2, .int (nI (x0)))]) hx hb dX4_visit_62 hl (k := 2) rfl (nI_add k 1) (by decide) rfl (fun ls hl => ?_)
          refine lv_goto (tgt := 37) hx hb dX4_visit_65 (by decide) ?_
          exact ih37 (k + 1) (nI (vs (wy g) S (k + 1)).2) _ (by omega) (isPl_m (by omega)) (fun _ => rfl) (by omega) (lv_sub hl [2, 1, 0, 3, 4] rfl)
    exact LOOP37 _ 0 (-1) _ (by omega) isPl_d (fun z => absurd z (Nat.lt_irrefl 0)) (Nat.lt_succ_self _) (lv_sub hl [2, 1, 0, 3, 5] rfl)
  · exact xthrow (cls := xIOB) (text := "there is no such place in the order") hx hb hl9 hE hS hown (by decide +kernel) q_cl_X4_73 q_ini_java_lang_IndexOutOfBoundsException xth_IOB xgd_IOB (by decide) (hl.1.trans hml.symm) dX4_visit_19 dX4_visit_22 dX4_visit_23 dX4_visit_25 dX4_visit_28 hxt (Nat.le_of_ble_eq_true rfl) (Nat.le_of_ble_eq_true rfl) (Nat.le_of_ble_eq_true rfl) (Nat.le_of_ble_eq_true rfl) hlocks (Or.inr ⟨rfl, ⟨S, hS2, rfl⟩, fun ⟨j, h1, h2⟩ => c16 ((ou_m (by have := bc_le S hSt; omega)).mpr ⟨j, by rw [cl_nI (n := S) (by omega)] at h1; exact h1, h2⟩)⟩) (Nat.le_of_ble_eq_true rfl) (Nat.le_of_ble_eq_true rfl)
set_option maxHeartbeats 4000000 in
set_option maxRecDepth 100000 in
/-- total(x) -/
theorem c_X4_total (l : Launch) (D : va_G) (cA : Nat → ClassId) (e0 : Nat) (A : Nat → Prop) (H0 : Heap) (ad : Nat → Nat → Nat) (g : Nat → Nat → Int32) (tt : Nat → Int64) (N : Nat → Nat) (hX : xW D cA ad g tt N H0) (x : Int32) (hl9 : l.stackTraces = false) : vx_Met l yX4_total w_X4_total ({ frames := 6, cells := 1, slots := 6, locals := 100 } : Room) (xPc D cA e0 A H0 [.ref (ad 0 0), .int (x)]) (xQl (fun r h => h = H0 ∧ okK 3 x ∧ r = tt (cl x)) A) (xX (fun E => E = xIOB ∧ ¬ okK 3 x)) 1 6 (A) := by
  refine vx_ofW (cc := cX4_total) (maxL := 2) (ret := (some .long)) (by decide) rfl ?_
  intro p e s m args below meth c s₁ B hml hxt hv
  obtain ⟨rfl, hH, hE⟩ := hv
  subst hH
  have hx := B.exec
  have hb := B.bytes
  have hr := B.returns
  have hts := hE.1.all ([.ref (ad 0 0), .int (x)] : List Value).toArray
  have hown : s.vm.findClass RX4 = some m.cls := findClass_of_methodNamed B.named
  have hlocks := B.notSynchronized
  have hK := hE.2.1
  have hS : va_S A s.heap s.heap [] := va_S.rf
  have hl := lv_entry ([.ref (ad 0 0), .int (x)]) (n := 2) (Nat.le_of_ble_eq_true rfl)
  rw [lg_entry_eq]
  generalize (lg_sl ([.ref (ad 0 0), .int (x)]) ++ List.replicate (2 - (lg_sl ([.ref (ad 0 0), .int (x)])).length) Slot.unset).toArray = ls at hl ⊢
  have hl : lv_has ls 2 [(0, .ref (ad 0 0)), (1, .int (x))] := hl
  refine lv_iload_n hx hb dX4_total_0 rfl (lv_at hl 1 rfl) ?_
  refine lv_iconst (v := nI 0) hx hb dX4_total_1 (by decide) ?_
  refine lv_iconst (v := nI 3) hx hb dX4_total_2 (by decide) ?_
  refine xcRi (va_runS (As := [.int (x), .int (nI 0), .int (nI 3)]) (rest := []) ⟨hx, hb, hml, hown, hts⟩ (c_X4_outside l D cA e0 A s.heap x (nI 0) (nI 3)) ⟨(callB_of 3 hts gi_X4_outside rfl rfl rfl (hts _ q_ini_X4) (hts _ q_ml_X4_37) hd_X4_outside ⟨Nat.le_of_ble_eq_true rfl, Nat.le_of_ble_eq_true rfl⟩), hts _ q_st_X4_outside⟩ (xpS hE hS) rfl rfl hl.1 rfl (lv_room (Nat.le_of_ble_eq_true rfl)) dX4_total_3 ⟨Nat.le_of_ble_eq_true rfl, Nat.le_of_ble_eq_true rfl⟩) ?_
  refine lv_if_eq (tgt := 19) hx hb dX4_total_6 (by decide) (fun c6 => ?_) (fun c6 => ?_)
  · obtain ⟨w, hw, rfl⟩ := (ou_k (by omega)).mp c6
    refine lv_iload_n hx hb dX4_total_19 rfl (lv_at hl 1 rfl) ?_
    by_cases hw0 : w = 0
    · subst hw0
      refine lv_tableIn (tgt := 48) (off := 28) hx hb dX4_total_20 (by decide) (by decide) (by decide) (by decide) ?_
      refine lv_aload_n hx hb dX4_total_48 rfl (lv_at hl 0 rfl) ?_
      refine va_get (D := D) (ci := 5) (v := .long (tt 0)) (C := RX4) (T := TX4) (N := 11) hx hb hts qi_X4 hown hK (xP1 (hX.main)) 0 rfl rfl 7 (by decide) (hts _ q_fl_X4_206) (fun _ h9 => h9) rfl dX4_total_49 ?_
      refine vx_ret ?_
      have hpost := (⟨rfl, ⟨0, by omega, rfl⟩, rfl⟩ : s.heap = s.heap ∧ okK 3 (nI 0) ∧ tt 0 = tt (cl (nI 0)))
      refine W.widen (k := 1) (n := 6) (by omega) (by omega) ?_
      exact W.lret (v := (tt 0)) hx hb hr (fun t ht _ => ⟨⟨(tt 0), s.heap, rfl, hpost, ht⟩, hS.F ht⟩) hS.2.2 dX4_total_52
    by_cases hw1 : w = 1
    · subst hw1
      refine lv_tableIn (tgt := 53) (off := 33) hx hb dX4_total_20 (by decide) (by decide) (by decide) (by decide) ?_
      refine lv_aload_n hx hb dX4_total_53 rfl (lv_at hl 0 rfl) ?_
      refine va_get (D := D) (ci := 5) (v := .long (tt 1)) (C := RX4) (T := TX4) (N := 11) hx hb hts qi_X4 hown hK (xP1 (hX.main)) 0 rfl rfl 8 (by decide) (hts _ q_fl_X4_189) (fun _ h9 => h9) rfl dX4_total_54 ?_
      refine vx_ret ?_
      have hpost := (⟨rfl, ⟨1, by omega, rfl⟩, rfl⟩ : s.heap = s.heap ∧ okK 3 (nI 1) ∧ tt 1 = tt (cl (nI 1)))
      refine W.widen (k := 1) (n := 6) (by omega) (by omega) ?_
      exact W.lret (v := (tt 1)) hx hb hr (fun t ht _ => ⟨⟨(tt 1), s.heap, rfl, hpost, ht⟩, hS.F ht⟩) hS.2.2 dX4_total_57
    by_cases hw2 : w = 2
    · subst hw2
      refine lv_tableIn (tgt := 58) (off := 38) hx hb dX4_total_20 (by decide) (by decide) (by decide) (by decide) ?_
      refine lv_aload_n hx hb dX4_total_58 rfl (lv_at hl 0 rfl) ?_
      refine va_get (D := D) (ci := 5) (v := .long (tt 2)) (C := RX4) (T := TX4) (N := 11) hx hb hts qi_X4 hown hK (xP1 (hX.main)) 0 rfl rfl 9 (by decide) (hts _ q_fl_X4_209) (fun _ h9 => h9) rfl dX4_total_59 ?_
      refine vx_ret ?_
      have hpost := (⟨rfl, ⟨2, by omega, rfl⟩, rfl⟩ : s.heap = s.heap ∧ okK 3 (nI 2) ∧ tt 2 = tt (cl (nI 2)))
      refine W.widen (k := 1) (n := 6) (by omega) (by omega) ?_
      exact W.lret (v := (tt 2)) hx hb hr (fun t ht _ => ⟨⟨(tt 2), s.heap, rfl, hpost, ht⟩, hS.F ht⟩) hS.2.2 dX4_total_62
    refine lv_tableOut (tgt := 63) hx hb dX4_total_20 (Or.inr (by rw [nI_toInt (by omega)]; omega)) (by decide) ?_
    refine lv_aload_n hx hb dX4_total_63 rfl (lv_at hl 0 rfl) ?_
    refine va_get (D := D) (ci := 5) (v := .long (tt 3)) (C := RX4) (T := TX4) (N := 11) hx hb hts qi_X4 hown hK (xP1 (hX.main)) 0 rfl rfl 10 (by decide) (hts _ q_fl_X4_193) (fun _ h9 => h9) rfl dX4_total_64 ?_
    refine vx_ret ?_
    have hpost := (⟨rfl, ⟨w, by omega, rfl⟩, by rw [cl_nI (n := w) (by omega), show w = 3 by omega]⟩ : s.heap = s.heap ∧ okK 3 (nI w) ∧ tt 3 = tt (cl (nI w)))
    refine W.widen (k := 1) (n := 6) (by omega) (by omega) ?_
    exact W.lret (v := (tt 3)) hx hb hr (fun t ht _ => ⟨⟨(tt 3), s.heap, rfl, hpost, ht⟩, hS.F ht⟩) hS.2.2 dX4_total_67
  · exact xthrow (cls := xIOB) (text := "what is not 0 to 3") hx hb hl9 hE hS hown (by decide +kernel) q_cl_X4_73 q_ini_java_lang_IndexOutOfBoundsException xth_IOB xgd_IOB (by decide) (hl.1.trans hml.symm) dX4_total_9 dX4_total_12 dX4_total_13 dX4_total_15 dX4_total_18 hxt (Nat.le_of_ble_eq_true rfl) (Nat.le_of_ble_eq_true rfl) (Nat.le_of_ble_eq_true rfl) (Nat.le_of_ble_eq_true rfl) hlocks (⟨rfl, fun z => c6 ((ou_k (by omega)).mpr z)⟩) (Nat.le_of_ble_eq_true rfl) (Nat.le_of_ble_eq_true rfl)
end
section
/-! Facts of tables written. -/
theorem up_ne {α : Type} {g : Nat → α} {k : Nat} {f : α} {j : Nat} (h : j ≠ k) : va_up g k f j = g j := if_neg h
theorem up_eq {α : Type} {g : Nat → α} {k : Nat} {f : α} : va_up g k f k = f := if_pos rfl
theorem upd_ne {f : Nat → Int32} {k : Nat} {v : Int32} {j : Nat} (h : j ≠ k) : upd f k v j = f j := if_neg h
theorem upd_eq {f : Nat → Int32} {k : Nat} {v : Int32} : upd f k v k = v := if_pos rfl
theorem lackF_c {g g' : Nat → Nat → Int32} (h4 : g' 4 = g 4) (h5 : g' 5 = g 5) (i : Nat) : lackF g' i = lackF g i := by
  unfold lackF
  rw [h4, h5]
theorem gainF_c {g g' : Nat → Nat → Int32} (h1 : g' 1 = g 1) (h4 : g' 4 = g 4) (h5 : g' 5 = g 5) (h6 : g' 6 = g 6) (i : Nat) : gainF g' i = gainF g i := by
  unfold gainF
  rw [h1, h4, h5, h6]
theorem vtF_c {g g' : Nat → Nat → Int32} (h4 : g' 4 = g 4) (h5 : g' 5 = g 5) (i : Nat) : vtF g' i = vtF g i := by
  unfold vtF
  rw [lackF_c h4 h5]
theorem wy_c {g g' : Nat → Nat → Int32} (h3 : g' 3 = g 3) : wy g' = wy g := by
  funext a b
  unfold wy
  rw [h3]
theorem hwOK_c {g g' : Nat → Nat → Int32} (h3 : g' 3 = g 3) (h17 : g' 17 = g 17) {S : Nat} (h : hwOK g S) : hwOK g' S := by
  unfold hwOK
  rw [wy_c h3, h17]
  exact h
theorem hwAll_c {g g' : Nat → Nat → Int32} (h3 : g' 3 = g 3) (h17 : g' 17 = g 17) {n : Nat} (h : hwAll g n) : hwAll g' n := fun S hS => hwOK_c h3 h17 (h S hS)
/-- what survey leaves -/
def svOK (g g' : Nat → Nat → Int32) (n : Nat) : Prop := (∀ k, k ≠ 14 → k ≠ 15 → k ≠ 16 → g' k = g k) ∧ ∀ i, i < n → g' 14 i = vtF g i ∧ g' 15 i = lackF g i ∧ g' 16 i = gainF g i
theorem sv_step {g g1 : Nat → Nat → Int32} {i : Nat} (h : svOK g g1 i) : svOK g (va_up (va_up (va_up g1 15 (upd (g1 15) i (lackF g1 i))) 16 (upd (va_up g1 15 (upd (g1 15) i (lackF g1 i)) 16) i (gainF (va_up g1 15 (upd (g1 15) i (lackF g1 i))) i))) 14 (upd (va_up (va_up g1 15 (upd (g1 15) i (lackF g1 i))) 16 (upd (va_up g1 15 (upd (g1 15) i (lackF g1 i)) 16) i (gainF (va_up g1 15 (upd (g1 15) i (lackF g1 i))) i)) 14) i (vtF (va_up (va_up g1 15 (upd (g1 15) i (lackF g1 i))) 16 (upd (va_up g1 15 (upd (g1 15) i (lackF g1 i)) 16) i (gainF (va_up g1 15 (upd (g1 15) i (lackF g1 i))) i))) i))) (i + 1) := by
  have e1 := h.1 1 (by omega) (by omega) (by omega)
  have e4 := h.1 4 (by omega) (by omega) (by omega)
  have e5 := h.1 5 (by omega) (by omega) (by omega)
  have e6 := h.1 6 (by omega) (by omega) (by omega)
  generalize hg2 : va_up g1 15 (upd (g1 15) i (lackF g1 i)) = g2
  have f : ∀ k, k ≠ 15 → g2 k = g1 k := fun k hk => by rw [← hg2]; exact up_ne hk
  have f15 : g2 15 = upd (g1 15) i (lackF g1 i) := by rw [← hg2]; exact up_eq
  generalize hg3 : va_up g2 16 (upd (g2 16) i (gainF g2 i)) = g3
  have f3 : ∀ k, k ≠ 16 → g3 k = g2 k := fun k hk => by rw [← hg3]; exact up_ne hk
  have f16 : g3 16 = upd (g2 16) i (gainF g2 i) := by rw [← hg3]; exact up_eq
  have l2 : lackF g1 i = lackF g i := lackF_c e4 e5 i
  have g2e : gainF g2 i = gainF g i := gainF_c ((f 1 (by omega)).trans e1) ((f 4 (by omega)).trans e4) ((f 5 (by omega)).trans e5) ((f 6 (by omega)).trans e6) i
  have v3 : vtF g3 i = vtF g i := vtF_c (((f3 4 (by omega)).trans (f 4 (by omega))).trans e4) (((f3 5 (by omega)).trans (f 5 (by omega))).trans e5) i
  refine ⟨fun k h14 h15 h16 => ?_, fun j hj => ?_⟩
  · rw [up_ne h14, f3 k h16, f k h15]
    exact h.1 k h14 h15 h16
  · rw [up_eq, up_ne (show 15 ≠ 14 by omega), up_ne (show 16 ≠ 14 by omega), f3 15 (by omega), f15, f16, f3 14 (by omega), f 14 (by omega), f 16 (by omega), l2, g2e, v3]
    by_cases hji : j = i
    · subst hji
      rw [upd_eq, upd_eq, upd_eq]
      exact ⟨rfl, rfl, rfl⟩
    · rw [upd_ne hji, upd_ne hji, upd_ne hji]
      exact h.2 j (by omega)
theorem selF_c {S : Nat} {f f' : Nat → Int32} : ∀ {k : Nat}, (∀ m, m < k → S.testBit m = true → f m = f' m) → selF S f k = selF S f' k
  | 0, _ => rfl
  | k + 1, h => by
    have ih := selF_c (k := k) (fun m hm hb => h m (Nat.lt_succ_of_lt hm) hb)
    by_cases hb : S.testBit k = true
    · rw [selF_yes hb, selF_yes hb, ih, h k (Nat.lt_succ_self k) hb]
    · rw [selF_no hb, selF_no hb, ih]
/-- the ways set -/
def swF (f : Nat → Int32) (a b : Nat) (v : Int32) : Nat → Int32 := upd (upd f (9 * a + b) v) (9 * b + a) v
theorem xpm_inj {a b p : Nat} (ha : a ≤ 8) (hb : b ≤ 8) (hp : p < 81) : xpm p = 9 * a + b ↔ p = (a + 1) % 9 * 9 + (b + 1) % 9 := by
  unfold xpm
  omega
theorem sw_ok (f : Nat → Int32) {a b : Nat} (ha : a ≤ 8) (hb : b ≤ 8) (v : Int32) {p : Nat} (hp : p < 81) : swF f a b v (xpm p) = upd (upd (fun p => f (xpm p)) ((a + 1) % 9 * 9 + (b + 1) % 9) v) ((b + 1) % 9 * 9 + (a + 1) % 9) v p := by
  unfold swF
  by_cases h1 : p = (b + 1) % 9 * 9 + (a + 1) % 9
  · rw [(xpm_inj hb ha hp).mpr h1, upd_eq, h1, upd_eq]
  · rw [upd_ne h1, upd_ne (fun z => h1 ((xpm_inj hb ha hp).mp z))]
    by_cases h2 : p = (a + 1) % 9 * 9 + (b + 1) % 9
    · rw [(xpm_inj ha hb hp).mpr h2, upd_eq, h2, upd_eq]
    · rw [upd_ne h2, upd_ne (fun z => h2 ((xpm_inj ha hb hp).mp z))]
theorem arrV_c {c : ClassId} {n : Nat} {f f' : Nat → Value} (h : ∀ j, j < n → f j = f' j) : arrV c n f = arrV c n f' := by
  unfold arrV
  congr 2
  funext j
  exact h j.val j.isLt
theorem xUp_i {D : va_G} {a n : Nat} {c : ClassId} {f f' : Nat → Int32} {H H1 : Heap} (h : ∀ j, j < n → f j = f' j) (hU : xUp D a (.inl (c, n, .inl f)) H H1) : xUp D a (.inl (c, n, .inl f')) H H1 := by
  refine ⟨?_, hU.2⟩
  have h1 : H1[a]? = some (arrV c n (fun j => .int (f j))) := hU.1
  show H1[a]? = some (arrV c n (fun j => .int (f' j)))
  rw [h1, arrV_c (fun j hj => by rw [h j hj])]
theorem xW.pw {D : va_G} {cA : Nat → ClassId} {ad : Nat → Nat → Nat} {g : Nat → Nat → Int32} {tt : Nat → Int64} {N : Nat → Nat} {H H1 : Heap} {A : Nat → Prop} {e0 a b : Nat} {v : Int32} (h : xW D cA ad g tt N H) (hA : xA A e0 ad N) (ha : a ≤ 8) (hb : b ≤ 8) (hU : xUp D (ad 0 7) (.inl (cA 0, 81, .inl (upd (fun p => g 3 (xpm p)) ((a + 1) % 9 * 9 + (b + 1) % 9) v))) H H1) : xW D cA ad (va_up g 3 (upd (g 3) (9 * a + b) v)) tt N H1 := by
  refine xW.pways h hA (f := fun p => upd (g 3) (9 * a + b) v (xpm p)) (fun _ => rfl) (xUp_i (fun p hp => ?_) hU)
  by_cases h1 : p = (a + 1) % 9 * 9 + (b + 1) % 9
  · rw [(xpm_inj ha hb hp).mpr h1, upd_eq, h1, upd_eq]
  · rw [upd_ne h1, upd_ne (fun z => h1 ((xpm_inj ha hb hp).mp z))]
/-- the ways home, half made: all sets below S, and of S the members below k -/
def mtOK (g g1 : Nat → Nat → Int32) (S k : Nat) : Prop := (∀ j, j ≠ 17 → g1 j = g j) ∧ (∀ S', S' < S → hwOK g1 S') ∧ ∀ m, m < k → S.testBit m = true → g1 17 (S * 8 + m) = tw (wy g) (S - 2 ^ m) m
theorem mt_0 (g : Nat → Nat → Int32) : mtOK g g 1 0 := by
  refine ⟨fun _ _ => rfl, fun S' h m _ hb => ?_, fun m h => absurd h (Nat.not_lt_zero _)⟩
  obtain rfl : S' = 0 := by omega
  rw [Nat.zero_testBit] at hb
  cases hb
theorem mt_no {g g1 : Nat → Nat → Int32} {S k : Nat} (h : mtOK g g1 S k) (hb : ¬ S.testBit k = true) : mtOK g g1 S (k + 1) := ⟨h.1, h.2.1, fun m hm hbm => by
  rcases Nat.lt_or_ge m k with q | q
  · exact h.2.2 m q hbm
  · obtain rfl : m = k := by omega
    exact absurd hbm hb⟩
theorem mt_yes {g g1 : Nat → Nat → Int32} {S k : Nat} (h : mtOK g g1 S k) (hk : k < 8) : mtOK g (va_up g1 17 (upd (g1 17) (S * 8 + k) (tw (wy g1) (S - 2 ^ k) k))) S (k + 1) := by
  have hw : wy g1 = wy g := wy_c (h.1 3 (by omega))
  generalize hg2 : va_up g1 17 (upd (g1 17) (S * 8 + k) (tw (wy g1) (S - 2 ^ k) k)) = g2
  have f : ∀ j, j ≠ 17 → g2 j = g1 j := fun j hj => by rw [← hg2]; exact up_ne hj
  have f17 : g2 17 = upd (g1 17) (S * 8 + k) (tw (wy g1) (S - 2 ^ k) k) := by rw [← hg2]; exact up_eq
  have hw2 : wy g2 = wy g1 := wy_c (f 3 (by omega))
  refine ⟨fun j hj => (f j hj).trans (h.1 j hj), fun S' hS m hm hb => ?_, fun m hm hb => ?_⟩
  · rw [f17, upd_ne (by omega), hw2]
    exact h.2.1 S' hS m hm hb
  · rw [f17]
    by_cases hmk : m = k
    · subst hmk
      rw [upd_eq, hw]
    · rw [upd_ne (by omega)]
      exact h.2.2 m (by omega) hb
theorem mt_next {g g1 : Nat → Nat → Int32} {S n : Nat} (h : mtOK g g1 S n) (hn : n ≤ 8) (hS : S < 2 ^ n) : mtOK g g1 (S + 1) 0 := by
  refine ⟨h.1, fun S' hS' => ?_, fun m h => absurd h (Nat.not_lt_zero _)⟩
  rcases Nat.lt_or_ge S' S with q | q
  · exact h.2.1 S' q
  · obtain rfl : S' = S := by omega
    intro m hm hb
    rw [wy_c (h.1 3 (by omega))]
    exact h.2.2 m (bit_n hS hb) hb
end
section
/-! The class: survey, ways set, ways home measured (by p16.py) -/
set_option maxHeartbeats 4000000 in
set_option maxRecDepth 100000 in
/-- survey() -/
theorem c_X4_survey (l : Launch) (D : va_G) (cA : Nat → ClassId) (e0 : Nat) (A : Nat → Prop) (H0 : Heap) (ad : Nat → Nat → Nat) (g : Nat → Nat → Int32) (tt : Nat → Int64) (N : Nat → Nat) (hX : xW D cA ad g tt N H0) (hA : xA A e0 ad N) : Met l yX4_survey w_X4_survey ({ frames := 3, cells := 0, slots := 0, locals := 64 } : Room) (xPc D cA e0 A H0 [.ref (ad 0 0)]) (xQv (fun h => ∃ g2, xW D cA ad g2 tt N h ∧ svOK g g2 (N 0)) A) 0 0 (A) := by
  refine Met.ofW (cc := cX4_survey) (maxL := 3) (ret := none) (by decide) rfl ?_
  intro p e s m args below meth c s₁ B hml hv
  obtain ⟨rfl, hH, hE⟩ := hv
  subst hH
  have hx := B.exec
  have hb := B.bytes
  have hr := B.returns
  have hts := hE.1.all ([.ref (ad 0 0)] : List Value).toArray
  have hown : s.vm.findClass RX4 = some m.cls := findClass_of_methodNamed B.named
  have hlocks := B.notSynchronized
  have hK := hE.2.1
  have hS : va_S A s.heap s.heap [] := va_S.rf
  have hl := lv_entry ([.ref (ad 0 0)]) (n := 3) (Nat.le_of_ble_eq_true rfl)
  rw [lg_entry_eq]
  generalize (lg_sl ([.ref (ad 0 0)]) ++ List.replicate (3 - (lg_sl ([.ref (ad 0 0)])).length) Slot.unset).toArray = ls at hl ⊢
  have hl : lv_has ls 3 [(0, .ref (ad 0 0))] := hl
  have hn8 := hA.n8
  refine lv_iconst (v := nI 0) hx hb dX4_survey_0 (by decide) ?_
  refine lv_istore_n (lv' := [(1, .int (nI 0)), (0, .ref (ad 0 0))]) hx hb dX4_survey_1 rfl hl (by decide) rfl (fun ls hl => ?_)
  have LOOP2 : ∀ (n2 : Nat) (i : Nat) (g1 : Nat → Nat → Int32) (H : Heap) (locs : List Loc) (ls : Array Slot), (i ≤ N 0) → (xW D cA ad g1 tt N H) → (svOK g g1 i) → va_S A s.heap H locs → (N 0 - i) < n2 → lv_has ls 3 [(1, .int (nI (i))), (0, .ref (ad 0 0))] → W p l e (headSpec w_X4_survey ({ frames := 3, cells := 0, slots := 0, locals := 64 } : Room)).room s m ([.ref (ad 0 0)] : List Value).toArray below meth c H locs 0 0 (MQ below (xQv (fun h => ∃ g2, xW D cA ad g2 tt N h ∧ svOK g g2 (N 0)) A) ([.ref (ad 0 0)] : List Value).toArray s 0 0 (A)) (F0 m 2 ls []) := by
    intro n2
    induction n2 with
    | zero => intro i g1 H locs ls hi hX1 hv hS hmeas hl; exact absurd hmeas (Nat.not_lt_zero _)
    | succ n2 ih2 =>
      intro i g1 H locs ls hi hX1 hv hS hmeas hl
      refine lv_iload_n hx hb dX4_survey_2 rfl (lv_at hl 0 rfl) ?_
      refine lv_aload_n hx hb dX4_survey_3 rfl (lv_at hl 1 rfl) ?_
      refine va_get (D := D) (ci := 5) (v := .ref (ad 0 1)) (C := RX4) (T := TX4) (N := 11) hx hb hts qi_X4 hown hK (xP1 (hX1.main)) 0 rfl rfl 0 (by decide) (hts _ q_fl_X4_10) (fun _ h9 => h9) rfl dX4_survey_4 ?_
      refine xcRi (va_runV (As := []) (rest := [.int (nI (i))]) ⟨hx, hb, hml, hown, hts⟩ (c_Jx4a65c_size_8abf5 l D cA e0 A H (ad 0 1) (g1 18 0) (ad 0 9) (nI (N 0)) (hX1.ml)) ⟨(callB_of 0 hts gi_Jx4a65c_size_8abf5 rfl rfl rfl (hts _ q_ini_Jx4a65c) (hts _ q_ml_X4_48) hd_Jx4a65c_size_8abf5 ⟨Nat.le_of_ble_eq_true rfl, Nat.le_of_ble_eq_true rfl⟩), hts _ q_im_Jx4a65c_size_8abf5, hts _ q_sel_Jx4a65c_Jx4a65c_size_8abf5⟩ (xpV hE hS (hX1.ml) rfl) rfl rfl hl.1 rfl (lv_room (Nat.le_of_ble_eq_true rfl)) dX4_survey_7 ⟨Nat.le_of_ble_eq_true rfl, Nat.le_of_ble_eq_true rfl⟩) ?_
      refine lv_icmp_ge (tgt := 61) hx hb dX4_survey_10 (by decide) (fun c10 => ?_) (fun c10 => ?_)
      · have c10 : (N 0) ≤ i := (nI_leI (a := N 0) (b := i) (by omega) (by omega)).mp c10
        have hiN : i = N 0 := by omega
        subst hiN
        have hpost := (⟨g1, hX1, hv⟩ : ∃ g2, xW D cA ad g2 tt N H ∧ svOK g g2 (N 0))
        refine W.widen (k := 0) (n := 0) (by omega) (by omega) ?_
        exact W.vret hx hb hr (fun t ht _ => ⟨⟨H, rfl, hpost, ht⟩, hS.F ht⟩) hS.2.2 dX4_survey_61
      · have c10 : ¬ ((N 0) ≤ i) := fun z => c10 ((nI_leI (a := N 0) (b := i) (by omega) (by omega)).mpr z)
        have c10 : i < N 0 := by omega
        refine lv_aload_n hx hb dX4_survey_13 rfl (lv_at hl 1 rfl) ?_
        refine va_get (D := D) (ci := 5) (v := .ref (ad 0 1)) (C := RX4) (T := TX4) (N := 11) hx hb hts qi_X4 hown hK (xP1 (hX1.main)) 0 rfl rfl 0 (by decide) (hts _ q_fl_X4_10) (fun _ h9 => h9) rfl dX4_survey_14 ?_
        refine lv_iload_n hx hb dX4_survey_17 rfl (lv_at hl 0 rfl) ?_
        refine xcRr (va_runV (As := [.int (nI (i))]) (rest := []) ⟨hx, hb, hml, hown, hts⟩ (c_Jx4a65c_get_915e3 l D cA e0 A H (ad 0 1) (g1 18 0) (ad 0 9) (N 0) (hX1.ml) (N 2) (fun j => if j < N 0 then some (ad 1 j) else none) (hX1.md (by have := hA.2.2.2.2.2.1; omega)) i (ad 1 i) c10 hA.2.2.2.2.2.1 (by have := hA.2.2.2.2.2.2.1; omega) (if_pos c10)) ⟨(callB_of 1 hts gi_Jx4a65c_get_915e3 rfl rfl rfl (hts _ q_ini_Jx4a65c) (hts _ q_ml_X4_196) hd_Jx4a65c_get_915e3 ⟨Nat.le_of_ble_eq_true rfl, Nat.le_of_ble_eq_true rfl⟩), hts _ q_im_Jx4a65c_get_915e3, hts _ q_sel_Jx4a65c_Jx4a65c_get_915e3⟩ (xpV hE hS (hX1.ml) rfl) rfl rfl hl.1 rfl (lv_room (Nat.le_of_ble_eq_true rfl)) dX4_survey_18 ⟨Nat.le_of_ble_eq_true rfl, Nat.le_of_ble_eq_true rfl⟩) ?_
        refine va_castS hx hb hown (hts _ q_cl_X4_57) (hK.1 1 _ rfl).2 (va_recv hK (xP1 (hX1.mach c10)) (ci := 1) (q0 := 0) rfl rfl) dX4_survey_21 ?_
        refine lv_astore_n (lv' := [(2, .ref (ad 1 i)), (1, .int (nI (i))), (0, .ref (ad 0 0))]) hx hb dX4_survey_24 rfl hl (by decide) rfl (fun ls hl => ?_)
        refine lv_aload_n hx hb dX4_survey_25 rfl (lv_at hl 2 rfl) ?_
        refine va_get (D := D) (ci := 5) (v := .ref (ad 0 5)) (C := RX4) (T := TX4) (N := 11) hx hb hts qi_X4 hown hK (xP1 (hX1.main)) 0 rfl rfl 4 (by decide) (hts _ q_fl_X4_30) (fun _ h9 => h9) rfl dX4_survey_26 ?_
        refine lv_iload_n hx hb dX4_survey_29 rfl (lv_at hl 1 rfl) ?_
        refine lv_aload_n hx hb dX4_survey_30 rfl (lv_at hl 0 rfl) ?_
        refine xcRi (va_runV (As := []) (rest := [.int (nI (i)), .ref (ad 0 5)]) ⟨hx, hb, hml, hown, hts⟩ (c_X0_lacking l D cA e0 A H ad g1 tt N hX1 i c10) ⟨(callB_of 0 hts gi_X0_lacking rfl rfl rfl (hts _ q_ini_X0) (hts _ q_ml_X4_253) hd_X0_lacking ⟨Nat.le_of_ble_eq_true rfl, Nat.le_of_ble_eq_true rfl⟩), hts _ q_im_X0_lacking, hts _ q_sel_X0_X0_lacking⟩ (xpV hE hS (hX1.mach c10) rfl) rfl rfl hl.1 rfl (lv_room (Nat.le_of_ble_eq_true rfl)) dX4_survey_31 ⟨Nat.le_of_ble_eq_true rfl, Nat.le_of_ble_eq_true rfl⟩) ?_
        refine xiast (D := D) hx hb hK hS 0 (hX1.lk) (hA.a (xV0 (by omega))) rfl (i := nI (i)) (x := lackF g1 i) (vp_in_nI (n := i) (by omega) (by omega)) dX4_survey_34 (fun H1 locs hU hS => ?_)
        rw [nI_clamp (n := i) (by omega)] at hU
        have hX2 := hX1.pr15 hA hU
        obtain ⟨g2, hg2⟩ : ∃ z, z = va_up g1 15 (upd (g1 15) (i) (lackF g1 i)) := ⟨_, rfl⟩
        rw [← hg2] at hX2
        refine lv_aload_n hx hb dX4_survey_35 rfl (lv_at hl 2 rfl) ?_
        refine va_get (D := D) (ci := 5) (v := .ref (ad 0 6)) (C := RX4) (T := TX4) (N := 11) hx hb hts qi_X4 hown hK (xP1 (hX2.main)) 0 rfl rfl 5 (by decide) (hts _ q_fl_X4_33) (fun _ h9 => h9) rfl dX4_survey_36 ?_
        refine lv_iload_n hx hb dX4_survey_39 rfl (lv_at hl 1 rfl) ?_
        refine lv_aload_n hx hb dX4_survey_40 rfl (lv_at hl 0 rfl) ?_
        refine xcRi (va_runV (As := []) (rest := [.int (nI (i)), .ref (ad 0 6)]) ⟨hx, hb, hml, hown, hts⟩ (c_X0_gain l D cA e0 A H1 ad g2 tt N hX2 i c10) ⟨(callB_of 0 hts gi_X0_gain rfl rfl rfl (hts _ q_ini_X0) (hts _ q_ml_X4_256) hd_X0_gain ⟨Nat.le_of_ble_eq_true rfl, Nat.le_of_ble_eq_true rfl⟩), hts _ q_im_X0_gain, hts _ q_sel_X0_X0_gain⟩ (xpV hE hS (hX2.mach c10) rfl) rfl rfl hl.1 rfl (lv_room (Nat.le_of_ble_eq_true rfl)) dX4_survey_41 ⟨Nat.le_of_ble_eq_true rfl, Nat.le_of_ble_eq_true rfl⟩) ?_
        refine xiast (D := D) hx hb hK hS 0 (hX2.gn) (hA.a (xV0 (by omega))) rfl (i := nI (i)) (x := gainF g2 i) (vp_in_nI (n := i) (by omega) (by omega)) dX4_survey_44 (fun H3 locs hU hS => ?_)
        rw [nI_clamp (n := i) (by omega)] at hU
        have hX4 := hX2.pr16 hA hU
        obtain ⟨g4, hg4⟩ : ∃ z, z = va_up g2 16 (upd (g2 16) (i) (gainF g2 i)) := ⟨_, rfl⟩
        rw [← hg4] at hX4
        refine lv_aload_n hx hb dX4_survey_45 rfl (lv_at hl 2 rfl) ?_
        refine va_get (D := D) (ci := 5) (v := .ref (ad 0 4)) (C := RX4) (T := TX4) (N := 11) hx hb hts qi_X4 hown hK (xP1 (hX4.main)) 0 rfl rfl 3 (by decide) (hts _ q_fl_X4_26) (fun _ h9 => h9) rfl dX4_survey_46 ?_
        refine lv_iload_n hx hb dX4_survey_49 rfl (lv_at hl 1 rfl) ?_
        refine lv_aload_n hx hb dX4_survey_50 rfl (lv_at hl 0 rfl) ?_
        refine xcRi (va_runV (As := []) (rest := [.int (nI (i)), .ref (ad 0 4)]) ⟨hx, hb, hml, hown, hts⟩ (c_X0_visitTime l D cA e0 A H3 ad g4 tt N hX4 i c10) ⟨(callB_of 0 hts gi_X0_visitTime rfl rfl rfl (hts _ q_ini_X0) (hts _ q_ml_X4_259) hd_X0_visitTime ⟨Nat.le_of_ble_eq_true rfl, Nat.le_of_ble_eq_true rfl⟩), hts _ q_im_X0_visitTime, hts _ q_sel_X0_X0_visitTime⟩ (xpV hE hS (hX4.mach c10) rfl) rfl rfl hl.1 rfl (lv_room (Nat.le_of_ble_eq_true rfl)) dX4_survey_51 ⟨Nat.le_of_ble_eq_true rfl, Nat.le_of_ble_eq_true rfl⟩) ?_
        refine xiast (D := D) hx hb hK hS 0 (hX4.vt) (hA.a (xV0 (by omega))) rfl (i := nI (i)) (x := vtF g4 i) (vp_in_nI (n := i) (by omega) (by omega)) dX4_survey_54 (fun H5 locs hU hS => ?_)
        rw [nI_clamp (n := i) (by omega)] at hU
        have hX6 := hX4.pr14 hA hU
        obtain ⟨g6, hg6⟩ : ∃ z, z = va_up g4 14 (upd (g4 14) (i) (vtF g4 i)) := ⟨_, rfl⟩
        rw [← hg6] at hX6
        refine lv_iinc (v := nI (i + 1)) (lv' := [(1, .int (nI (i + 1))), (2, .ref (ad 1 i)), (0, .ref (ad 0 0))]) hx hb dX4_survey_55 hl (k := 1) rfl (nI_add i 1) (by decide) rfl (fun ls hl => ?_)
        refine lv_goto (tgt := 2) hx hb dX4_survey_58 (by decide) ?_
        exact ih2 (i + 1) g6 H5 locs _ (by omega) hX6 (by rw [hg6, hg4, hg2]; exact sv_step hv) hS (by omega) (lv_sub hl [0, 2] rfl)
  exact LOOP2 _ 0 g s.heap [] _ (by omega) hX ⟨fun _ _ _ _ => rfl, fun i h => absurd h (Nat.not_lt_zero _)⟩ hS (Nat.lt_succ_self _) (lv_sub hl [0, 1] rfl)
set_option maxHeartbeats 4000000 in
set_option maxRecDepth 100000 in
/-- Roads.setBetween(a, b, v) -/
theorem c_X2_setBetween (l : Launch) (D : va_G) (cA : Nat → ClassId) (e0 : Nat) (A : Nat → Prop) (H0 : Heap) (ad : Nat → Nat → Nat) (g : Nat → Nat → Int32) (tt : Nat → Int64) (N : Nat → Nat) (hX : xW D cA ad g tt N H0) (hA : xA A e0 ad N) (a b v : Int32) (pa pb : Nat) (ha : isPl a pa) (hb9 : isPl b pb) : Met l yX2_setBetween w_X2_setBetween ({ frames := 0, cells := 0, slots := 0, locals := 0 } : Room) (xPc D cA e0 A H0 [.ref (ad 0 3), .int (a), .int (b), .int (v)]) (xQv (fun h => xW D cA ad (va_up g 3 (swF (g 3) pa pb v)) tt N h) A) 0 0 (A) := by
  refine Met.ofW (cc := cX2_setBetween) (maxL := 4) (ret := none) (by decide) rfl ?_
  intro p e s m args below meth c s₁ B hml hv
  obtain ⟨rfl, hH, hE⟩ := hv
  subst hH
  have hx := B.exec
  have hb := B.bytes
  have hr := B.returns
  have hts := hE.1.all ([.ref (ad 0 3), .int (a), .int (b), .int (v)] : List Value).toArray
  have hown : s.vm.findClass RX2 = some m.cls := findClass_of_methodNamed B.named
  have hlocks := B.notSynchronized
  have hK := hE.2.1
  have hS : va_S A s.heap s.heap [] := va_S.rf
  have hl := lv_entry ([.ref (ad 0 3), .int (a), .int (b), .int (v)]) (n := 4) (Nat.le_of_ble_eq_true rfl)
  rw [lg_entry_eq]
  generalize (lg_sl ([.ref (ad 0 3), .int (a), .int (b), .int (v)]) ++ List.replicate (4 - (lg_sl ([.ref (ad 0 3), .int (a), .int (b), .int (v)])).length) Slot.unset).toArray = ls at hl ⊢
  have hl : lv_has ls 4 [(0, .ref (ad 0 3)), (1, .int (a)), (2, .int (b)), (3, .int (v))] := hl
  have ha8 := ha.1
  have hb8 := hb9.1
  refine lv_aload_n hx hb dX2_setBetween_0 rfl (lv_at hl 0 rfl) ?_
  refine va_get (D := D) (ci := 3) (v := .ref (ad 0 7)) (C := RX2) (T := TX2) (N := 2) hx hb hts qi_X2 hown hK (xP1 (hX.roads)) 0 rfl rfl 0 (by decide) (hts _ q_fl_X2_11) (fun _ h9 => h9) rfl dX2_setBetween_1 ?_
  refine lv_iload_n hx hb dX2_setBetween_4 rfl (lv_at hl 1 rfl) ?_
  refine lv_iconst (v := nI 1) hx hb dX2_setBetween_5 (by decide) ?_
  refine lv_iadd hx hb dX2_setBetween_6 ?_
  refine xtop (show a + (nI 1) = nI ((pa + 1) % 9) from ha.2) ?_
  refine lv_bipush (v := nI 9) hx hb dX2_setBetween_7 (by decide) ?_
  refine lv_imul hx hb dX2_setBetween_9 ?_
  refine xtop (show (nI ((pa + 1) % 9)) * (nI 9) = nI (((pa + 1) % 9) * 9) from pk_mul ((pa + 1) % 9) 9) ?_
  refine lv_iload_n hx hb dX2_setBetween_10 rfl (lv_at hl 2 rfl) ?_
  refine lv_iadd hx hb dX2_setBetween_11 ?_
  refine lv_iconst (v := nI 1) hx hb dX2_setBetween_12 (by decide) ?_
  refine lv_iadd hx hb dX2_setBetween_13 ?_
  refine xtop (show ((nI (((pa + 1) % 9) * 9)) + b) + (nI 1) = nI ((pa + 1) % 9 * 9 + (pb + 1) % 9) from pl_ix ha hb9) ?_
  refine lv_iload_n hx hb dX2_setBetween_14 rfl (lv_at hl 3 rfl) ?_
  refine xiast (D := D) hx hb hK hS 0 (hX.mi) (hA.a (xV0 (by omega))) rfl (i := nI ((pa + 1) % 9 * 9 + (pb + 1) % 9)) (x := v) (vp_in_nI (n := (pa + 1) % 9 * 9 + (pb + 1) % 9) (by omega) (by omega)) dX2_setBetween_15 (fun H1 locs hU hS => ?_)
  rw [nI_clamp (n := (pa + 1) % 9 * 9 + (pb + 1) % 9) (by omega)] at hU
  have hX2 := hX.pw hA ha8 hb8 hU
  refine lv_aload_n hx hb dX2_setBetween_16 rfl (lv_at hl 0 rfl) ?_
  refine va_get (D := D) (ci := 3) (v := .ref (ad 0 7)) (C := RX2) (T := TX2) (N := 2) hx hb hts qi_X2 hown hK (xP1 (hX2.roads)) 0 rfl rfl 0 (by decide) (hts _ q_fl_X2_11) (fun _ h9 => h9) rfl dX2_setBetween_17 ?_
  refine lv_iload_n hx hb dX2_setBetween_20 rfl (lv_at hl 2 rfl) ?_
  refine lv_iconst (v := nI 1) hx hb dX2_setBetween_21 (by decide) ?_
  refine lv_iadd hx hb dX2_setBetween_22 ?_
  refine xtop (show b + (nI 1) = nI ((pb + 1) % 9) from hb9.2) ?_
  refine lv_bipush (v := nI 9) hx hb dX2_setBetween_23 (by decide) ?_
  refine lv_imul hx hb dX2_setBetween_25 ?_
  refine xtop (show (nI ((pb + 1) % 9)) * (nI 9) = nI (((pb + 1) % 9) * 9) from pk_mul ((pb + 1) % 9) 9) ?_
  refine lv_iload_n hx hb dX2_setBetween_26 rfl (lv_at hl 1 rfl) ?_
  refine lv_iadd hx hb dX2_setBetween_27 ?_
  refine lv_iconst (v := nI 1) hx hb dX2_setBetween_28 (by decide) ?_
  refine lv_iadd hx hb dX2_setBetween_29 ?_
  refine xtop (show ((nI (((pb + 1) % 9) * 9)) + a) + (nI 1) = nI ((pb + 1) % 9 * 9 + (pa + 1) % 9) from pl_ix hb9 ha) ?_
  refine lv_iload_n hx hb dX2_setBetween_30 rfl (lv_at hl 3 rfl) ?_
  refine xiast (D := D) hx hb hK hS 0 (hX2.mi) (hA.a (xV0 (by omega))) rfl (i := nI ((pb + 1) % 9 * 9 + (pa + 1) % 9)) (x := v) (vp_in_nI (n := (pb + 1) % 9 * 9 + (pa + 1) % 9) (by omega) (by omega)) dX2_setBetween_31 (fun H3 locs hU hS => ?_)
  rw [nI_clamp (n := (pb + 1) % 9 * 9 + (pa + 1) % 9) (by omega)] at hU
  have hX4 := hX2.pw hA hb8 ha8 hU
  have hpost := (show xW D cA ad (va_up g 3 (swF (g 3) pa pb v)) tt N H3 from by
      have e : va_up (va_up g 3 (upd (g 3) (9 * pa + pb) v)) 3 (upd (va_up g 3 (upd (g 3) (9 * pa + pb) v) 3) (9 * pb + pa) v) = va_up g 3 (swF (g 3) pa pb v) := by
        funext z
        by_cases hz : z = 3
        · subst hz
          rw [up_eq, up_eq, up_eq]
          rfl
        · rw [up_ne hz, up_ne hz, up_ne hz]
      rw [← e]
      exact hX4)
  refine W.widen (k := 0) (n := 0) (by omega) (by omega) ?_
  exact W.vret hx hb hr (fun t ht _ => ⟨⟨H3, rfl, hpost, ht⟩, hS.F ht⟩) hS.2.2 dX2_setBetween_32
set_option maxHeartbeats 4000000 in
set_option maxRecDepth 100000 in
/-- Roads.measureTours(n) -/
theorem c_X2_measureTours (l : Launch) (D : va_G) (cA : Nat → ClassId) (e0 : Nat) (A : Nat → Prop) (H0 : Heap) (ad : Nat → Nat → Nat) (g : Nat → Nat → Int32) (tt : Nat → Int64) (N : Nat → Nat) (hX : xW D cA ad g tt N H0) (hA : xA A e0 ad N) : Met l yX2_measureTours w_X2_measureTours ({ frames := 4, cells := 0, slots := 0, locals := 93 } : Room) (xPc D cA e0 A H0 [.ref (ad 0 3), .int (nI (N 0))]) (xQv (fun h => ∃ g2, xW D cA ad g2 tt N h ∧ (∀ k, k ≠ 17 → g2 k = g k) ∧ hwAll g2 (N 0)) A) 0 0 (A) := by
  refine Met.ofW (cc := cX2_measureTours) (maxL := 5) (ret := none) (by decide) rfl ?_
  intro p e s m args below meth c s₁ B hml hv
  obtain ⟨rfl, hH, hE⟩ := hv
  subst hH
  have hx := B.exec
  have hb := B.bytes
  have hr := B.returns
  have hts := hE.1.all ([.ref (ad 0 3), .int (nI (N 0))] : List Value).toArray
  have hown : s.vm.findClass RX2 = some m.cls := findClass_of_methodNamed B.named
  have hlocks := B.notSynchronized
  have hK := hE.2.1
  have hS : va_S A s.heap s.heap [] := va_S.rf
  have hl := lv_entry ([.ref (ad 0 3), .int (nI (N 0))]) (n := 5) (Nat.le_of_ble_eq_true rfl)
  rw [lg_entry_eq]
  generalize (lg_sl ([.ref (ad 0 3), .int (nI (N 0))]) ++ List.replicate (5 - (lg_sl ([.ref (ad 0 3), .int (nI (N 0))])).length) Slot.unset).toArray = ls at hl ⊢
  have hl : lv_has ls 5 [(0, .ref (ad 0 3)), (1, .int (nI (N 0)))] := hl
  have hn8 := hA.n8
  have h256 := pow256 hn8
  have hpp := Nat.two_pow_pos (N 0)
  refine lv_iconst (v := nI 1) hx hb dX2_measureTours_0 (by decide) ?_
  refine lv_iload_n hx hb dX2_measureTours_1 rfl (lv_at hl 1 rfl) ?_
  refine lv_ishl hx hb dX2_measureTours_2 ?_
  refine xtop (show (nI 1) <<< (nI (N 0) &&& 31) = nI (2 ^ N 0) from p_pw (N 0) (by omega)) ?_
  refine lv_istore_n (lv' := [(2, .int (nI (2 ^ N 0))), (0, .ref (ad 0 3)), (1, .int (nI (N 0)))]) hx hb dX2_measureTours_3 rfl hl (by decide) rfl (fun ls hl => ?_)
  refine lv_iconst (v := nI 1) hx hb dX2_measureTours_4 (by decide) ?_
  refine lv_istore_n (lv' := [(3, .int (nI 1)), (2, .int (nI (2 ^ N 0))), (0, .ref (ad 0 3)), (1, .int (nI (N 0)))]) hx hb dX2_measureTours_5 rfl hl (by decide) rfl (fun ls hl => ?_)
  have LOOP6 : ∀ (n6 : Nat) (S : Nat) (g1 : Nat → Nat → Int32) (H : Heap) (locs : List Loc) (ls : Array Slot), (1 ≤ S ∧ S ≤ 2 ^ N 0) → (xW D cA ad g1 tt N H) → (mtOK g g1 S 0) → va_S A s.heap H locs → (2 ^ N 0 - S) < n6 → lv_has ls 5 [(3, .int (nI (S))), (2, .int (nI (2 ^ N 0))), (1, .int (nI (N 0))), (0, .ref (ad 0 3))] → W p l e (headSpec w_X2_measureTours ({ frames := 4, cells := 0, slots := 0, locals := 93 } : Room)).room s m ([.ref (ad 0 3), .int (nI (N 0))] : List Value).toArray below meth c H locs 0 0 (MQ below (xQv (fun h => ∃ g2, xW D cA ad g2 tt N h ∧ (∀ k, k ≠ 17 → g2 k = g k) ∧ hwAll g2 (N 0)) A) ([.ref (ad 0 3), .int (nI (N 0))] : List Value).toArray s 0 0 (A)) (F0 m 6 ls []) := by
    intro n6
    induction n6 with
    | zero => intro S g1 H locs ls hS1 hX1 hm hS hmeas hl; exact absurd hmeas (Nat.not_lt_zero _)
    | succ n6 ih6 =>
      intro S g1 H locs ls hS1 hX1 hm hS hmeas hl
      refine lv_iload_n hx hb dX2_measureTours_6 rfl (lv_at hl 0 rfl) ?_
      refine lv_iload_n hx hb dX2_measureTours_7 rfl (lv_at hl 1 rfl) ?_
      refine lv_icmp_ge (tgt := 65) hx hb dX2_measureTours_8 (by decide) (fun c8 => ?_) (fun c8 => ?_)
      · have c8 : (2 ^ N 0) ≤ S := (nI_leI (a := 2 ^ N 0) (b := S) (by omega) (by omega)).mp c8
        have hSe : S = 2 ^ N 0 := by omega
        subst hSe
        have hpost := (⟨g1, hX1, hm.1, hm.2.1⟩ : ∃ g2, xW D cA ad g2 tt N H ∧ (∀ k, k ≠ 17 → g2 k = g k) ∧ hwAll g2 (N 0))
        refine W.widen (k := 0) (n := 0) (by omega) (by omega) ?_
        exact W.vret hx hb hr (fun t ht _ => ⟨⟨H, rfl, hpost, ht⟩, hS.F ht⟩) hS.2.2 dX2_measureTours_65
      · have c8 : ¬ ((2 ^ N 0) ≤ S) := fun z => c8 ((nI_leI (a := 2 ^ N 0) (b := S) (by omega) (by omega)).mpr z)
        have c8 : S < 2 ^ N 0 := by omega
        have hSt : S < 256 := by omega
        refine lv_iconst (v := nI 0) hx hb dX2_measureTours_11 (by decide) ?_
        refine lv_istore (lv' := [(4, .int (nI 0)), (3, .int (nI (S))), (2, .int (nI (2 ^ N 0))), (1, .int (nI (N 0))), (0, .ref (ad 0 3))]) hx hb dX2_measureTours_12 hl (by decide) rfl (fun ls hl => ?_)
        have LOOP14 : ∀ (n14 : Nat) (k : Nat) (g3 : Nat → Nat → Int32) (H : Heap) (locs : List Loc) (ls : Array Slot), (k ≤ N 0) → (xW D cA ad g3 tt N H) → (mtOK g g3 S k) → va_S A s.heap H locs → (N 0 - k) < n14 → lv_has ls 5 [(4, .int (nI (k))), (3, .int (nI (S))), (2, .int (nI (2 ^ N 0))), (1, .int (nI (N 0))), (0, .ref (ad 0 3))] → W p l e (headSpec w_X2_measureTours ({ frames := 4, cells := 0, slots := 0, locals := 93 } : Room)).room s m ([.ref (ad 0 3), .int (nI (N 0))] : List Value).toArray below meth c H locs 0 0 (MQ below (xQv (fun h => ∃ g2, xW D cA ad g2 tt N h ∧ (∀ k, k ≠ 17 → g2 k = g k) ∧ hwAll g2 (N 0)) A) ([.ref (ad 0 3), .int (nI (N 0))] : List Value).toArray s 0 0 (A)) (F0 m 14 ls []) := by
          intro n14
          induction n14 with
          | zero => intro k g3 H locs ls hk hX3 hm3 hS hmeas hl; exact absurd hmeas (Nat.not_lt_zero _)
          | succ n14 ih14 =>
            intro k g3 H locs ls hk hX3 hm3 hS hmeas hl
            refine lv_iload hx hb dX2_measureTours_14 (lv_at hl 0 rfl) ?_
            refine lv_iload_n hx hb dX2_measureTours_16 rfl (lv_at hl 3 rfl) ?_
            refine lv_icmp_ge (tgt := 59) hx hb dX2_measureTours_17 (by decide) (fun c17 => ?_) (fun c17 => ?_)
            · have c17 : (N 0) ≤ k := (nI_leI (a := N 0) (b := k) (by omega) (by omega)).mp c17
              have hkN : k = N 0 := by omega
              refine lv_iinc (v := nI (S + 1)) (lv' := [(3, .int (nI (S + 1))), (4, .int (nI (k))), (2, .int (nI (2 ^ N 0))), (1, .int (nI (N 0))), (0, .ref (ad 0 3))]) hx hb dX2_measureTours_59 hl (k := 1) rfl (nI_add S 1) (by decide) rfl (fun ls hl => ?_)
              refine lv_goto (tgt := 6) hx hb dX2_measureTours_62 (by decide) ?_
              exact ih6 (S + 1) g3 H locs _ (by omega) hX3 (by rw [hkN] at hm3; exact mt_next hm3 hn8 c8) hS (by omega) (lv_sub hl [0, 2, 3, 4] rfl)
            · have c17 : ¬ ((N 0) ≤ k) := fun z => c17 ((nI_leI (a := N 0) (b := k) (by omega) (by omega)).mpr z)
              refine lv_iload_n hx hb dX2_measureTours_20 rfl (lv_at hl 1 rfl) ?_
              refine lv_iload hx hb dX2_measureTours_21 (lv_at hl 0 rfl) ?_
              refine xcRi (va_runSN (As := [.int (nI (S)), .int (nI (k))]) (rest := []) ⟨hx, hb, hml, hown, hts⟩ (c_X4_contains l D cA e0 A H S k hSt (by omega)) ⟨(va_cnB 2 hts gi_X4_contains rfl rfl rfl (hE.1 _ q_mn_X2_18) (hts _ q_ini_X4) hd_X4_contains ⟨Nat.le_of_ble_eq_true rfl, Nat.le_of_ble_eq_true rfl⟩), hts _ q_st_X4_contains, trivial⟩ (xpS hE hS) rfl rfl hl.1 rfl (lv_room (Nat.le_of_ble_eq_true rfl)) dX2_measureTours_23 ⟨Nat.le_of_ble_eq_true rfl, Nat.le_of_ble_eq_true rfl⟩) ?_
              refine lv_if_eq (tgt := 53) hx hb dX2_measureTours_26 (by decide) (fun c26 => ?_) (fun c26 => ?_)
              · have hbit : ¬ S.testBit k = true := fun z => by rw [if_pos z] at c26; exact absurd c26 (by decide)
                refine lv_iinc (v := nI (k + 1)) (lv' := [(4, .int (nI (k + 1))), (3, .int (nI (S))), (2, .int (nI (2 ^ N 0))), (1, .int (nI (N 0))), (0, .ref (ad 0 3))]) hx hb dX2_measureTours_53 hl (k := 0) rfl (nI_add k 1) (by decide) rfl (fun ls hl => ?_)
                refine lv_goto (tgt := 14) hx hb dX2_measureTours_56 (by decide) ?_
                exact ih14 (k + 1) g3 H locs _ (by omega) hX3 (mt_no hm3 hbit) hS (by omega) (lv_sub hl [0, 1, 2, 3, 4] rfl)
              · have hbit : S.testBit k = true := by
                  cases hq : S.testBit k with
                  | true => rfl
                  | false => rw [hq] at c26; exact absurd rfl c26
                have hle := bit_le hbit
                have hp2 := Nat.two_pow_pos k
                refine lv_aload_n hx hb dX2_measureTours_29 rfl (lv_at hl 4 rfl) ?_
                refine va_get (D := D) (ci := 3) (v := .ref (ad 0 8)) (C := RX2) (T := TX2) (N := 2) hx hb hts qi_X2 hown hK (xP1 (hX3.roads)) 0 rfl rfl 1 (by decide) (hts _ q_fl_X2_15) (fun _ h9 => h9) rfl dX2_measureTours_30 ?_
                refine lv_iload_n hx hb dX2_measureTours_33 rfl (lv_at hl 1 rfl) ?_
                refine lv_bipush (v := nI 8) hx hb dX2_measureTours_34 (by decide) ?_
                refine lv_imul hx hb dX2_measureTours_36 ?_
                refine xtop (show (nI (S)) * (nI 8) = nI (S * 8) from pk_mul S 8) ?_
                refine lv_iload hx hb dX2_measureTours_37 (lv_at hl 0 rfl) ?_
                refine lv_iadd hx hb dX2_measureTours_39 ?_
                refine xtop (show (nI (S * 8)) + (nI (k)) = nI ((S * 8) + k) from nI_add (S * 8) k) ?_
                refine lv_aload_n hx hb dX2_measureTours_40 rfl (lv_at hl 4 rfl) ?_
                refine lv_iload hx hb dX2_measureTours_41 (lv_at hl 0 rfl) ?_
                refine lv_iload_n hx hb dX2_measureTours_43 rfl (lv_at hl 1 rfl) ?_
                refine lv_iload hx hb dX2_measureTours_44 (lv_at hl 0 rfl) ?_
                refine xcRi (va_runSN (As := [.int (nI (S)), .int (nI (k))]) (rest := [.int (nI (k)), .ref (ad 0 3), .int (nI ((S * 8) + k)), .ref (ad 0 8)]) ⟨hx, hb, hml, hown, hts⟩ (c_X4_without l D cA e0 A H S k hSt (by omega) hbit) ⟨(va_cnB 2 hts gi_X4_without rfl rfl rfl (hE.1 _ q_mn_X2_22) (hts _ q_ini_X4) hd_X4_without ⟨Nat.le_of_ble_eq_true rfl, Nat.le_of_ble_eq_true rfl⟩), hts _ q_st_X4_without, trivial⟩ (xpS hE hS) rfl rfl hl.1 rfl (lv_room (Nat.le_of_ble_eq_true rfl)) dX2_measureTours_46 ⟨Nat.le_of_ble_eq_true rfl, Nat.le_of_ble_eq_true rfl⟩) ?_
                refine xcRi (va_runV (As := [.int (nI (k)), .int (nI (S - 2 ^ k))]) (rest := [.int (nI ((S * 8) + k)), .ref (ad 0 8)]) ⟨hx, hb, hml, hown, hts⟩ (c_X2_leastFrom l D cA e0 A H ad g3 tt N hX3 (nI k) k (S - 2 ^ k) (isPl_m (by omega)) (by omega) (hm3.2.1 _ (by omega))) ⟨(callB_of 2 hts gi_X2_leastFrom rfl rfl rfl (hts _ q_ini_X2) (hts _ q_ml_X2_26) hd_X2_leastFrom ⟨Nat.le_of_ble_eq_true rfl, Nat.le_of_ble_eq_true rfl⟩), hts _ q_im_X2_leastFrom, hts _ q_sel_X2_X2_leastFrom⟩ (xpV hE hS (hX3.roads) rfl) rfl rfl hl.1 rfl (lv_room (Nat.le_of_ble_eq_true rfl)) dX2_measureTours_49 ⟨Nat.le_of_ble_eq_true rfl, Nat.le_of_ble_eq_true rfl⟩) ?_
                refine xiast (D := D) hx hb hK hS 0 (hX3.hw) (hA.a (xV0 (by omega))) rfl (i := nI ((S * 8) + k)) (x := tw (wy g3) (S - 2 ^ k) k) (vp_in_nI (n := (S * 8) + k) (by omega) (by omega)) dX2_measureTours_52 (fun H1 locs hU hS => ?_)
                rw [nI_clamp (n := (S * 8) + k) (by omega)] at hU
                have hX2 := hX3.pr17 hA hU
                obtain ⟨g2, hg2⟩ : ∃ z, z = va_up g3 17 (upd (g3 17) ((S * 8) + k) (tw (wy g3) (S - 2 ^ k) k)) := ⟨_, rfl⟩
                rw [← hg2] at hX2
                refine lv_iinc (v := nI (k + 1)) (lv' := [(4, .int (nI (k + 1))), (3, .int (nI (S))), (2, .int (nI (2 ^ N 0))), (1, .int (nI (N 0))), (0, .ref (ad 0 3))]) hx hb dX2_measureTours_53 hl (k := 0) rfl (nI_add k 1) (by decide) rfl (fun ls hl => ?_)
                refine lv_goto (tgt := 14) hx hb dX2_measureTours_56 (by decide) ?_
                exact ih14 (k + 1) g2 H1 locs _ (by omega) hX2 (by rw [hg2]; exact mt_yes hm3 (by omega)) hS (by omega) (lv_sub hl [0, 1, 2, 3, 4] rfl)
        exact LOOP14 _ 0 g1 H locs _ (by omega) hX1 hm hS (Nat.lt_succ_self _) (lv_sub hl [0, 1, 2, 3, 4] rfl)
  exact LOOP6 _ 1 g s.heap [] _ (by omega) hX (mt_0 g) hS (Nat.lt_succ_self _) (lv_sub hl [0, 1, 3, 2] rfl)
end
section
/-! Selling and filling, in plain words. -/
def mnI (x y : Int32) : Int32 := if y < x then y else x
def ssF (g : Nat → Nat → Int32) (k : Nat) (c d : Int32) : Nat → Nat → Int32 :=
  va_up (va_up (va_up g 4 (upd (g 4) k c)) 5 (upd (va_up g 4 (upd (g 4) k c) 5) k (mnI (va_up g 4 (upd (g 4) k c) 5 k) c))) 7 (upd (va_up (va_up g 4 (upd (g 4) k c)) 5 (upd (va_up g 4 (upd (g 4) k c) 5) k (mnI (va_up g 4 (upd (g 4) k c) 5 k) c)) 7) k d)
def okR (a b : Nat) (v : Int32) : Prop := ∃ j, a ≤ j ∧ j ≤ b ∧ v = nI j
def okP (n : Nat) (v : Int32) : Prop := v = -1 ∨ okM n v
def plN (v : Int32) : Nat := if v = -1 then 8 else cl v
theorem ou_r {v : Int32} {a b : Nat} (hb : b < 2 ^ 30) (ha : a < 2 ^ 30) : ouI v (nI a) (nI b) = 0 ↔ okR a b v := by
  rw [ou_iff, nI_toInt (by omega), nI_toInt (by omega)]
  refine ⟨fun h => ?_, fun h => ?_⟩
  · obtain ⟨j, h1, h2, h3⟩ := nI_ex (b := b) (by omega) h.2
    subst h3
    rw [nI_toInt h2] at h
    exact ⟨j, by omega, by omega, rfl⟩
  · obtain ⟨j, h1, h2, rfl⟩ := h
    rw [nI_toInt (by omega)]
    omega
theorem np_iff {v : Int32} {n : Nat} (hn : n < 2 ^ 30) : (if v = -1 ∨ ouI v (nI 0) (nI n - nI 1) = 0 then nI 0 else nI 1) = 0 ↔ okP n v := by
  unfold okP okM
  rw [← ou_m hn]
  by_cases h : v = -1 ∨ ouI v (nI 0) (nI n - nI 1) = 0
  · rw [if_pos h]
    exact ⟨fun _ => h, fun _ => rfl⟩
  · rw [if_neg h]
    exact ⟨fun z => absurd z (by decide), fun z => absurd z h⟩
theorem okP_pl {v : Int32} {n : Nat} (hn : n ≤ 8) (h : okP n v) : isPl v (plN v) := by
  unfold plN
  rcases h with rfl | ⟨i, hi, rfl⟩
  · exact isPl_d
  · rw [if_neg (fun z => by
      have h1 : (nI i).toInt = (-1 : Int32).toInt := by rw [z]
      rw [nI_toInt (by omega), show (-1 : Int32).toInt = -1 by decide] at h1
      omega), cl_nI (by omega)]
    exact isPl_m (by omega)
/-- one slot sells: what is left, the coins, how many were sold, after k wishes -/
def slS (p lim s0 c0 : Int32) : Nat → Int32 × Int32 × Nat
  | 0 => (s0, c0, 0)
  | k + 1 => if 0 < (slS p lim s0 c0 k).1 ∧ (slS p lim s0 c0 k).2.1 + p ≤ lim then ((slS p lim s0 c0 k).1 - nI 1, (slS p lim s0 c0 k).2.1 + p, (slS p lim s0 c0 k).2.2 + 1) else slS p lim s0 c0 k
theorem slS_yes {p lim s0 c0 : Int32} {k : Nat} (h1 : 0 < (slS p lim s0 c0 k).1) (h2 : (slS p lim s0 c0 k).2.1 + p ≤ lim) : slS p lim s0 c0 (k + 1) = ((slS p lim s0 c0 k).1 - nI 1, (slS p lim s0 c0 k).2.1 + p, (slS p lim s0 c0 k).2.2 + 1) := if_pos ⟨h1, h2⟩
theorem slS_no {p lim s0 c0 : Int32} {k : Nat} (h : ¬ (0 < (slS p lim s0 c0 k).1 ∧ (slS p lim s0 c0 k).2.1 + p ≤ lim)) : slS p lim s0 c0 (k + 1) = slS p lim s0 c0 k := if_neg h
theorem slS_le (p lim s0 c0 : Int32) : ∀ k, (slS p lim s0 c0 k).2.2 ≤ k
  | 0 => Nat.le_refl 0
  | k + 1 => by
    have ih := slS_le p lim s0 c0 k
    by_cases h : 0 < (slS p lim s0 c0 k).1 ∧ (slS p lim s0 c0 k).2.1 + p ≤ lim
    · rw [slS_yes h.1 h.2]
      show (slS p lim s0 c0 k).2.2 + 1 ≤ k + 1
      omega
    · rw [slS_no h]
      omega
def slG (g : Nat → Nat → Int32) (i k : Nat) (x : Int32 × Int32 × Nat) : Nat → Nat → Int32 := va_up (va_up g 5 (upd (g 5) k x.1)) 1 (upd (g 1) i x.2.1)
theorem up_up {α : Type} (g : Nat → α) (k : Nat) (f f' : α) : va_up (va_up g k f) k f' = va_up g k f' := by
  funext z
  by_cases h : z = k
  · subst h; rw [up_eq, up_eq]
  · rw [up_ne h, up_ne h, up_ne h]
theorem up_sw {α : Type} (g : Nat → α) {k j : Nat} (h : k ≠ j) (f f' : α) : va_up (va_up g k f) j f' = va_up (va_up g j f') k f := by
  funext z
  by_cases h1 : z = k
  · subst h1; rw [up_eq, up_ne h, up_eq]
  · by_cases h2 : z = j
    · subst h2; rw [up_eq, up_ne h1, up_eq]
    · rw [up_ne h2, up_ne h1, up_ne h1, up_ne h2]
theorem up_id {g : Nat → Nat → Int32} {k : Nat} : va_up g k (g k) = g := by
  funext z
  by_cases h : z = k
  · subst h; rw [up_eq]
  · rw [up_ne h]
theorem upd_upd (f : Nat → Int32) (k : Nat) (x y : Int32) : upd (upd f k x) k y = upd f k y := by
  funext z
  by_cases h : z = k
  · subst h; rw [upd_eq, upd_eq]
  · rw [upd_ne h, upd_ne h, upd_ne h]
theorem upd_id (f : Nat → Int32) (k : Nat) : upd f k (f k) = f := by
  funext z
  by_cases h : z = k
  · subst h; rw [upd_eq]
  · rw [upd_ne h]
theorem slG_0 (g : Nat → Nat → Int32) (i k : Nat) : slG g i k (g 5 k, g 1 i, 0) = g := by
  unfold slG
  show va_up (va_up g 5 (upd (g 5) k (g 5 k))) 1 (upd (g 1) i (g 1 i)) = g
  rw [upd_id, upd_id, up_id, up_id]
theorem slG_5 (g : Nat → Nat → Int32) (i k : Nat) (x : Int32 × Int32 × Nat) : slG g i k x 5 = upd (g 5) k x.1 := by
  unfold slG
  rw [up_ne (by omega), up_eq]
theorem slG_1 (g : Nat → Nat → Int32) (i k : Nat) (x : Int32 × Int32 × Nat) : slG g i k x 1 = upd (g 1) i x.2.1 := up_eq
theorem slG_n (g : Nat → Nat → Int32) (i k : Nat) (x : Int32 × Int32 × Nat) {j : Nat} (h5 : j ≠ 5) (h1 : j ≠ 1) : slG g i k x j = g j := by
  unfold slG
  rw [up_ne h1, up_ne h5]
theorem slG_s (g : Nat → Nat → Int32) (i k : Nat) (x : Int32 × Int32 × Nat) (s c : Int32) (n : Nat) : va_up (va_up (slG g i k x) 5 (upd (slG g i k x 5) k s)) 1 (upd (va_up (slG g i k x) 5 (upd (slG g i k x 5) k s) 1) i c) = slG g i k (s, c, n) := by
  rw [up_ne (show 1 ≠ 5 by omega), slG_5, slG_1, upd_upd, upd_upd]
  unfold slG
  rw [up_sw (va_up g 5 (upd (g 5) k x.1)) (show 1 ≠ 5 by omega), up_up, up_up]
def cntF (g : Nat → Nat → Int32) (i k : Nat) : Nat := (slS (g 6 k) (g 0 i) (g 5 k) (g 1 i) (cl (g 7 k))).2.2
def sfG (g : Nat → Nat → Int32) (i k : Nat) : Nat → Nat → Int32 := slG g i k (slS (g 6 k) (g 0 i) (g 5 k) (g 1 i) (cl (g 7 k)))
/-- what a slot's day leaves -/
def sfF (g : Nat → Nat → Int32) (i k : Nat) : Nat → Nat → Int32 := va_up (va_up (sfG g i k) 8 (upd (g 8) k (g 8 k + nI (cntF g i k)))) 9 (upd (g 9) k (g 9 k + (g 7 k - nI (cntF g i k))))
theorem sfF_e (g : Nat → Nat → Int32) (i k : Nat) : va_up (va_up (sfG g i k) 8 (upd (sfG g i k 8) k (sfG g i k 8 k + nI (cntF g i k)))) 9 (upd (va_up (sfG g i k) 8 (upd (sfG g i k 8) k (sfG g i k 8 k + nI (cntF g i k))) 9) k (va_up (sfG g i k) 8 (upd (sfG g i k 8) k (sfG g i k 8 k + nI (cntF g i k))) 9 k + (va_up (sfG g i k) 8 (upd (sfG g i k 8) k (sfG g i k 8 k + nI (cntF g i k))) 7 k - nI (cntF g i k)))) = sfF g i k := by
  have e8 : sfG g i k 8 = g 8 := slG_n g i k _ (by omega) (by omega)
  have e9 : sfG g i k 9 = g 9 := slG_n g i k _ (by omega) (by omega)
  have e7 : sfG g i k 7 = g 7 := slG_n g i k _ (by omega) (by omega)
  rw [up_ne (show 9 ≠ 8 by omega), up_ne (show 7 ≠ 8 by omega), e8, e9, e7]
  rfl
theorem sfF_t (g : Nat → Nat → Int32) (i k : Nat) {j : Nat} (h5 : j ≠ 5) (h1 : j ≠ 1) (h8 : j ≠ 8) (h9 : j ≠ 9) : sfF g i k j = g j := by
  unfold sfF sfG
  rw [up_ne h9, up_ne h8, slG_n g i k _ h5 h1]
/-- the slots o, o + 1 .. o + j - 1 have sold -/
def so (g : Nat → Nat → Int32) (o : Nat) : Nat → (Nat → Nat → Int32) × Nat
  | 0 => (g, 0)
  | j + 1 => (sfF (so g o j).1 ((o + j) / 6) (o + j), (so g o j).2 + cntF (so g o j).1 ((o + j) / 6) (o + j))
theorem so_t (g : Nat → Nat → Int32) (o : Nat) {t : Nat} (h5 : t ≠ 5) (h1 : t ≠ 1) (h8 : t ≠ 8) (h9 : t ≠ 9) : ∀ j, (so g o j).1 t = g t
  | 0 => rfl
  | j + 1 => (sfF_t _ _ _ h5 h1 h8 h9).trans (so_t g o h5 h1 h8 h9 j)
theorem so_add (g : Nat → Nat → Int32) (o a : Nat) : ∀ b, so g o (a + b) = ((so (so g o a).1 (o + a) b).1, (so g o a).2 + (so (so g o a).1 (o + a) b).2)
  | 0 => rfl
  | b + 1 => by
    have ih := so_add g o a b
    show (sfF (so g o (a + b)).1 ((o + (a + b)) / 6) (o + (a + b)), (so g o (a + b)).2 + cntF (so g o (a + b)).1 ((o + (a + b)) / 6) (o + (a + b))) = _
    rw [ih, ← Nat.add_assoc o a b, Nat.add_assoc (so g o a).2]
    rfl
theorem cnt_le (g : Nat → Nat → Int32) (i k : Nat) : cntF g i k ≤ cl (g 7 k) := slS_le _ _ _ _ _
/-- the slots' numbers are as the calls leave them -/
def slInv (g : Nat → Nat → Int32) (n : Nat) : Prop := ∀ k, k < 6 * n → ∃ c s d, g 4 k = nI c ∧ g 5 k = nI s ∧ g 7 k = nI d ∧ s ≤ c ∧ c ≤ 30 ∧ d ≤ 20
def lkN (g : Nat → Nat → Int32) (k : Nat) : Nat := cl (g 4 k - g 5 k)
theorem lk_eq {g : Nat → Nat → Int32} {n k : Nat} (h : slInv g n) (hk : k < 6 * n) : g 4 k - g 5 k = nI (lkN g k) ∧ lkN g k ≤ 30 := by
  obtain ⟨c, s, d, h4, h5, -, hs, hc, -⟩ := h k hk
  unfold lkN
  rw [h4, h5, pk_sub hs, cl_nI (by omega)]
  exact ⟨rfl, by omega⟩
/-- machine i is filled from a load of L: its slots o .. -/
def fu (g : Nat → Nat → Int32) (i L : Nat) : Nat → (Nat → Nat → Int32) × Nat
  | 0 => (g, L)
  | j + 1 => (va_up (fu g i L j).1 5 (upd ((fu g i L j).1 5) (6 * i + j) ((fu g i L j).1 5 (6 * i + j) + nI (min (fu g i L j).2 (lkN (fu g i L j).1 (6 * i + j))))), (fu g i L j).2 - min (fu g i L j).2 (lkN (fu g i L j).1 (6 * i + j)))
theorem fu_le (g : Nat → Nat → Int32) (i L : Nat) : ∀ j, (fu g i L j).2 ≤ L
  | 0 => Nat.le_refl _
  | j + 1 => Nat.le_trans (Nat.sub_le _ _) (fu_le g i L j)
theorem fu_t (g : Nat → Nat → Int32) (i L : Nat) {t : Nat} (h5 : t ≠ 5) : ∀ j, (fu g i L j).1 t = g t
  | 0 => rfl
  | j + 1 => (up_ne h5).trans (fu_t g i L h5 j)
theorem fu_t1 (g : Nat → Nat → Int32) (i L j : Nat) {t : Nat} (h5 : t ≠ 5) : (fu g i L (j + 1)).1 t = (fu g i L j).1 t := by
  show va_up (fu g i L j).1 5 _ t = _
  exact up_ne h5
theorem fu_51 (g : Nat → Nat → Int32) (i L j : Nat) : (fu g i L (j + 1)).1 5 = upd ((fu g i L j).1 5) (6 * i + j) ((fu g i L j).1 5 (6 * i + j) + nI (min (fu g i L j).2 (lkN (fu g i L j).1 (6 * i + j)))) := by
  show va_up (fu g i L j).1 5 _ 5 = _
  exact up_eq
theorem fu_inv {g : Nat → Nat → Int32} {i L n : Nat} (h : slInv g n) (hi : i < n) : ∀ j, j ≤ 6 → slInv (fu g i L j).1 n
  | 0, _ => h
  | j + 1, hj => by
    have ih := fu_inv (L := L) h hi j (by omega)
    intro k hk
    obtain ⟨c, s, d, h4, h5, h7, hs, hc, hd⟩ := ih k hk
    by_cases hkj : k = 6 * i + j
    · subst hkj
      refine ⟨c, s + min (fu g i L j).2 (lkN (fu g i L j).1 (6 * i + j)), d, ?_, ?_, ?_, ?_, hc, hd⟩
      · rw [fu_t1 g i L j (show 4 ≠ 5 by omega), h4]
      · rw [fu_51, upd_eq, h5, nI_add]
      · rw [fu_t1 g i L j (show 7 ≠ 5 by omega), h7]
      · have e : lkN (fu g i L j).1 (6 * i + j) = c - s := by
          unfold lkN
          rw [h4, h5, pk_sub hs, cl_nI (by omega)]
        rw [e]
        omega
    · refine ⟨c, s, d, ?_, ?_, ?_, hs, hc, hd⟩
      · rw [fu_t1 g i L j (show 4 ≠ 5 by omega), h4]
      · rw [fu_51, upd_ne hkj, h5]
      · rw [fu_t1 g i L j (show 7 ≠ 5 by omega), h7]
theorem mn_nI {a b : Nat} (ha : a < 2 ^ 31) (hb : b < 2 ^ 31) : (if nI b < nI a then nI b else nI a) = nI (min a b) := by
  by_cases h : b < a
  · rw [if_pos (nI_lt h ha), Nat.min_eq_right (by omega)]
  · rw [if_neg (nI_nlt (by omega) hb), Nat.min_eq_left (by omega)]
theorem so_inv {g : Nat → Nat → Int32} {n : Nat} (h : slInv g n) (hs : ∀ (p lim s0 c0 : Int32) (k : Nat), ∀ s : Nat, s0 = nI s → s < 2 ^ 30 → ∃ s', (slS p lim s0 c0 k).1 = nI s' ∧ s' ≤ s) (o : Nat) : ∀ j, o + j ≤ 6 * n → slInv (so g o j).1 n
  | 0, _ => h
  | j + 1, hj => by
    have ih := so_inv h hs o j (by omega)
    intro k hk
    obtain ⟨c, s, d, h4, h5, h7, hsc, hc, hd⟩ := ih k hk
    have e4 : (so g o (j + 1)).1 4 = (so g o j).1 4 := by
      show sfF (so g o j).1 ((o + j) / 6) (o + j) 4 = _
      exact sfF_t _ _ _ (by omega) (by omega) (by omega) (by omega)
    have e7 : (so g o (j + 1)).1 7 = (so g o j).1 7 := by
      show sfF (so g o j).1 ((o + j) / 6) (o + j) 7 = _
      exact sfF_t _ _ _ (by omega) (by omega) (by omega) (by omega)
    have e5 : (so g o (j + 1)).1 5 = upd ((so g o j).1 5) (o + j) (slS ((so g o j).1 6 (o + j)) ((so g o j).1 0 ((o + j) / 6)) ((so g o j).1 5 (o + j)) ((so g o j).1 1 ((o + j) / 6)) (cl ((so g o j).1 7 (o + j)))).1 := by
      show sfF _ _ _ 5 = _
      unfold sfF sfG
      rw [up_ne (by omega), up_ne (by omega), slG_5]
    rw [e4, e5, e7]
    by_cases hkj : k = o + j
    · subst hkj
      rw [upd_eq]
      obtain ⟨s', h6, h8⟩ := hs ((so g o j).1 6 (o + j)) ((so g o j).1 0 ((o + j) / 6)) ((so g o j).1 5 (o + j)) ((so g o j).1 1 ((o + j) / 6)) (cl ((so g o j).1 7 (o + j))) s h5 (by omega)
      exact ⟨c, s', d, h4, h6, h7, by omega, hc, hd⟩
    · rw [upd_ne hkj]
      exact ⟨c, s, d, h4, h5, h7, hsc, hc, hd⟩
theorem slS_st (p lim s0 c0 : Int32) : ∀ (k s : Nat), s0 = nI s → s < 2 ^ 30 → ∃ s', (slS p lim s0 c0 k).1 = nI s' ∧ s' ≤ s
  | 0, s, h, _ => ⟨s, h, Nat.le_refl _⟩
  | k + 1, s, h, hs => by
    obtain ⟨s', h1, h2⟩ := slS_st p lim s0 c0 k s h hs
    by_cases hc : 0 < (slS p lim s0 c0 k).1 ∧ (slS p lim s0 c0 k).2.1 + p ≤ lim
    · rw [slS_yes hc.1 hc.2]
      have h3 : 0 < s' := by
        have := hc.1
        rw [h1, show (0 : Int32) = nI 0 from rfl, nI_ltI (by omega) (by omega)] at this
        exact this
      refine ⟨s' - 1, ?_, by omega⟩
      show (slS p lim s0 c0 k).1 - nI 1 = _
      rw [h1, pk_sub (by omega)]
    · rw [slS_no hc]
      exact ⟨s', h1, h2⟩
theorem sl_step {g g1 : Nat → Nat → Int32} {i k w : Nat} (hg1 : g1 = slG g i k (slS (g 6 k) (g 0 i) (g 5 k) (g 1 i) w)) (h1 : 0 < (slS (g 6 k) (g 0 i) (g 5 k) (g 1 i) w).1) (h2 : (slS (g 6 k) (g 0 i) (g 5 k) (g 1 i) w).2.1 + g 6 k ≤ g 0 i) : va_up (va_up g1 5 (upd (g1 5) k (g1 5 k - nI 1))) 1 (upd (va_up g1 5 (upd (g1 5) k (g1 5 k - nI 1)) 1) i (va_up g1 5 (upd (g1 5) k (g1 5 k - nI 1)) 1 i + va_up g1 5 (upd (g1 5) k (g1 5 k - nI 1)) 6 k)) = slG g i k (slS (g 6 k) (g 0 i) (g 5 k) (g 1 i) (w + 1)) := by
  generalize hX : slS (g 6 k) (g 0 i) (g 5 k) (g 1 i) w = X at hg1 h1 h2
  rw [slS_yes (by rw [hX]; exact h1) (by rw [hX]; exact h2), hX]
  have e1 : g1 1 i = X.2.1 := by rw [hg1, slG_1, upd_eq]
  have e5 : g1 5 k = X.1 := by rw [hg1, slG_5, upd_eq]
  have e6 : g1 6 k = g 6 k := by rw [hg1, slG_n g i k _ (by omega) (by omega)]
  have f1 : va_up g1 5 (upd (g1 5) k (g1 5 k - nI 1)) 1 i = X.2.1 := by rw [up_ne (by omega), e1]
  have f6 : va_up g1 5 (upd (g1 5) k (g1 5 k - nI 1)) 6 k = g 6 k := by rw [up_ne (by omega), e6]
  rw [f1, f6, e5, hg1]
  exact slG_s g i k X (X.1 - nI 1) (X.2.1 + g 6 k) (X.2.2 + 1)
theorem sl_end {g g1 g2 g3 : Nat → Nat → Int32} {i k d c : Nat} (hd : g 7 k = nI d) (hd2 : d ≤ 20) (hg1 : g1 = slG g i k (slS (g 6 k) (g 0 i) (g 5 k) (g 1 i) d)) (hc : c = (slS (g 6 k) (g 0 i) (g 5 k) (g 1 i) d).2.2) (hg2 : g2 = va_up g1 8 (upd (g1 8) k (g1 8 k + nI c))) (hg3 : g3 = va_up g2 9 (upd (g2 9) k (g2 9 k + (g2 7 k - nI c)))) : g3 = sfF g i k ∧ c = cntF g i k := by
  have e : cl (g 7 k) = d := by rw [hd, cl_nI (by omega)]
  have h1 : g1 = sfG g i k := by rw [hg1]; unfold sfG; rw [e]
  have h2 : c = cntF g i k := by rw [hc]; unfold cntF; rw [e]
  refine ⟨?_, h2⟩
  rw [hg3, hg2, h1, h2]
  exact sfF_e g i k
/-- a machine's box is emptied, it was visited -/
def svG (g : Nat → Nat → Int32) (i : Nat) : Nat → Nat → Int32 := va_up (va_up g 1 (upd (g 1) i (nI 0))) 2 (upd (va_up g 1 (upd (g 1) i (nI 0)) 2) i (va_up g 1 (upd (g 1) i (nI 0)) 2 i + nI 1))
theorem svG_t (g : Nat → Nat → Int32) (i : Nat) {t : Nat} (h1 : t ≠ 1) (h2 : t ≠ 2) : svG g i t = g t := by
  unfold svG
  rw [up_ne h2, up_ne h1]
def svT (tt : Nat → Int64) (c : Int32) (d : Nat) : Nat → Int64 := vp_updL (vp_updL tt 0 (tt 0 + c.toInt64)) 2 (vp_updL tt 0 (tt 0 + c.toInt64) 2 + (nI d).toInt64)
theorem inv_c {g g' : Nat → Nat → Int32} {n : Nat} (h : slInv g n) (h4 : g' 4 = g 4) (h5 : g' 5 = g 5) (h7 : g' 7 = g 7) : slInv g' n := by
  unfold slInv
  rw [h4, h5, h7]
  exact h
end
section
theorem zz_last : True := trivial
end

section
-- ===== PART A: goes FIRST, ahead of the names: the tables' words, and 'selects' of the private methods out of them =====
/-- a private method of a class that the tables say can be made, by its rows of tables_1 -/
def lw_okq (q : MethodName × Nat) : Prop := (q.1.cls ≠ "java/lang/invoke/MethodHandle" ∧ q.1.cls ≠ "java/lang/invoke/VarHandle") ∧ Cond.instantiable q.1.cls q.2 ∈ tables_1 ∧ Cond.privateMethod q.1 ∈ tables_1 ∧ Cond.instanceMethod q.1 ∈ tables_1
theorem lw_p0 : lw_okq (⟨"CardPort", "shopAt", "(I)LCardPort$Shop;"⟩, 8) := ⟨⟨by decide +kernel, by decide +kernel⟩, List.mem_of_getElem? (i := 26) (by decide +kernel), List.mem_of_getElem? (i := 165) (by decide +kernel), List.mem_of_getElem? (i := 166) (by decide +kernel)⟩
theorem lw_p1 : lw_okq (⟨"java/lang/Throwable", "fillInStackTrace", "(I)Ljava/lang/Throwable;"⟩, 6) := ⟨⟨by decide +kernel, by decide +kernel⟩, List.mem_of_getElem? (i := 207) (by decide +kernel), List.mem_of_getElem? (i := 205) (by decide +kernel), List.mem_of_getElem? (i := 206) (by decide +kernel)⟩
theorem lw_p2 : lw_okq (⟨"CardPort", "kindAt", "(I)LCardPort$Kind;"⟩, 8) := ⟨⟨by decide +kernel, by decide +kernel⟩, List.mem_of_getElem? (i := 26) (by decide +kernel), List.mem_of_getElem? (i := 237) (by decide +kernel), List.mem_of_getElem? (i := 238) (by decide +kernel)⟩
theorem lw_p3 : lw_okq (⟨"CardPort", "cardAt", "(I)LCardPort$Card;"⟩, 8) := ⟨⟨by decide +kernel, by decide +kernel⟩, List.mem_of_getElem? (i := 26) (by decide +kernel), List.mem_of_getElem? (i := 284) (by decide +kernel), List.mem_of_getElem? (i := 285) (by decide +kernel)⟩
theorem lw_p4 : lw_okq (⟨"CardPort", "limitOf", "(LCardPort$Card;)I"⟩, 8) := ⟨⟨by decide +kernel, by decide +kernel⟩, List.mem_of_getElem? (i := 26) (by decide +kernel), List.mem_of_getElem? (i := 319) (by decide +kernel), List.mem_of_getElem? (i := 320) (by decide +kernel)⟩
theorem lw_p5 : lw_okq (⟨"java/util/ArrayList", "add", "(Ljava/lang/Object;[Ljava/lang/Object;I)V"⟩, 3) := ⟨⟨by decide +kernel, by decide +kernel⟩, List.mem_of_getElem? (i := 42) (by decide +kernel), List.mem_of_getElem? (i := 392) (by decide +kernel), List.mem_of_getElem? (i := 393) (by decide +kernel)⟩
theorem lw_p6 : lw_okq (⟨"java/util/ArrayList", "grow", "()[Ljava/lang/Object;"⟩, 3) := ⟨⟨by decide +kernel, by decide +kernel⟩, List.mem_of_getElem? (i := 42) (by decide +kernel), List.mem_of_getElem? (i := 396) (by decide +kernel), List.mem_of_getElem? (i := 397) (by decide +kernel)⟩
theorem lw_p7 : lw_okq (⟨"java/util/ArrayList", "grow", "(I)[Ljava/lang/Object;"⟩, 3) := ⟨⟨by decide +kernel, by decide +kernel⟩, List.mem_of_getElem? (i := 42) (by decide +kernel), List.mem_of_getElem? (i := 400) (by decide +kernel), List.mem_of_getElem? (i := 401) (by decide +kernel)⟩
theorem lw_p8 : lw_okq (⟨"CardPort", "paymentAt", "(I)LCardPort$Payment;"⟩, 8) := ⟨⟨by decide +kernel, by decide +kernel⟩, List.mem_of_getElem? (i := 26) (by decide +kernel), List.mem_of_getElem? (i := 451) (by decide +kernel), List.mem_of_getElem? (i := 452) (by decide +kernel)⟩
theorem lw_p9 : lw_okq (⟨"CardPort$Bank", "book", "(I)V"⟩, 2) := ⟨⟨by decide +kernel, by decide +kernel⟩, List.mem_of_getElem? (i := 67) (by decide +kernel), List.mem_of_getElem? (i := 502) (by decide +kernel), List.mem_of_getElem? (i := 503) (by decide +kernel)⟩
theorem lw_p10 : lw_okq (⟨"CardPort", "captureAt", "(I)LCardPort$Capture;"⟩, 8) := ⟨⟨by decide +kernel, by decide +kernel⟩, List.mem_of_getElem? (i := 26) (by decide +kernel), List.mem_of_getElem? (i := 520) (by decide +kernel), List.mem_of_getElem? (i := 521) (by decide +kernel)⟩
theorem lw_p11 : lw_okq (⟨"CardPort", "givenBackOf", "(LCardPort$Capture;)I"⟩, 8) := ⟨⟨by decide +kernel, by decide +kernel⟩, List.mem_of_getElem? (i := 26) (by decide +kernel), List.mem_of_getElem? (i := 525) (by decide +kernel), List.mem_of_getElem? (i := 526) (by decide +kernel)⟩
theorem lw_p12 : lw_okq (⟨"CardPort", "chargebackAt", "(I)LCardPort$Chargeback;"⟩, 8) := ⟨⟨by decide +kernel, by decide +kernel⟩, List.mem_of_getElem? (i := 26) (by decide +kernel), List.mem_of_getElem? (i := 570) (by decide +kernel), List.mem_of_getElem? (i := 571) (by decide +kernel)⟩
theorem lw_p13 : lw_okq (⟨"CardPort", "countPressed", "()I"⟩, 8) := ⟨⟨by decide +kernel, by decide +kernel⟩, List.mem_of_getElem? (i := 26) (by decide +kernel), List.mem_of_getElem? (i := 585) (by decide +kernel), List.mem_of_getElem? (i := 586) (by decide +kernel)⟩
theorem lw_p14 : lw_okq (⟨"CardPort", "beginNextDay", "()V"⟩, 8) := ⟨⟨by decide +kernel, by decide +kernel⟩, List.mem_of_getElem? (i := 26) (by decide +kernel), List.mem_of_getElem? (i := 603) (by decide +kernel), List.mem_of_getElem? (i := 604) (by decide +kernel)⟩
theorem lw_p15 : lw_okq (⟨"CardPort", "bankAt", "(I)LCardPort$Bank;"⟩, 8) := ⟨⟨by decide +kernel, by decide +kernel⟩, List.mem_of_getElem? (i := 26) (by decide +kernel), List.mem_of_getElem? (i := 651) (by decide +kernel), List.mem_of_getElem? (i := 652) (by decide +kernel)⟩
def lw_privs_1 : List (MethodName × Nat) := [(⟨"CardPort", "shopAt", "(I)LCardPort$Shop;"⟩, 8), (⟨"java/lang/Throwable", "fillInStackTrace", "(I)Ljava/lang/Throwable;"⟩, 6), (⟨"CardPort", "kindAt", "(I)LCardPort$Kind;"⟩, 8), (⟨"CardPort", "cardAt", "(I)LCardPort$Card;"⟩, 8), (⟨"CardPort", "limitOf", "(LCardPort$Card;)I"⟩, 8), (⟨"java/util/ArrayList", "add", "(Ljava/lang/Object;[Ljava/lang/Object;I)V"⟩, 3), (⟨"java/util/ArrayList", "grow", "()[Ljava/lang/Object;"⟩, 3), (⟨"java/util/ArrayList", "grow", "(I)[Ljava/lang/Object;"⟩, 3), (⟨"CardPort", "paymentAt", "(I)LCardPort$Payment;"⟩, 8), (⟨"CardPort$Bank", "book", "(I)V"⟩, 2), (⟨"CardPort", "captureAt", "(I)LCardPort$Capture;"⟩, 8), (⟨"CardPort", "givenBackOf", "(LCardPort$Capture;)I"⟩, 8), (⟨"CardPort", "chargebackAt", "(I)LCardPort$Chargeback;"⟩, 8), (⟨"CardPort", "countPressed", "()I"⟩, 8), (⟨"CardPort", "beginNextDay", "()V"⟩, 8), (⟨"CardPort", "bankAt", "(I)LCardPort$Bank;"⟩, 8)]
theorem lw_r1 : ∀ q ∈ lw_privs_1, lw_okq q := List.forall_mem_cons.mpr ⟨lw_p0, List.forall_mem_cons.mpr ⟨lw_p1, List.forall_mem_cons.mpr ⟨lw_p2, List.forall_mem_cons.mpr ⟨lw_p3, List.forall_mem_cons.mpr ⟨lw_p4, List.forall_mem_cons.mpr ⟨lw_p5, List.forall_mem_cons.mpr ⟨lw_p6, List.forall_mem_cons.mpr ⟨lw_p7, List.forall_mem_cons.mpr ⟨lw_p8, List.forall_mem_cons.mpr ⟨lw_p9, List.forall_mem_cons.mpr ⟨lw_p10, List.forall_mem_cons.mpr ⟨lw_p11, List.forall_mem_cons.mpr ⟨lw_p12, List.forall_mem_cons.mpr ⟨lw_p13, List.forall_mem_cons.mpr ⟨lw_p14, List.forall_mem_cons.mpr ⟨lw_p15, fun _ h => absurd h List.not_mem_nil⟩⟩⟩⟩⟩⟩⟩⟩⟩⟩⟩⟩⟩⟩⟩⟩
theorem lw_p16 : lw_okq (⟨"CardPort", "nextDueBehind", "(LCardPort$Chargeback;)LCardPort$Chargeback;"⟩, 8) := ⟨⟨by decide +kernel, by decide +kernel⟩, List.mem_of_getElem? (i := 26) (by decide +kernel), List.mem_of_getElem? (i := 681) (by decide +kernel), List.mem_of_getElem? (i := 682) (by decide +kernel)⟩
theorem lw_p17 : lw_okq (⟨"CardPort", "sumOfFees", "()I"⟩, 8) := ⟨⟨by decide +kernel, by decide +kernel⟩, List.mem_of_getElem? (i := 26) (by decide +kernel), List.mem_of_getElem? (i := 697) (by decide +kernel), List.mem_of_getElem? (i := 698) (by decide +kernel)⟩
theorem lw_p18 : lw_okq (⟨"CardPortModel", "fails", "(I)Z"⟩, 25) := ⟨⟨by decide +kernel, by decide +kernel⟩, List.mem_of_getElem? (i := 701) (by decide +kernel), List.mem_of_getElem? (i := 803) (by decide +kernel), List.mem_of_getElem? (i := 804) (by decide +kernel)⟩
theorem lw_p19 : lw_okq (⟨"CardPortModel", "feeOf", "(II)I"⟩, 25) := ⟨⟨by decide +kernel, by decide +kernel⟩, List.mem_of_getElem? (i := 701) (by decide +kernel), List.mem_of_getElem? (i := 811) (by decide +kernel), List.mem_of_getElem? (i := 812) (by decide +kernel)⟩
theorem lw_p20 : lw_okq (⟨"CardPortModel", "limitOf", "(I)I"⟩, 25) := ⟨⟨by decide +kernel, by decide +kernel⟩, List.mem_of_getElem? (i := 701) (by decide +kernel), List.mem_of_getElem? (i := 827) (by decide +kernel), List.mem_of_getElem? (i := 828) (by decide +kernel)⟩
theorem lw_p21 : lw_okq (⟨"CardPortModel", "isPayment", "(I)Z"⟩, 25) := ⟨⟨by decide +kernel, by decide +kernel⟩, List.mem_of_getElem? (i := 701) (by decide +kernel), List.mem_of_getElem? (i := 837) (by decide +kernel), List.mem_of_getElem? (i := 838) (by decide +kernel)⟩
theorem lw_p22 : lw_okq (⟨"CardPortModel", "isOpen", "(I)Z"⟩, 25) := ⟨⟨by decide +kernel, by decide +kernel⟩, List.mem_of_getElem? (i := 701) (by decide +kernel), List.mem_of_getElem? (i := 841) (by decide +kernel), List.mem_of_getElem? (i := 842) (by decide +kernel)⟩
theorem lw_p23 : lw_okq (⟨"CardPortModel", "cardBank", "(I)I"⟩, 25) := ⟨⟨by decide +kernel, by decide +kernel⟩, List.mem_of_getElem? (i := 701) (by decide +kernel), List.mem_of_getElem? (i := 845) (by decide +kernel), List.mem_of_getElem? (i := 846) (by decide +kernel)⟩
theorem lw_p24 : lw_okq (⟨"CardPortModel", "shopBank", "(I)I"⟩, 25) := ⟨⟨by decide +kernel, by decide +kernel⟩, List.mem_of_getElem? (i := 701) (by decide +kernel), List.mem_of_getElem? (i := 849) (by decide +kernel), List.mem_of_getElem? (i := 850) (by decide +kernel)⟩
theorem lw_p25 : lw_okq (⟨"CardPortModel", "pays", "(III)V"⟩, 25) := ⟨⟨by decide +kernel, by decide +kernel⟩, List.mem_of_getElem? (i := 701) (by decide +kernel), List.mem_of_getElem? (i := 853) (by decide +kernel), List.mem_of_getElem? (i := 854) (by decide +kernel)⟩
theorem lw_p26 : lw_okq (⟨"CardPortModel", "isCapture", "(I)Z"⟩, 25) := ⟨⟨by decide +kernel, by decide +kernel⟩, List.mem_of_getElem? (i := 701) (by decide +kernel), List.mem_of_getElem? (i := 865) (by decide +kernel), List.mem_of_getElem? (i := 866) (by decide +kernel)⟩
theorem lw_p27 : lw_okq (⟨"CardPortModel", "canGive", "(II)Z"⟩, 25) := ⟨⟨by decide +kernel, by decide +kernel⟩, List.mem_of_getElem? (i := 701) (by decide +kernel), List.mem_of_getElem? (i := 869) (by decide +kernel), List.mem_of_getElem? (i := 870) (by decide +kernel)⟩
theorem lw_p28 : lw_okq (⟨"CardPortModel", "givenBack", "(I)I"⟩, 25) := ⟨⟨by decide +kernel, by decide +kernel⟩, List.mem_of_getElem? (i := 701) (by decide +kernel), List.mem_of_getElem? (i := 873) (by decide +kernel), List.mem_of_getElem? (i := 874) (by decide +kernel)⟩
theorem lw_p29 : lw_okq (⟨"CardPortModel", "misses", "(II)I"⟩, 25) := ⟨⟨by decide +kernel, by decide +kernel⟩, List.mem_of_getElem? (i := 701) (by decide +kernel), List.mem_of_getElem? (i := 885) (by decide +kernel), List.mem_of_getElem? (i := 886) (by decide +kernel)⟩
theorem lw_p30 : lw_okq (⟨"CardPortModel", "paysBack", "(I)V"⟩, 25) := ⟨⟨by decide +kernel, by decide +kernel⟩, List.mem_of_getElem? (i := 701) (by decide +kernel), List.mem_of_getElem? (i := 889) (by decide +kernel), List.mem_of_getElem? (i := 890) (by decide +kernel)⟩
theorem lw_p31 : lw_okq (⟨"CardPortModel", "isDue", "(I)Z"⟩, 25) := ⟨⟨by decide +kernel, by decide +kernel⟩, List.mem_of_getElem? (i := 701) (by decide +kernel), List.mem_of_getElem? (i := 917) (by decide +kernel), List.mem_of_getElem? (i := 918) (by decide +kernel)⟩
def lw_privs_2 : List (MethodName × Nat) := [(⟨"CardPort", "nextDueBehind", "(LCardPort$Chargeback;)LCardPort$Chargeback;"⟩, 8), (⟨"CardPort", "sumOfFees", "()I"⟩, 8), (⟨"CardPortModel", "fails", "(I)Z"⟩, 25), (⟨"CardPortModel", "feeOf", "(II)I"⟩, 25), (⟨"CardPortModel", "limitOf", "(I)I"⟩, 25), (⟨"CardPortModel", "isPayment", "(I)Z"⟩, 25), (⟨"CardPortModel", "isOpen", "(I)Z"⟩, 25), (⟨"CardPortModel", "cardBank", "(I)I"⟩, 25), (⟨"CardPortModel", "shopBank", "(I)I"⟩, 25), (⟨"CardPortModel", "pays", "(III)V"⟩, 25), (⟨"CardPortModel", "isCapture", "(I)Z"⟩, 25), (⟨"CardPortModel", "canGive", "(II)Z"⟩, 25), (⟨"CardPortModel", "givenBack", "(I)I"⟩, 25), (⟨"CardPortModel", "misses", "(II)I"⟩, 25), (⟨"CardPortModel", "paysBack", "(I)V"⟩, 25), (⟨"CardPortModel", "isDue", "(I)Z"⟩, 25)]
theorem lw_r2 : ∀ q ∈ lw_privs_2, lw_okq q := List.forall_mem_cons.mpr ⟨lw_p16, List.forall_mem_cons.mpr ⟨lw_p17, List.forall_mem_cons.mpr ⟨lw_p18, List.forall_mem_cons.mpr ⟨lw_p19, List.forall_mem_cons.mpr ⟨lw_p20, List.forall_mem_cons.mpr ⟨lw_p21, List.forall_mem_cons.mpr ⟨lw_p22, List.forall_mem_cons.mpr ⟨lw_p23, List.forall_mem_cons.mpr ⟨lw_p24, List.forall_mem_cons.mpr ⟨lw_p25, List.forall_mem_cons.mpr ⟨lw_p26, List.forall_mem_cons.mpr ⟨lw_p27, List.forall_mem_cons.mpr ⟨lw_p28, List.forall_mem_cons.mpr ⟨lw_p29, List.forall_mem_cons.mpr ⟨lw_p30, List.forall_mem_cons.mpr ⟨lw_p31, fun _ h => absurd h List.not_mem_nil⟩⟩⟩⟩⟩⟩⟩⟩⟩⟩⟩⟩⟩⟩⟩⟩
theorem lw_p32 : lw_okq (⟨"CardPortModel", "isAhead", "(II)Z"⟩, 25) := ⟨⟨by decide +kernel, by decide +kernel⟩, List.mem_of_getElem? (i := 701) (by decide +kernel), List.mem_of_getElem? (i := 940) (by decide +kernel), List.mem_of_getElem? (i := 941) (by decide +kernel)⟩
def lw_privs_3 : List (MethodName × Nat) := [(⟨"CardPortModel", "isAhead", "(II)Z"⟩, 25)]
theorem lw_r3 : ∀ q ∈ lw_privs_3, lw_okq q := List.forall_mem_cons.mpr ⟨lw_p32, fun _ h => absurd h List.not_mem_nil⟩
def lw_privs : List (MethodName × Nat) := lw_privs_1 ++ (lw_privs_2 ++ (lw_privs_3))
def lw_tbl : List Cond := k2_sels lw_privs ++ tables_1
theorem lw_privs_ok : ∀ q ∈ lw_privs, lw_okq q := by
  show ∀ q ∈ lw_privs_1 ++ (lw_privs_2 ++ (lw_privs_3)), lw_okq q
  exact List.forall_mem_append.mpr ⟨lw_r1, List.forall_mem_append.mpr ⟨lw_r2, lw_r3⟩⟩
-- ===== end of PART A; then your names; then what follows =====
end
section
/-! ===== BEGIN words of one list among another's, by their places ===== -/
theorem goodIn_r {big : List Cond} (ws : List Cond) (ps : List Nat) (hp : ws = ps.filterMap (fun i => big[i]?)) (h : ws.all goodWord = true) : GoodIn big ws := by
  intro w hw
  have h1 := List.all_eq_true.mp h w hw
  rw [hp] at hw
  obtain ⟨i, -, hi⟩ := List.mem_filterMap.mp hw
  have hm : w ∈ big := by first | exact List.mem_of_getElem? hi | exact List.getElem?_mem hi
  exact ⟨hm, good_of_word h1⟩
theorem goodIn_app {big a b : List Cond} (ha : GoodIn big a) (hb : GoodIn big b) : GoodIn big (a ++ b) := fun w h => (List.mem_append.mp h).elim (ha w) (hb w)
theorem goodIn_ca {big a b : List Cond} {c : Cond} (ha : GoodIn big (c :: a)) (hb : GoodIn big b) : GoodIn big (c :: (a ++ b)) := fun w h => (List.mem_cons.mp h).elim (fun e => ha w (List.mem_cons.mpr (Or.inl e))) (fun h => (List.mem_append.mp h).elim (fun h => ha w (List.mem_cons.mpr (Or.inr h))) (hb w))
theorem goodIn_sub {big ws : List Cond} (hm : ∀ w ∈ ws, w ∈ big) (h : ws.all goodWord = true) : GoodIn big ws := fun w hw => ⟨hm w hw, good_of_word (List.all_eq_true.mp h w hw)⟩
/-! ===== END ===== -/

/-! ===== BEGIN exceptions that leave a method, and their catching by the caller (launches without stack traces) ===== -/
section VXA
/-! The laws vx_back, vx_callV, vx_callS, vx_callSW, vx_throw0, vx_throwS follow proofs of the library, with one case more: JvmDerived/Free/Laws.lean (Back.of_free), Shelf42/LK1.lean (callV, callS), Shelf/KitTraced.lean (throwNew0V, throwNewS). -/
/-- where a method has thrown q: the class by its name, the cell, what was written, the world -/
def vx_T (XC : String → State → State → Prop) (st : State) (q : Addr) (t : State) (mc ms : Nat) (free : Addr → Prop) : Prop :=
  ∃ (E : String) (ce : Cell) (L : List Loc), XC E st t ∧ t.heap[q]? = some ce ∧ ce.vm = .none ∧ st.vm.findClass E = some ce.cls ∧ st.WarmedH t.vm ∧ st.sameButNew ({ t with vm := st.vm } : State) L mc ms ∧ ∀ z ∈ L, free z.base
def vx_Q (Qc : Array Value → State → Outcome → State → Prop) (XC : String → State → State → Prop) (mc ms : Nat) (free : Addr → Prop) : Array Value → State → Outcome → State → Prop := fun a st o t =>
  (Qc a st o t ∧ ∃ L, FrameEnd st o t L mc ms ∧ ∀ q ∈ L, free q.base) ∨ ∃ q, o = .threw q ∧ vx_T XC st q t mc ms free
/-- a callee that returns or throws -/
def vx_Met (l : Launch) (y : MethodName) (ws : List Cond) (rm : Room) (Pc : Array Value → State → Prop) (Qc : Array Value → State → Outcome → State → Prop) (XC : String → State → State → Prop) (mc ms : Nat) (free : Addr → Prop) : Prop :=
  MetFree l y (headSpec ws rm) Pc (fun _ _ _ _ _ => True) (vx_Q Qc XC mc ms free)
def vx_Post (XC : String → State → State → Prop) (mc ms : Nat) (free : Addr → Prop) : Pt → Array Value → Addr → Pt → Prop := fun A a q B =>
  ∃ (g : JFrame) (mk : MethodId) (t : State) (L : List Loc) (E : String) (ce : Cell), B.U.heap = t.heap ∧ B.U.vm = t.vm ∧ XC E (A.U.calling g mk a) t ∧ t.heap[q]? = some ce ∧ ce.vm = .none ∧ A.U.vm.findClass E = some ce.cls ∧ B.locs = A.locs ++ L ∧ (∀ z ∈ L, free z.base) ∧ B.cells = A.cells + mc ∧ B.slots = A.slots + ms
def vx_Back (l : Launch) (R : Room) (p : Program) (e : Env) (below : List Frame) (s : State) (sargs : Array Value) (y : MethodName) (len W9 : Nat)
    (Pre : Pt → Array Value → Prop) (Post : Pt → Array Value → Option Value → Pt → Prop) (PostX : Pt → Array Value → Addr → Pt → Prop) : Prop :=
  ∀ (m : MethodId) (meth : Method) (c : Code) (A : Pt) (g : JFrame) (ig : Instr) (mk : MethodId) (a : Array Value),
    Stand p l e R s m sargs below meth c A.U A.locs A.cells A.slots → g.method = m → g.locals.size = c.maxLocals → decode c.code g.pc = .ok (ig, len) →
    2 * g.monitorRoom + (g.stack.map fun v => v.category).sum ≤ W9 → A.U.methodNamed? y = some mk → Pre A a →
    (∃ (v : Option Value) (B : Pt), Stand p l e R s m sargs below meth c B.U B.locs B.cells B.slots ∧ Post A a v B ∧
      Steps p.tables e below (doInvoke e (A.U.setTop g) [] mk a).1 (B.U.setTop { g with pc := g.pc + len, stack := v.toList ++ g.stack })) ∨
    (∃ (q : Addr) (B : Pt), Stand p l e R s m sargs below meth c B.U B.locs B.cells B.slots ∧ PostX A a q B ∧
      Steps p.tables e below (doInvoke e (A.U.setTop g) [] mk a).1 ((B.U.setTop g).pushFrame (.throwing q)))
section Payer
variable {l : Launch} {R : Room} {p : Program} {e : Env} {below : List Frame} {s : State} {sargs : Array Value} {y : MethodName} {len W9 : Nat}
theorem vx_back {ws : List Cond} {rm : Room} {Pc : Array Value → State → Prop} {Qc : Array Value → State → Outcome → State → Prop} {XC : String → State → State → Prop} {mc ms : Nat} {free : Addr → Prop} {bytes : ByteArray} {maxL : Nat} {ret : Option FieldType}
    (hM : vx_Met l y ws rm Pc Qc XC mc ms free) (hblind : FrameBlind Pc) (hrc : rm.cells = mc) (hrs : rm.slots = ms)
    (hframes : rm.frames + 1 ≤ R.frames) (hlocals : W9 + (maxL + 11) + rm.locals ≤ R.locals)
    (hws : ∀ w ∈ ws, ∀ a' U, s.WarmedH U.vm → w.before a' U = true) (hcode : Cond.code y bytes maxL ret ∈ ws) (hinit : ∀ a' U, s.WarmedH U.vm → (Cond.initialized y.cls).before a' U = true) :
    vx_Back l R p e below s sargs y len W9 (PreOf R mc ms Pc) (PostOf Qc mc ms free) (vx_Post XC mc ms free) := by
  intro m meth c A g ig mk a X hg hsize hdg hW hn hp
  have h1 : (headSpec ws rm).pre.before a A.U = true := atoms_intro fun w hw => hws w hw _ _ X.warmed
  have h2 : (Cond.code y bytes maxL ret).before a A.U = true := hws _ hcode _ _ X.warmed
  have h3 : (Cond.initialized y.cls).before a A.U = true := hinit _ _ X.warmed
  have h4 : A.cells + (headSpec ws rm).room.cells ≤ R.cells := by rw [show (headSpec ws rm).room.cells = mc from hrc]; exact hp.1
  have h5 : A.slots + (headSpec ws rm).room.slots ≤ R.slots := by rw [show (headSpec ws rm).room.slots = ms from hrs]; exact hp.2.1
  have hPc : Pc a (A.U.calling g mk a) := hblind _ _ _ _ hp.2.2
  obtain ⟨U, Ls, c0, s0⟩ := A
  dsimp only [Pt.U, Pt.locs, Pt.cells, Pt.slots] at h1 h2 h3 h4 h5 X hn hPc ⊢
  obtain ⟨methY, cY, hmY, hcY, -, hlY, -, -, -, -⟩ := Cond.code_spec hn h2
  obtain ⟨kY, hkY, -⟩ := className_of_methodNamed hn
  have hinitY : kY.init = .initialized := Cond.initialized_spec (findClass_of_methodNamed hn) hkY h3
  have h : At U g.method c below := by rw [hg]; exact X.here
  have hlocals9 : W9 + (maxL + 11) + (headSpec ws rm).room.locals ≤ R.locals := hlocals
  have happ : (headSpec ws rm).appliesLoose y e.platform (U.calling g mk a) = true :=
    Spec.appliesLoose_calling (g := g) h hdg hn hkY hinitY
      (X.room_calling (g := g) (R' := (headSpec ws rm).room) hsize hmY hcY hframes (by rw [hlY]; omega) h4 h5) h1
  obtain ⟨mid, hmid⟩ := h.above
  have hfr : (U.setTop g).frames = (.java g :: mid) ++ below := by rw [State.frames_setTop' g h.top, hmid]; rfl
  obtain ⟨o, s₂, hsteps, -, hend, hq⟩ := Steps.callFree hM p X.admits X.cas X.clock (acts := []) hfr happ hPc trivial
  have hq' : vx_Q Qc XC mc ms free a (U.calling g mk a) o s₂ := hq
  rw [State.frames_setTop' g h.top] at hend
  obtain ⟨g₀, hg0⟩ := Option.isSome_iff_exists.mp h.top
  obtain ⟨r, hr⟩ := State.topJava?_eq_some.mp hg0
  have hr' : (({ U with heap := s₂.heap, slotsUsed := s₂.slotsUsed } : State).setVm s₂.vm).frames = .java g₀ :: r := hr
  rcases hq' with ⟨hqc, L, hfe, hL⟩ | ⟨q, rfl, E, ce, L, hx, hce, hcv, hcl, hW₂, hsm, hL⟩
  · obtain ⟨⟨v, rfl⟩, hW₂, e2, q2, q3, q4, q5, q6⟩ := id hfe
    have e3 : s₂ = ({ (U.calling g mk a).setFrames s₂.frames with heap := s₂.heap, slotsUsed := s₂.slotsUsed } : State).setVm s₂.vm := by
      have : s₂ = ({ s₂ with vm := (U.calling g mk a).vm } : State).setVm s₂.vm := rfl
      rw [e2] at this
      exact this
    obtain ⟨c₂, i₂, len₂, hc₂, hd₂, hf₂⟩ := hend
    have hW' : U.WarmedH s₂.vm := hW₂
    have hcc : c₂ = c := by
      have h1 : s₂.code? g.method = U.code? g.method := by
        rw [State.code?_eq, State.code?_eq, hW'.alike.method?]
      exact Option.some.inj (hc₂.symm.trans (h1.trans h.code))
    subst hcc
    have hlen : len₂ = len := by rw [hdg] at hd₂; cases hd₂; rfl
    subst hlen
    have hs₂ : s₂ = (({ U with heap := s₂.heap, slotsUsed := s₂.slotsUsed } : State).setVm s₂.vm).setTop { g with pc := g.pc + len₂, stack := v.toList ++ g.stack } := by
      refine e3.trans ?_
      rw [hf₂, State.calling_eq h.top, State.setFrames_setFrames, State.setTop_of_frames _ hr', hr]
      rfl
    have hsame : U.sameButNew ({ U with heap := s₂.heap, slotsUsed := s₂.slotsUsed } : State) L mc ms := by
      refine ⟨?_, q2, q3, q4, q5, q6⟩
      obtain ⟨t, ht, -⟩ := State.frames_cons hr
      show ({ U with heap := s₂.heap, slotsUsed := s₂.slotsUsed } : State) = { U.setFrames U.frames with heap := s₂.heap, slotsUsed := s₂.slotsUsed }
      rw [State.setFrames_self ht]
    subst hg
    refine Or.inl ⟨v, ⟨(({ U with heap := s₂.heap, slotsUsed := s₂.slotsUsed } : State).setVm s₂.vm), Ls ++ L, c0 + mc, s0 + ms⟩,
      ⟨X.admits, X.cas, X.clock, X.frames, X.room, X.hears, X.method, X.code, (X.here.setHeapUsed s₂.heap s₂.slotsUsed).setVm hW'.alike, X.tail, State.WarmedH.trans X.warmed hW', X.limits, X.bytes, X.same.trans (hsame.setVm s.vm)⟩,
      ⟨g, mk, s₂, L, rfl, rfl, hqc, rfl, hL, rfl, rfl⟩, ?_⟩
    show Steps p.tables e below _ ((({ U with heap := s₂.heap, slotsUsed := s₂.slotsUsed } : State).setVm s₂.vm).setTop { g with pc := g.pc + len₂, stack := v.toList ++ g.stack })
    rw [← hs₂]
    exact hsteps
  · obtain ⟨e2, q2, q3, q4, q5, q6⟩ := id hsm
    have e3 : s₂ = ({ (U.calling g mk a).setFrames s₂.frames with heap := s₂.heap, slotsUsed := s₂.slotsUsed } : State).setVm s₂.vm := by
      have : s₂ = ({ s₂ with vm := (U.calling g mk a).vm } : State).setVm s₂.vm := rfl
      rw [e2] at this
      exact this
    have hf₂ : s₂.frames = .throwing q :: .java g :: U.frames.tail := hend
    have hW' : U.WarmedH s₂.vm := hW₂
    have hs₂ : s₂ = ((({ U with heap := s₂.heap, slotsUsed := s₂.slotsUsed } : State).setVm s₂.vm).setTop g).pushFrame (.throwing q) := by
      refine e3.trans ?_
      rw [hf₂, State.calling_eq h.top, State.setFrames_setFrames, State.pushFrame, State.frames_setTop _ hr', State.setTop_of_frames _ hr', State.setFrames_setFrames, hr]
      rfl
    have hsame : U.sameButNew ({ U with heap := s₂.heap, slotsUsed := s₂.slotsUsed } : State) L mc ms := by
      refine ⟨?_, q2, q3, q4, q5, q6⟩
      obtain ⟨t, ht, -⟩ := State.frames_cons hr
      show ({ U with heap := s₂.heap, slotsUsed := s₂.slotsUsed } : State) = { U.setFrames U.frames with heap := s₂.heap, slotsUsed := s₂.slotsUsed }
      rw [State.setFrames_self ht]
    subst hg
    refine Or.inr ⟨q, ⟨(({ U with heap := s₂.heap, slotsUsed := s₂.slotsUsed } : State).setVm s₂.vm), Ls ++ L, c0 + mc, s0 + ms⟩,
      ⟨X.admits, X.cas, X.clock, X.frames, X.room, X.hears, X.method, X.code, (X.here.setHeapUsed s₂.heap s₂.slotsUsed).setVm hW'.alike, X.tail, State.WarmedH.trans X.warmed hW', X.limits, X.bytes, X.same.trans (hsame.setVm s.vm)⟩,
      ⟨g, mk, s₂, L, E, ce, rfl, rfl, hx, hce, hcv, hcl, rfl, hL, rfl, rfl⟩, ?_⟩
    show Steps p.tables e below _ (((({ U with heap := s₂.heap, slotsUsed := s₂.slotsUsed } : State).setVm s₂.vm).setTop g).pushFrame (.throwing q))
    rw [← hs₂]
    exact hsteps
end Payer
section Calls
variable {p : Program} {l : Launch} {e : Env} {R : Room} {s : State} {m : MethodId} {args : Array Value} {below : List Frame} {meth : Method} {c : Code} {T : State} {locs : List Loc} {cells slots : Nat}
theorem vx_callV (X : Stand p l e R s m args below meth c T locs cells slots) (hexec : p.tables.exec = Jvm.exec) {own C : String} {index : Nat} {y : MethodName} {bytes : ByteArray} {maxL : Nat} {ret : Option FieldType}
    (hown : s.vm.findClass own = some m.cls) (hlink : (Cond.methodLink own index y).before args s = true) (hinst : (Cond.instanceMethod y).before args s = true) (hsel : (Cond.selects C y y).before args s = true)
    (hcode : (Cond.code y bytes maxL ret).before args s = true) (hy : y.cls ≠ "java/lang/invoke/MethodHandle" ∧ y.cls ≠ "java/lang/invoke/VarHandle")
    {W9 : Nat} {Pre : Pt → Array Value → Prop} {Post : Pt → Array Value → Option Value → Pt → Prop} {PostX : Pt → Array Value → Addr → Pt → Prop} (hK : vx_Back l R p e below s args y 3 W9 Pre Post PostX)
    {b : Addr} {cellB : Cell} (hcell : T.heap[b]? = some cellB) (hobj : cellB.vm.isStatics = false) (hcls : s.vm.findClass C = some cellB.cls)
    {g : JFrame} (hg : g.method = m) (hsize : g.locals.size = c.maxLocals) {argsL rest : List Value} (hlen : ∀ sig, parseMethodDescriptor y.desc = some sig → argsL.length = sig.parameters.length)
    (hstack : g.stack = argsL.reverse ++ .ref b :: rest) (hW : 2 * g.monitorRoom + (rest.map fun v => v.category).sum ≤ W9) (hdg : decode c.code g.pc = .ok (.invokevirtual index, 3))
    (hpre : ∀ vm₁, s.WarmedH vm₁ → Pre ⟨T.setVm vm₁, locs, cells, slots⟩ (Value.ref b :: argsL).toArray) :
    (∃ (v : Option Value) (vm₁ : Vm) (B : Pt), s.WarmedH vm₁ ∧ Stand p l e R s m args below meth c B.U B.locs B.cells B.slots ∧ Post ⟨T.setVm vm₁, locs, cells, slots⟩ (Value.ref b :: argsL).toArray v B ∧
      ∀ target, Steps p.tables e below (B.U.setTop { g with pc := g.pc + 3, stack := v.toList ++ rest }) target → Steps p.tables e below (T.setTop g) target) ∨
    (∃ (q : Addr) (vm₁ : Vm) (B : Pt), s.WarmedH vm₁ ∧ Stand p l e R s m args below meth c B.U B.locs B.cells B.slots ∧ PostX ⟨T.setVm vm₁, locs, cells, slots⟩ (Value.ref b :: argsL).toArray q B ∧
      Steps p.tables e below (T.setTop g) ((B.U.setTop { g with stack := rest }).pushFrame (.throwing q))) := by
  obtain ⟨mk, methM, hnamed, hmethM, hstM, habM⟩ := Cond.instanceMethod_spec hinst
  obtain ⟨methM', cM, hmethM', -, -, -, -, -, -, hsigM⟩ := Cond.code_spec hnamed hcode
  cases hmethM.symm.trans hmethM'
  obtain ⟨c2, r2, m2, q1, q2, q3, q4, kP, hkP, hkPi⟩ := Cond.selects_spec hsel
  cases hcls.symm.trans q1
  cases (State.methodFound?_of_named hnamed hy).symm.trans q2
  cases hnamed.symm.trans q3
  have hselP : selectMethod e.platform s.vm cellB.cls mk = .method mk := by rw [Launch.admits_selectMethod X.admits]; exact q4
  obtain ⟨vm₁, X₁, hstep₁⟩ := X.invokevirtual hexec hown hlink hnamed hmethM hstM hkP hkPi hy (a := b) (cell := cellB) hcell
    (fun z h => by rw [h] at hobj; cases hobj) hselP hmethM habM hkP hkPi (g := g) hg (argsL := argsL) (rest := rest) (hlen _ hsigM) hstack hdg
  rcases hK m meth c ⟨T.setVm vm₁, locs, cells, slots⟩ { g with stack := rest } (.invokevirtual index) mk (Value.ref b :: argsL).toArray X₁ hg hsize hdg hW (X₁.named hnamed) (hpre vm₁ X₁.warmed) with ⟨v, B, X', hpost, hsteps⟩ | ⟨q, B, X', hpost, hsteps⟩
  · exact Or.inl ⟨v, vm₁, B, X₁.warmed, X', hpost, fun target h => hstep₁ _ fun acts => by rw [doInvoke_state]; exact hsteps.trans h⟩
  · exact Or.inr ⟨q, vm₁, B, X₁.warmed, X', hpost, hstep₁ _ fun acts => by rw [doInvoke_state]; exact hsteps⟩
theorem vx_callS (X : Stand p l e R s m args below meth c T locs cells slots) (hexec : p.tables.exec = Jvm.exec) {own : String} {index : Nat} {y : MethodName} {bytes : ByteArray} {maxL : Nat} {ret : Option FieldType}
    (hown : s.vm.findClass own = some m.cls) (hlink : (Cond.methodLink own index y).before args s = true) (hstat : (Cond.static y).before args s = true) (hinit : (Cond.initialized y.cls).before args s = true)
    (hcode : (Cond.code y bytes maxL ret).before args s = true) (hy : y.cls ≠ "java/lang/invoke/MethodHandle" ∧ y.cls ≠ "java/lang/invoke/VarHandle")
    {W9 : Nat} {Pre : Pt → Array Value → Prop} {Post : Pt → Array Value → Option Value → Pt → Prop} {PostX : Pt → Array Value → Addr → Pt → Prop} (hK : vx_Back l R p e below s args y 3 W9 Pre Post PostX)
    {g : JFrame} (hg : g.method = m) (hsize : g.locals.size = c.maxLocals) {argsL rest : List Value} (hlen : ∀ sig, parseMethodDescriptor y.desc = some sig → argsL.length = sig.parameters.length)
    (hstack : g.stack = argsL.reverse ++ rest) (hW : 2 * g.monitorRoom + (rest.map fun v => v.category).sum ≤ W9) (hdg : decode c.code g.pc = .ok (.invokestatic index, 3))
    (hpre : ∀ vm₁, s.WarmedH vm₁ → Pre ⟨T.setVm vm₁, locs, cells, slots⟩ argsL.toArray) :
    (∃ (v : Option Value) (vm₁ : Vm) (B : Pt), s.WarmedH vm₁ ∧ Stand p l e R s m args below meth c B.U B.locs B.cells B.slots ∧ Post ⟨T.setVm vm₁, locs, cells, slots⟩ argsL.toArray v B ∧
      ∀ target, Steps p.tables e below (B.U.setTop { g with pc := g.pc + 3, stack := v.toList ++ rest }) target → Steps p.tables e below (T.setTop g) target) ∨
    (∃ (q : Addr) (vm₁ : Vm) (B : Pt), s.WarmedH vm₁ ∧ Stand p l e R s m args below meth c B.U B.locs B.cells B.slots ∧ PostX ⟨T.setVm vm₁, locs, cells, slots⟩ argsL.toArray q B ∧
      Steps p.tables e below (T.setTop g) ((B.U.setTop { g with stack := rest }).pushFrame (.throwing q))) := by
  obtain ⟨mk, hnamed⟩ := Cond.code_named hcode
  obtain ⟨methM, cM, hmethM, -, -, -, -, -, -, hsigM⟩ := Cond.code_spec hnamed hcode
  have hstatic : methM.isStatic = true := Cond.static_spec hnamed hmethM hstat
  obtain ⟨kP, hkP, -⟩ := className_of_methodNamed hnamed
  have hinitP : kP.init = .initialized := Cond.initialized_spec (findClass_of_methodNamed hnamed) hkP hinit
  obtain ⟨vm₁, X₁, hstep₁⟩ := X.invokestatic hexec hown hlink hnamed hmethM hstatic hkP hinitP hy (g := g) hg (argsL := argsL) (rest := rest) (hlen _ hsigM) hstack hdg
  rcases hK m meth c ⟨T.setVm vm₁, locs, cells, slots⟩ { g with stack := rest } (.invokestatic index) mk argsL.toArray X₁ hg hsize hdg hW (X₁.named hnamed) (hpre vm₁ X₁.warmed) with ⟨v, B, X', hpost, hsteps⟩ | ⟨q, B, X', hpost, hsteps⟩
  · exact Or.inl ⟨v, vm₁, B, X₁.warmed, X', hpost, fun target h => hstep₁ _ fun acts => by rw [doInvoke_state]; exact hsteps.trans h⟩
  · exact Or.inr ⟨q, vm₁, B, X₁.warmed, X', hpost, hstep₁ _ fun acts => by rw [doInvoke_state]; exact hsteps⟩
end Calls
theorem vx_cls {s : State} {T : State} {vm₁ : Vm} {E : String} {k : ClassId} (hW : s.WarmedH vm₁) (h : (T.setVm vm₁).vm.findClass E = some k) : s.vm.findClass E = some k := by
  have h1 : vm₁.findClass E = some k := h
  rw [hW.alike.findClass] at h1
  exact h1
/-- the method's frame g, with q thrown over it -/
def vx_W (p : Program) (l : Launch) (e : Env) (R : Room) (s : State) (m : MethodId) (args : Array Value) (below : List Frame) (meth : Method) (c : Code) (H : Heap) (locs : List Loc) (cells slots : Nat) (Q : State → Prop) (g : JFrame) (q : Addr) : Prop :=
  ∀ T : State, T.heap = H → Stand p l e R s m args below meth c T locs cells slots → ∃ t, Steps p.tables e below ((T.setTop g).pushFrame (.throwing q)) t ∧ Q t
def vx_Run (p : Program) (l : Launch) (e : Env) (R : Room) (s : State) (m : MethodId) (args : Array Value) (below : List Frame) (meth : Method) (c : Code) (H : Heap) (locs : List Loc) (cells slots mc ms : Nat) (g : JFrame) (rest : List Value) (Qa : State → Outcome → State → Prop) (XC : String → State → State → Prop) (free : Addr → Prop) : Prop :=
  ∀ T : State, T.heap = H → Stand p l e R s m args below meth c T locs cells slots →
    (∃ (v : Option Value) (st₀ t T' : State) (L : List Loc), st₀.heap = H ∧ Stand p l e R s m args below meth c T' (locs ++ L) (cells + mc) (slots + ms) ∧ (∀ q ∈ L, free q.base) ∧ T'.heap = t.heap ∧ T'.vm = t.vm ∧ Qa st₀ (.returned v) t ∧
      Goes p e below T g T' { g with pc := g.pc + 3, stack := v.toList ++ rest }) ∨
    (∃ (q : Addr) (st₀ t T' : State) (L : List Loc) (E : String) (ce : Cell), st₀.heap = H ∧ Stand p l e R s m args below meth c T' (locs ++ L) (cells + mc) (slots + ms) ∧ (∀ z ∈ L, free z.base) ∧ T'.heap = t.heap ∧ T'.vm = t.vm ∧ XC E st₀ t ∧ t.heap[q]? = some ce ∧ ce.vm = .none ∧ s.vm.findClass E = some ce.cls ∧
      Steps p.tables e below (T.setTop g) ((T'.setTop { g with stack := rest }).pushFrame (.throwing q)))
def vx_X {S : Type} (px : S → Prop) (B : String → S → State → Prop) (A : Nat → Prop) : String → State → State → Prop := fun E st t => ∃ u : S, px u ∧ B E u t ∧ va_F A st t
section Runs
variable {p : Program} {l : Launch} {e : Env} {R : Room} {s : State} {m : MethodId} {args : Array Value} {below : List Frame} {meth : Method} {c : Code} {H : Heap} {locs : List Loc} {cells slots : Nat}
variable {y : MethodName} {bytes cc : ByteArray} {maxL nL mc ms n index : Nat} {ret : Option FieldType} {ws : List Cond} {rm : Room} {Pc : Array Value → State → Prop} {Qc : Array Value → State → Outcome → State → Prop} {XC : String → State → State → Prop} {free : Addr → Prop} {Ts : List Cond} {own C : String} {b : Addr} {As rest : List Value} {g : JFrame}
theorem vx_callBack (cb : CallB R s args own index y bytes maxL ret ws rm mc ms n) (hM : vx_Met l y ws rm Pc Qc XC mc ms free) (hbl : FrameBlind Pc) : vx_Back l R p e below s args y 3 8 (PreOf R mc ms Pc) (PostOf Qc mc ms free) (vx_Post XC mc ms free) := by
  obtain ⟨hrc, hrs, hfr, hlo, hws, hcw, -, hini, -⟩ := cb
  exact vx_back (bytes := bytes) (maxL := maxL) (ret := ret) hM hbl hrc hrs hfr hlo hws hcw (fun a' U hW => word_at hW (Or.inl (by first | rfl | simp [Cond.onTables, Cond.keeps, Cond.steady])) hini)
theorem vx_runV (S : CallFix p m c cc nL s args Ts own) (hM : vx_Met l y ws rm Pc Qc XC mc ms free) (cw : CallW R s args own C index y bytes maxL ret ws rm mc ms n) (hp : PreV s H C b Pc As)
    (hg : g.method = m) (hn : As.length = n) (hsize : g.locals.size = nL) (hstack : g.stack = As.reverse ++ .ref b :: rest) (hW : 2 * g.monitorRoom + (rest.map fun v => v.category).sum ≤ 8) (hdg : decode cc g.pc = .ok (.invokevirtual index, 3)) (hf : cells + mc ≤ R.cells ∧ slots + ms ≤ R.slots) :
    vx_Run p l e R s m args below meth c H locs cells slots mc ms g rest (Qc (Value.ref b :: As).toArray) XC free := by
  have hK : vx_Back l R p e below s args y 3 8 (PreOf R mc ms Pc) (PostOf Qc mc ms free) (vx_Post XC mc ms free) := vx_callBack cw.1 hM hp.1
  obtain ⟨⟨-, -, -, -, -, -, hcode, -, hy, hlen, hl⟩, hin, hse⟩ := cw
  obtain ⟨hx, hb, hml, ho, -⟩ := S
  obtain ⟨-, ⟨cellB, hcB, hoB, hclB⟩, hPc⟩ := hp
  intro T hT X
  rcases vx_callV X hx (C := C) (bytes := bytes) (maxL := maxL) (ret := ret) ho hl hin hse hcode hy hK (by rw [hT]; exact hcB) hoB hclB hg (hsize.trans hml.symm) (argsL := As) (rest := rest) (fun sig h => hn.trans (hlen sig h)) hstack hW (by rw [hb]; exact hdg)
    (fun vm₁ hW₁ => ⟨hf.1, hf.2, hPc (T.setVm vm₁) hT hW₁⟩) with ⟨v, vm₁, ⟨U', l2, c2, s2⟩, hW₁, X', ⟨g', mk, t, L, e1, e2, hq, h1, hL, h2, h3⟩, st⟩ | ⟨q, vm₁, ⟨U', l2, c2, s2⟩, hW₁, X', ⟨g', mk, t, L, E, ce, e1, e2, hq, hce, hcv, hcl, h1, hL, h2, h3⟩, st⟩
  · dsimp only [Pt.U, Pt.locs, Pt.cells, Pt.slots] at X' e1 e2 h1 h2 h3 st
    subst h1; subst h2; subst h3
    exact Or.inl ⟨v, (T.setVm vm₁).calling g' mk (Value.ref b :: As).toArray, t, U', L, hT, X', hL, e1, e2, hq, st⟩
  · dsimp only [Pt.U, Pt.locs, Pt.cells, Pt.slots] at X' e1 e2 h1 h2 h3 st hcl
    subst h1; subst h2; subst h3
    exact Or.inr ⟨q, (T.setVm vm₁).calling g' mk (Value.ref b :: As).toArray, t, U', L, E, ce, hT, X', hL, e1, e2, hq, hce, hcv, vx_cls hW₁ hcl, st⟩
theorem vx_runS (S : CallFix p m c cc nL s args Ts own) (hM : vx_Met l y ws rm Pc Qc XC mc ms free) (cw : CallB R s args own index y bytes maxL ret ws rm mc ms n ∧ (Cond.static y).before args s = true) (hp : PreS s H Pc As)
    (hg : g.method = m) (hn : As.length = n) (hsize : g.locals.size = nL) (hstack : g.stack = As.reverse ++ rest) (hW : 2 * g.monitorRoom + (rest.map fun v => v.category).sum ≤ 8) (hdg : decode cc g.pc = .ok (.invokestatic index, 3)) (hf : cells + mc ≤ R.cells ∧ slots + ms ≤ R.slots) :
    vx_Run p l e R s m args below meth c H locs cells slots mc ms g rest (Qc As.toArray) XC free := by
  have hK : vx_Back l R p e below s args y 3 8 (PreOf R mc ms Pc) (PostOf Qc mc ms free) (vx_Post XC mc ms free) := vx_callBack cw.1 hM hp.1
  obtain ⟨⟨-, -, -, -, -, -, hcode, hini, hy, hlen, hl⟩, hstt⟩ := cw
  obtain ⟨hx, hb, hml, ho, -⟩ := S
  intro T hT X
  rcases vx_callS X hx (bytes := bytes) (maxL := maxL) (ret := ret) ho hl hstt hini hcode hy hK hg (hsize.trans hml.symm) (argsL := As) (rest := rest) (fun sig h => hn.trans (hlen sig h)) hstack hW (by rw [hb]; exact hdg)
    (fun vm₁ hW₁ => ⟨hf.1, hf.2, hp.2 (T.setVm vm₁) hT hW₁⟩) with ⟨v, vm₁, ⟨U', l2, c2, s2⟩, hW₁, X', ⟨g', mk, t, L, e1, e2, hq, h1, hL, h2, h3⟩, st⟩ | ⟨q, vm₁, ⟨U', l2, c2, s2⟩, hW₁, X', ⟨g', mk, t, L, E, ce, e1, e2, hq, hce, hcv, hcl, h1, hL, h2, h3⟩, st⟩
  · dsimp only [Pt.U, Pt.locs, Pt.cells, Pt.slots] at X' e1 e2 h1 h2 h3 st
    subst h1; subst h2; subst h3
    exact Or.inl ⟨v, (T.setVm vm₁).calling g' mk As.toArray, t, U', L, hT, X', hL, e1, e2, hq, st⟩
  · dsimp only [Pt.U, Pt.locs, Pt.cells, Pt.slots] at X' e1 e2 h1 h2 h3 st hcl
    subst h1; subst h2; subst h3
    exact Or.inr ⟨q, (T.setVm vm₁).calling g' mk As.toArray, t, U', L, E, ce, hT, X', hL, e1, e2, hq, hce, hcv, vx_cls hW₁ hcl, st⟩
end Runs
section Rows
variable {p : Program} {l : Launch} {e : Env} {R : Room} {s : State} {m : MethodId} {args : Array Value} {below : List Frame} {meth : Method} {c : Code} {H : Heap} {locs : List Loc} {cells slots : Nat} {Q : State → Prop}
variable {mc ms : Nat} {free : Addr → Prop} {A0 A1 : Nat → Prop} {H0 : Heap} {a : Array Value} {pc : Nat} {ls : Array Slot} {st0 rest : List Value}
theorem vx_keep {st₀ t T' : State} {L : List Loc} (h0 : st₀.heap = H) (e1 : T'.heap = t.heap) (hS : va_S A0 H0 H locs) (hA : ∀ q, q < H.size → A1 q → A0 q) (hf : ∀ q, free q → A0 q) (hL : ∀ q ∈ L, free q.base) (hF : va_F A1 st₀ t) :
    H.size ≤ T'.heap.size ∧ (∀ q : Nat, q < H.size → ¬ A1 q → T'.heap[q]? = H[q]?) ∧ va_S A0 H0 T'.heap (locs ++ L) := by
  obtain ⟨hz, hk⟩ := hF
  rw [h0] at hz hk
  exact ⟨by rw [e1]; exact hz, fun q h1 h2 => by rw [e1]; exact hk q h1 h2,
    ⟨Nat.le_trans hS.1 (by rw [e1]; exact hz), fun q h1 h2 => by rw [e1, hk q (Nat.lt_of_lt_of_le h1 hS.1) (fun z => h2 (hA q (Nat.lt_of_lt_of_le h1 hS.1) z))]; exact hS.2.1 q h1 h2, fun q hq => by
      rcases List.mem_append.mp hq with h | h
      · exact hS.2.2 q h
      · exact hf _ (hL q h)⟩⟩
theorem vx_calli {S SX : Type} {post : Int32 → S → Prop} {px : SX → Prop} {B : S → State → Prop} {BX : String → SX → State → Prop} {AX : Nat → Prop} (hr : vx_Run p l e R s m args below meth c H locs cells slots mc ms (F0 m pc ls st0) rest (va_Qi post B A1 a) (vx_X px BX AX) free) (hS : va_S A0 H0 H locs) (hA : ∀ q, q < H.size → A1 q → A0 q) (hf : ∀ q, free q → A0 q) (hAX : ∀ q, q < H.size → AX q → A0 q)
    (kx : ∀ (E : String) (ce : Cell) (q9 : Addr) (u : SX) (t : State) (H1 : Heap) (locs1 : List Loc), t.heap = H1 → s.vm.Alike t.vm → px u → BX E u t → H.size ≤ H1.size → (∀ q : Nat, q < H.size → ¬ AX q → H1[q]? = H[q]?) → va_S A0 H0 H1 locs1 → H1[q9]? = some ce → ce.vm = .none → s.vm.findClass E = some ce.cls → vx_W p l e R s m args below meth c H1 locs1 (cells + mc) (slots + ms) Q (F0 m pc ls rest) q9)
    (kk : ∀ (r : Int32) (u : S) (t : State) (H1 : Heap) (locs1 : List Loc), t.heap = H1 → s.vm.Alike t.vm → post r u → B u t → H.size ≤ H1.size → (∀ q : Nat, q < H.size → ¬ A1 q → H1[q]? = H[q]?) → va_S A0 H0 H1 locs1 → W p l e R s m args below meth c H1 locs1 (cells + mc) (slots + ms) Q (F0 m (pc + 3) ls (.int r :: rest))) : W p l e R s m args below meth c H locs cells slots Q (F0 m pc ls st0) := by
  intro T hT X
  rcases hr T hT X with ⟨v, st₀, t, T', L, h0, X', hL, e1, e2, ⟨⟨r, u, hv, hp, hb⟩, hF⟩, st⟩ | ⟨q, st₀, t, T', L, E, ce, h0, X', hL, e1, e2, ⟨u, hp, hb, hF⟩, hce, hcv, hcl, st⟩
  · cases hv
    obtain ⟨k1, k2, k3⟩ := vx_keep h0 e1 hS hA hf hL hF
    obtain ⟨t2, a1, b1⟩ := kk r u t T'.heap (locs ++ L) e1.symm (by rw [← e2]; exact X'.warmed.alike) hp hb k1 k2 k3 T' rfl X'
    exact ⟨t2, st t2 a1, b1⟩
  · obtain ⟨k1, k2, k3⟩ := vx_keep h0 e1 hS hAX hf hL hF
    obtain ⟨t2, a1, b1⟩ := kx E ce q u t T'.heap (locs ++ L) e1.symm (by rw [← e2]; exact X'.warmed.alike) hp hb k1 k2 k3 (by rw [e1]; exact hce) hcv hcl T' rfl X'
    exact ⟨t2, st.trans a1, b1⟩
theorem vx_calll {S SX : Type} {post : Int64 → S → Prop} {px : SX → Prop} {B : S → State → Prop} {BX : String → SX → State → Prop} {AX : Nat → Prop} (hr : vx_Run p l e R s m args below meth c H locs cells slots mc ms (F0 m pc ls st0) rest (va_Ql post B A1 a) (vx_X px BX AX) free) (hS : va_S A0 H0 H locs) (hA : ∀ q, q < H.size → A1 q → A0 q) (hf : ∀ q, free q → A0 q) (hAX : ∀ q, q < H.size → AX q → A0 q)
    (kx : ∀ (E : String) (ce : Cell) (q9 : Addr) (u : SX) (t : State) (H1 : Heap) (locs1 : List Loc), t.heap = H1 → s.vm.Alike t.vm → px u → BX E u t → H.size ≤ H1.size → (∀ q : Nat, q < H.size → ¬ AX q → H1[q]? = H[q]?) → va_S A0 H0 H1 locs1 → H1[q9]? = some ce → ce.vm = .none → s.vm.findClass E = some ce.cls → vx_W p l e R s m args below meth c H1 locs1 (cells + mc) (slots + ms) Q (F0 m pc ls rest) q9)
    (kk : ∀ (r : Int64) (u : S) (t : State) (H1 : Heap) (locs1 : List Loc), t.heap = H1 → s.vm.Alike t.vm → post r u → B u t → H.size ≤ H1.size → (∀ q : Nat, q < H.size → ¬ A1 q → H1[q]? = H[q]?) → va_S A0 H0 H1 locs1 → W p l e R s m args below meth c H1 locs1 (cells + mc) (slots + ms) Q (F0 m (pc + 3) ls (.long r :: rest))) : W p l e R s m args below meth c H locs cells slots Q (F0 m pc ls st0) := by
  intro T hT X
  rcases hr T hT X with ⟨v, st₀, t, T', L, h0, X', hL, e1, e2, ⟨⟨r, u, hv, hp, hb⟩, hF⟩, st⟩ | ⟨q, st₀, t, T', L, E, ce, h0, X', hL, e1, e2, ⟨u, hp, hb, hF⟩, hce, hcv, hcl, st⟩
  · cases hv
    obtain ⟨k1, k2, k3⟩ := vx_keep h0 e1 hS hA hf hL hF
    obtain ⟨t2, a1, b1⟩ := kk r u t T'.heap (locs ++ L) e1.symm (by rw [← e2]; exact X'.warmed.alike) hp hb k1 k2 k3 T' rfl X'
    exact ⟨t2, st t2 a1, b1⟩
  · obtain ⟨k1, k2, k3⟩ := vx_keep h0 e1 hS hAX hf hL hF
    obtain ⟨t2, a1, b1⟩ := kx E ce q u t T'.heap (locs ++ L) e1.symm (by rw [← e2]; exact X'.warmed.alike) hp hb k1 k2 k3 (by rw [e1]; exact hce) hcv hcl T' rfl X'
    exact ⟨t2, st.trans a1, b1⟩
theorem vx_callf {S SX : Type} {post : UInt32 → S → Prop} {px : SX → Prop} {B : S → State → Prop} {BX : String → SX → State → Prop} {AX : Nat → Prop} (hr : vx_Run p l e R s m args below meth c H locs cells slots mc ms (F0 m pc ls st0) rest (va_Qf post B A1 a) (vx_X px BX AX) free) (hS : va_S A0 H0 H locs) (hA : ∀ q, q < H.size → A1 q → A0 q) (hf : ∀ q, free q → A0 q) (hAX : ∀ q, q < H.size → AX q → A0 q)
    (kx : ∀ (E : String) (ce : Cell) (q9 : Addr) (u : SX) (t : State) (H1 : Heap) (locs1 : List Loc), t.heap = H1 → s.vm.Alike t.vm → px u → BX E u t → H.size ≤ H1.size → (∀ q : Nat, q < H.size → ¬ AX q → H1[q]? = H[q]?) → va_S A0 H0 H1 locs1 → H1[q9]? = some ce → ce.vm = .none → s.vm.findClass E = some ce.cls → vx_W p l e R s m args below meth c H1 locs1 (cells + mc) (slots + ms) Q (F0 m pc ls rest) q9)
    (kk : ∀ (r : UInt32) (u : S) (t : State) (H1 : Heap) (locs1 : List Loc), t.heap = H1 → s.vm.Alike t.vm → post r u → B u t → H.size ≤ H1.size → (∀ q : Nat, q < H.size → ¬ A1 q → H1[q]? = H[q]?) → va_S A0 H0 H1 locs1 → W p l e R s m args below meth c H1 locs1 (cells + mc) (slots + ms) Q (F0 m (pc + 3) ls (.float r :: rest))) : W p l e R s m args below meth c H locs cells slots Q (F0 m pc ls st0) := by
  intro T hT X
  rcases hr T hT X with ⟨v, st₀, t, T', L, h0, X', hL, e1, e2, ⟨⟨r, u, hv, hp, hb⟩, hF⟩, st⟩ | ⟨q, st₀, t, T', L, E, ce, h0, X', hL, e1, e2, ⟨u, hp, hb, hF⟩, hce, hcv, hcl, st⟩
  · cases hv
    obtain ⟨k1, k2, k3⟩ := vx_keep h0 e1 hS hA hf hL hF
    obtain ⟨t2, a1, b1⟩ := kk r u t T'.heap (locs ++ L) e1.symm (by rw [← e2]; exact X'.warmed.alike) hp hb k1 k2 k3 T' rfl X'
    exact ⟨t2, st t2 a1, b1⟩
  · obtain ⟨k1, k2, k3⟩ := vx_keep h0 e1 hS hAX hf hL hF
    obtain ⟨t2, a1, b1⟩ := kx E ce q u t T'.heap (locs ++ L) e1.symm (by rw [← e2]; exact X'.warmed.alike) hp hb k1 k2 k3 (by rw [e1]; exact hce) hcv hcl T' rfl X'
    exact ⟨t2, st.trans a1, b1⟩
theorem vx_calld {S SX : Type} {post : UInt64 → S → Prop} {px : SX → Prop} {B : S → State → Prop} {BX : String → SX → State → Prop} {AX : Nat → Prop} (hr : vx_Run p l e R s m args below meth c H locs cells slots mc ms (F0 m pc ls st0) rest (va_Qd post B A1 a) (vx_X px BX AX) free) (hS : va_S A0 H0 H locs) (hA : ∀ q, q < H.size → A1 q → A0 q) (hf : ∀ q, free q → A0 q) (hAX : ∀ q, q < H.size → AX q → A0 q)
    (kx : ∀ (E : String) (ce : Cell) (q9 : Addr) (u : SX) (t : State) (H1 : Heap) (locs1 : List Loc), t.heap = H1 → s.vm.Alike t.vm → px u → BX E u t → H.size ≤ H1.size → (∀ q : Nat, q < H.size → ¬ AX q → H1[q]? = H[q]?) → va_S A0 H0 H1 locs1 → H1[q9]? = some ce → ce.vm = .none → s.vm.findClass E = some ce.cls → vx_W p l e R s m args below meth c H1 locs1 (cells + mc) (slots + ms) Q (F0 m pc ls rest) q9)
    (kk : ∀ (r : UInt64) (u : S) (t : State) (H1 : Heap) (locs1 : List Loc), t.heap = H1 → s.vm.Alike t.vm → post r u → B u t → H.size ≤ H1.size → (∀ q : Nat, q < H.size → ¬ A1 q → H1[q]? = H[q]?) → va_S A0 H0 H1 locs1 → W p l e R s m args below meth c H1 locs1 (cells + mc) (slots + ms) Q (F0 m (pc + 3) ls (.double r :: rest))) : W p l e R s m args below meth c H locs cells slots Q (F0 m pc ls st0) := by
  intro T hT X
  rcases hr T hT X with ⟨v, st₀, t, T', L, h0, X', hL, e1, e2, ⟨⟨r, u, hv, hp, hb⟩, hF⟩, st⟩ | ⟨q, st₀, t, T', L, E, ce, h0, X', hL, e1, e2, ⟨u, hp, hb, hF⟩, hce, hcv, hcl, st⟩
  · cases hv
    obtain ⟨k1, k2, k3⟩ := vx_keep h0 e1 hS hA hf hL hF
    obtain ⟨t2, a1, b1⟩ := kk r u t T'.heap (locs ++ L) e1.symm (by rw [← e2]; exact X'.warmed.alike) hp hb k1 k2 k3 T' rfl X'
    exact ⟨t2, st t2 a1, b1⟩
  · obtain ⟨k1, k2, k3⟩ := vx_keep h0 e1 hS hAX hf hL hF
    obtain ⟨t2, a1, b1⟩ := kx E ce q u t T'.heap (locs ++ L) e1.symm (by rw [← e2]; exact X'.warmed.alike) hp hb k1 k2 k3 (by rw [e1]; exact hce) hcv hcl T' rfl X'
    exact ⟨t2, st.trans a1, b1⟩
theorem vx_callv {S SX : Type} {post : S → Prop} {px : SX → Prop} {B : S → State → Prop} {BX : String → SX → State → Prop} {AX : Nat → Prop} (hr : vx_Run p l e R s m args below meth c H locs cells slots mc ms (F0 m pc ls st0) rest (va_Qv post B A1 a) (vx_X px BX AX) free) (hS : va_S A0 H0 H locs) (hA : ∀ q, q < H.size → A1 q → A0 q) (hf : ∀ q, free q → A0 q) (hAX : ∀ q, q < H.size → AX q → A0 q)
    (kx : ∀ (E : String) (ce : Cell) (q9 : Addr) (u : SX) (t : State) (H1 : Heap) (locs1 : List Loc), t.heap = H1 → s.vm.Alike t.vm → px u → BX E u t → H.size ≤ H1.size → (∀ q : Nat, q < H.size → ¬ AX q → H1[q]? = H[q]?) → va_S A0 H0 H1 locs1 → H1[q9]? = some ce → ce.vm = .none → s.vm.findClass E = some ce.cls → vx_W p l e R s m args below meth c H1 locs1 (cells + mc) (slots + ms) Q (F0 m pc ls rest) q9)
    (kk : ∀ (u : S) (t : State) (H1 : Heap) (locs1 : List Loc), t.heap = H1 → s.vm.Alike t.vm → post u → B u t → H.size ≤ H1.size → (∀ q : Nat, q < H.size → ¬ A1 q → H1[q]? = H[q]?) → va_S A0 H0 H1 locs1 → W p l e R s m args below meth c H1 locs1 (cells + mc) (slots + ms) Q (F0 m (pc + 3) ls (rest))) : W p l e R s m args below meth c H locs cells slots Q (F0 m pc ls st0) := by
  intro T hT X
  rcases hr T hT X with ⟨v, st₀, t, T', L, h0, X', hL, e1, e2, ⟨⟨u, hv, hp, hb⟩, hF⟩, st⟩ | ⟨q, st₀, t, T', L, E, ce, h0, X', hL, e1, e2, ⟨u, hp, hb, hF⟩, hce, hcv, hcl, st⟩
  · cases hv
    obtain ⟨k1, k2, k3⟩ := vx_keep h0 e1 hS hA hf hL hF
    obtain ⟨t2, a1, b1⟩ := kk u t T'.heap (locs ++ L) e1.symm (by rw [← e2]; exact X'.warmed.alike) hp hb k1 k2 k3 T' rfl X'
    exact ⟨t2, st t2 a1, b1⟩
  · obtain ⟨k1, k2, k3⟩ := vx_keep h0 e1 hS hAX hf hL hF
    obtain ⟨t2, a1, b1⟩ := kx E ce q u t T'.heap (locs ++ L) e1.symm (by rw [← e2]; exact X'.warmed.alike) hp hb k1 k2 k3 (by rw [e1]; exact hce) hcv hcl T' rfl X'
    exact ⟨t2, st.trans a1, b1⟩
/-- caught by the row x of this method's table; the rows ahead don't take it -/
theorem vx_catch {own name : String} {E : String} {ce : Cell} {q : Addr} (hown : s.vm.findClass own = some m.cls) (pre : List ExceptionTableEntry) (x : ExceptionTableEntry) (suf : List ExceptionTableEntry) (hsplit : c.exceptionTable.toList = pre ++ x :: suf)
    (hpass : ∀ z ∈ pre, covers z pc = false ∨ (z.catchType ≠ 0 ∧ ∃ nm : String, (Cond.classLink own z.catchType nm).before args s = true ∧ va_Nc E nm s)) (hx : covers x pc = true) (h0 : x.catchType ≠ 0)
    (hlink : (Cond.classLink own x.catchType name).before args s = true) (hcast : (Cond.castable E name).before args s = true) (hcell : H[q]? = some ce) (hv : ce.vm = .none) (hcl : s.vm.findClass E = some ce.cls)
    (kk : W p l e R s m args below meth c H locs cells slots Q (F0 m x.handlerPc ls [.ref q])) : vx_W p l e R s m args below meth c H locs cells slots Q (F0 m pc ls rest) q := by
  intro T hT X
  have hpl : e.platform.magicAccessors = ({} : Platform).magicAccessors := by rw [X.admits.platform]
  obtain ⟨c3, c4, hc3, hc4, hasg⟩ := Cond.castable_spec hcast
  cases Option.some.inj (hc3.symm.trans hcl)
  obtain ⟨c5, hc5, hcl5⟩ := Cond.classLink_spec hown hlink e.platform hpl
  cases Option.some.inj (hc4.symm.trans hc5)
  obtain ⟨vm', X', st⟩ := X.thenCaughtThrough q (g := F0 m pc ls rest) rfl (Steps.refl _) (by rw [hT]; exact hcell) (by rw [hv]; rfl) (by obtain ⟨k9, h9, -⟩ := Vm.findClass_spec hcl; exact ⟨k9, h9⟩) pre x suf hsplit
    (fun z hz => by
      rcases hpass z hz with h | ⟨hz0, nm, hl1, hn1⟩
      · exact Or.inl h
      · obtain ⟨c6, hc6, hcl6⟩ := Cond.classLink_spec hown hl1 e.platform hpl
        obtain ⟨a8, b8, h1, h2, h3⟩ := hn1
        cases Option.some.inj (h1.symm.trans hcl)
        cases Option.some.inj (h2.symm.trans hc6)
        exact Or.inr ⟨hz0, _, hcl6, h3⟩) hx (Or.inr ⟨h0, c4, hcl5, hasg⟩)
  obtain ⟨t, a1, b1⟩ := kk (T.setVm vm') hT X'
  exact ⟨t, st.trans a1, b1⟩
end Rows
section Ends
variable {p : Program} {l : Launch} {e : Env} {R : Room} {s : State} {m : MethodId} {args : Array Value} {below : List Frame} {meth : Method} {c : Code} {H : Heap} {locs : List Loc} {cells slots : Nat} {Q : State → Prop}
variable {mc ms : Nat} {free : Addr → Prop} {A0 A1 : Nat → Prop} {H0 : Heap} {a : Array Value} {ls : Array Slot} {st0 rest : List Value}
variable {Qc : Array Value → State → Outcome → State → Prop} {XC : String → State → State → Prop}
/-- what a body that may throw owes at its end -/
def vx_MQ (below : List Frame) (Qc : Array Value → State → Outcome → State → Prop) (XC : String → State → State → Prop) (a : Array Value) (s : State) (mc ms : Nat) (free : Addr → Prop) : State → Prop := fun t =>
  ∃ o, t.status = .running ∧ Ended t below o ∧ vx_Q Qc XC mc ms free a s o t
theorem vx_ret {g : JFrame} {mc ms : Nat} (k : W p l e R s m args below meth c H locs cells slots (MQ below Qc args s mc ms free) g) : W p l e R s m args below meth c H locs cells slots (vx_MQ below Qc XC args s mc ms free) g := by
  intro T hT X
  obtain ⟨t, a1, o, b1, b2, b3, b4⟩ := k T hT X
  exact ⟨t, a1, o, b1, b2, Or.inl ⟨b3, b4⟩⟩
/-- not caught here: it goes on to the caller -/
theorem vx_widen {g : JFrame} {q : Addr} {k n : Nat} (h1 : cells ≤ k) (h2 : slots ≤ n) (kk : vx_W p l e R s m args below meth c H locs k n Q g q) : vx_W p l e R s m args below meth c H locs cells slots Q g q := fun T hT X => kk T hT (stand_widen X h1 h2)
theorem vx_out {pc : Nat} {E : String} {ce : Cell} {q : Addr} {mc ms : Nat} (hout : ∀ x ∈ c.exceptionTable.toList, covers x pc = false) (hlocks : meth.locks = false) (hcell : H[q]? = some ce) (hv : ce.vm = .none) (hcl : s.vm.findClass E = some ce.cls)
    (hx : ∀ t : State, t.heap = H → s.vm.Alike t.vm → XC E s t) (hf : ∀ z ∈ locs, free z.base) (hc : cells ≤ mc) (hs : slots ≤ ms) :
    vx_W p l e R s m args below meth c H locs cells slots (vx_MQ below Qc XC args s mc ms free) (F0 m pc ls rest) q := by
  intro T hT X
  obtain ⟨st1, hrun, hend, hW, hsm⟩ := X.leaveThrown q (g := F0 m pc ls rest) rfl rfl rfl hout hlocks
  have hcell9 : (T.setFrames (.throwing q :: below)).heap[q]? = some ce := by
    show T.heap[q]? = some ce
    rw [hT]; exact hcell
  exact ⟨_, st1, .threw q, hrun, hend, Or.inr ⟨q, rfl, E, ce, locs, hx _ hT hW.alike, hcell9, hv, hcl, hW, hsm.mono hc hs, hf⟩⟩
theorem vx_frame {U : State} {k n : Nat} (h : s.sameButNew ({ U with vm := s.vm } : State) locs k n) : s.heap.size ≤ U.heap.size ∧ ∀ q : Nat, q < s.heap.size → (∀ z ∈ locs, z.base ≠ q) → U.heap[q]? = s.heap[q]? := by
  obtain ⟨-, h2, -, -, -, h6⟩ := h
  refine ⟨h2, fun q hq hz => ?_⟩
  obtain ⟨c9, e1, e2, e3, e4⟩ := h6 q _ (Array.getElem?_eq_getElem hq)
  have hs : c9.slots = (s.heap[q]).slots := Array.ext_getElem? fun i => e4 i fun hm => hz _ hm rfl
  have h9 : c9 = s.heap[q] := by
    rw [hs] at e2
    exact e2
  have e5 : U.heap[q]? = some c9 := e1
  rw [e5, h9, Array.getElem?_eq_getElem hq]
/-- the words of a throw but the four that speak of the heap -/
def vx_no (w : Cond) : Bool := decide (w ≠ .isRef (.static Bundle.tN "UNASSIGNED_STACK" Bundle.steD)) && decide (w ≠ .isRef (.static Bundle.tN "SUPPRESSED_SENTINEL" Bundle.listD)) && decide (w ≠ .laysStatic Bundle.tN "UNASSIGNED_STACK" Bundle.steD) && decide (w ≠ .laysStatic Bundle.tN "SUPPRESSED_SENTINEL" Bundle.listD)
def vx_at0 (own : String) (ic : Nat) (X : String) (names : List String) : List Cond := (Bundle.ownAtoms0 own ic X names).filter vx_no
def vx_atS (own : String) (ic : Nat) (X : String) (names : List String) : List Cond := (Bundle.ownAtoms own ic X names).filter vx_no
/-- a word that the tables alone decide, or a good one -/
def vx_ot (w : Cond) : Bool := w.onTables || goodWord w
theorem vx_ot_at {args a' : Array Value} {s U : State} {w : Cond} (hW : s.WarmedH U.vm) (hvm : s.vm = U.vm) (hg : vx_ot w = true) (h : w.before args s = true) : w.before a' U = true := by
  simp only [vx_ot, Bool.or_eq_true] at hg
  rcases hg with hg | hg
  · exact va_tabs hg hvm h
  · exact word_at hW (good_of_word hg) h
/-- a list's words: the good ones out of the method's own list, the others by premises of their own -/
theorem vx_hat {args : Array Value} {s : State} {L B : List Cond} (h1 : ∀ w ∈ L.filter goodWord, w.before args s = true) (h2 : ∀ w ∈ L.filter (fun w => !goodWord w), w ∈ B) (h3 : ∀ w ∈ B, w.before args s = true) : ∀ w ∈ L, w.before args s = true := by
  intro w hw
  by_cases g : goodWord w = true
  · exact h1 w (List.mem_filter.mpr ⟨hw, g⟩)
  · refine h3 w (h2 w (List.mem_filter.mpr ⟨hw, ?_⟩))
    show (!goodWord w) = true
    cases hgw : goodWord w
    · rfl
    · exact absurd hgw g
theorem vx_c {args : Array Value} {s : State} {w : Cond} {B : List Cond} (h : w.before args s = true) (t : ∀ w ∈ B, w.before args s = true) : ∀ w' ∈ w :: B, w'.before args s = true := fun w' h' => (List.mem_cons.mp h').elim (fun e => by rw [e]; exact h) (t w')
theorem vx_n {args : Array Value} {s : State} : ∀ w ∈ ([] : List Cond), w.before args s = true := fun _ h => nomatch h
theorem vx_own {args : Array Value} {s : State} {L : List Cond} (h1 : ∀ w ∈ L.filter vx_no, w.before args s = true)
    (hU : (Cond.isRef (.static Bundle.tN "UNASSIGNED_STACK" Bundle.steD)).before args s = true) (hN : (Cond.isRef (.static Bundle.tN "SUPPRESSED_SENTINEL" Bundle.listD)).before args s = true)
    (lU : (Cond.laysStatic Bundle.tN "UNASSIGNED_STACK" Bundle.steD).before args s = true) (lN : (Cond.laysStatic Bundle.tN "SUPPRESSED_SENTINEL" Bundle.listD).before args s = true) : ∀ w ∈ L, w.before args s = true := by
  intro w hw
  by_cases e1 : w = .isRef (.static Bundle.tN "UNASSIGNED_STACK" Bundle.steD)
  · rw [e1]; exact hU
  · by_cases e2 : w = .isRef (.static Bundle.tN "SUPPRESSED_SENTINEL" Bundle.listD)
    · rw [e2]; exact hN
    · by_cases e3 : w = .laysStatic Bundle.tN "UNASSIGNED_STACK" Bundle.steD
      · rw [e3]; exact lU
      · by_cases e4 : w = .laysStatic Bundle.tN "SUPPRESSED_SENTINEL" Bundle.listD
        · rw [e4]; exact lN
        · exact h1 w (List.mem_filter.mpr ⟨hw, by unfold vx_no; rw [decide_eq_true e1, decide_eq_true e2, decide_eq_true e3, decide_eq_true e4]; rfl⟩)
/-- where a static field lies, its class's statics cell in H -/
def vx_L (C n d : String) (A : Nat → Prop) (U : State) (H : Heap) : Prop := ∃ (c : ClassId) (k : Class) (i : Nat) (f : Field) (a : Nat) (cell : Cell), U.vm.findClass C = some c ∧ U.fieldFound? C n d = some (c, k, i, f) ∧ f.isStatic = true ∧ k.statics = some a ∧ H[a]? = some cell ∧ cell.vm.isStatics = true ∧ cell.cls = c ∧ f.slot < cell.slots.size ∧ k.staticTypes[f.slot]? = some f.type ∧ ¬ A a
theorem vx_L.moved {C n d : String} {A : Nat → Prop} {u U : State} {H : Heap} (hvm : u.vm.Alike U.vm) (h : vx_L C n d A u H) : vx_L C n d A U H := by
  obtain ⟨c, k, i, f, a, cell, h1, h2, h3, h4, h5, h6, h7, h8, h9, h10⟩ := h
  obtain ⟨k', hi', he⟩ := State.fieldFound?_setVm hvm h2
  exact ⟨c, k', i, f, a, cell, by rw [hvm.findClass]; exact h1, hi', h3, by rw [he]; exact h4, h5, h6, h7, h8, by rw [he]; exact h9, h10⟩
theorem vx_L.kept {C n d : String} {A : Nat → Prop} {U : State} {H H1 : Heap} (h : vx_L C n d A U H) (hq : ∀ a : Nat, a < H.size → ¬ A a → H1[a]? = H[a]?) : vx_L C n d A U H1 := by
  obtain ⟨c, k, i, f, a, cell, h1, h2, h3, h4, h5, h6, h7, h8, h9, h10⟩ := h
  exact ⟨c, k, i, f, a, cell, h1, h2, h3, h4, by rw [hq a (Array.getElem?_eq_some_iff.mp h5).1 h10]; exact h5, h6, h7, h8, h9, h10⟩
theorem vx_L.narrow {C n d : String} {A B : Nat → Prop} {U : State} {H : Heap} (h : vx_L C n d A U H) (hAB : ∀ q, B q → A q) : vx_L C n d B U H := by
  obtain ⟨c, k, i, f, a, cell, h1, h2, h3, h4, h5, h6, h7, h8, h9, h10⟩ := h
  exact ⟨c, k, i, f, a, cell, h1, h2, h3, h4, h5, h6, h7, h8, h9, fun z => h10 (hAB _ z)⟩
theorem vx_L.word {C n d : String} {A : Nat → Prop} {s : State} {args : Array Value} (h : vx_L C n d A s s.heap) : (Cond.laysStatic C n d).before args s = true := by
  obtain ⟨c, k, i, f, a, cell, h1, h2, h3, h4, h5, h6, h7, h8, h9, -⟩ := h
  show (Cond.laysStatic C n d).holds args s none s [] = true
  exact Cond.laysStatic_of h1 h2 h3 h4 h5 h6 h7 h8 h9
/-- .. and what it holds: null or some reference -/
def vx_Zq (C n d : String) (A : Nat → Prop) (U : State) (H : Heap) : Prop := va_Zq C n d A U H ∧ vx_L C n d A U H
theorem vx_Zq.moved {C n d : String} {A : Nat → Prop} {u U : State} {H : Heap} (hvm : u.vm.Alike U.vm) (h : vx_Zq C n d A u H) : vx_Zq C n d A U H := ⟨va_Zq.moved hvm h.1, vx_L.moved hvm h.2⟩
theorem vx_Zq.kept {C n d : String} {A : Nat → Prop} {U : State} {H H1 : Heap} (h : vx_Zq C n d A U H) (hq : ∀ a : Nat, a < H.size → ¬ A a → H1[a]? = H[a]?) : vx_Zq C n d A U H1 := ⟨va_Zq.kept h.1 hq, vx_L.kept h.2 hq⟩
theorem vx_Zq.narrow {C n d : String} {A B : Nat → Prop} {U : State} {H : Heap} (h : vx_Zq C n d A U H) (hAB : ∀ q, B q → A q) : vx_Zq C n d B U H := ⟨va_Zq.narrow h.1 hAB, vx_L.narrow h.2 hAB⟩
theorem vx_Zqof {args : Array Value} {s : State} {C n d : String} {A : Nat → Prop} (hl : (Cond.laysStatic C n d).before args s = true) (hini : (Cond.initialized C).before args s = true) (h : (Cond.isRef (.static C n d)).before args s = true) (hA : ∀ a : Nat, a < s.heap.size → ¬ A a) : vx_Zq C n d A s s.heap := by
  refine ⟨va_Zqof hl hini h hA, ?_⟩
  obtain ⟨c, k, i, f, a, cell, h1, h2, h3, h4, h5, h6, h7, h8, h9⟩ := Cond.laysStatic_spec hl
  exact ⟨c, k, i, f, a, cell, h1, h2, h3, h4, h5, h6, h7, h8, h9, hA a (Array.getElem?_eq_some_iff.mp h5).1⟩
theorem vx_isRef {C n d : String} {v : Value} {A : Nat → Prop} {s : State} {args : Array Value} (h : va_Z C n d v A s s.heap) (hv : v.isRef = true) : (Cond.isRef (.static C n d)).before args s = true := by
  obtain ⟨cf, kf, fi, f, a, cell, h1, h2, h3, h4, h5, h6, h7, -⟩ := h
  have he : (Term.static C n d).eval args s none [] s = some v := by
    simp [Term.eval, State.fieldNamed?, h1, h2, h4, h5, h6, h7]
  simp only [Cond.before, Cond.holds, Cond.value, he]
  cases v <;> simp_all [Value.isRef]
theorem vx_isRefq {C n d : String} {A : Nat → Prop} {s : State} {args : Array Value} (h : va_Zq C n d A s s.heap) : (Cond.isRef (.static C n d)).before args s = true := by
  rcases h with h | ⟨t, h⟩
  · exact vx_isRef h rfl
  · exact vx_isRef h rfl
/-- the same frame, seen from here: as if the method were called anew in this heap -/
theorem vx_rebase {T : State} (X : Stand p l e R s m args below meth c T locs cells slots) {R' : Room} (hf : R'.frames ≤ R.frames) (hl : R'.locals ≤ R.locals) (hc : cells + R'.cells ≤ R.cells) (hs : slots + R'.slots ≤ R.slots) :
    Stand p l e R' ((T.setVm s.vm).setFrames (.invoking m args :: below)) m args below meth c T [] 0 0 := by
  have htop : (T.setVm s.vm).topJava?.isSome := X.here.top
  have hF : ((T.setVm s.vm).setFrames (.invoking m args :: below)).frames = .invoking m args :: below := State.frames_setFrames _ (State.cur_lt_of_top htop)
  obtain ⟨g₀, hg0⟩ := Option.isSome_iff_exists.mp htop
  obtain ⟨r, hr⟩ := State.topJava?_eq_some.mp hg0
  have hl9 : e.platform.stackLimits (T.setVm s.vm).me = e.platform.stackLimits s.me := X.limits
  have hb9 : (T.setVm s.vm).me.stackBytes = s.me.stackBytes := X.bytes
  refine ⟨X.admits, X.cas, X.clock, hF, ?_, X.hears, X.method, X.code, X.here, X.tail, X.warmed, ?_, ?_, ?_⟩
  · have h := X.room
    have hU : ((T.setVm s.vm).setFrames (.invoking m args :: below)).localsInUse = s.localsInUse := by
      rw [State.localsInUse_invoking hF (meth := meth) (c := c) X.method X.code, State.localsInUse_invoking X.frames X.method X.code]
    simp only [State.hasRoom, Bool.and_eq_true, decide_eq_true_eq] at h ⊢
    obtain ⟨⟨⟨⟨h1, h2, h3, h4, h5, h6⟩, h7⟩, h8⟩, h9⟩ := h
    rw [X.frames, List.length_cons] at h2 h3
    have q1 := X.heapSize
    have q2 := X.used
    simp only [hF, hU, List.length_cons, State.stackLimits_setFrames, State.stackBytes_setFrames, hl9, hb9]
    refine ⟨⟨⟨⟨by omega, by omega, by omega, by omega, by omega, h6⟩, ?_⟩, ?_⟩, X.book⟩
    · show T.heap.size + R'.cells ≤ e.platform.maxCells
      omega
    · show T.slotsUsed + R'.slots ≤ e.platform.maxSlots
      omega
  · rw [State.stackLimits_setFrames]; rfl
  · rw [State.stackBytes_setFrames]; rfl
  · refine ⟨?_, Nat.le_refl _, Nat.le_refl _, ?_, ?_, fun a c9 h9 => ⟨c9, h9, rfl, rfl, fun _ _ => rfl⟩⟩
    · obtain ⟨t, ht, -⟩ := State.frames_cons hr
      show T.setVm s.vm = { ((T.setVm s.vm).setFrames (.invoking m args :: below)).setFrames (T.setVm s.vm).frames with heap := T.heap, slotsUsed := T.slotsUsed }
      rw [State.setFrames_setFrames, State.setFrames_self ht]
      rfl
    · show T.slotsUsed = T.slotsUsed + ((T.heap.toList.drop T.heap.size).map (·.slots.size)).sum
      rw [List.drop_eq_nil_of_le (Nat.le_of_eq Array.length_toList)]
      rfl
    · show ((T.heap.toList.drop T.heap.size).map (·.slots.size)).sum ≤ 0
      rw [List.drop_eq_nil_of_le (Nat.le_of_eq Array.length_toList)]
      exact Nat.le_refl _
/-- 'throw new E()': new; dup; invokespecial; athrow -/
theorem vx_throw0 {cc : ByteArray} {pc : Nat} (hexec : p.tables.exec = Jvm.exec) (hb : c.code = cc) (hl : l.stackTraces = false) {own cls : String} {names : List String} {ik ic mc ms : Nat} {A : Nat → Prop}
    (hown : s.vm.findClass own = some m.cls) (hcls : Bundle.fit cls = true) (hnames : ∀ n ∈ names, Bundle.fit n = true)
    (hk : (Cond.classLink own ik cls).before args s = true) (hini : (Cond.initialized cls).before args s = true) (hat : ∀ w ∈ vx_at0 own ic cls names, w.before args s = true)
    (hgood : ∀ w ∈ Cond.classLink own ik cls :: Cond.initialized cls :: vx_at0 own ic cls names, vx_ot w = true)
    (hU : vx_Zq Bundle.tN "UNASSIGNED_STACK" Bundle.steD A s s.heap) (hN : vx_Zq Bundle.tN "SUPPRESSED_SENTINEL" Bundle.listD A s s.heap) (hS : va_S A s.heap H locs) (hsize : ls.size = c.maxLocals)
    (d0 : decode cc pc = .ok (.new ik, 3)) (d3 : decode cc (pc + 3) = .ok (.dup, 1)) (d4 : decode cc (pc + 4) = .ok (.invokespecial ic, 3)) (d7 : decode cc (pc + 7) = .ok (.athrow, 1))
    (hout : ∀ x ∈ c.exceptionTable.toList, covers x (pc + 7) = false)
    (hRframes : names.length + 3 < R.frames) (hRlocals : (rest.map fun v => v.category).sum + (13 * (names.length + 1) + 42) ≤ R.locals) (hRcells : cells + 1 ≤ R.cells) (hRslots : slots + 6 ≤ R.slots) (hlocks : meth.locks = false)
    (hx : ∀ t : State, s.vm.Alike t.vm → H.size ≤ t.heap.size → (∀ q : Nat, q < H.size → t.heap[q]? = H[q]?) → XC cls s t)
    (hf : ∀ z ∈ locs, free z.base) (hc : cells + 1 ≤ mc) (hs : slots + 6 ≤ ms) :
    W p l e R s m args below meth c H locs cells slots (vx_MQ below Qc XC args s mc ms free) (F0 m pc ls rest) := by
  intro T hT X
  have htr : e.platform.stackTraces = false := (show e.platform.stackTraces = l.stackTraces by rw [X.admits.platform]).trans hl
  have Y := vx_rebase X (R' := { frames := R.frames, locals := R.locals, cells := 1, slots := 6 }) (Nat.le_refl _) (Nat.le_refl _) hRcells hRslots
  obtain ⟨s', hA⟩ : ∃ z, z = (T.setVm s.vm).setFrames (.invoking m args :: below) := ⟨_, rfl⟩
  rw [← hA] at Y
  have hvm : s'.vm = s.vm := by rw [hA]; rfl
  have hhp : s'.heap = H := by rw [hA]; exact hT
  have hW0 : s.WarmedH s'.vm := by rw [hvm]; exact State.WarmedH.refl s
  have hat' : ∀ w ∈ vx_at0 own ic cls names, w.before args s' = true := fun w hw => vx_ot_at hW0 hvm.symm (hgood w (List.mem_cons_of_mem _ (List.mem_cons_of_mem _ hw))) (hat w hw)
  have hk' : (Cond.classLink own ik cls).before args s' = true := vx_ot_at hW0 hvm.symm (hgood _ List.mem_cons_self) hk
  have hini' : (Cond.initialized cls).before args s' = true := vx_ot_at hW0 hvm.symm (hgood _ (List.mem_cons_of_mem _ List.mem_cons_self)) hini
  have hU' : vx_Zq Bundle.tN "UNASSIGNED_STACK" Bundle.steD A s' s'.heap := by rw [hhp]; exact vx_Zq.moved hW0.alike (hU.kept hS.2.1)
  have hN' : vx_Zq Bundle.tN "SUPPRESSED_SENTINEL" Bundle.listD A s' s'.heap := by rw [hhp]; exact vx_Zq.moved hW0.alike (hN.kept hS.2.1)
  have h : ∀ w ∈ Bundle.ownAtoms0 own ic cls names, w.before args s' = true := vx_own hat' (vx_isRefq hU'.1) (vx_isRefq hN'.1) hU'.2.word hN'.2.word
  have hown' : s'.vm.findClass own = some m.cls := by rw [hvm]; exact hown
  have hins : (Cond.instantiable cls 6).before args s' = true := h _ (by simp [Bundle.ownAtoms0])
  obtain ⟨vm₁, cX, kX, hfX, hkX, -, -, X₁, st1⟩ := Y.newCold hexec (own := own) (C := cls) (index := ik) (n := 6) hown' hk' hins hini'
    (g := F0 m pc ls rest) rfl (by rw [hb]; exact d0) (Nat.le_refl _) (Nat.le_refl _)
  generalize hT1 : (T.setVm vm₁).pushCell { cls := cX, slots := kX.instanceTypes.map defaultValue, vm := .none } = T1 at X₁ st1
  have hcat : (Value.ref T.heap.size).category = 1 := rfl
  have hcellA : T1.heap[T.heap.size]? = some (freshCell cX kX) := by rw [← hT1]; exact State.heap_pushCell_size _ _
  have d3' : decode c.code (pc + 3) = .ok (.dup, 1) := by rw [hb]; exact d3
  obtain ⟨U, hsteps, hrun, hend, hW, hsame, ce, hce, hO⟩ := X₁.ctorThrow0 hexec htr (own := own) (cls := cls) (names := names) (ic := ic) hown' hcls hnames h (fun x hx => nomatch hx) hfX hkX hcellA (by rw [hhp, hT]; exact Nat.le_refl _)
    (g := { method := m, pc := pc + 4, locals := ls, stack := .ref T.heap.size :: .ref T.heap.size :: rest, locked := none }) rfl hsize rfl rfl (rest := rest) rfl
    (by rw [hb]; exact d4) (by rw [hb]; exact d7) hout hRframes (by simp only [List.map_cons, List.sum_cons, hcat]; omega) hlocks
  obtain ⟨f1, f2⟩ := vx_frame hsame
  rw [hhp] at f1 f2
  have hWs : s.WarmedH U.vm := State.WarmedH.trans hW0 hW
  have hcl : s.vm.findClass cls = some ce.cls := by
    have h9 := hO.cls
    rw [hvm] at h9
    exact h9
  have hall : s.sameButNew ({ U with vm := s.vm } : State) locs mc ms := by
    subst hA
    obtain ⟨e1, e2⟩ := hsame
    rw [State.setFrames_setFrames] at e1
    have h2 : (T.setVm s.vm).sameButNew ({ U with vm := s.vm } : State) [] (0 + 1) (0 + 6) := ⟨e1, e2⟩
    have h3 := X.same.trans h2
    rw [List.append_nil] at h3
    exact h3.mono hc hs
  refine ⟨U, ?_, .threw T.heap.size, hrun, hend, Or.inr ⟨T.heap.size, rfl, cls, ce, locs, hx U hWs.alike f1 (fun q hq => f2 q hq (fun z hz => nomatch hz)), hce, hO.vm, hcl, hWs, hall, hf⟩⟩
  refine st1 _ ?_
  show Steps p.tables e below (T1.setTop { method := m, pc := pc + 3, locals := ls, stack := .ref T.heap.size :: rest, locked := none }) _
  jvm_step X₁.here [X₁.here.top, hexec, d3', Value.category]
  exact hsteps
/-- 'throw new E("text")': new; dup; ldc; invokespecial; athrow -/
theorem vx_throwS {cc : ByteArray} {pc : Nat} (hexec : p.tables.exec = Jvm.exec) (hb : c.code = cc) (hl : l.stackTraces = false) {own cls text : String} {names : List String} {ik is ic mc ms sa : Nat} {A : Nat → Prop}
    (hown : s.vm.findClass own = some m.cls) (hcls : Bundle.fit cls = true) (hnames : ∀ n ∈ names, Bundle.fit n = true)
    (hk : (Cond.classLink own ik cls).before args s = true) (hini : (Cond.initialized cls).before args s = true) (hstr : vk_R own is text sa s) (hat : ∀ w ∈ vx_atS own ic cls names, w.before args s = true)
    (hgood : ∀ w ∈ Cond.classLink own ik cls :: Cond.initialized cls :: vx_atS own ic cls names, vx_ot w = true)
    (hU : vx_Zq Bundle.tN "UNASSIGNED_STACK" Bundle.steD A s s.heap) (hN : vx_Zq Bundle.tN "SUPPRESSED_SENTINEL" Bundle.listD A s s.heap) (hS : va_S A s.heap H locs) (hsize : ls.size = c.maxLocals)
    (d0 : decode cc pc = .ok (.new ik, 3)) (d3 : decode cc (pc + 3) = .ok (.dup, 1)) (d4 : decode cc (pc + 4) = .ok (.ldc is, 2)) (d6 : decode cc (pc + 6) = .ok (.invokespecial ic, 3)) (d9 : decode cc (pc + 9) = .ok (.athrow, 1))
    (hout : ∀ x ∈ c.exceptionTable.toList, covers x (pc + 9) = false)
    (hRframes : names.length + 3 < R.frames) (hRlocals : (rest.map fun v => v.category).sum + (13 * (names.length + 1) + 43) ≤ R.locals) (hRcells : cells + 1 ≤ R.cells) (hRslots : slots + 6 ≤ R.slots) (hlocks : meth.locks = false)
    (hx : ∀ t : State, s.vm.Alike t.vm → H.size ≤ t.heap.size → (∀ q : Nat, q < H.size → t.heap[q]? = H[q]?) → XC cls s t)
    (hf : ∀ z ∈ locs, free z.base) (hc : cells + 1 ≤ mc) (hs : slots + 6 ≤ ms) :
    W p l e R s m args below meth c H locs cells slots (vx_MQ below Qc XC args s mc ms free) (F0 m pc ls rest) := by
  intro T hT X
  have htr : e.platform.stackTraces = false := (show e.platform.stackTraces = l.stackTraces by rw [X.admits.platform]).trans hl
  have Y := vx_rebase X (R' := { frames := R.frames, locals := R.locals, cells := 1, slots := 6 }) (Nat.le_refl _) (Nat.le_refl _) hRcells hRslots
  obtain ⟨s', hA⟩ : ∃ z, z = (T.setVm s.vm).setFrames (.invoking m args :: below) := ⟨_, rfl⟩
  rw [← hA] at Y
  have hvm : s'.vm = s.vm := by rw [hA]; rfl
  have hhp : s'.heap = H := by rw [hA]; exact hT
  have hW0 : s.WarmedH s'.vm := by rw [hvm]; exact State.WarmedH.refl s
  have hat' : ∀ w ∈ vx_atS own ic cls names, w.before args s' = true := fun w hw => vx_ot_at hW0 hvm.symm (hgood w (List.mem_cons_of_mem _ (List.mem_cons_of_mem _ hw))) (hat w hw)
  have hk' : (Cond.classLink own ik cls).before args s' = true := vx_ot_at hW0 hvm.symm (hgood _ List.mem_cons_self) hk
  have hini' : (Cond.initialized cls).before args s' = true := vx_ot_at hW0 hvm.symm (hgood _ (List.mem_cons_of_mem _ List.mem_cons_self)) hini
  have hU' : vx_Zq Bundle.tN "UNASSIGNED_STACK" Bundle.steD A s' s'.heap := by rw [hhp]; exact vx_Zq.moved hW0.alike (hU.kept hS.2.1)
  have hN' : vx_Zq Bundle.tN "SUPPRESSED_SENTINEL" Bundle.listD A s' s'.heap := by rw [hhp]; exact vx_Zq.moved hW0.alike (hN.kept hS.2.1)
  have h : ∀ w ∈ Bundle.ownAtoms own ic cls names, w.before args s' = true := vx_own hat' (vx_isRefq hU'.1) (vx_isRefq hN'.1) hU'.2.word hN'.2.word
  have hown' : s'.vm.findClass own = some m.cls := by rw [hvm]; exact hown
  have hins : (Cond.instantiable cls 6).before args s' = true := h _ (by simp [Bundle.ownAtoms])
  obtain ⟨vm₁, cX, kX, hfX, hkX, -, -, X₁, st1⟩ := Y.newCold hexec (own := own) (C := cls) (index := ik) (n := 6) hown' hk' hins hini'
    (g := F0 m pc ls rest) rfl (by rw [hb]; exact d0) (Nat.le_refl _) (Nat.le_refl _)
  generalize hT1 : (T.setVm vm₁).pushCell { cls := cX, slots := kX.instanceTypes.map defaultValue, vm := .none } = T1 at X₁ st1
  have hcat : (Value.ref T.heap.size).category = 1 := rfl
  have hcellA : T1.heap[T.heap.size]? = some (freshCell cX kX) := by rw [← hT1]; exact State.heap_pushCell_size _ _
  have d3' : decode c.code (pc + 3) = .ok (.dup, 1) := by rw [hb]; exact d3
  have d4' : decode c.code (pc + 4) = .ok (.ldc is, 2) := by rw [hb]; exact d4
  have hstr' : vk_R own is text sa s' := vk_R.warm hW0 hstr
  obtain ⟨U, hsteps, hrun, hend, hW, hsame, ce, hce, hO⟩ := X₁.ctorThrowS hexec htr (own := own) (cls := cls) (names := names) (ic := ic) hown' hcls hnames h (fun x hx => nomatch hx) hfX hkX hcellA (by rw [hhp, hT]; exact Nat.le_refl _) (msg := .ref sa) rfl
    (g := { method := m, pc := pc + 6, locals := ls, stack := .ref sa :: .ref T.heap.size :: .ref T.heap.size :: rest, locked := none }) rfl hsize rfl rfl (rest := rest) rfl
    (by rw [hb]; exact d6) (by rw [hb]; exact d9) hout hRframes (by simp only [List.map_cons, List.sum_cons, hcat]; omega) hlocks
  obtain ⟨f1, f2⟩ := vx_frame hsame
  rw [hhp] at f1 f2
  have hWs : s.WarmedH U.vm := State.WarmedH.trans hW0 hW
  have hcl : s.vm.findClass cls = some ce.cls := by
    have h9 := hO.cls
    rw [hvm] at h9
    exact h9
  have hall : s.sameButNew ({ U with vm := s.vm } : State) locs mc ms := by
    subst hA
    obtain ⟨e1, e2⟩ := hsame
    rw [State.setFrames_setFrames] at e1
    have h2 : (T.setVm s.vm).sameButNew ({ U with vm := s.vm } : State) [] (0 + 1) (0 + 6) := ⟨e1, e2⟩
    have h3 := X.same.trans h2
    rw [List.append_nil] at h3
    exact h3.mono hc hs
  refine ⟨U, ?_, .threw T.heap.size, hrun, hend, Or.inr ⟨T.heap.size, rfl, cls, ce, locs, hx U hWs.alike f1 (fun q hq => f2 q hq (fun z hz => nomatch hz)), hce, hO.vm, hcl, hWs, hall, hf⟩⟩
  refine st1 _ ?_
  show Steps p.tables e below (T1.setTop { method := m, pc := pc + 3, locals := ls, stack := .ref T.heap.size :: rest, locked := none }) _
  jvm_step X₁.here [X₁.here.top, hexec, d3', Value.category]
  exact X₁.ldcString hexec (own := own) (text := text) (index := is) (a := sa) hown' hstr'.1 hstr'.2
    (g := { method := m, pc := pc + 4, locals := ls, stack := .ref T.heap.size :: .ref T.heap.size :: rest, locked := none }) rfl d4' _ hsteps
/-- 'throw new E("text")', the text by a wide index -/
theorem vx_throwSW {cc : ByteArray} {pc : Nat} (hexec : p.tables.exec = Jvm.exec) (hb : c.code = cc) (hl : l.stackTraces = false) {own cls text : String} {names : List String} {ik is ic mc ms sa : Nat} {A : Nat → Prop}
    (hown : s.vm.findClass own = some m.cls) (hcls : Bundle.fit cls = true) (hnames : ∀ n ∈ names, Bundle.fit n = true)
    (hk : (Cond.classLink own ik cls).before args s = true) (hini : (Cond.initialized cls).before args s = true) (hstr : vk_R own is text sa s) (hat : ∀ w ∈ vx_atS own ic cls names, w.before args s = true)
    (hgood : ∀ w ∈ Cond.classLink own ik cls :: Cond.initialized cls :: vx_atS own ic cls names, vx_ot w = true)
    (hU : vx_Zq Bundle.tN "UNASSIGNED_STACK" Bundle.steD A s s.heap) (hN : vx_Zq Bundle.tN "SUPPRESSED_SENTINEL" Bundle.listD A s s.heap) (hS : va_S A s.heap H locs) (hsize : ls.size = c.maxLocals)
    (d0 : decode cc pc = .ok (.new ik, 3)) (d3 : decode cc (pc + 3) = .ok (.dup, 1)) (d4 : decode cc (pc + 4) = .ok (.ldc_w is, 3)) (d7 : decode cc (pc + 7) = .ok (.invokespecial ic, 3)) (d10 : decode cc (pc + 10) = .ok (.athrow, 1))
    (hout : ∀ x ∈ c.exceptionTable.toList, covers x (pc + 10) = false)
    (hRframes : names.length + 3 < R.frames) (hRlocals : (rest.map fun v => v.category).sum + (13 * (names.length + 1) + 43) ≤ R.locals) (hRcells : cells + 1 ≤ R.cells) (hRslots : slots + 6 ≤ R.slots) (hlocks : meth.locks = false)
    (hx : ∀ t : State, s.vm.Alike t.vm → H.size ≤ t.heap.size → (∀ q : Nat, q < H.size → t.heap[q]? = H[q]?) → XC cls s t)
    (hf : ∀ z ∈ locs, free z.base) (hc : cells + 1 ≤ mc) (hs : slots + 6 ≤ ms) :
    W p l e R s m args below meth c H locs cells slots (vx_MQ below Qc XC args s mc ms free) (F0 m pc ls rest) := by
  intro T hT X
  have htr : e.platform.stackTraces = false := (show e.platform.stackTraces = l.stackTraces by rw [X.admits.platform]).trans hl
  have Y := vx_rebase X (R' := { frames := R.frames, locals := R.locals, cells := 1, slots := 6 }) (Nat.le_refl _) (Nat.le_refl _) hRcells hRslots
  obtain ⟨s', hA⟩ : ∃ z, z = (T.setVm s.vm).setFrames (.invoking m args :: below) := ⟨_, rfl⟩
  rw [← hA] at Y
  have hvm : s'.vm = s.vm := by rw [hA]; rfl
  have hhp : s'.heap = H := by rw [hA]; exact hT
  have hW0 : s.WarmedH s'.vm := by rw [hvm]; exact State.WarmedH.refl s
  have hat' : ∀ w ∈ vx_atS own ic cls names, w.before args s' = true := fun w hw => vx_ot_at hW0 hvm.symm (hgood w (List.mem_cons_of_mem _ (List.mem_cons_of_mem _ hw))) (hat w hw)
  have hk' : (Cond.classLink own ik cls).before args s' = true := vx_ot_at hW0 hvm.symm (hgood _ List.mem_cons_self) hk
  have hini' : (Cond.initialized cls).before args s' = true := vx_ot_at hW0 hvm.symm (hgood _ (List.mem_cons_of_mem _ List.mem_cons_self)) hini
  have hU' : vx_Zq Bundle.tN "UNASSIGNED_STACK" Bundle.steD A s' s'.heap := by rw [hhp]; exact vx_Zq.moved hW0.alike (hU.kept hS.2.1)
  have hN' : vx_Zq Bundle.tN "SUPPRESSED_SENTINEL" Bundle.listD A s' s'.heap := by rw [hhp]; exact vx_Zq.moved hW0.alike (hN.kept hS.2.1)
  have h : ∀ w ∈ Bundle.ownAtoms own ic cls names, w.before args s' = true := vx_own hat' (vx_isRefq hU'.1) (vx_isRefq hN'.1) hU'.2.word hN'.2.word
  have hown' : s'.vm.findClass own = some m.cls := by rw [hvm]; exact hown
  have hins : (Cond.instantiable cls 6).before args s' = true := h _ (by simp [Bundle.ownAtoms])
  obtain ⟨vm₁, cX, kX, hfX, hkX, -, -, X₁, st1⟩ := Y.newCold hexec (own := own) (C := cls) (index := ik) (n := 6) hown' hk' hins hini'
    (g := F0 m pc ls rest) rfl (by rw [hb]; exact d0) (Nat.le_refl _) (Nat.le_refl _)
  generalize hT1 : (T.setVm vm₁).pushCell { cls := cX, slots := kX.instanceTypes.map defaultValue, vm := .none } = T1 at X₁ st1
  have hcat : (Value.ref T.heap.size).category = 1 := rfl
  have hcellA : T1.heap[T.heap.size]? = some (freshCell cX kX) := by rw [← hT1]; exact State.heap_pushCell_size _ _
  have d3' : decode c.code (pc + 3) = .ok (.dup, 1) := by rw [hb]; exact d3
  have d4' : decode c.code (pc + 4) = .ok (.ldc_w is, 3) := by rw [hb]; exact d4
  have hstr' : vk_R own is text sa s' := vk_R.warm hW0 hstr
  obtain ⟨U, hsteps, hrun, hend, hW, hsame, ce, hce, hO⟩ := X₁.ctorThrowS hexec htr (own := own) (cls := cls) (names := names) (ic := ic) hown' hcls hnames h (fun x hx => nomatch hx) hfX hkX hcellA (by rw [hhp, hT]; exact Nat.le_refl _) (msg := .ref sa) rfl
    (g := { method := m, pc := pc + 7, locals := ls, stack := .ref sa :: .ref T.heap.size :: .ref T.heap.size :: rest, locked := none }) rfl hsize rfl rfl (rest := rest) rfl
    (by rw [hb]; exact d7) (by rw [hb]; exact d10) hout hRframes (by simp only [List.map_cons, List.sum_cons, hcat]; omega) hlocks
  obtain ⟨f1, f2⟩ := vx_frame hsame
  rw [hhp] at f1 f2
  have hWs : s.WarmedH U.vm := State.WarmedH.trans hW0 hW
  have hcl : s.vm.findClass cls = some ce.cls := by
    have h9 := hO.cls
    rw [hvm] at h9
    exact h9
  have hall : s.sameButNew ({ U with vm := s.vm } : State) locs mc ms := by
    subst hA
    obtain ⟨e1, e2⟩ := hsame
    rw [State.setFrames_setFrames] at e1
    have h2 : (T.setVm s.vm).sameButNew ({ U with vm := s.vm } : State) [] (0 + 1) (0 + 6) := ⟨e1, e2⟩
    have h3 := X.same.trans h2
    rw [List.append_nil] at h3
    exact h3.mono hc hs
  refine ⟨U, ?_, .threw T.heap.size, hrun, hend, Or.inr ⟨T.heap.size, rfl, cls, ce, locs, hx U hWs.alike f1 (fun q hq => f2 q hq (fun z hz => nomatch hz)), hce, hO.vm, hcl, hWs, hall, hf⟩⟩
  refine st1 _ ?_
  show Steps p.tables e below (T1.setTop { method := m, pc := pc + 3, locals := ls, stack := .ref T.heap.size :: rest, locked := none }) _
  jvm_step X₁.here [X₁.here.top, hexec, d3', Value.category]
  exact X₁.ldcStringW hexec (own := own) (text := text) (index := is) (a := sa) hown' hstr'.1 hstr'.2
    (g := { method := m, pc := pc + 4, locals := ls, stack := .ref T.heap.size :: .ref T.heap.size :: rest, locked := none }) rfl d4' _ hsteps
end Ends
section Bodies
variable {l : Launch}
theorem vx_ofW {y : MethodName} {ws ws' : List Cond} {rm : Room} {Pc : Array Value → State → Prop} {Qc : Array Value → State → Outcome → State → Prop} {XC : String → State → State → Prop} {mc ms : Nat} {free : Addr → Prop} {cc : ByteArray} {maxL : Nat} {ret : Option FieldType}
    (hy : plainName y.cls = true) (hw : ws = Cond.code y cc maxL ret :: ws')
    (body : ∀ p e s m args below meth c s₁, BodyLoose p l y (headSpec ws rm) cc maxL ret e s m args below meth c s₁ → c.maxLocals = maxL → (∀ x ∈ c.exceptionTable.toList, False) → Pc args s →
      W p l e (headSpec ws rm).room s m args below meth c s.heap [] 0 0 (vx_MQ below Qc XC args s mc ms free) (entryFrame m args maxL)) : vx_Met l y ws rm Pc Qc XC mc ms free := by
  refine MetFree.of_bodyS (code := cc) (maxLocals := maxL) (ret := ret) hy ?_ ?_
  · intro args s m h hn
    obtain ⟨meth, c, h1, h2, h3, h4, h5, h6, -, -⟩ := Cond.code_spec hn (atoms_spec (ws := ws) h _ (by rw [hw]; exact List.mem_cons_self))
    exact ⟨meth, c, h1, h2, h3, h4, h5, h6⟩
  · intro p e s m args below meth c s₁ B hml hP _
    have hh0 : s₁.heap = s.heap := by rw [B.state]; rfl
    have ht : ∀ x ∈ c.exceptionTable.toList, False := by
      obtain ⟨meth9, c9, h1, h2, -, -, -, -, h7, -⟩ := Cond.code_spec B.named (atoms_spec (ws := ws) B.pre _ (by rw [hw]; exact List.mem_cons_self))
      cases Option.some.inj (h1.symm.trans B.method)
      cases Option.some.inj (h2.symm.trans (Stand.of_body B).code)
      intro x hx
      rw [Array.isEmpty_iff.mp h7] at hx
      cases hx
    obtain ⟨t, a1, o, b1, b2, b3⟩ := body p e s m args below meth c s₁ B hml ht hP s₁ hh0 (Stand.of_body B)
    exact ⟨t, o, a1, b1, b2, b3⟩
/-- the table of a body with handlers -/
theorem vx_table {p : Program} {x y : MethodName} {S : Spec} {cc bytes : ByteArray} {maxL maxL' : Nat} {ret ret' : Option FieldType} {e : Env} {s s₁ : State} {m : MethodId} {args : Array Value} {below : List Frame} {meth : Method} {c : Code} {hh : List (Nat × Nat × Nat × Nat)}
    (B : BodyLoose p l y S cc maxL ret e s m args below meth c s₁) (h : (Cond.codeWith y bytes maxL' ret' hh).before args s = true) : c.exceptionTable.toList = tableOf hh := by
  obtain ⟨m9, meth9, c9, hn9, h1, h2, -, -, h6, -⟩ := Cond.codeWith_spec h
  cases Option.some.inj (hn9.symm.trans B.named)
  cases Option.some.inj (h1.symm.trans B.method)
  cases Option.some.inj (h2.symm.trans (Stand.of_body B).code)
  rw [← h6, table_eq]
end Bodies
end VXA
/-! ===== END ===== -/
/-! ===== BEGIN a static call of a method with an exception table ===== -/
section VXS
variable {p : Program} {l : Launch} {e : Env} {R : Room} {s : State} {m : MethodId} {args : Array Value} {below : List Frame} {meth : Method} {c : Code} {T : State} {H : Heap} {locs : List Loc} {cells slots : Nat}
abbrev vx_CSW (R : Room) (s : State) (args : Array Value) (own : String) (index : Nat) (y : MethodName) (bytes : ByteArray) (maxL : Nat) (ret : Option FieldType) (hh : List (Nat × Nat × Nat × Nat)) (ws : List Cond) (rm : Room) (mc ms n : Nat) : Prop :=
  (rm.cells = mc ∧ rm.slots = ms ∧ rm.frames + 1 ≤ R.frames ∧ 8 + (maxL + 11) + rm.locals ≤ R.locals ∧ (∀ w ∈ ws, ∀ (a' : Array Value) (U : State), s.WarmedH U.vm → w.before a' U = true) ∧ Cond.codeWith y bytes maxL ret hh ∈ ws) ∧
  (Cond.codeWith y bytes maxL ret hh).before args s = true ∧ (Cond.initialized y.cls).before args s = true ∧ (y.cls ≠ "java/lang/invoke/MethodHandle" ∧ y.cls ≠ "java/lang/invoke/VarHandle") ∧
  (∀ sig, parseMethodDescriptor y.desc = some sig → n = sig.parameters.length) ∧ (Cond.methodLink own index y).before args s = true ∧ (Cond.static y).before args s = true
theorem vx_cwSW {own : String} {index maxL mc ms : Nat} {y : MethodName} {bytes : ByteArray} {ret : Option FieldType} {hh : List (Nat × Nat × Nat × Nat)} {Ts ws ws' : List Cond} {rm : Room} (n : Nat) (ht : ∀ w ∈ Ts, w.before args s = true) (hT : GoodIn Ts (va_wsS own index y ws)) (hw : ws = Cond.codeWith y bytes maxL ret hh :: ws') (hrc : rm.cells = mc) (hrs : rm.slots = ms)
    (hd : y.cls ≠ "java/lang/invoke/MethodHandle" ∧ y.cls ≠ "java/lang/invoke/VarHandle" ∧ (parseMethodDescriptor y.desc).map (fun d => d.parameters.length) = some n) (hR : rm.frames + 1 ≤ R.frames ∧ 8 + (maxL + 11) + rm.locals ≤ R.locals) :
    vx_CSW R s args own index y bytes maxL ret hh ws rm mc ms n := by
  have ok : ∀ w ∈ va_wsS own index y ws, w.before args s = true := fun w h => ht w (hT w h).1
  have hG : GoodIn Ts ws := fun w h => hT w (by unfold va_wsS; exact List.mem_append_right _ h)
  have hc : Cond.codeWith y bytes maxL ret hh ∈ ws := by rw [hw]; exact List.mem_cons_self
  refine ⟨⟨hrc, hrs, hR.1, hR.2, pay_in ht hG, hc⟩, ht _ (hG _ hc).1, ok _ (by simp [va_wsS]), ⟨hd.1, hd.2.1⟩, fun sig h => ?_, ok _ (by simp [va_wsS]), ok _ (by simp [va_wsS])⟩
  have h2 := hd.2.2
  rw [h] at h2
  exact (Option.some.inj h2).symm
theorem vx_callSW (X : Stand p l e R s m args below meth c T locs cells slots) (hexec : p.tables.exec = Jvm.exec) {own : String} {index : Nat} {y : MethodName} {bytes : ByteArray} {maxL : Nat} {ret : Option FieldType} {hh : List (Nat × Nat × Nat × Nat)}
    (hown : s.vm.findClass own = some m.cls) (hlink : (Cond.methodLink own index y).before args s = true) (hstat : (Cond.static y).before args s = true) (hinit : (Cond.initialized y.cls).before args s = true)
    (hcode : (Cond.codeWith y bytes maxL ret hh).before args s = true) (hy : y.cls ≠ "java/lang/invoke/MethodHandle" ∧ y.cls ≠ "java/lang/invoke/VarHandle")
    {W9 : Nat} {Pre : Pt → Array Value → Prop} {Post : Pt → Array Value → Option Value → Pt → Prop} (hK : Back l R p e below s args y 3 W9 Pre Post)
    {g : JFrame} (hg : g.method = m) (hsize : g.locals.size = c.maxLocals) {argsL rest : List Value} (hlen : ∀ sig, parseMethodDescriptor y.desc = some sig → argsL.length = sig.parameters.length)
    (hstack : g.stack = argsL.reverse ++ rest) (hW : 2 * g.monitorRoom + (rest.map fun v => v.category).sum ≤ W9) (hdg : decode c.code g.pc = .ok (.invokestatic index, 3))
    (hpre : ∀ vm₁, s.WarmedH vm₁ → Pre ⟨T.setVm vm₁, locs, cells, slots⟩ argsL.toArray) :
    ∃ (v : Option Value) (vm₁ : Vm) (B : Pt), s.WarmedH vm₁ ∧ Stand p l e R s m args below meth c B.U B.locs B.cells B.slots ∧ Post ⟨T.setVm vm₁, locs, cells, slots⟩ argsL.toArray v B ∧
      ∀ target, Steps p.tables e below (B.U.setTop { g with pc := g.pc + 3, stack := v.toList ++ rest }) target → Steps p.tables e below (T.setTop g) target := by
  obtain ⟨mk, methM, cM, hnamed, hmethM, -, -, -, -, -, -, hsigM⟩ := Cond.codeWith_spec hcode
  have hstatic : methM.isStatic = true := Cond.static_spec hnamed hmethM hstat
  obtain ⟨kP, hkP, -⟩ := className_of_methodNamed hnamed
  have hinitP : kP.init = .initialized := Cond.initialized_spec (findClass_of_methodNamed hnamed) hkP hinit
  obtain ⟨vm₁, X₁, hstep₁⟩ := X.invokestatic hexec hown hlink hnamed hmethM hstatic hkP hinitP hy (g := g) hg (argsL := argsL) (rest := rest) (hlen _ hsigM) hstack hdg
  obtain ⟨v, B, X', hpost, hsteps⟩ := hK m meth c ⟨T.setVm vm₁, locs, cells, slots⟩ { g with stack := rest } (.invokestatic index) mk argsL.toArray X₁ hg hsize hdg hW (X₁.named hnamed) (hpre vm₁ X₁.warmed)
  exact ⟨v, vm₁, B, X₁.warmed, X', hpost, fun target h => hstep₁ _ fun acts => by rw [doInvoke_state]; exact hsteps.trans h⟩
theorem vx_runSW {y : MethodName} {bytes cc : ByteArray} {maxL nL mc ms n index : Nat} {ret : Option FieldType} {hh : List (Nat × Nat × Nat × Nat)} {ws : List Cond} {rm : Room} {Pc : Array Value → State → Prop} {Qc : Array Value → State → Outcome → State → Prop} {free : Addr → Prop} {Ts : List Cond} {own : String} {As rest : List Value} {g : JFrame}
    (S : CallFix p m c cc nL s args Ts own) (hM : Met l y ws rm Pc Qc mc ms free) (cw : vx_CSW R s args own index y bytes maxL ret hh ws rm mc ms n) (hp : PreS s H Pc As)
    (hg : g.method = m) (hn : As.length = n) (hsize : g.locals.size = nL) (hstack : g.stack = As.reverse ++ rest) (hW : 2 * g.monitorRoom + (rest.map fun v => v.category).sum ≤ 8) (hdg : decode cc g.pc = .ok (.invokestatic index, 3)) (hf : cells + mc ≤ R.cells ∧ slots + ms ≤ R.slots) :
    va_Run p l e R s m args below meth c H locs cells slots mc ms g rest (Qc As.toArray) (free) := by
  obtain ⟨⟨hrc, hrs, hfr, hlo, hws, hcw⟩, hcode, hini, hy, hlen, hl, hstt⟩ := cw
  have hK : Back l R p e below s args y 3 8 (PreOf R mc ms Pc) (PostOf Qc mc ms free) := va_backW (hh := hh) (bytes := bytes) (maxL := maxL) (ret := ret) hM hp.1 hrc hrs hfr hlo hws hcw (fun a' U hW => word_at hW (Or.inl (by first | rfl | simp [Cond.onTables, Cond.keeps, Cond.steady])) hini)
  obtain ⟨hx, hb, hml, ho, -⟩ := S
  intro T hT X
  obtain ⟨v, vm₁, ⟨U', l2, c2, s2⟩, hW₁, X', ⟨g', mk, t, L, e1, e2, hq, h1, hL, h2, h3⟩, st⟩ := vx_callSW X hx (hh := hh) (bytes := bytes) (maxL := maxL) (ret := ret) ho hl hstt hini hcode hy hK hg (hsize.trans hml.symm) (argsL := As) (rest := rest) (fun sig h => hn.trans (hlen sig h)) hstack hW (by rw [hb]; exact hdg)
    (fun vm₁ hW₁ => ⟨hf.1, hf.2, hp.2 (T.setVm vm₁) hT hW₁⟩)
  dsimp only [Pt.U, Pt.locs, Pt.cells, Pt.slots] at X' e1 e2 h1 h2 h3 st
  subst h1; subst h2; subst h3
  exact ⟨v, (T.setVm vm₁).calling g' mk As.toArray, t, U', L, hT, X', hL, e1, e2, hq, st⟩
/-- not caught here, past rows that name other classes: it goes on to the caller -/
theorem vx_outP {p : Program} {l : Launch} {e : Env} {R : Room} {s : State} {m : MethodId} {args : Array Value} {below : List Frame} {meth : Method} {c : Code} {H : Heap} {locs : List Loc} {cells slots : Nat} {free : Addr → Prop} {ls : Array Slot} {rest : List Value} {Qc : Array Value → State → Outcome → State → Prop} {XC : String → State → State → Prop}
    {pc : Nat} {own E : String} {ce : Cell} {q : Addr} {mc ms : Nat} (hown : s.vm.findClass own = some m.cls) (hlocks : meth.locks = false)
    (hpass : ∀ z ∈ c.exceptionTable.toList, covers z pc = false ∨ (z.catchType ≠ 0 ∧ ∃ nm : String, (Cond.classLink own z.catchType nm).before args s = true ∧ va_Nc E nm s)) (hcell : H[q]? = some ce) (hv : ce.vm = .none) (hcl : s.vm.findClass E = some ce.cls)
    (hx : ∀ t : State, t.heap = H → s.vm.Alike t.vm → XC E s t) (hf : ∀ z ∈ locs, free z.base) (hc : cells ≤ mc) (hs : slots ≤ ms) :
    vx_W p l e R s m args below meth c H locs cells slots (vx_MQ below Qc XC args s mc ms free) (F0 m pc ls rest) q := by
  intro T hT X
  have hpl : e.platform.magicAccessors = ({} : Platform).magicAccessors := by rw [X.admits.platform]
  obtain ⟨vm', hW', X', st⟩ := X.outThrough hlocks q (g := F0 m pc ls rest) rfl rfl rfl (cell := ce) (by rw [hT]; exact hcell) (by rw [hv]; rfl)
    (by obtain ⟨k9, h9, -⟩ := Vm.findClass_spec hcl; exact ⟨k9, h9⟩) (fun z hz => by
      rcases hpass z hz with h | ⟨hz0, nm, hl1, hn1⟩
      · exact Or.inl h
      · obtain ⟨c6, hc6, hcl6⟩ := Cond.classLink_spec hown hl1 e.platform hpl
        obtain ⟨a8, b8, h1, h2, h3⟩ := hn1
        cases Option.some.inj (h1.symm.trans hcl)
        cases Option.some.inj (h2.symm.trans hc6)
        exact Or.inr ⟨hz0, _, hcl6, h3⟩)
  obtain ⟨g₀, hfr⟩ := X'.frames_eq
  have hcell9 : ((T.setVm vm').setFrames (.throwing q :: below)).heap[q]? = some ce := by
    show T.heap[q]? = some ce
    rw [hT]; exact hcell
  have hend : Ended ((T.setVm vm').setFrames (.throwing q :: below)) below (.threw q) := State.frames_setFrames _ (State.cur_lt_of_frames hfr)
  refine ⟨(T.setVm vm').setFrames (.throwing q :: below), ?_, .threw q, X'.here.running, hend, Or.inr ⟨q, rfl, E, ce, locs, hx _ hT (X'.ends _).1.alike, hcell9, hv, hcl, (X'.ends _).1, (X'.ends _).2.mono hc hs, hf⟩⟩
  rw [X.pushThrowing_eq]
  exact st
/-- a thing of a world lies in the heap -/
theorem vx_lt {D : va_G} {cl : List vw_C} {ws : va_W} {H1 : Heap} (h : va_P D cl ws H1) {k : Nat} {q : Nat × va_E} (hk : ws[k]? = some q) : q.1 < H1.size := (h k q hk).lt
end VXS
/-! ===== END ===== -/
/-! ===== BEGIN methods with a table of their own: called by a name, returning or throwing ===== -/
section VXH
/-! vx_backW, vx_callVX, vx_callSX, vx_callVW, vx_runVW, vx_runVX, vx_runSX, vx_ofWH follow the same proofs as their sisters above (Free/Laws.lean, Shelf42/LK1.lean); vx_outP calls Shelf42/NT130.lean (outThrough). -/
section
variable {l : Launch} {R : Room} {p : Program} {e : Env} {below : List Frame} {s : State} {sargs : Array Value} {y : MethodName} {len W9 : Nat}
theorem vx_backW {ws : List Cond} {rm : Room} {Pc : Array Value → State → Prop} {Qc : Array Value → State → Outcome → State → Prop} {XC : String → State → State → Prop} {mc ms : Nat} {free : Addr → Prop} {bytes : ByteArray} {maxL : Nat} {ret : Option FieldType} {hh : List (Nat × Nat × Nat × Nat)}
    (hM : vx_Met l y ws rm Pc Qc XC mc ms free) (hblind : FrameBlind Pc) (hrc : rm.cells = mc) (hrs : rm.slots = ms)
    (hframes : rm.frames + 1 ≤ R.frames) (hlocals : W9 + (maxL + 11) + rm.locals ≤ R.locals)
    (hws : ∀ w ∈ ws, ∀ a' U, s.WarmedH U.vm → w.before a' U = true) (hcode : Cond.codeWith y bytes maxL ret hh ∈ ws) (hinit : ∀ a' U, s.WarmedH U.vm → (Cond.initialized y.cls).before a' U = true) :
    vx_Back l R p e below s sargs y len W9 (PreOf R mc ms Pc) (PostOf Qc mc ms free) (vx_Post XC mc ms free) := by
  intro m meth c A g ig mk a X hg hsize hdg hW hn hp
  have h1 : (headSpec ws rm).pre.before a A.U = true := atoms_intro fun w hw => hws w hw _ _ X.warmed
  have h2 : (Cond.codeWith y bytes maxL ret hh).before a A.U = true := hws _ hcode _ _ X.warmed
  have h3 : (Cond.initialized y.cls).before a A.U = true := hinit _ _ X.warmed
  have h4 : A.cells + (headSpec ws rm).room.cells ≤ R.cells := by rw [show (headSpec ws rm).room.cells = mc from hrc]; exact hp.1
  have h5 : A.slots + (headSpec ws rm).room.slots ≤ R.slots := by rw [show (headSpec ws rm).room.slots = ms from hrs]; exact hp.2.1
  have hPc : Pc a (A.U.calling g mk a) := hblind _ _ _ _ hp.2.2
  obtain ⟨U, Ls, c0, s0⟩ := A
  dsimp only [Pt.U, Pt.locs, Pt.cells, Pt.slots] at h1 h2 h3 h4 h5 X hn hPc ⊢
  obtain ⟨m9, methY, cY, hn9, hmY, hcY, -, hlY, -⟩ := Cond.codeWith_spec h2
  cases Option.some.inj (hn9.symm.trans hn)
  obtain ⟨kY, hkY, -⟩ := className_of_methodNamed hn
  have hinitY : kY.init = .initialized := Cond.initialized_spec (findClass_of_methodNamed hn) hkY h3
  have h : At U g.method c below := by rw [hg]; exact X.here
  have hlocals9 : W9 + (maxL + 11) + (headSpec ws rm).room.locals ≤ R.locals := hlocals
  have happ : (headSpec ws rm).appliesLoose y e.platform (U.calling g mk a) = true :=
    Spec.appliesLoose_calling (g := g) h hdg hn hkY hinitY
      (X.room_calling (g := g) (R' := (headSpec ws rm).room) hsize hmY hcY hframes (by rw [hlY]; omega) h4 h5) h1
  obtain ⟨mid, hmid⟩ := h.above
  have hfr : (U.setTop g).frames = (.java g :: mid) ++ below := by rw [State.frames_setTop' g h.top, hmid]; rfl
  obtain ⟨o, s₂, hsteps, -, hend, hq⟩ := Steps.callFree hM p X.admits X.cas X.clock (acts := []) hfr happ hPc trivial
  have hq' : vx_Q Qc XC mc ms free a (U.calling g mk a) o s₂ := hq
  rw [State.frames_setTop' g h.top] at hend
  obtain ⟨g₀, hg0⟩ := Option.isSome_iff_exists.mp h.top
  obtain ⟨r, hr⟩ := State.topJava?_eq_some.mp hg0
  have hr' : (({ U with heap := s₂.heap, slotsUsed := s₂.slotsUsed } : State).setVm s₂.vm).frames = .java g₀ :: r := hr
  rcases hq' with ⟨hqc, L, hfe, hL⟩ | ⟨q, rfl, E, ce, L, hx, hce, hcv, hcl, hW₂, hsm, hL⟩
  · obtain ⟨⟨v, rfl⟩, hW₂, e2, q2, q3, q4, q5, q6⟩ := id hfe
    have e3 : s₂ = ({ (U.calling g mk a).setFrames s₂.frames with heap := s₂.heap, slotsUsed := s₂.slotsUsed } : State).setVm s₂.vm := by
      have : s₂ = ({ s₂ with vm := (U.calling g mk a).vm } : State).setVm s₂.vm := rfl
      rw [e2] at this
      exact this
    obtain ⟨c₂, i₂, len₂, hc₂, hd₂, hf₂⟩ := hend
    have hW' : U.WarmedH s₂.vm := hW₂
    have hcc : c₂ = c := by
      have h1 : s₂.code? g.method = U.code? g.method := by
        rw [State.code?_eq, State.code?_eq, hW'.alike.method?]
      exact Option.some.inj (hc₂.symm.trans (h1.trans h.code))
    subst hcc
    have hlen : len₂ = len := by rw [hdg] at hd₂; cases hd₂; rfl
    subst hlen
    have hs₂ : s₂ = (({ U with heap := s₂.heap, slotsUsed := s₂.slotsUsed } : State).setVm s₂.vm).setTop { g with pc := g.pc + len₂, stack := v.toList ++ g.stack } := by
      refine e3.trans ?_
      rw [hf₂, State.calling_eq h.top, State.setFrames_setFrames, State.setTop_of_frames _ hr', hr]
      rfl
    have hsame : U.sameButNew ({ U with heap := s₂.heap, slotsUsed := s₂.slotsUsed } : State) L mc ms := by
      refine ⟨?_, q2, q3, q4, q5, q6⟩
      obtain ⟨t, ht, -⟩ := State.frames_cons hr
      show ({ U with heap := s₂.heap, slotsUsed := s₂.slotsUsed } : State) = { U.setFrames U.frames with heap := s₂.heap, slotsUsed := s₂.slotsUsed }
      rw [State.setFrames_self ht]
    subst hg
    refine Or.inl ⟨v, ⟨(({ U with heap := s₂.heap, slotsUsed := s₂.slotsUsed } : State).setVm s₂.vm), Ls ++ L, c0 + mc, s0 + ms⟩,
      ⟨X.admits, X.cas, X.clock, X.frames, X.room, X.hears, X.method, X.code, (X.here.setHeapUsed s₂.heap s₂.slotsUsed).setVm hW'.alike, X.tail, State.WarmedH.trans X.warmed hW', X.limits, X.bytes, X.same.trans (hsame.setVm s.vm)⟩,
      ⟨g, mk, s₂, L, rfl, rfl, hqc, rfl, hL, rfl, rfl⟩, ?_⟩
    show Steps p.tables e below _ ((({ U with heap := s₂.heap, slotsUsed := s₂.slotsUsed } : State).setVm s₂.vm).setTop { g with pc := g.pc + len₂, stack := v.toList ++ g.stack })
    rw [← hs₂]
    exact hsteps
  · obtain ⟨e2, q2, q3, q4, q5, q6⟩ := id hsm
    have e3 : s₂ = ({ (U.calling g mk a).setFrames s₂.frames with heap := s₂.heap, slotsUsed := s₂.slotsUsed } : State).setVm s₂.vm := by
      have : s₂ = ({ s₂ with vm := (U.calling g mk a).vm } : State).setVm s₂.vm := rfl
      rw [e2] at this
      exact this
    have hf₂ : s₂.frames = .throwing q :: .java g :: U.frames.tail := hend
    have hW' : U.WarmedH s₂.vm := hW₂
    have hs₂ : s₂ = ((({ U with heap := s₂.heap, slotsUsed := s₂.slotsUsed } : State).setVm s₂.vm).setTop g).pushFrame (.throwing q) := by
      refine e3.trans ?_
      rw [hf₂, State.calling_eq h.top, State.setFrames_setFrames, State.pushFrame, State.frames_setTop _ hr', State.setTop_of_frames _ hr', State.setFrames_setFrames, hr]
      rfl
    have hsame : U.sameButNew ({ U with heap := s₂.heap, slotsUsed := s₂.slotsUsed } : State) L mc ms := by
      refine ⟨?_, q2, q3, q4, q5, q6⟩
      obtain ⟨t, ht, -⟩ := State.frames_cons hr
      show ({ U with heap := s₂.heap, slotsUsed := s₂.slotsUsed } : State) = { U.setFrames U.frames with heap := s₂.heap, slotsUsed := s₂.slotsUsed }
      rw [State.setFrames_self ht]
    subst hg
    refine Or.inr ⟨q, ⟨(({ U with heap := s₂.heap, slotsUsed := s₂.slotsUsed } : State).setVm s₂.vm), Ls ++ L, c0 + mc, s0 + ms⟩,
      ⟨X.admits, X.cas, X.clock, X.frames, X.room, X.hears, X.method, X.code, (X.here.setHeapUsed s₂.heap s₂.slotsUsed).setVm hW'.alike, X.tail, State.WarmedH.trans X.warmed hW', X.limits, X.bytes, X.same.trans (hsame.setVm s.vm)⟩,
      ⟨g, mk, s₂, L, E, ce, rfl, rfl, hx, hce, hcv, hcl, rfl, hL, rfl, rfl⟩, ?_⟩
    show Steps p.tables e below _ (((({ U with heap := s₂.heap, slotsUsed := s₂.slotsUsed } : State).setVm s₂.vm).setTop g).pushFrame (.throwing q))
    rw [← hs₂]
    exact hsteps
end
variable {p : Program} {l : Launch} {e : Env} {R : Room} {s : State} {m : MethodId} {args : Array Value} {below : List Frame} {meth : Method} {c : Code} {T : State} {H : Heap} {locs : List Loc} {cells slots : Nat}
theorem vx_callVX (X : Stand p l e R s m args below meth c T locs cells slots) (hexec : p.tables.exec = Jvm.exec) {own C : String} {index : Nat} {y : MethodName} {bytes : ByteArray} {maxL : Nat} {ret : Option FieldType} {hh : List (Nat × Nat × Nat × Nat)}
    (hown : s.vm.findClass own = some m.cls) (hlink : (Cond.methodLink own index y).before args s = true) (hinst : (Cond.instanceMethod y).before args s = true) (hsel : (Cond.selects C y y).before args s = true)
    (hcode : (Cond.codeWith y bytes maxL ret hh).before args s = true) (hy : y.cls ≠ "java/lang/invoke/MethodHandle" ∧ y.cls ≠ "java/lang/invoke/VarHandle")
    {W9 : Nat} {Pre : Pt → Array Value → Prop} {Post : Pt → Array Value → Option Value → Pt → Prop} {PostX : Pt → Array Value → Addr → Pt → Prop} (hK : vx_Back l R p e below s args y 3 W9 Pre Post PostX)
    {b : Addr} {cellB : Cell} (hcell : T.heap[b]? = some cellB) (hobj : cellB.vm.isStatics = false) (hcls : s.vm.findClass C = some cellB.cls)
    {g : JFrame} (hg : g.method = m) (hsize : g.locals.size = c.maxLocals) {argsL rest : List Value} (hlen : ∀ sig, parseMethodDescriptor y.desc = some sig → argsL.length = sig.parameters.length)
    (hstack : g.stack = argsL.reverse ++ .ref b :: rest) (hW : 2 * g.monitorRoom + (rest.map fun v => v.category).sum ≤ W9) (hdg : decode c.code g.pc = .ok (.invokevirtual index, 3))
    (hpre : ∀ vm₁, s.WarmedH vm₁ → Pre ⟨T.setVm vm₁, locs, cells, slots⟩ (Value.ref b :: argsL).toArray) :
    (∃ (v : Option Value) (vm₁ : Vm) (B : Pt), s.WarmedH vm₁ ∧ Stand p l e R s m args below meth c B.U B.locs B.cells B.slots ∧ Post ⟨T.setVm vm₁, locs, cells, slots⟩ (Value.ref b :: argsL).toArray v B ∧
      ∀ target, Steps p.tables e below (B.U.setTop { g with pc := g.pc + 3, stack := v.toList ++ rest }) target → Steps p.tables e below (T.setTop g) target) ∨
    (∃ (q : Addr) (vm₁ : Vm) (B : Pt), s.WarmedH vm₁ ∧ Stand p l e R s m args below meth c B.U B.locs B.cells B.slots ∧ PostX ⟨T.setVm vm₁, locs, cells, slots⟩ (Value.ref b :: argsL).toArray q B ∧
      Steps p.tables e below (T.setTop g) ((B.U.setTop { g with stack := rest }).pushFrame (.throwing q))) := by
  obtain ⟨mk, methM, hnamed, hmethM, hstM, habM⟩ := Cond.instanceMethod_spec hinst
  obtain ⟨m8, methM', cM, hn8, hmethM', -, -, -, -, -, -, hsigM⟩ := Cond.codeWith_spec hcode
  cases Option.some.inj (hn8.symm.trans hnamed)
  cases hmethM.symm.trans hmethM'
  obtain ⟨c2, r2, m2, q1, q2, q3, q4, kP, hkP, hkPi⟩ := Cond.selects_spec hsel
  cases hcls.symm.trans q1
  cases (State.methodFound?_of_named hnamed hy).symm.trans q2
  cases hnamed.symm.trans q3
  have hselP : selectMethod e.platform s.vm cellB.cls mk = .method mk := by rw [Launch.admits_selectMethod X.admits]; exact q4
  obtain ⟨vm₁, X₁, hstep₁⟩ := X.invokevirtual hexec hown hlink hnamed hmethM hstM hkP hkPi hy (a := b) (cell := cellB) hcell
    (fun z h => by rw [h] at hobj; cases hobj) hselP hmethM habM hkP hkPi (g := g) hg (argsL := argsL) (rest := rest) (hlen _ hsigM) hstack hdg
  rcases hK m meth c ⟨T.setVm vm₁, locs, cells, slots⟩ { g with stack := rest } (.invokevirtual index) mk (Value.ref b :: argsL).toArray X₁ hg hsize hdg hW (X₁.named hnamed) (hpre vm₁ X₁.warmed) with ⟨v, B, X', hpost, hsteps⟩ | ⟨q, B, X', hpost, hsteps⟩
  · exact Or.inl ⟨v, vm₁, B, X₁.warmed, X', hpost, fun target h => hstep₁ _ fun acts => by rw [doInvoke_state]; exact hsteps.trans h⟩
  · exact Or.inr ⟨q, vm₁, B, X₁.warmed, X', hpost, hstep₁ _ fun acts => by rw [doInvoke_state]; exact hsteps⟩
theorem vx_callSX (X : Stand p l e R s m args below meth c T locs cells slots) (hexec : p.tables.exec = Jvm.exec) {own : String} {index : Nat} {y : MethodName} {bytes : ByteArray} {maxL : Nat} {ret : Option FieldType} {hh : List (Nat × Nat × Nat × Nat)}
    (hown : s.vm.findClass own = some m.cls) (hlink : (Cond.methodLink own index y).before args s = true) (hstat : (Cond.static y).before args s = true) (hinit : (Cond.initialized y.cls).before args s = true)
    (hcode : (Cond.codeWith y bytes maxL ret hh).before args s = true) (hy : y.cls ≠ "java/lang/invoke/MethodHandle" ∧ y.cls ≠ "java/lang/invoke/VarHandle")
    {W9 : Nat} {Pre : Pt → Array Value → Prop} {Post : Pt → Array Value → Option Value → Pt → Prop} {PostX : Pt → Array Value → Addr → Pt → Prop} (hK : vx_Back l R p e below s args y 3 W9 Pre Post PostX)
    {g : JFrame} (hg : g.method = m) (hsize : g.locals.size = c.maxLocals) {argsL rest : List Value} (hlen : ∀ sig, parseMethodDescriptor y.desc = some sig → argsL.length = sig.parameters.length)
    (hstack : g.stack = argsL.reverse ++ rest) (hW : 2 * g.monitorRoom + (rest.map fun v => v.category).sum ≤ W9) (hdg : decode c.code g.pc = .ok (.invokestatic index, 3))
    (hpre : ∀ vm₁, s.WarmedH vm₁ → Pre ⟨T.setVm vm₁, locs, cells, slots⟩ argsL.toArray) :
    (∃ (v : Option Value) (vm₁ : Vm) (B : Pt), s.WarmedH vm₁ ∧ Stand p l e R s m args below meth c B.U B.locs B.cells B.slots ∧ Post ⟨T.setVm vm₁, locs, cells, slots⟩ argsL.toArray v B ∧
      ∀ target, Steps p.tables e below (B.U.setTop { g with pc := g.pc + 3, stack := v.toList ++ rest }) target → Steps p.tables e below (T.setTop g) target) ∨
    (∃ (q : Addr) (vm₁ : Vm) (B : Pt), s.WarmedH vm₁ ∧ Stand p l e R s m args below meth c B.U B.locs B.cells B.slots ∧ PostX ⟨T.setVm vm₁, locs, cells, slots⟩ argsL.toArray q B ∧
      Steps p.tables e below (T.setTop g) ((B.U.setTop { g with stack := rest }).pushFrame (.throwing q))) := by
  obtain ⟨mk, methM, cM, hnamed, hmethM, -, -, -, -, -, -, hsigM⟩ := Cond.codeWith_spec hcode
  have hstatic : methM.isStatic = true := Cond.static_spec hnamed hmethM hstat
  obtain ⟨kP, hkP, -⟩ := className_of_methodNamed hnamed
  have hinitP : kP.init = .initialized := Cond.initialized_spec (findClass_of_methodNamed hnamed) hkP hinit
  obtain ⟨vm₁, X₁, hstep₁⟩ := X.invokestatic hexec hown hlink hnamed hmethM hstatic hkP hinitP hy (g := g) hg (argsL := argsL) (rest := rest) (hlen _ hsigM) hstack hdg
  rcases hK m meth c ⟨T.setVm vm₁, locs, cells, slots⟩ { g with stack := rest } (.invokestatic index) mk argsL.toArray X₁ hg hsize hdg hW (X₁.named hnamed) (hpre vm₁ X₁.warmed) with ⟨v, B, X', hpost, hsteps⟩ | ⟨q, B, X', hpost, hsteps⟩
  · exact Or.inl ⟨v, vm₁, B, X₁.warmed, X', hpost, fun target h => hstep₁ _ fun acts => by rw [doInvoke_state]; exact hsteps.trans h⟩
  · exact Or.inr ⟨q, vm₁, B, X₁.warmed, X', hpost, hstep₁ _ fun acts => by rw [doInvoke_state]; exact hsteps⟩
theorem vx_callVW (X : Stand p l e R s m args below meth c T locs cells slots) (hexec : p.tables.exec = Jvm.exec) {own C : String} {index : Nat} {y : MethodName} {bytes : ByteArray} {maxL : Nat} {ret : Option FieldType} {hh : List (Nat × Nat × Nat × Nat)}
    (hown : s.vm.findClass own = some m.cls) (hlink : (Cond.methodLink own index y).before args s = true) (hinst : (Cond.instanceMethod y).before args s = true) (hsel : (Cond.selects C y y).before args s = true)
    (hcode : (Cond.codeWith y bytes maxL ret hh).before args s = true) (hy : y.cls ≠ "java/lang/invoke/MethodHandle" ∧ y.cls ≠ "java/lang/invoke/VarHandle")
    {W9 : Nat} {Pre : Pt → Array Value → Prop} {Post : Pt → Array Value → Option Value → Pt → Prop} (hK : Back l R p e below s args y 3 W9 Pre Post)
    {b : Addr} {cellB : Cell} (hcell : T.heap[b]? = some cellB) (hobj : cellB.vm.isStatics = false) (hcls : s.vm.findClass C = some cellB.cls)
    {g : JFrame} (hg : g.method = m) (hsize : g.locals.size = c.maxLocals) {argsL rest : List Value} (hlen : ∀ sig, parseMethodDescriptor y.desc = some sig → argsL.length = sig.parameters.length)
    (hstack : g.stack = argsL.reverse ++ .ref b :: rest) (hW : 2 * g.monitorRoom + (rest.map fun v => v.category).sum ≤ W9) (hdg : decode c.code g.pc = .ok (.invokevirtual index, 3))
    (hpre : ∀ vm₁, s.WarmedH vm₁ → Pre ⟨T.setVm vm₁, locs, cells, slots⟩ (Value.ref b :: argsL).toArray) :
    ∃ (v : Option Value) (vm₁ : Vm) (B : Pt), s.WarmedH vm₁ ∧ Stand p l e R s m args below meth c B.U B.locs B.cells B.slots ∧ Post ⟨T.setVm vm₁, locs, cells, slots⟩ (Value.ref b :: argsL).toArray v B ∧
      ∀ target, Steps p.tables e below (B.U.setTop { g with pc := g.pc + 3, stack := v.toList ++ rest }) target → Steps p.tables e below (T.setTop g) target := by
  obtain ⟨mk, methM, hnamed, hmethM, hstM, habM⟩ := Cond.instanceMethod_spec hinst
  obtain ⟨m8, methM', cM, hn8, hmethM', -, -, -, -, -, -, hsigM⟩ := Cond.codeWith_spec hcode
  cases Option.some.inj (hn8.symm.trans hnamed)
  cases hmethM.symm.trans hmethM'
  obtain ⟨c2, r2, m2, q1, q2, q3, q4, kP, hkP, hkPi⟩ := Cond.selects_spec hsel
  cases hcls.symm.trans q1
  cases (State.methodFound?_of_named hnamed hy).symm.trans q2
  cases hnamed.symm.trans q3
  have hselP : selectMethod e.platform s.vm cellB.cls mk = .method mk := by rw [Launch.admits_selectMethod X.admits]; exact q4
  obtain ⟨vm₁, X₁, hstep₁⟩ := X.invokevirtual hexec hown hlink hnamed hmethM hstM hkP hkPi hy (a := b) (cell := cellB) hcell
    (fun z h => by rw [h] at hobj; cases hobj) hselP hmethM habM hkP hkPi (g := g) hg (argsL := argsL) (rest := rest) (hlen _ hsigM) hstack hdg
  obtain ⟨v, B, X', hpost, hsteps⟩ := hK m meth c ⟨T.setVm vm₁, locs, cells, slots⟩ { g with stack := rest } (.invokevirtual index) mk (Value.ref b :: argsL).toArray X₁ hg hsize hdg hW (X₁.named hnamed) (hpre vm₁ X₁.warmed)
  exact ⟨v, vm₁, B, X₁.warmed, X', hpost, fun target h => hstep₁ _ fun acts => by rw [doInvoke_state]; exact hsteps.trans h⟩
abbrev vx_CVW (R : Room) (s : State) (args : Array Value) (own C : String) (index : Nat) (y : MethodName) (bytes : ByteArray) (maxL : Nat) (ret : Option FieldType) (hh : List (Nat × Nat × Nat × Nat)) (ws : List Cond) (rm : Room) (mc ms n : Nat) : Prop :=
  (rm.cells = mc ∧ rm.slots = ms ∧ rm.frames + 1 ≤ R.frames ∧ 8 + (maxL + 11) + rm.locals ≤ R.locals ∧ (∀ w ∈ ws, ∀ (a' : Array Value) (U : State), s.WarmedH U.vm → w.before a' U = true) ∧ Cond.codeWith y bytes maxL ret hh ∈ ws) ∧
  (Cond.codeWith y bytes maxL ret hh).before args s = true ∧ (Cond.initialized y.cls).before args s = true ∧ (y.cls ≠ "java/lang/invoke/MethodHandle" ∧ y.cls ≠ "java/lang/invoke/VarHandle") ∧
  (∀ sig, parseMethodDescriptor y.desc = some sig → n = sig.parameters.length) ∧ (Cond.methodLink own index y).before args s = true ∧ (Cond.instanceMethod y).before args s = true ∧ (Cond.selects C y y).before args s = true
theorem vx_cwVW {own C : String} {index maxL mc ms : Nat} {y : MethodName} {bytes : ByteArray} {ret : Option FieldType} {hh : List (Nat × Nat × Nat × Nat)} {Ts ws ws' : List Cond} {rm : Room} (n : Nat) (ht : ∀ w ∈ Ts, w.before args s = true) (hT : GoodIn Ts (wsV own index C y ws)) (hw : ws = Cond.codeWith y bytes maxL ret hh :: ws') (hrc : rm.cells = mc) (hrs : rm.slots = ms)
    (hd : y.cls = C ∧ y.cls ≠ "java/lang/invoke/MethodHandle" ∧ y.cls ≠ "java/lang/invoke/VarHandle" ∧ (parseMethodDescriptor y.desc).map (fun d => d.parameters.length) = some n) (hR : rm.frames + 1 ≤ R.frames ∧ 8 + (maxL + 11) + rm.locals ≤ R.locals) :
    vx_CVW R s args own C index y bytes maxL ret hh ws rm mc ms n := by
  obtain ⟨hC, hd⟩ := hd
  subst hC
  have ok : ∀ w ∈ wsV own index y.cls y ws, w.before args s = true := fun w h => ht w (hT w h).1
  have hG : GoodIn Ts ws := fun w h => hT w (by unfold wsV; exact List.mem_append_right _ h)
  have hc : Cond.codeWith y bytes maxL ret hh ∈ ws := by rw [hw]; exact List.mem_cons_self
  refine ⟨⟨hrc, hrs, hR.1, hR.2, pay_in ht hG, hc⟩, ht _ (hG _ hc).1, ok _ (by simp [wsV]), ⟨hd.1, hd.2.1⟩, fun sig h => ?_, ok _ (by simp [wsV]), ok _ (by simp [wsV]), ok _ (by simp [wsV])⟩
  have h2 := hd.2.2
  rw [h] at h2
  exact (Option.some.inj h2).symm
theorem vx_runVW {y : MethodName} {bytes cc : ByteArray} {maxL nL mc ms n index : Nat} {ret : Option FieldType} {hh : List (Nat × Nat × Nat × Nat)} {ws : List Cond} {rm : Room} {Pc : Array Value → State → Prop} {Qc : Array Value → State → Outcome → State → Prop} {free : Addr → Prop} {Ts : List Cond} {own C : String} {b : Addr} {As rest : List Value} {g : JFrame}
    (S : CallFix p m c cc nL s args Ts own) (hM : Met l y ws rm Pc Qc mc ms free) (cw : vx_CVW R s args own C index y bytes maxL ret hh ws rm mc ms n) (hp : PreV s H C b Pc As)
    (hg : g.method = m) (hn : As.length = n) (hsize : g.locals.size = nL) (hstack : g.stack = As.reverse ++ .ref b :: rest) (hW : 2 * g.monitorRoom + (rest.map fun v => v.category).sum ≤ 8) (hdg : decode cc g.pc = .ok (.invokevirtual index, 3)) (hf : cells + mc ≤ R.cells ∧ slots + ms ≤ R.slots) :
    va_Run p l e R s m args below meth c H locs cells slots mc ms g rest (Qc (Value.ref b :: As).toArray) free := by
  obtain ⟨⟨hrc, hrs, hfr, hlo, hws, hcw⟩, hcode, hini, hy, hlen, hl, hin, hse⟩ := cw
  have hK : Back l R p e below s args y 3 8 (PreOf R mc ms Pc) (PostOf Qc mc ms free) := va_backW (hh := hh) (bytes := bytes) (maxL := maxL) (ret := ret) hM hp.1 hrc hrs hfr hlo hws hcw (fun a' U hW => word_at hW (Or.inl (by first | rfl | simp [Cond.onTables, Cond.keeps, Cond.steady])) hini)
  obtain ⟨hx, hb, hml, ho, -⟩ := S
  obtain ⟨-, ⟨cellB, hcB, hoB, hclB⟩, hPc⟩ := hp
  intro T hT X
  obtain ⟨v, vm₁, ⟨U', l2, c2, s2⟩, hW₁, X', ⟨g', mk, t, L, e1, e2, hq, h1, hL, h2, h3⟩, st⟩ := vx_callVW X hx (C := C) (hh := hh) (bytes := bytes) (maxL := maxL) (ret := ret) ho hl hin hse hcode hy hK (by rw [hT]; exact hcB) hoB hclB hg (hsize.trans hml.symm) (argsL := As) (rest := rest) (fun sig h => hn.trans (hlen sig h)) hstack hW (by rw [hb]; exact hdg)
    (fun vm₁ hW₁ => ⟨hf.1, hf.2, hPc (T.setVm vm₁) hT hW₁⟩)
  dsimp only [Pt.U, Pt.locs, Pt.cells, Pt.slots] at X' e1 e2 h1 h2 h3 st
  subst h1; subst h2; subst h3
  exact ⟨v, (T.setVm vm₁).calling g' mk (Value.ref b :: As).toArray, t, U', L, hT, X', hL, e1, e2, hq, st⟩
section
variable {y : MethodName} {bytes cc : ByteArray} {maxL nL mc ms n index : Nat} {ret : Option FieldType} {ws : List Cond} {rm : Room} {Pc : Array Value → State → Prop} {Qc : Array Value → State → Outcome → State → Prop} {XC : String → State → State → Prop} {free : Addr → Prop} {Ts : List Cond} {own C : String} {b : Addr} {As rest : List Value} {g : JFrame}
theorem vx_runVX {hh : List (Nat × Nat × Nat × Nat)} (S : CallFix p m c cc nL s args Ts own) (hM : vx_Met l y ws rm Pc Qc XC mc ms free) (cw : vx_CVW R s args own C index y bytes maxL ret hh ws rm mc ms n) (hp : PreV s H C b Pc As)
    (hg : g.method = m) (hn : As.length = n) (hsize : g.locals.size = nL) (hstack : g.stack = As.reverse ++ .ref b :: rest) (hW : 2 * g.monitorRoom + (rest.map fun v => v.category).sum ≤ 8) (hdg : decode cc g.pc = .ok (.invokevirtual index, 3)) (hf : cells + mc ≤ R.cells ∧ slots + ms ≤ R.slots) :
    vx_Run p l e R s m args below meth c H locs cells slots mc ms g rest (Qc (Value.ref b :: As).toArray) XC free := by
  obtain ⟨⟨hrc, hrs, hfr, hlo, hws, hcw⟩, hcode, hini, hy, hlen, hl, hin, hse⟩ := cw
  have hK : vx_Back l R p e below s args y 3 8 (PreOf R mc ms Pc) (PostOf Qc mc ms free) (vx_Post XC mc ms free) := vx_backW (hh := hh) (bytes := bytes) (maxL := maxL) (ret := ret) hM hp.1 hrc hrs hfr hlo hws hcw (fun a' U hW => word_at hW (Or.inl (by first | rfl | simp [Cond.onTables, Cond.keeps, Cond.steady])) hini)
  obtain ⟨hx, hb, hml, ho, -⟩ := S
  obtain ⟨-, ⟨cellB, hcB, hoB, hclB⟩, hPc⟩ := hp
  intro T hT X
  rcases vx_callVX X hx (C := C) (hh := hh) (bytes := bytes) (maxL := maxL) (ret := ret) ho hl hin hse hcode hy hK (by rw [hT]; exact hcB) hoB hclB hg (hsize.trans hml.symm) (argsL := As) (rest := rest) (fun sig h => hn.trans (hlen sig h)) hstack hW (by rw [hb]; exact hdg)
    (fun vm₁ hW₁ => ⟨hf.1, hf.2, hPc (T.setVm vm₁) hT hW₁⟩) with ⟨v, vm₁, ⟨U', l2, c2, s2⟩, hW₁, X', ⟨g', mk, t, L, e1, e2, hq, h1, hL, h2, h3⟩, st⟩ | ⟨q, vm₁, ⟨U', l2, c2, s2⟩, hW₁, X', ⟨g', mk, t, L, E, ce, e1, e2, hq, hce, hcv, hcl, h1, hL, h2, h3⟩, st⟩
  · dsimp only [Pt.U, Pt.locs, Pt.cells, Pt.slots] at X' e1 e2 h1 h2 h3 st
    subst h1; subst h2; subst h3
    exact Or.inl ⟨v, (T.setVm vm₁).calling g' mk (Value.ref b :: As).toArray, t, U', L, hT, X', hL, e1, e2, hq, st⟩
  · dsimp only [Pt.U, Pt.locs, Pt.cells, Pt.slots] at X' e1 e2 h1 h2 h3 st hcl
    subst h1; subst h2; subst h3
    exact Or.inr ⟨q, (T.setVm vm₁).calling g' mk (Value.ref b :: As).toArray, t, U', L, E, ce, hT, X', hL, e1, e2, hq, hce, hcv, vx_cls hW₁ hcl, st⟩
theorem vx_runSX {hh : List (Nat × Nat × Nat × Nat)} (S : CallFix p m c cc nL s args Ts own) (hM : vx_Met l y ws rm Pc Qc XC mc ms free) (cw : vx_CSW R s args own index y bytes maxL ret hh ws rm mc ms n) (hp : PreS s H Pc As)
    (hg : g.method = m) (hn : As.length = n) (hsize : g.locals.size = nL) (hstack : g.stack = As.reverse ++ rest) (hW : 2 * g.monitorRoom + (rest.map fun v => v.category).sum ≤ 8) (hdg : decode cc g.pc = .ok (.invokestatic index, 3)) (hf : cells + mc ≤ R.cells ∧ slots + ms ≤ R.slots) :
    vx_Run p l e R s m args below meth c H locs cells slots mc ms g rest (Qc As.toArray) XC free := by
  obtain ⟨⟨hrc, hrs, hfr, hlo, hws, hcw⟩, hcode, hini, hy, hlen, hl, hstt⟩ := cw
  have hK : vx_Back l R p e below s args y 3 8 (PreOf R mc ms Pc) (PostOf Qc mc ms free) (vx_Post XC mc ms free) := vx_backW (hh := hh) (bytes := bytes) (maxL := maxL) (ret := ret) hM hp.1 hrc hrs hfr hlo hws hcw (fun a' U hW => word_at hW (Or.inl (by first | rfl | simp [Cond.onTables, Cond.keeps, Cond.steady])) hini)
  obtain ⟨hx, hb, hml, ho, -⟩ := S
  intro T hT X
  rcases vx_callSX X hx (hh := hh) (bytes := bytes) (maxL := maxL) (ret := ret) ho hl hstt hini hcode hy hK hg (hsize.trans hml.symm) (argsL := As) (rest := rest) (fun sig h => hn.trans (hlen sig h)) hstack hW (by rw [hb]; exact hdg)
    (fun vm₁ hW₁ => ⟨hf.1, hf.2, hp.2 (T.setVm vm₁) hT hW₁⟩) with ⟨v, vm₁, ⟨U', l2, c2, s2⟩, hW₁, X', ⟨g', mk, t, L, e1, e2, hq, h1, hL, h2, h3⟩, st⟩ | ⟨q, vm₁, ⟨U', l2, c2, s2⟩, hW₁, X', ⟨g', mk, t, L, E, ce, e1, e2, hq, hce, hcv, hcl, h1, hL, h2, h3⟩, st⟩
  · dsimp only [Pt.U, Pt.locs, Pt.cells, Pt.slots] at X' e1 e2 h1 h2 h3 st
    subst h1; subst h2; subst h3
    exact Or.inl ⟨v, (T.setVm vm₁).calling g' mk As.toArray, t, U', L, hT, X', hL, e1, e2, hq, st⟩
  · dsimp only [Pt.U, Pt.locs, Pt.cells, Pt.slots] at X' e1 e2 h1 h2 h3 st hcl
    subst h1; subst h2; subst h3
    exact Or.inr ⟨q, (T.setVm vm₁).calling g' mk As.toArray, t, U', L, E, ce, hT, X', hL, e1, e2, hq, hce, hcv, vx_cls hW₁ hcl, st⟩
end
end VXH
theorem vx_ofWH {l : Launch} {y : MethodName} {ws ws' : List Cond} {rm : Room} {Pc : Array Value → State → Prop} {Qc : Array Value → State → Outcome → State → Prop} {XC : String → State → State → Prop} {mc ms : Nat} {free : Addr → Prop} {cc : ByteArray} {maxL : Nat} {ret : Option FieldType} {hh : List (Nat × Nat × Nat × Nat)}
    (hy : plainName y.cls = true) (hw : ws = Cond.codeWith y cc maxL ret hh :: ws')
    (body : ∀ p e s m args below meth c s₁, BodyLoose p l y (headSpec ws rm) cc maxL ret e s m args below meth c s₁ → c.maxLocals = maxL → Pc args s →
      W p l e (headSpec ws rm).room s m args below meth c s.heap [] 0 0 (vx_MQ below Qc XC args s mc ms free) (entryFrame m args maxL)) : vx_Met l y ws rm Pc Qc XC mc ms free := by
  refine MetFree.of_bodyS (code := cc) (maxLocals := maxL) (ret := ret) hy ?_ ?_
  · intro args s m h hn
    obtain ⟨m9, meth, c, hn9, h1, h2, h3, h4, -, h5, h6, -⟩ := Cond.codeWith_spec (atoms_spec (ws := ws) h _ (by rw [hw]; exact List.mem_cons_self))
    cases hn.symm.trans hn9
    exact ⟨meth, c, h1, h2, h3, h4, h5, h6⟩
  · intro p e s m args below meth c s₁ B hml hP _
    have hh0 : s₁.heap = s.heap := by rw [B.state]; rfl
    obtain ⟨t, a1, o, b1, b2, b3⟩ := body p e s m args below meth c s₁ B hml hP s₁ hh0 (Stand.of_body B)
    exact ⟨t, o, a1, b1, b2, b3⟩
/-! ===== END ===== -/
end
section
/-! ===== BEGIN printed: names, fields, word lists, decode rows ===== -/
def RX0 : String := "CardPort$Bank"
def TX0 : u_T := fun k => match k with
  | 0 => ("CardPort$Bank", "netInAll", "J", false)
  | _ => ("CardPort$Bank", "netToday", "J", false)
def tyX0 : Nat → FieldType := fun k => match k with
  | 0 => .long
  | _ => .long
abbrev wsX00 : List Cond := u_ws RX0 TX0 2
theorem nmX0 : ∀ a, a < 2 → ∀ b, b < 2 → a ≠ b → (TX0 a).2.1 ≠ (TX0 b).2.1 := by decide +kernel
theorem tyX0_ok : ∀ k, k < 2 → parseFieldDescriptor (TX0 k).2.2.1 = some (tyX0 k) := by decide +kernel
abbrev cX0_init : ByteArray := prog_2_method_1_code
def yX0_init : MethodName := ⟨RX0, "<init>", "()V"⟩
abbrev cX0_pay : ByteArray := prog_2_method_2_code
def yX0_pay : MethodName := ⟨RX0, "pay", "(LCardPort$Bank;I)V"⟩
abbrev cX0_book : ByteArray := prog_2_method_3_code
def yX0_book : MethodName := ⟨RX0, "book", "(I)V"⟩
def RX1 : String := "CardPort$Capture"
def TX1 : u_T := fun k => match k with
  | 0 => ("CardPort$Capture", "number", "I", true)
  | 1 => ("CardPort$Capture", "payment", "LCardPort$Payment;", true)
  | 2 => ("CardPort$Capture", "amount", "I", true)
  | 3 => ("CardPort$Capture", "fee", "I", true)
  | _ => ("CardPort$Capture", "refunded", "I", false)
def tyX1 : Nat → FieldType := fun k => match k with
  | 0 => .int
  | 1 => .object "CardPort$Payment"
  | 2 => .int
  | 3 => .int
  | _ => .int
abbrev wsX10 : List Cond := u_ws RX1 TX1 5
theorem nmX1 : ∀ a, a < 5 → ∀ b, b < 5 → a ≠ b → (TX1 a).2.1 ≠ (TX1 b).2.1 := by decide +kernel
theorem tyX1_ok : ∀ k, k < 5 → parseFieldDescriptor (TX1 k).2.2.1 = some (tyX1 k) := by decide +kernel
abbrev cX1_init : ByteArray := prog_3_method_1_code
def yX1_init : MethodName := ⟨RX1, "<init>", "(ILCardPort$Payment;II)V"⟩
abbrev cX1_cardBank : ByteArray := prog_3_method_2_code
def yX1_cardBank : MethodName := ⟨RX1, "cardBank", "()LCardPort$Bank;"⟩
abbrev cX1_shopBank : ByteArray := prog_3_method_3_code
def yX1_shopBank : MethodName := ⟨RX1, "shopBank", "()LCardPort$Bank;"⟩
abbrev cX1_shareOf : ByteArray := prog_3_method_4_code
def yX1_shareOf : MethodName := ⟨RX1, "shareOf", "(LCardPort$Bank;I)I"⟩
def RX2 : String := "CardPort$Card"
def TX2 : u_T := fun k => match k with
  | 0 => ("CardPort$Card", "number", "I", true)
  | _ => ("CardPort$Card", "bank", "LCardPort$Bank;", true)
def tyX2 : Nat → FieldType := fun k => match k with
  | 0 => .int
  | _ => .object "CardPort$Bank"
abbrev wsX20 : List Cond := u_ws RX2 TX2 2
theorem nmX2 : ∀ a, a < 2 → ∀ b, b < 2 → a ≠ b → (TX2 a).2.1 ≠ (TX2 b).2.1 := by decide +kernel
theorem tyX2_ok : ∀ k, k < 2 → parseFieldDescriptor (TX2 k).2.2.1 = some (tyX2 k) := by decide +kernel
abbrev cX2_init : ByteArray := prog_4_method_1_code
def yX2_init : MethodName := ⟨RX2, "<init>", "(ILCardPort$Bank;)V"⟩
def RX3 : String := "CardPort$Chargeback"
def TX3 : u_T := fun k => match k with
  | 0 => ("CardPort$Chargeback", "number", "I", true)
  | 1 => ("CardPort$Chargeback", "capture", "LCardPort$Capture;", true)
  | 2 => ("CardPort$Chargeback", "amount", "I", true)
  | 3 => ("CardPort$Chargeback", "stage", "I", false)
  | _ => ("CardPort$Chargeback", "lastDay", "I", false)
def tyX3 : Nat → FieldType := fun k => match k with
  | 0 => .int
  | 1 => .object "CardPort$Capture"
  | 2 => .int
  | 3 => .int
  | _ => .int
abbrev wsX30 : List Cond := u_ws RX3 TX3 5
theorem nmX3 : ∀ a, a < 5 → ∀ b, b < 5 → a ≠ b → (TX3 a).2.1 ≠ (TX3 b).2.1 := by decide +kernel
theorem tyX3_ok : ∀ k, k < 5 → parseFieldDescriptor (TX3 k).2.2.1 = some (tyX3 k) := by decide +kernel
abbrev cX3_init : ByteArray := prog_5_method_1_code
def yX3_init : MethodName := ⟨RX3, "<init>", "(ILCardPort$Capture;II)V"⟩
abbrev cX3_hasDeadline : ByteArray := prog_5_method_2_code
def yX3_hasDeadline : MethodName := ⟨RX3, "hasDeadline", "()Z"⟩
abbrev cX3_isWithCard : ByteArray := prog_5_method_3_code
def yX3_isWithCard : MethodName := ⟨RX3, "isWithCard", "()Z"⟩
abbrev cX3_endIfLate : ByteArray := prog_5_method_4_code
def yX3_endIfLate : MethodName := ⟨RX3, "endIfLate", "(I)V"⟩
abbrev cX3_isDueBefore : ByteArray := prog_5_method_5_code
def yX3_isDueBefore : MethodName := ⟨RX3, "isDueBefore", "(LCardPort$Chargeback;)Z"⟩
def RX4 : String := "CardPort$Kind"
def TX4 : u_T := fun k => match k with
  | 0 => ("CardPort$Kind", "number", "I", true)
  | 1 => ("CardPort$Kind", "rate", "I", false)
  | _ => ("CardPort$Kind", "cap", "I", false)
def tyX4 : Nat → FieldType := fun k => match k with
  | 0 => .int
  | 1 => .int
  | _ => .int
abbrev wsX40 : List Cond := u_ws RX4 TX4 3
theorem nmX4 : ∀ a, a < 3 → ∀ b, b < 3 → a ≠ b → (TX4 a).2.1 ≠ (TX4 b).2.1 := by decide +kernel
theorem tyX4_ok : ∀ k, k < 3 → parseFieldDescriptor (TX4 k).2.2.1 = some (tyX4 k) := by decide +kernel
abbrev cX4_init : ByteArray := prog_6_method_1_code
def yX4_init : MethodName := ⟨RX4, "<init>", "(I)V"⟩
abbrev cX4_feeOf : ByteArray := prog_6_method_2_code
def yX4_feeOf : MethodName := ⟨RX4, "feeOf", "(I)I"⟩
def RX5 : String := "CardPort$Payment"
def TX5 : u_T := fun k => match k with
  | 0 => ("CardPort$Payment", "number", "I", true)
  | 1 => ("CardPort$Payment", "card", "LCardPort$Card;", true)
  | 2 => ("CardPort$Payment", "shop", "LCardPort$Shop;", true)
  | 3 => ("CardPort$Payment", "amount", "I", true)
  | 4 => ("CardPort$Payment", "lastDay", "I", true)
  | 5 => ("CardPort$Payment", "captured", "I", false)
  | _ => ("CardPort$Payment", "isVoid", "Z", false)
def tyX5 : Nat → FieldType := fun k => match k with
  | 0 => .int
  | 1 => .object "CardPort$Card"
  | 2 => .object "CardPort$Shop"
  | 3 => .int
  | 4 => .int
  | 5 => .int
  | _ => .boolean
abbrev wsX50 : List Cond := u_ws RX5 TX5 7
theorem nmX5 : ∀ a, a < 7 → ∀ b, b < 7 → a ≠ b → (TX5 a).2.1 ≠ (TX5 b).2.1 := by decide +kernel
theorem tyX5_ok : ∀ k, k < 7 → parseFieldDescriptor (TX5 k).2.2.1 = some (tyX5 k) := by decide +kernel
abbrev cX5_init : ByteArray := prog_7_method_1_code
def yX5_init : MethodName := ⟨RX5, "<init>", "(ILCardPort$Card;LCardPort$Shop;II)V"⟩
abbrev cX5_isAlive : ByteArray := prog_7_method_2_code
def yX5_isAlive : MethodName := ⟨RX5, "isAlive", "(I)Z"⟩
abbrev cX5_left : ByteArray := prog_7_method_3_code
def yX5_left : MethodName := ⟨RX5, "left", "()I"⟩
def RX6 : String := "CardPort$Shop"
def TX6 : u_T := fun k => match k with
  | 0 => ("CardPort$Shop", "number", "I", true)
  | 1 => ("CardPort$Shop", "bank", "LCardPort$Bank;", true)
  | _ => ("CardPort$Shop", "kind", "LCardPort$Kind;", false)
def tyX6 : Nat → FieldType := fun k => match k with
  | 0 => .int
  | 1 => .object "CardPort$Bank"
  | _ => .object "CardPort$Kind"
abbrev wsX60 : List Cond := u_ws RX6 TX6 3
theorem nmX6 : ∀ a, a < 3 → ∀ b, b < 3 → a ≠ b → (TX6 a).2.1 ≠ (TX6 b).2.1 := by decide +kernel
theorem tyX6_ok : ∀ k, k < 3 → parseFieldDescriptor (TX6 k).2.2.1 = some (tyX6 k) := by decide +kernel
abbrev cX6_init : ByteArray := prog_8_method_1_code
def yX6_init : MethodName := ⟨RX6, "<init>", "(ILCardPort$Bank;LCardPort$Kind;)V"⟩
def RX7 : String := "CardPort"
def TX7 : u_T := fun k => match k with
  | 0 => ("CardPort", "banks", "[LCardPort$Bank;", true)
  | 1 => ("CardPort", "kinds", "[LCardPort$Kind;", true)
  | 2 => ("CardPort", "shops", "[LCardPort$Shop;", true)
  | 3 => ("CardPort", "cards", "[LCardPort$Card;", true)
  | 4 => ("CardPort", "payments", "Ljava/util/List;", true)
  | 5 => ("CardPort", "captures", "Ljava/util/List;", true)
  | 6 => ("CardPort", "chargebacks", "Ljava/util/List;", true)
  | _ => ("CardPort", "day", "I", false)
def tyX7 : Nat → FieldType := fun k => match k with
  | 0 => .array (.object "CardPort$Bank")
  | 1 => .array (.object "CardPort$Kind")
  | 2 => .array (.object "CardPort$Shop")
  | 3 => .array (.object "CardPort$Card")
  | 4 => .object "java/util/List"
  | 5 => .object "java/util/List"
  | 6 => .object "java/util/List"
  | _ => .int
abbrev wsX70 : List Cond := u_ws RX7 TX7 8
theorem nmX7 : ∀ a, a < 8 → ∀ b, b < 8 → a ≠ b → (TX7 a).2.1 ≠ (TX7 b).2.1 := by decide +kernel
theorem tyX7_ok : ∀ k, k < 8 → parseFieldDescriptor (TX7 k).2.2.1 = some (tyX7 k) := by decide +kernel
abbrev cX7_init : ByteArray := prog_1_method_1_code
def yX7_init : MethodName := ⟨RX7, "<init>", "()V"⟩
abbrev cX7_shop : ByteArray := prog_1_method_2_code
def yX7_shop : MethodName := ⟨RX7, "shop", "(II)I"⟩
abbrev cX7_kind : ByteArray := prog_1_method_3_code
def yX7_kind : MethodName := ⟨RX7, "kind", "(III)I"⟩
abbrev cX7_authorise : ByteArray := prog_1_method_4_code
def yX7_authorise : MethodName := ⟨RX7, "authorise", "(III)I"⟩
abbrev cX7_capture : ByteArray := prog_1_method_5_code
def yX7_capture : MethodName := ⟨RX7, "capture", "(II)I"⟩
abbrev cX7_cancel : ByteArray := prog_1_method_6_code
def yX7_cancel : MethodName := ⟨RX7, "cancel", "(I)I"⟩
abbrev cX7_refund : ByteArray := prog_1_method_7_code
def yX7_refund : MethodName := ⟨RX7, "refund", "(II)I"⟩
abbrev cX7_dispute : ByteArray := prog_1_method_8_code
def yX7_dispute : MethodName := ⟨RX7, "dispute", "(II)I"⟩
abbrev cX7_answer : ByteArray := prog_1_method_9_code
def yX7_answer : MethodName := ⟨RX7, "answer", "(I)I"⟩
abbrev cX7_press : ByteArray := prog_1_method_10_code
def yX7_press : MethodName := ⟨RX7, "press", "(I)I"⟩
abbrev cX7_rule : ByteArray := prog_1_method_11_code
def yX7_rule : MethodName := ⟨RX7, "rule", "(IZ)I"⟩
abbrev cX7_pass : ByteArray := prog_1_method_12_code
def yX7_pass : MethodName := ⟨RX7, "pass", "(I)I"⟩
abbrev cX7_paymentOf : ByteArray := prog_1_method_13_code
def yX7_paymentOf : MethodName := ⟨RX7, "paymentOf", "(II)I"⟩
abbrev cX7_captureOf : ByteArray := prog_1_method_14_code
def yX7_captureOf : MethodName := ⟨RX7, "captureOf", "(II)I"⟩
abbrev cX7_chargebackOf : ByteArray := prog_1_method_15_code
def yX7_chargebackOf : MethodName := ⟨RX7, "chargebackOf", "(II)I"⟩
abbrev cX7_limit : ByteArray := prog_1_method_16_code
def yX7_limit : MethodName := ⟨RX7, "limit", "(I)I"⟩
abbrev cX7_net : ByteArray := prog_1_method_17_code
def yX7_net : MethodName := ⟨RX7, "net", "(IZ)J"⟩
abbrev cX7_netAnew : ByteArray := prog_1_method_18_code
def yX7_netAnew : MethodName := ⟨RX7, "netAnew", "(I)J"⟩
abbrev cX7_due : ByteArray := prog_1_method_19_code
def yX7_due : MethodName := ⟨RX7, "due", "(I)I"⟩
abbrev cX7_count : ByteArray := prog_1_method_20_code
def yX7_count : MethodName := ⟨RX7, "count", "(I)I"⟩
abbrev cX7_bankAt : ByteArray := prog_1_method_21_code
def yX7_bankAt : MethodName := ⟨RX7, "bankAt", "(I)LCardPort$Bank;"⟩
abbrev cX7_kindAt : ByteArray := prog_1_method_22_code
def yX7_kindAt : MethodName := ⟨RX7, "kindAt", "(I)LCardPort$Kind;"⟩
abbrev cX7_shopAt : ByteArray := prog_1_method_23_code
def yX7_shopAt : MethodName := ⟨RX7, "shopAt", "(I)LCardPort$Shop;"⟩
abbrev cX7_cardAt : ByteArray := prog_1_method_24_code
def yX7_cardAt : MethodName := ⟨RX7, "cardAt", "(I)LCardPort$Card;"⟩
abbrev cX7_paymentAt : ByteArray := prog_1_method_25_code
def yX7_paymentAt : MethodName := ⟨RX7, "paymentAt", "(I)LCardPort$Payment;"⟩
abbrev cX7_captureAt : ByteArray := prog_1_method_26_code
def yX7_captureAt : MethodName := ⟨RX7, "captureAt", "(I)LCardPort$Capture;"⟩
abbrev cX7_chargebackAt : ByteArray := prog_1_method_27_code
def yX7_chargebackAt : MethodName := ⟨RX7, "chargebackAt", "(I)LCardPort$Chargeback;"⟩
abbrev cX7_requireRange : ByteArray := prog_1_method_28_code
def yX7_requireRange : MethodName := ⟨RX7, "requireRange", "(III)V"⟩
abbrev cX7_requirePossible : ByteArray := prog_1_method_29_code
def yX7_requirePossible : MethodName := ⟨RX7, "requirePossible", "(Z)V"⟩
abbrev cX7_limitOf : ByteArray := prog_1_method_30_code
def yX7_limitOf : MethodName := ⟨RX7, "limitOf", "(LCardPort$Card;)I"⟩
abbrev cX7_givenBackOf : ByteArray := prog_1_method_31_code
def yX7_givenBackOf : MethodName := ⟨RX7, "givenBackOf", "(LCardPort$Capture;)I"⟩
abbrev cX7_payBackToShop : ByteArray := prog_1_method_32_code
def yX7_payBackToShop : MethodName := ⟨RX7, "payBackToShop", "(LCardPort$Chargeback;)V"⟩
abbrev cX7_countPressed : ByteArray := prog_1_method_33_code
def yX7_countPressed : MethodName := ⟨RX7, "countPressed", "()I"⟩
abbrev cX7_sumOfFees : ByteArray := prog_1_method_34_code
def yX7_sumOfFees : MethodName := ⟨RX7, "sumOfFees", "()I"⟩
abbrev cX7_beginNextDay : ByteArray := prog_1_method_35_code
def yX7_beginNextDay : MethodName := ⟨RX7, "beginNextDay", "()V"⟩
abbrev cX7_nextDueBehind : ByteArray := prog_1_method_36_code
def yX7_nextDueBehind : MethodName := ⟨RX7, "nextDueBehind", "(LCardPort$Chargeback;)LCardPort$Chargeback;"⟩
def RX8 : String := "CardPortModel"
def TX8 : u_T := fun k => match k with
  | 0 => ("CardPortModel", "day", "I", false)
  | 1 => ("CardPortModel", "kindOf", "[I", true)
  | 2 => ("CardPortModel", "rate", "[I", true)
  | 3 => ("CardPortModel", "cap", "[I", true)
  | 4 => ("CardPortModel", "payments", "I", false)
  | 5 => ("CardPortModel", "card", "[I", true)
  | 6 => ("CardPortModel", "shop", "[I", true)
  | 7 => ("CardPortModel", "amount", "[I", true)
  | 8 => ("CardPortModel", "captured", "[I", true)
  | 9 => ("CardPortModel", "last", "[I", true)
  | 10 => ("CardPortModel", "isVoid", "[Z", true)
  | 11 => ("CardPortModel", "captures", "I", false)
  | 12 => ("CardPortModel", "payment", "[I", true)
  | 13 => ("CardPortModel", "size", "[I", true)
  | 14 => ("CardPortModel", "fee", "[I", true)
  | 15 => ("CardPortModel", "refunded", "[I", true)
  | 16 => ("CardPortModel", "chargebacks", "I", false)
  | 17 => ("CardPortModel", "state", "[I", true)
  | 18 => ("CardPortModel", "capture", "[I", true)
  | 19 => ("CardPortModel", "disputed", "[I", true)
  | 20 => ("CardPortModel", "until", "[I", true)
  | 21 => ("CardPortModel", "fees", "I", false)
  | 22 => ("CardPortModel", "all", "[J", true)
  | 23 => ("CardPortModel", "today", "[J", true)
  | _ => ("CardPortModel", "thrown", "I", false)
def tyX8 : Nat → FieldType := fun k => match k with
  | 0 => .int
  | 1 => .array .int
  | 2 => .array .int
  | 3 => .array .int
  | 4 => .int
  | 5 => .array .int
  | 6 => .array .int
  | 7 => .array .int
  | 8 => .array .int
  | 9 => .array .int
  | 10 => .array .boolean
  | 11 => .int
  | 12 => .array .int
  | 13 => .array .int
  | 14 => .array .int
  | 15 => .array .int
  | 16 => .int
  | 17 => .array .int
  | 18 => .array .int
  | 19 => .array .int
  | 20 => .array .int
  | 21 => .int
  | 22 => .array .long
  | 23 => .array .long
  | _ => .int
abbrev wsX80 : List Cond := u_ws RX8 TX8 25
theorem nmX8 : ∀ a, a < 25 → ∀ b, b < 25 → a ≠ b → (TX8 a).2.1 ≠ (TX8 b).2.1 := by decide +kernel
theorem tyX8_ok : ∀ k, k < 25 → parseFieldDescriptor (TX8 k).2.2.1 = some (tyX8 k) := by decide +kernel
abbrev cX8_init : ByteArray := prog_10_method_1_code
def yX8_init : MethodName := ⟨RX8, "<init>", "()V"⟩
abbrev cX8_thrown : ByteArray := prog_10_method_2_code
def yX8_thrown : MethodName := ⟨RX8, "thrown", "()I"⟩
abbrev cX8_fails : ByteArray := prog_10_method_3_code
def yX8_fails : MethodName := ⟨RX8, "fails", "(I)Z"⟩
abbrev cX8_isIn : ByteArray := prog_10_method_4_code
def yX8_isIn : MethodName := ⟨RX8, "isIn", "(III)Z"⟩
abbrev cX8_isAmount : ByteArray := prog_10_method_5_code
def yX8_isAmount : MethodName := ⟨RX8, "isAmount", "(I)Z"⟩
abbrev cX8_isShop : ByteArray := prog_10_method_6_code
def yX8_isShop : MethodName := ⟨RX8, "isShop", "(I)Z"⟩
abbrev cX8_isKind : ByteArray := prog_10_method_7_code
def yX8_isKind : MethodName := ⟨RX8, "isKind", "(I)Z"⟩
abbrev cX8_isCard : ByteArray := prog_10_method_8_code
def yX8_isCard : MethodName := ⟨RX8, "isCard", "(I)Z"⟩
abbrev cX8_shop : ByteArray := prog_10_method_9_code
def yX8_shop : MethodName := ⟨RX8, "shop", "(II)I"⟩
abbrev cX8_feeOf : ByteArray := prog_10_method_10_code
def yX8_feeOf : MethodName := ⟨RX8, "feeOf", "(II)I"⟩
abbrev cX8_kind : ByteArray := prog_10_method_11_code
def yX8_kind : MethodName := ⟨RX8, "kind", "(III)I"⟩
abbrev cX8_limitOf : ByteArray := prog_10_method_12_code
def yX8_limitOf : MethodName := ⟨RX8, "limitOf", "(I)I"⟩
abbrev cX8_authorise : ByteArray := prog_10_method_13_code
def yX8_authorise : MethodName := ⟨RX8, "authorise", "(III)I"⟩
abbrev cX8_isPayment : ByteArray := prog_10_method_14_code
def yX8_isPayment : MethodName := ⟨RX8, "isPayment", "(I)Z"⟩
abbrev cX8_isOpen : ByteArray := prog_10_method_15_code
def yX8_isOpen : MethodName := ⟨RX8, "isOpen", "(I)Z"⟩
abbrev cX8_pays : ByteArray := prog_10_method_16_code
def yX8_pays : MethodName := ⟨RX8, "pays", "(III)V"⟩
abbrev cX8_cardBank : ByteArray := prog_10_method_17_code
def yX8_cardBank : MethodName := ⟨RX8, "cardBank", "(I)I"⟩
abbrev cX8_shopBank : ByteArray := prog_10_method_18_code
def yX8_shopBank : MethodName := ⟨RX8, "shopBank", "(I)I"⟩
abbrev cX8_capture : ByteArray := prog_10_method_19_code
def yX8_capture : MethodName := ⟨RX8, "capture", "(II)I"⟩
abbrev cX8_cancel : ByteArray := prog_10_method_20_code
def yX8_cancel : MethodName := ⟨RX8, "cancel", "(I)I"⟩
abbrev cX8_isCapture : ByteArray := prog_10_method_21_code
def yX8_isCapture : MethodName := ⟨RX8, "isCapture", "(I)Z"⟩
abbrev cX8_givenBack : ByteArray := prog_10_method_22_code
def yX8_givenBack : MethodName := ⟨RX8, "givenBack", "(I)I"⟩
abbrev cX8_canGive : ByteArray := prog_10_method_23_code
def yX8_canGive : MethodName := ⟨RX8, "canGive", "(II)Z"⟩
abbrev cX8_refund : ByteArray := prog_10_method_24_code
def yX8_refund : MethodName := ⟨RX8, "refund", "(II)I"⟩
abbrev cX8_dispute : ByteArray := prog_10_method_25_code
def yX8_dispute : MethodName := ⟨RX8, "dispute", "(II)I"⟩
abbrev cX8_misses : ByteArray := prog_10_method_26_code
def yX8_misses : MethodName := ⟨RX8, "misses", "(II)I"⟩
abbrev cX8_paysBack : ByteArray := prog_10_method_27_code
def yX8_paysBack : MethodName := ⟨RX8, "paysBack", "(I)V"⟩
abbrev cX8_answer : ByteArray := prog_10_method_28_code
def yX8_answer : MethodName := ⟨RX8, "answer", "(I)I"⟩
abbrev cX8_press : ByteArray := prog_10_method_29_code
def yX8_press : MethodName := ⟨RX8, "press", "(I)I"⟩
abbrev cX8_rule : ByteArray := prog_10_method_30_code
def yX8_rule : MethodName := ⟨RX8, "rule", "(IZ)I"⟩
abbrev cX8_pass : ByteArray := prog_10_method_31_code
def yX8_pass : MethodName := ⟨RX8, "pass", "(I)I"⟩
abbrev cX8_paymentOf : ByteArray := prog_10_method_32_code
def yX8_paymentOf : MethodName := ⟨RX8, "paymentOf", "(II)I"⟩
abbrev cX8_captureOf : ByteArray := prog_10_method_33_code
def yX8_captureOf : MethodName := ⟨RX8, "captureOf", "(II)I"⟩
abbrev cX8_isDue : ByteArray := prog_10_method_34_code
def yX8_isDue : MethodName := ⟨RX8, "isDue", "(I)Z"⟩
abbrev cX8_chargebackOf : ByteArray := prog_10_method_35_code
def yX8_chargebackOf : MethodName := ⟨RX8, "chargebackOf", "(II)I"⟩
abbrev cX8_limit : ByteArray := prog_10_method_36_code
def yX8_limit : MethodName := ⟨RX8, "limit", "(I)I"⟩
abbrev cX8_isBank : ByteArray := prog_10_method_37_code
def yX8_isBank : MethodName := ⟨RX8, "isBank", "(I)Z"⟩
abbrev cX8_net : ByteArray := prog_10_method_38_code
def yX8_net : MethodName := ⟨RX8, "net", "(IZ)J"⟩
abbrev cX8_netAnew : ByteArray := prog_10_method_39_code
def yX8_netAnew : MethodName := ⟨RX8, "netAnew", "(I)J"⟩
abbrev cX8_isAhead : ByteArray := prog_10_method_40_code
def yX8_isAhead : MethodName := ⟨RX8, "isAhead", "(II)Z"⟩
abbrev cX8_due : ByteArray := prog_10_method_41_code
def yX8_due : MethodName := ⟨RX8, "due", "(I)I"⟩
abbrev cX8_count : ByteArray := prog_10_method_42_code
def yX8_count : MethodName := ⟨RX8, "count", "(I)I"⟩
def RJx145de : String := "java/io/Serializable"
def TJx145de : u_T := fun k => match k with
  | _ => ("", "", "", false)
def tyJx145de : Nat → FieldType := fun k => match k with
  | _ => .int
abbrev wsJx145de0 : List Cond := u_ws RJx145de TJx145de 0
theorem nmJx145de : ∀ a, a < 0 → ∀ b, b < 0 → a ≠ b → (TJx145de a).2.1 ≠ (TJx145de b).2.1 := by decide +kernel
theorem tyJx145de_ok : ∀ k, k < 0 → parseFieldDescriptor (TJx145de k).2.2.1 = some (tyJx145de k) := by decide +kernel
def RJx8e188 : String := "java/lang/Cloneable"
def TJx8e188 : u_T := fun k => match k with
  | _ => ("", "", "", false)
def tyJx8e188 : Nat → FieldType := fun k => match k with
  | _ => .int
abbrev wsJx8e1880 : List Cond := u_ws RJx8e188 TJx8e188 0
theorem nmJx8e188 : ∀ a, a < 0 → ∀ b, b < 0 → a ≠ b → (TJx8e188 a).2.1 ≠ (TJx8e188 b).2.1 := by decide +kernel
theorem tyJx8e188_ok : ∀ k, k < 0 → parseFieldDescriptor (TJx8e188 k).2.2.1 = some (tyJx8e188 k) := by decide +kernel
def RJxab1ab : String := "java/lang/Iterable"
def TJxab1ab : u_T := fun k => match k with
  | _ => ("", "", "", false)
def tyJxab1ab : Nat → FieldType := fun k => match k with
  | _ => .int
abbrev wsJxab1ab0 : List Cond := u_ws RJxab1ab TJxab1ab 0
theorem nmJxab1ab : ∀ a, a < 0 → ∀ b, b < 0 → a ≠ b → (TJxab1ab a).2.1 ≠ (TJxab1ab b).2.1 := by decide +kernel
theorem tyJxab1ab_ok : ∀ k, k < 0 → parseFieldDescriptor (TJxab1ab k).2.2.1 = some (tyJxab1ab k) := by decide +kernel
def RJ9 : String := "java/lang/Math"
def TJ9 : u_T := fun k => match k with
  | _ => ("", "", "", false)
def tyJ9 : Nat → FieldType := fun k => match k with
  | _ => .int
abbrev wsJ90 : List Cond := u_ws RJ9 TJ9 0
theorem nmJ9 : ∀ a, a < 0 → ∀ b, b < 0 → a ≠ b → (TJ9 a).2.1 ≠ (TJ9 b).2.1 := by decide +kernel
theorem tyJ9_ok : ∀ k, k < 0 → parseFieldDescriptor (TJ9 k).2.2.1 = some (tyJ9 k) := by decide +kernel
abbrev cJ9_max_7cf53 : ByteArray := prog_18_method_65_code
def yJ9_max_7cf53 : MethodName := ⟨RJ9, "max", "(II)I"⟩
abbrev cJ9_min_7cf53 : ByteArray := prog_18_method_69_code
def yJ9_min_7cf53 : MethodName := ⟨RJ9, "min", "(II)I"⟩
def RJ0 : String := "java/lang/String"
def TJ0 : u_T := fun k => match k with
  | _ => ("", "", "", false)
def tyJ0 : Nat → FieldType := fun k => match k with
  | _ => .int
abbrev wsJ00 : List Cond := u_ws RJ0 TJ0 0
theorem nmJ0 : ∀ a, a < 0 → ∀ b, b < 0 → a ≠ b → (TJ0 a).2.1 ≠ (TJ0 b).2.1 := by decide +kernel
theorem tyJ0_ok : ∀ k, k < 0 → parseFieldDescriptor (TJ0 k).2.2.1 = some (tyJ0 k) := by decide +kernel
def RJ10 : String := "java/lang/System"
def TJ10 : u_T := fun k => match k with
  | _ => ("", "", "", false)
def tyJ10 : Nat → FieldType := fun k => match k with
  | _ => .int
abbrev wsJ100 : List Cond := u_ws RJ10 TJ10 0
theorem nmJ10 : ∀ a, a < 0 → ∀ b, b < 0 → a ≠ b → (TJ10 a).2.1 ≠ (TJ10 b).2.1 := by decide +kernel
theorem tyJ10_ok : ∀ k, k < 0 → parseFieldDescriptor (TJ10 k).2.2.1 = some (tyJ10 k) := by decide +kernel
def RJxa1e45 : String := "java/util/AbstractCollection"
def TJxa1e45 : u_T := fun k => match k with
  | _ => ("", "", "", false)
def tyJxa1e45 : Nat → FieldType := fun k => match k with
  | _ => .int
abbrev wsJxa1e450 : List Cond := u_ws RJxa1e45 TJxa1e45 0
theorem nmJxa1e45 : ∀ a, a < 0 → ∀ b, b < 0 → a ≠ b → (TJxa1e45 a).2.1 ≠ (TJxa1e45 b).2.1 := by decide +kernel
theorem tyJxa1e45_ok : ∀ k, k < 0 → parseFieldDescriptor (TJxa1e45 k).2.2.1 = some (tyJxa1e45 k) := by decide +kernel
abbrev cJxa1e45_init_da8c8 : ByteArray := prog_23_method_1_code
def yJxa1e45_init_da8c8 : MethodName := ⟨RJxa1e45, "<init>", "()V"⟩
def RJxc12de : String := "java/util/AbstractList"
def TJxc12de : u_T := fun k => match k with
  | _ => ("", "", "", false)
def tyJxc12de : Nat → FieldType := fun k => match k with
  | _ => .int
abbrev wsJxc12de0 : List Cond := u_ws RJxc12de TJxc12de 0
theorem nmJxc12de : ∀ a, a < 0 → ∀ b, b < 0 → a ≠ b → (TJxc12de a).2.1 ≠ (TJxc12de b).2.1 := by decide +kernel
theorem tyJxc12de_ok : ∀ k, k < 0 → parseFieldDescriptor (TJxc12de k).2.2.1 = some (tyJxc12de k) := by decide +kernel
abbrev cJxc12de_init_da8c8 : ByteArray := prog_24_method_1_code
def yJxc12de_init_da8c8 : MethodName := ⟨RJxc12de, "<init>", "()V"⟩
def RJx4a65c : String := "java/util/ArrayList"
def TJx4a65c : u_T := fun k => match k with
  | 0 => ("java/util/AbstractList", "modCount", "I", false)
  | 1 => ("java/util/ArrayList", "elementData", "[Ljava/lang/Object;", false)
  | _ => ("java/util/ArrayList", "size", "I", false)
def tyJx4a65c : Nat → FieldType := fun k => match k with
  | 0 => .int
  | 1 => .array (.object "java/lang/Object")
  | _ => .int
abbrev wsJx4a65c0 : List Cond := u_ws RJx4a65c TJx4a65c 3
theorem nmJx4a65c : ∀ a, a < 3 → ∀ b, b < 3 → a ≠ b → (TJx4a65c a).2.1 ≠ (TJx4a65c b).2.1 := by decide +kernel
theorem tyJx4a65c_ok : ∀ k, k < 3 → parseFieldDescriptor (TJx4a65c k).2.2.1 = some (tyJx4a65c k) := by decide +kernel
abbrev cJx4a65c_init_da8c8 : ByteArray := prog_25_method_2_code
def yJx4a65c_init_da8c8 : MethodName := ⟨RJx4a65c, "<init>", "()V"⟩
abbrev cJx4a65c_grow_92f84 : ByteArray := prog_25_method_6_code
def yJx4a65c_grow_92f84 : MethodName := ⟨RJx4a65c, "grow", "(I)[Ljava/lang/Object;"⟩
abbrev cJx4a65c_grow_d5877 : ByteArray := prog_25_method_7_code
def yJx4a65c_grow_d5877 : MethodName := ⟨RJx4a65c, "grow", "()[Ljava/lang/Object;"⟩
abbrev cJx4a65c_size_8abf5 : ByteArray := prog_25_method_8_code
def yJx4a65c_size_8abf5 : MethodName := ⟨RJx4a65c, "size", "()I"⟩
abbrev cJx4a65c_elementData_915e3 : ByteArray := prog_25_method_18_code
def yJx4a65c_elementData_915e3 : MethodName := ⟨RJx4a65c, "elementData", "(I)Ljava/lang/Object;"⟩
abbrev cJx4a65c_get_915e3 : ByteArray := prog_25_method_20_code
def yJx4a65c_get_915e3 : MethodName := ⟨RJx4a65c, "get", "(I)Ljava/lang/Object;"⟩
abbrev cJx4a65c_add_72be8 : ByteArray := prog_25_method_24_code
def yJx4a65c_add_72be8 : MethodName := ⟨RJx4a65c, "add", "(Ljava/lang/Object;[Ljava/lang/Object;I)V"⟩
abbrev cJx4a65c_add_9ea2d : ByteArray := prog_25_method_25_code
def yJx4a65c_add_9ea2d : MethodName := ⟨RJx4a65c, "add", "(Ljava/lang/Object;)Z"⟩
def RJ7 : String := "java/util/Arrays"
def TJ7 : u_T := fun k => match k with
  | _ => ("", "", "", false)
def tyJ7 : Nat → FieldType := fun k => match k with
  | _ => .int
abbrev wsJ70 : List Cond := u_ws RJ7 TJ7 0
theorem nmJ7 : ∀ a, a < 0 → ∀ b, b < 0 → a ≠ b → (TJ7 a).2.1 ≠ (TJ7 b).2.1 := by decide +kernel
theorem tyJ7_ok : ∀ k, k < 0 → parseFieldDescriptor (TJ7 k).2.2.1 = some (tyJ7 k) := by decide +kernel
abbrev cJ7_copyOf_1904c : ByteArray := prog_26_method_119_code
def yJ7_copyOf_1904c : MethodName := ⟨RJ7, "copyOf", "([Ljava/lang/Object;I)[Ljava/lang/Object;"⟩
abbrev cJ7_copyOf_6403c : ByteArray := prog_26_method_120_code
def yJ7_copyOf_6403c : MethodName := ⟨RJ7, "copyOf", "([Ljava/lang/Object;ILjava/lang/Class;)[Ljava/lang/Object;"⟩
def RJx5ef63 : String := "java/util/Collection"
def TJx5ef63 : u_T := fun k => match k with
  | _ => ("", "", "", false)
def tyJx5ef63 : Nat → FieldType := fun k => match k with
  | _ => .int
abbrev wsJx5ef630 : List Cond := u_ws RJx5ef63 TJx5ef63 0
theorem nmJx5ef63 : ∀ a, a < 0 → ∀ b, b < 0 → a ≠ b → (TJx5ef63 a).2.1 ≠ (TJx5ef63 b).2.1 := by decide +kernel
theorem tyJx5ef63_ok : ∀ k, k < 0 → parseFieldDescriptor (TJx5ef63 k).2.2.1 = some (tyJx5ef63 k) := by decide +kernel
def RJxbd725 : String := "java/util/List"
def TJxbd725 : u_T := fun k => match k with
  | _ => ("", "", "", false)
def tyJxbd725 : Nat → FieldType := fun k => match k with
  | _ => .int
abbrev wsJxbd7250 : List Cond := u_ws RJxbd725 TJxbd725 0
theorem nmJxbd725 : ∀ a, a < 0 → ∀ b, b < 0 → a ≠ b → (TJxbd725 a).2.1 ≠ (TJxbd725 b).2.1 := by decide +kernel
theorem tyJxbd725_ok : ∀ k, k < 0 → parseFieldDescriptor (TJxbd725 k).2.2.1 = some (tyJxbd725 k) := by decide +kernel
def RJ15 : String := "java/util/Objects"
def TJ15 : u_T := fun k => match k with
  | _ => ("", "", "", false)
def tyJ15 : Nat → FieldType := fun k => match k with
  | _ => .int
abbrev wsJ150 : List Cond := u_ws RJ15 TJ15 0
theorem nmJ15 : ∀ a, a < 0 → ∀ b, b < 0 → a ≠ b → (TJ15 a).2.1 ≠ (TJ15 b).2.1 := by decide +kernel
theorem tyJ15_ok : ∀ k, k < 0 → parseFieldDescriptor (TJ15 k).2.2.1 = some (tyJ15 k) := by decide +kernel
abbrev cJ15_checkIndex_7cf53 : ByteArray := prog_29_method_17_code
def yJ15_checkIndex_7cf53 : MethodName := ⟨RJ15, "checkIndex", "(II)I"⟩
def RJxf0a74 : String := "java/util/RandomAccess"
def TJxf0a74 : u_T := fun k => match k with
  | _ => ("", "", "", false)
def tyJxf0a74 : Nat → FieldType := fun k => match k with
  | _ => .int
abbrev wsJxf0a740 : List Cond := u_ws RJxf0a74 TJxf0a74 0
theorem nmJxf0a74 : ∀ a, a < 0 → ∀ b, b < 0 → a ≠ b → (TJxf0a74 a).2.1 ≠ (TJxf0a74 b).2.1 := by decide +kernel
theorem tyJxf0a74_ok : ∀ k, k < 0 → parseFieldDescriptor (TJxf0a74 k).2.2.1 = some (tyJxf0a74 k) := by decide +kernel
def RJxa66e6 : String := "java/util/SequencedCollection"
def TJxa66e6 : u_T := fun k => match k with
  | _ => ("", "", "", false)
def tyJxa66e6 : Nat → FieldType := fun k => match k with
  | _ => .int
abbrev wsJxa66e60 : List Cond := u_ws RJxa66e6 TJxa66e6 0
theorem nmJxa66e6 : ∀ a, a < 0 → ∀ b, b < 0 → a ≠ b → (TJxa66e6 a).2.1 ≠ (TJxa66e6 b).2.1 := by decide +kernel
theorem tyJxa66e6_ok : ∀ k, k < 0 → parseFieldDescriptor (TJxa66e6 k).2.2.1 = some (tyJxa66e6 k) := by decide +kernel
def RJ8 : String := "jdk/internal/util/ArraysSupport"
def TJ8 : u_T := fun k => match k with
  | _ => ("", "", "", false)
def tyJ8 : Nat → FieldType := fun k => match k with
  | _ => .int
abbrev wsJ80 : List Cond := u_ws RJ8 TJ8 0
theorem nmJ8 : ∀ a, a < 0 → ∀ b, b < 0 → a ≠ b → (TJ8 a).2.1 ≠ (TJ8 b).2.1 := by decide +kernel
theorem tyJ8_ok : ∀ k, k < 0 → parseFieldDescriptor (TJ8 k).2.2.1 = some (tyJ8 k) := by decide +kernel
abbrev cJ8_newLength_cabcc : ByteArray := prog_32_method_27_code
def yJ8_newLength_cabcc : MethodName := ⟨RJ8, "newLength", "(III)I"⟩
abbrev cJ8_hugeLength_7cf53 : ByteArray := prog_32_method_28_code
def yJ8_hugeLength_7cf53 : MethodName := ⟨RJ8, "hugeLength", "(II)I"⟩
def RJ3 : String := "jdk/internal/util/Preconditions"
def TJ3 : u_T := fun k => match k with
  | _ => ("", "", "", false)
def tyJ3 : Nat → FieldType := fun k => match k with
  | _ => .int
abbrev wsJ30 : List Cond := u_ws RJ3 TJ3 0
theorem nmJ3 : ∀ a, a < 0 → ∀ b, b < 0 → a ≠ b → (TJ3 a).2.1 ≠ (TJ3 b).2.1 := by decide +kernel
theorem tyJ3_ok : ∀ k, k < 0 → parseFieldDescriptor (TJ3 k).2.2.1 = some (tyJ3 k) := by decide +kernel
abbrev cJ3_checkIndex_8e157 : ByteArray := prog_33_method_11_code
def yJ3_checkIndex_8e157 : MethodName := ⟨RJ3, "checkIndex", "(IILjava/util/function/BiFunction;)I"⟩
def RL : String := "CardPortLaw"
abbrev cL_shop : ByteArray := method_3_code
def yL_shop : MethodName := ⟨RL, "shop", "(LCardPort;II[J)I"⟩
abbrev cL_kind : ByteArray := method_4_code
def yL_kind : MethodName := ⟨RL, "kind", "(LCardPort;III[J)I"⟩
abbrev cL_authorise : ByteArray := method_5_code
def yL_authorise : MethodName := ⟨RL, "authorise", "(LCardPort;III[J)I"⟩
abbrev cL_capture : ByteArray := method_6_code
def yL_capture : MethodName := ⟨RL, "capture", "(LCardPort;II[J)I"⟩
abbrev cL_cancel : ByteArray := method_7_code
def yL_cancel : MethodName := ⟨RL, "cancel", "(LCardPort;I[J)I"⟩
abbrev cL_refund : ByteArray := method_8_code
def yL_refund : MethodName := ⟨RL, "refund", "(LCardPort;II[J)I"⟩
abbrev cL_dispute : ByteArray := method_9_code
def yL_dispute : MethodName := ⟨RL, "dispute", "(LCardPort;II[J)I"⟩
abbrev cL_answer : ByteArray := method_10_code
def yL_answer : MethodName := ⟨RL, "answer", "(LCardPort;I[J)I"⟩
abbrev cL_press : ByteArray := method_11_code
def yL_press : MethodName := ⟨RL, "press", "(LCardPort;I[J)I"⟩
abbrev cL_rule : ByteArray := method_12_code
def yL_rule : MethodName := ⟨RL, "rule", "(LCardPort;IZ[J)I"⟩
abbrev cL_pass : ByteArray := method_13_code
def yL_pass : MethodName := ⟨RL, "pass", "(LCardPort;I[J)I"⟩
abbrev cL_paymentOf : ByteArray := method_14_code
def yL_paymentOf : MethodName := ⟨RL, "paymentOf", "(LCardPort;II[J)I"⟩
abbrev cL_captureOf : ByteArray := method_15_code
def yL_captureOf : MethodName := ⟨RL, "captureOf", "(LCardPort;II[J)I"⟩
abbrev cL_chargebackOf : ByteArray := method_16_code
def yL_chargebackOf : MethodName := ⟨RL, "chargebackOf", "(LCardPort;II[J)I"⟩
abbrev cL_limit : ByteArray := method_17_code
def yL_limit : MethodName := ⟨RL, "limit", "(LCardPort;I[J)I"⟩
abbrev cL_net : ByteArray := method_18_code
def yL_net : MethodName := ⟨RL, "net", "(LCardPort;IZ[J)I"⟩
abbrev cL_netAnew : ByteArray := method_19_code
def yL_netAnew : MethodName := ⟨RL, "netAnew", "(LCardPort;I[J)I"⟩
abbrev cL_due : ByteArray := method_20_code
def yL_due : MethodName := ⟨RL, "due", "(LCardPort;I[J)I"⟩
abbrev cL_count : ByteArray := method_21_code
def yL_count : MethodName := ⟨RL, "count", "(LCardPort;I[J)I"⟩
abbrev cL_law : ByteArray := code
def yL_law : MethodName := ⟨RL, "law", "([I)Z"⟩
def wsX0_init : List Cond := .code yX0_init cX0_init 1 none :: ([.methodLink RX0 1 objectInit, .instanceMethod objectInit, .code objectInit ⟨#[0xb1]⟩ 1 none, .fieldLink RX0 7 "CardPort$Bank" "netInAll" "J", .fieldLink RX0 13 "CardPort$Bank" "netToday" "J"] ++ wsX00)
def wsX0_book : List Cond := .code yX0_book cX0_book 2 none :: ([.fieldLink RX0 7 "CardPort$Bank" "netInAll" "J", .fieldLink RX0 13 "CardPort$Bank" "netToday" "J"] ++ wsX00)
def wsX0_pay : List Cond := .code yX0_pay cX0_pay 3 none :: ([.methodLink RX0 16 yX0_book, .instanceMethod yX0_book, .selects RX0 yX0_book yX0_book, .initialized RX0, .code yX0_book cX0_book 2 none, .fieldLink RX0 7 "CardPort$Bank" "netInAll" "J", .fieldLink RX0 13 "CardPort$Bank" "netToday" "J"] ++ wsX00)
def wsX1_init : List Cond := .code yX1_init cX1_init 5 none :: ([.methodLink RX1 1 objectInit, .instanceMethod objectInit, .code objectInit ⟨#[0xb1]⟩ 1 none, .fieldLink RX1 7 "CardPort$Capture" "refunded" "I", .fieldLink RX1 13 "CardPort$Capture" "number" "I", .fieldLink RX1 16 "CardPort$Capture" "payment" "LCardPort$Payment;", .fieldLink RX1 20 "CardPort$Capture" "amount" "I", .fieldLink RX1 23 "CardPort$Capture" "fee" "I"] ++ wsX10)
def wsX1_cardBank : List Cond := .code yX1_cardBank cX1_cardBank 1 (some (.object "CardPort$Bank")) :: ([.fieldLink RX1 16 "CardPort$Capture" "payment" "LCardPort$Payment;", .fieldLink RX1 26 "CardPort$Payment" "card" "LCardPort$Card;", .fieldLink RX1 32 "CardPort$Card" "bank" "LCardPort$Bank;"] ++ wsX10 ++ wsX50 ++ wsX20)
def wsX1_shopBank : List Cond := .code yX1_shopBank cX1_shopBank 1 (some (.object "CardPort$Bank")) :: ([.fieldLink RX1 16 "CardPort$Capture" "payment" "LCardPort$Payment;", .fieldLink RX1 38 "CardPort$Payment" "shop" "LCardPort$Shop;", .fieldLink RX1 42 "CardPort$Shop" "bank" "LCardPort$Bank;"] ++ wsX10 ++ wsX50 ++ wsX60)
def wsX1_shareOf : List Cond := .code yX1_shareOf cX1_shareOf 4 (some .int) :: ([.methodLink RX1 45 yX1_shopBank, .instanceMethod yX1_shopBank, .selects RX1 yX1_shopBank yX1_shopBank, .initialized RX1, .code yX1_shopBank cX1_shopBank 1 (some (.object "CardPort$Bank")), .fieldLink RX1 16 "CardPort$Capture" "payment" "LCardPort$Payment;", .fieldLink RX1 38 "CardPort$Payment" "shop" "LCardPort$Shop;", .fieldLink RX1 42 "CardPort$Shop" "bank" "LCardPort$Bank;", .methodLink RX1 49 yX1_cardBank, .instanceMethod yX1_cardBank, .selects RX1 yX1_cardBank yX1_cardBank, .code yX1_cardBank cX1_cardBank 1 (some (.object "CardPort$Bank")), .fieldLink RX1 26 "CardPort$Payment" "card" "LCardPort$Card;", .fieldLink RX1 32 "CardPort$Card" "bank" "LCardPort$Bank;"] ++ wsX10 ++ wsX50 ++ wsX60 ++ wsX20)
def wsX2_init : List Cond := .code yX2_init cX2_init 3 none :: ([.methodLink RX2 1 objectInit, .instanceMethod objectInit, .code objectInit ⟨#[0xb1]⟩ 1 none, .fieldLink RX2 7 "CardPort$Card" "number" "I", .fieldLink RX2 13 "CardPort$Card" "bank" "LCardPort$Bank;"] ++ wsX20)
def wsX3_init : List Cond := .code yX3_init cX3_init 5 none :: ([.methodLink RX3 3 objectInit, .instanceMethod objectInit, .code objectInit ⟨#[0xb1]⟩ 1 none, .fieldLink RX3 9 "CardPort$Chargeback" "stage" "I", .fieldLink RX3 15 "CardPort$Chargeback" "number" "I", .fieldLink RX3 18 "CardPort$Chargeback" "capture" "LCardPort$Capture;", .fieldLink RX3 22 "CardPort$Chargeback" "amount" "I", .fieldLink RX3 25 "CardPort$Chargeback" "lastDay" "I"] ++ wsX30)
def wsX3_hasDeadline : List Cond := .code yX3_hasDeadline cX3_hasDeadline 1 (some .boolean) :: ([.fieldLink RX3 9 "CardPort$Chargeback" "stage" "I"] ++ wsX30)
def wsX3_isWithCard : List Cond := .code yX3_isWithCard cX3_isWithCard 1 (some .boolean) :: ([.fieldLink RX3 9 "CardPort$Chargeback" "stage" "I"] ++ wsX30)
def wsX3_endIfLate : List Cond := .code yX3_endIfLate cX3_endIfLate 2 none :: ([.fieldLink RX3 25 "CardPort$Chargeback" "lastDay" "I", .fieldLink RX3 9 "CardPort$Chargeback" "stage" "I", .methodLink RX3 28 yX3_hasDeadline, .instanceMethod yX3_hasDeadline, .selects RX3 yX3_hasDeadline yX3_hasDeadline, .initialized RX3, .code yX3_hasDeadline cX3_hasDeadline 1 (some .boolean)] ++ wsX30)
def wsX3_isDueBefore : List Cond := .code yX3_isDueBefore cX3_isDueBefore 2 (some .boolean) :: ([.fieldLink RX3 25 "CardPort$Chargeback" "lastDay" "I", .fieldLink RX3 22 "CardPort$Chargeback" "amount" "I", .fieldLink RX3 15 "CardPort$Chargeback" "number" "I"] ++ wsX30)
def wsX4_init : List Cond := .code yX4_init cX4_init 2 none :: ([.methodLink RX4 3 objectInit, .instanceMethod objectInit, .code objectInit ⟨#[0xb1]⟩ 1 none, .fieldLink RX4 9 "CardPort$Kind" "rate" "I", .fieldLink RX4 15 "CardPort$Kind" "cap" "I", .fieldLink RX4 18 "CardPort$Kind" "number" "I"] ++ wsX40)
def wsX4_feeOf : List Cond := .code yX4_feeOf cX4_feeOf 2 (some .int) :: ([.fieldLink RX4 15 "CardPort$Kind" "cap" "I", .fieldLink RX4 9 "CardPort$Kind" "rate" "I", .methodLink RX4 21 Lib.Math.min.name, .static Lib.Math.min.name, .initialized "java/lang/Math", .code Lib.Math.min.name Lib.Math.min.code 2 (some .int)] ++ wsX40)
def wsX5_init : List Cond := .code yX5_init cX5_init 6 none :: ([.methodLink RX5 1 objectInit, .instanceMethod objectInit, .code objectInit ⟨#[0xb1]⟩ 1 none, .fieldLink RX5 7 "CardPort$Payment" "captured" "I", .fieldLink RX5 13 "CardPort$Payment" "isVoid" "Z", .fieldLink RX5 17 "CardPort$Payment" "number" "I", .fieldLink RX5 20 "CardPort$Payment" "card" "LCardPort$Card;", .fieldLink RX5 24 "CardPort$Payment" "shop" "LCardPort$Shop;", .fieldLink RX5 28 "CardPort$Payment" "amount" "I", .fieldLink RX5 31 "CardPort$Payment" "lastDay" "I"] ++ wsX50)
def wsX5_isAlive : List Cond := .code yX5_isAlive cX5_isAlive 2 (some .boolean) :: ([.fieldLink RX5 13 "CardPort$Payment" "isVoid" "Z", .fieldLink RX5 31 "CardPort$Payment" "lastDay" "I"] ++ wsX50)
def wsX5_left : List Cond := .code yX5_left cX5_left 1 (some .int) :: ([.fieldLink RX5 28 "CardPort$Payment" "amount" "I", .fieldLink RX5 7 "CardPort$Payment" "captured" "I"] ++ wsX50)
def wsX6_init : List Cond := .code yX6_init cX6_init 4 none :: ([.methodLink RX6 1 objectInit, .instanceMethod objectInit, .code objectInit ⟨#[0xb1]⟩ 1 none, .fieldLink RX6 7 "CardPort$Shop" "number" "I", .fieldLink RX6 13 "CardPort$Shop" "bank" "LCardPort$Bank;", .fieldLink RX6 17 "CardPort$Shop" "kind" "LCardPort$Kind;"] ++ wsX60)
def wsJxa1e45_init_da8c8 : List Cond := .code yJxa1e45_init_da8c8 cJxa1e45_init_da8c8 1 none :: ([.methodLink RJxa1e45 1 objectInit, .instanceMethod objectInit, .code objectInit ⟨#[0xb1]⟩ 1 none])
def wsJxc12de_init_da8c8 : List Cond := .code yJxc12de_init_da8c8 cJxc12de_init_da8c8 1 none :: ([.fieldLink RJxc12de 7 "java/util/AbstractList" "modCount" "I", .methodLink RJxc12de 1 yJxa1e45_init_da8c8, .instanceMethod yJxa1e45_init_da8c8, .initialized RJxa1e45, .code yJxa1e45_init_da8c8 cJxa1e45_init_da8c8 1 none, .methodLink RJxa1e45 1 objectInit, .instanceMethod objectInit, .code objectInit ⟨#[0xb1]⟩ 1 none] ++ wsJx4a65c0)
def wsJx4a65c_init_da8c8 : List Cond := .code yJx4a65c_init_da8c8 cJx4a65c_init_da8c8 1 none :: ([.fieldLink RJx4a65c 39 "java/util/ArrayList" "DEFAULTCAPACITY_EMPTY_ELEMENTDATA" "[Ljava/lang/Object;", .fieldLink RJx4a65c 9 "java/util/ArrayList" "elementData" "[Ljava/lang/Object;", .methodLink RJx4a65c 1 yJxc12de_init_da8c8, .instanceMethod yJxc12de_init_da8c8, .initialized RJxc12de, .code yJxc12de_init_da8c8 cJxc12de_init_da8c8 1 none, .fieldLink RJxc12de 7 "java/util/AbstractList" "modCount" "I", .methodLink RJxc12de 1 yJxa1e45_init_da8c8, .instanceMethod yJxa1e45_init_da8c8, .initialized RJxa1e45, .code yJxa1e45_init_da8c8 cJxa1e45_init_da8c8 1 none, .methodLink RJxa1e45 1 objectInit, .instanceMethod objectInit, .code objectInit ⟨#[0xb1]⟩ 1 none] ++ wsJx4a65c0)
def wsX7_init_r1 : List Cond := [Cond.methodLink RX7 1 objectInit, Cond.instanceMethod objectInit, Cond.code objectInit ⟨#[0xb1]⟩ 1 none, Cond.classLink RX7 9 RX0, Cond.fieldLink RX7 11 "CardPort" "banks" "[LCardPort$Bank;", Cond.classLink RX7 15 RX4, Cond.fieldLink RX7 17 "CardPort" "kinds" "[LCardPort$Kind;", Cond.classLink RX7 21 RX6, Cond.fieldLink RX7 23 "CardPort" "shops" "[LCardPort$Shop;", Cond.classLink RX7 27 RX2, Cond.fieldLink RX7 29 "CardPort" "cards" "[LCardPort$Card;", Cond.classLink RX7 33 RJx4a65c, Cond.instantiable RJx4a65c 3, Cond.initialized RJx4a65c, Cond.fieldLink RX7 36 "CardPort" "payments" "Ljava/util/List;", Cond.fieldLink RX7 40 "CardPort" "captures" "Ljava/util/List;", Cond.fieldLink RX7 43 "CardPort" "chargebacks" "Ljava/util/List;", Cond.fieldLink RX7 46 "CardPort" "day" "I", Cond.instantiable RX0 2, Cond.initialized RX0, Cond.instantiable RX4 3, Cond.initialized RX4, Cond.instantiable RX6 3, Cond.initialized RX6]
def wsX7_init_r2 : List Cond := [Cond.instantiable RX2 2, Cond.initialized RX2, Cond.methodLink RX7 35 yJx4a65c_init_da8c8, Cond.instanceMethod yJx4a65c_init_da8c8, Cond.code yJx4a65c_init_da8c8 cJx4a65c_init_da8c8 1 none, Cond.fieldLink RJx4a65c 39 "java/util/ArrayList" "DEFAULTCAPACITY_EMPTY_ELEMENTDATA" "[Ljava/lang/Object;", Cond.fieldLink RJx4a65c 9 "java/util/ArrayList" "elementData" "[Ljava/lang/Object;", Cond.methodLink RJx4a65c 1 yJxc12de_init_da8c8, Cond.instanceMethod yJxc12de_init_da8c8, Cond.initialized RJxc12de, Cond.code yJxc12de_init_da8c8 cJxc12de_init_da8c8 1 none, Cond.fieldLink RJxc12de 7 "java/util/AbstractList" "modCount" "I", Cond.methodLink RJxc12de 1 yJxa1e45_init_da8c8, Cond.instanceMethod yJxa1e45_init_da8c8, Cond.initialized RJxa1e45, Cond.code yJxa1e45_init_da8c8 cJxa1e45_init_da8c8 1 none, Cond.methodLink RJxa1e45 1 objectInit, Cond.instanceMethod yX0_init, Cond.code yX0_init cX0_init 1 none, Cond.methodLink RX0 1 objectInit, Cond.fieldLink RX0 7 "CardPort$Bank" "netInAll" "J", Cond.fieldLink RX0 13 "CardPort$Bank" "netToday" "J", Cond.methodLink RX7 51 yX4_init, Cond.instanceMethod yX4_init]
def wsX7_init_r3 : List Cond := [Cond.code yX4_init cX4_init 2 none, Cond.methodLink RX4 3 objectInit, Cond.fieldLink RX4 9 "CardPort$Kind" "rate" "I", Cond.fieldLink RX4 15 "CardPort$Kind" "cap" "I", Cond.fieldLink RX4 18 "CardPort$Kind" "number" "I", Cond.methodLink RX7 54 yX6_init, Cond.instanceMethod yX6_init, Cond.code yX6_init cX6_init 4 none, Cond.methodLink RX6 1 objectInit, Cond.fieldLink RX6 7 "CardPort$Shop" "number" "I", Cond.fieldLink RX6 13 "CardPort$Shop" "bank" "LCardPort$Bank;", Cond.fieldLink RX6 17 "CardPort$Shop" "kind" "LCardPort$Kind;", Cond.methodLink RX7 57 yX2_init, Cond.instanceMethod yX2_init, Cond.code yX2_init cX2_init 3 none, Cond.methodLink RX2 1 objectInit, Cond.fieldLink RX2 7 "CardPort$Card" "number" "I", Cond.fieldLink RX2 13 "CardPort$Card" "bank" "LCardPort$Bank;"]
def wsX7_init : List Cond := .code yX7_init cX7_init 2 none :: ((wsX7_init_r1 ++ (wsX7_init_r2 ++ wsX7_init_r3)) ++ wsX70 ++ wsJx4a65c0 ++ wsX00 ++ wsX40 ++ wsX60 ++ wsX20)
def wsX7_shopAt : List Cond := .code yX7_shopAt cX7_shopAt 2 (some (.object "CardPort$Shop")) :: ([.classLink RX7 247 "java/lang/IndexOutOfBoundsException", .initialized "java/lang/IndexOutOfBoundsException", .fieldLink RX7 23 "CardPort" "shops" "[LCardPort$Shop;"] ++ wsX70 ++ (vx_atS RX7 251 "java/lang/IndexOutOfBoundsException" ["java/lang/RuntimeException", "java/lang/Exception"]).filter goodWord)
def wsX7_kindAt : List Cond := .code yX7_kindAt cX7_kindAt 2 (some (.object "CardPort$Kind")) :: ([.classLink RX7 247 "java/lang/IndexOutOfBoundsException", .initialized "java/lang/IndexOutOfBoundsException", .fieldLink RX7 17 "CardPort" "kinds" "[LCardPort$Kind;"] ++ wsX70 ++ (vx_atS RX7 251 "java/lang/IndexOutOfBoundsException" ["java/lang/RuntimeException", "java/lang/Exception"]).filter goodWord)
def wsX7_shop : List Cond := .code yX7_shop cX7_shop 6 (some .int) :: ([.fieldLink RX7 68 "CardPort$Shop" "kind" "LCardPort$Kind;", .fieldLink RX7 72 "CardPort$Kind" "number" "I", .methodLink RX7 60 yX7_shopAt, .instanceMethod yX7_shopAt, .selects RX7 yX7_shopAt yX7_shopAt, .initialized RX7, .code yX7_shopAt cX7_shopAt 2 (some (.object "CardPort$Shop")), .classLink RX7 247 "java/lang/IndexOutOfBoundsException", .initialized "java/lang/IndexOutOfBoundsException", .fieldLink RX7 23 "CardPort" "shops" "[LCardPort$Shop;", .methodLink RX7 64 yX7_kindAt, .instanceMethod yX7_kindAt, .selects RX7 yX7_kindAt yX7_kindAt, .code yX7_kindAt cX7_kindAt 2 (some (.object "CardPort$Kind")), .fieldLink RX7 17 "CardPort" "kinds" "[LCardPort$Kind;"] ++ wsX60 ++ wsX40 ++ wsX70 ++ (vx_atS RX7 251 "java/lang/IndexOutOfBoundsException" ["java/lang/RuntimeException", "java/lang/Exception"]).filter goodWord)
def wsX7_requireRange : List Cond := .code yX7_requireRange cX7_requireRange 3 none :: ([.classLink RX7 213 "java/lang/IllegalArgumentException", .initialized "java/lang/IllegalArgumentException"] ++ (vx_atS RX7 217 "java/lang/IllegalArgumentException" ["java/lang/RuntimeException", "java/lang/Exception"]).filter goodWord)
def wsX7_kind_r1 : List Cond := [Cond.fieldLink RX7 79 "CardPort$Kind" "rate" "I", Cond.fieldLink RX7 82 "CardPort$Kind" "cap" "I", Cond.methodLink RX7 64 yX7_kindAt, Cond.instanceMethod yX7_kindAt, Cond.selects RX7 yX7_kindAt yX7_kindAt, Cond.initialized RX7, Cond.code yX7_kindAt cX7_kindAt 2 (some (.object "CardPort$Kind")), Cond.classLink RX7 247 "java/lang/IndexOutOfBoundsException", Cond.initialized "java/lang/IndexOutOfBoundsException", Cond.fieldLink RX7 17 "CardPort" "kinds" "[LCardPort$Kind;", Cond.methodLink RX7 75 yX7_requireRange, Cond.static yX7_requireRange, Cond.code yX7_requireRange cX7_requireRange 3 none, Cond.classLink RX7 213 "java/lang/IllegalArgumentException", Cond.initialized "java/lang/IllegalArgumentException", Cond.methodLink RX7 85 yX4_feeOf, Cond.instanceMethod yX4_feeOf, Cond.selects RX4 yX4_feeOf yX4_feeOf, Cond.initialized RX4, Cond.code yX4_feeOf cX4_feeOf 2 (some .int), Cond.fieldLink RX4 15 "CardPort$Kind" "cap" "I", Cond.fieldLink RX4 9 "CardPort$Kind" "rate" "I", Cond.methodLink RX4 21 Lib.Math.min.name, Cond.static Lib.Math.min.name]
def wsX7_kind_r2 : List Cond := [Cond.initialized "java/lang/Math", Cond.code Lib.Math.min.name Lib.Math.min.code 2 (some .int)]
def wsX7_kind : List Cond := .code yX7_kind cX7_kind 5 (some .int) :: ((wsX7_kind_r1 ++ wsX7_kind_r2) ++ wsX40 ++ wsX70 ++ (vx_atS RX7 251 "java/lang/IndexOutOfBoundsException" ["java/lang/RuntimeException", "java/lang/Exception"]).filter goodWord ++ (vx_atS RX7 217 "java/lang/IllegalArgumentException" ["java/lang/RuntimeException", "java/lang/Exception"]).filter goodWord)
def wsX7_cardAt : List Cond := .code yX7_cardAt cX7_cardAt 2 (some (.object "CardPort$Card")) :: ([.classLink RX7 247 "java/lang/IndexOutOfBoundsException", .initialized "java/lang/IndexOutOfBoundsException", .fieldLink RX7 29 "CardPort" "cards" "[LCardPort$Card;"] ++ wsX70 ++ (vx_atS RX7 251 "java/lang/IndexOutOfBoundsException" ["java/lang/RuntimeException", "java/lang/Exception"]).filter goodWord)
def wsJx4a65c_size_8abf5 : List Cond := .code yJx4a65c_size_8abf5 cJx4a65c_size_8abf5 1 (some .int) :: ([.fieldLink RJx4a65c 48 "java/util/ArrayList" "size" "I"] ++ wsJx4a65c0)
def wsX7_requirePossible : List Cond := .code yX7_requirePossible cX7_requirePossible 1 none :: ([.classLink RX7 275 "java/lang/IllegalStateException", .initialized "java/lang/IllegalStateException"] ++ (vx_atS RX7 279 "java/lang/IllegalStateException" ["java/lang/RuntimeException", "java/lang/Exception"]).filter goodWord)
def wsJ3_checkIndex_8e157 : List Cond := .code yJ3_checkIndex_8e157 cJ3_checkIndex_8e157 3 (some .int) :: ([])
def wsJ15_checkIndex_7cf53 : List Cond := .code yJ15_checkIndex_7cf53 cJ15_checkIndex_7cf53 2 (some .int) :: ([.methodLink RJ15 105 yJ3_checkIndex_8e157, .static yJ3_checkIndex_8e157, .initialized RJ3, .code yJ3_checkIndex_8e157 cJ3_checkIndex_8e157 3 (some .int)])
def wsJx4a65c_elementData_915e3 : List Cond := .code yJx4a65c_elementData_915e3 cJx4a65c_elementData_915e3 2 (some (.object "java/lang/Object")) :: ([.fieldLink RJx4a65c 9 "java/util/ArrayList" "elementData" "[Ljava/lang/Object;"] ++ wsJx4a65c0)
def wsJx4a65c_get_915e3 : List Cond := .code yJx4a65c_get_915e3 cJx4a65c_get_915e3 2 (some (.object "java/lang/Object")) :: ([.fieldLink RJx4a65c 48 "java/util/ArrayList" "size" "I", .methodLink RJx4a65c 118 yJ15_checkIndex_7cf53, .static yJ15_checkIndex_7cf53, .initialized RJ15, .code yJ15_checkIndex_7cf53 cJ15_checkIndex_7cf53 2 (some .int), .methodLink RJ15 105 yJ3_checkIndex_8e157, .static yJ3_checkIndex_8e157, .initialized RJ3, .code yJ3_checkIndex_8e157 cJ3_checkIndex_8e157 3 (some .int), .methodLink RJx4a65c 123 yJx4a65c_elementData_915e3, .instanceMethod yJx4a65c_elementData_915e3, .selects RJx4a65c yJx4a65c_elementData_915e3 yJx4a65c_elementData_915e3, .initialized RJx4a65c, .code yJx4a65c_elementData_915e3 cJx4a65c_elementData_915e3 2 (some (.object "java/lang/Object")), .fieldLink RJx4a65c 9 "java/util/ArrayList" "elementData" "[Ljava/lang/Object;"] ++ wsJx4a65c0)
def wsX7_limitOf_r1 : List Cond := [Cond.fieldLink RX7 40 "CardPort" "captures" "Ljava/util/List;", Cond.classLink RX7 129 "CardPort$Capture", Cond.fieldLink RX7 220 "CardPort$Capture" "payment" "LCardPort$Payment;", Cond.fieldLink RX7 205 "CardPort$Payment" "card" "LCardPort$Card;", Cond.fieldLink RX7 148 "CardPort$Capture" "amount" "I", Cond.methodLink RX7 280 Lib.Math.max.name, Cond.static Lib.Math.max.name, Cond.initialized "java/lang/Math", Cond.code Lib.Math.max.name Lib.Math.max.code 2 (some .int), Cond.methodLink RX7 94 ⟨"java/util/List", "size", "()I"⟩, Cond.selects RJx4a65c ⟨"java/util/List", "size", "()I"⟩ yJx4a65c_size_8abf5, Cond.instanceMethod yJx4a65c_size_8abf5, Cond.initialized RJx4a65c, Cond.code yJx4a65c_size_8abf5 cJx4a65c_size_8abf5 1 (some .int), Cond.fieldLink RJx4a65c 48 "java/util/ArrayList" "size" "I", Cond.methodLink RX7 235 ⟨"java/util/List", "get", "(I)Ljava/lang/Object;"⟩, Cond.selects RJx4a65c ⟨"java/util/List", "get", "(I)Ljava/lang/Object;"⟩ yJx4a65c_get_915e3, Cond.instanceMethod yJx4a65c_get_915e3, Cond.code yJx4a65c_get_915e3 cJx4a65c_get_915e3 2 (some (.object "java/lang/Object")), Cond.methodLink RJx4a65c 118 yJ15_checkIndex_7cf53, Cond.static yJ15_checkIndex_7cf53, Cond.initialized RJ15, Cond.code yJ15_checkIndex_7cf53 cJ15_checkIndex_7cf53 2 (some .int), Cond.methodLink RJ15 105 yJ3_checkIndex_8e157]
def wsX7_limitOf_r2 : List Cond := [Cond.static yJ3_checkIndex_8e157, Cond.initialized RJ3, Cond.code yJ3_checkIndex_8e157 cJ3_checkIndex_8e157 3 (some .int), Cond.methodLink RJx4a65c 123 yJx4a65c_elementData_915e3, Cond.instanceMethod yJx4a65c_elementData_915e3, Cond.selects RJx4a65c yJx4a65c_elementData_915e3 yJx4a65c_elementData_915e3, Cond.code yJx4a65c_elementData_915e3 cJx4a65c_elementData_915e3 2 (some (.object "java/lang/Object")), Cond.fieldLink RJx4a65c 9 "java/util/ArrayList" "elementData" "[Ljava/lang/Object;"]
def wsX7_limitOf : List Cond := .code yX7_limitOf cX7_limitOf 6 (some .int) :: ((wsX7_limitOf_r1 ++ wsX7_limitOf_r2) ++ wsX70 ++ wsX10 ++ wsX50 ++ wsJx4a65c0)
def wsJ8_hugeLength_7cf53 : List Cond := .code yJ8_hugeLength_7cf53 cJ8_hugeLength_7cf53 3 (some .int) :: ([.constant RJ8 200 (2147483639)])
def wsJ8_newLength_cabcc : List Cond := .code yJ8_newLength_cabcc cJ8_newLength_cabcc 4 (some .int) :: ([.methodLink RJ8 194 Lib.Math.max.name, .static Lib.Math.max.name, .initialized "java/lang/Math", .code Lib.Math.max.name Lib.Math.max.code 2 (some .int), .constant RJ8 200 (2147483639), .methodLink RJ8 201 yJ8_hugeLength_7cf53, .static yJ8_hugeLength_7cf53, .initialized RJ8, .code yJ8_hugeLength_7cf53 cJ8_hugeLength_7cf53 3 (some .int)])
def wsJ7_copyOf_6403c : List Cond := .code yJ7_copyOf_6403c cJ7_copyOf_6403c 4 (some (.array (.object "java/lang/Object"))) :: ([.classLink RJ7 110 "[Ljava/lang/Object;", .classLink RJ7 2 "java/lang/Object", .methodLink RJ7 304 Lib.Math.min.name, .static Lib.Math.min.name, .initialized "java/lang/Math", .code Lib.Math.min.name Lib.Math.min.code 2 (some .int), .methodLink RJ7 150 arraycopyName, .native arraycopyName, .static arraycopyName, .initialized "java/lang/System"])
def wsJ7_copyOf_1904c : List Cond := .code yJ7_copyOf_1904c cJ7_copyOf_1904c 2 (some (.array (.object "java/lang/Object"))) :: ([.methodLink RJ7 86 ⟨"java/lang/Object", "getClass", "()Ljava/lang/Class;"⟩, .selects "[Ljava/lang/Object;" ⟨"java/lang/Object", "getClass", "()Ljava/lang/Class;"⟩ ⟨"java/lang/Object", "getClass", "()Ljava/lang/Class;"⟩, .instanceMethod ⟨"java/lang/Object", "getClass", "()Ljava/lang/Class;"⟩, .native ⟨"java/lang/Object", "getClass", "()Ljava/lang/Class;"⟩, .methodLink RJ7 300 yJ7_copyOf_6403c, .static yJ7_copyOf_6403c, .initialized RJ7, .code yJ7_copyOf_6403c cJ7_copyOf_6403c 4 (some (.array (.object "java/lang/Object"))), .classLink RJ7 110 "[Ljava/lang/Object;", .classLink RJ7 2 "java/lang/Object", .methodLink RJ7 304 Lib.Math.min.name, .static Lib.Math.min.name, .initialized "java/lang/Math", .code Lib.Math.min.name Lib.Math.min.code 2 (some .int), .methodLink RJ7 150 arraycopyName, .native arraycopyName, .static arraycopyName, .initialized "java/lang/System"])
def wsJx4a65c_grow_92f84_r1 : List Cond := [Cond.fieldLink RJx4a65c 9 "java/util/ArrayList" "elementData" "[Ljava/lang/Object;", Cond.fieldLink RJx4a65c 39 "java/util/ArrayList" "DEFAULTCAPACITY_EMPTY_ELEMENTDATA" "[Ljava/lang/Object;", Cond.methodLink RJx4a65c 79 Lib.Math.max.name, Cond.static Lib.Math.max.name, Cond.initialized "java/lang/Math", Cond.code Lib.Math.max.name Lib.Math.max.code 2 (some .int), Cond.classLink RJx4a65c 7 "java/lang/Object", Cond.methodLink RJx4a65c 73 yJ8_newLength_cabcc, Cond.static yJ8_newLength_cabcc, Cond.initialized RJ8, Cond.code yJ8_newLength_cabcc cJ8_newLength_cabcc 4 (some .int), Cond.methodLink RJ8 194 Lib.Math.max.name, Cond.constant RJ8 200 (2147483639), Cond.methodLink RJ8 201 yJ8_hugeLength_7cf53, Cond.static yJ8_hugeLength_7cf53, Cond.code yJ8_hugeLength_7cf53 cJ8_hugeLength_7cf53 3 (some .int), Cond.methodLink RJx4a65c 66 yJ7_copyOf_1904c, Cond.static yJ7_copyOf_1904c, Cond.initialized RJ7, Cond.code yJ7_copyOf_1904c cJ7_copyOf_1904c 2 (some (.array (.object "java/lang/Object"))), Cond.methodLink RJ7 86 ⟨"java/lang/Object", "getClass", "()Ljava/lang/Class;"⟩, Cond.selects "[Ljava/lang/Object;" ⟨"java/lang/Object", "getClass", "()Ljava/lang/Class;"⟩ ⟨"java/lang/Object", "getClass", "()Ljava/lang/Class;"⟩, Cond.instanceMethod ⟨"java/lang/Object", "getClass", "()Ljava/lang/Class;"⟩, Cond.native ⟨"java/lang/Object", "getClass", "()Ljava/lang/Class;"⟩]
def wsJx4a65c_grow_92f84_r2 : List Cond := [Cond.methodLink RJ7 300 yJ7_copyOf_6403c, Cond.static yJ7_copyOf_6403c, Cond.code yJ7_copyOf_6403c cJ7_copyOf_6403c 4 (some (.array (.object "java/lang/Object"))), Cond.classLink RJ7 110 "[Ljava/lang/Object;", Cond.classLink RJ7 2 "java/lang/Object", Cond.methodLink RJ7 304 Lib.Math.min.name, Cond.static Lib.Math.min.name, Cond.code Lib.Math.min.name Lib.Math.min.code 2 (some .int), Cond.methodLink RJ7 150 arraycopyName, Cond.native arraycopyName, Cond.static arraycopyName, Cond.initialized "java/lang/System"]
def wsJx4a65c_grow_92f84 : List Cond := .code yJx4a65c_grow_92f84 cJx4a65c_grow_92f84 4 (some (.array (.object "java/lang/Object"))) :: ((wsJx4a65c_grow_92f84_r1 ++ wsJx4a65c_grow_92f84_r2) ++ wsJx4a65c0)
def wsJx4a65c_grow_d5877_r1 : List Cond := [Cond.fieldLink RJx4a65c 48 "java/util/ArrayList" "size" "I", Cond.methodLink RJx4a65c 69 yJx4a65c_grow_92f84, Cond.instanceMethod yJx4a65c_grow_92f84, Cond.selects RJx4a65c yJx4a65c_grow_92f84 yJx4a65c_grow_92f84, Cond.initialized RJx4a65c, Cond.code yJx4a65c_grow_92f84 cJx4a65c_grow_92f84 4 (some (.array (.object "java/lang/Object"))), Cond.fieldLink RJx4a65c 9 "java/util/ArrayList" "elementData" "[Ljava/lang/Object;", Cond.fieldLink RJx4a65c 39 "java/util/ArrayList" "DEFAULTCAPACITY_EMPTY_ELEMENTDATA" "[Ljava/lang/Object;", Cond.methodLink RJx4a65c 79 Lib.Math.max.name, Cond.static Lib.Math.max.name, Cond.initialized "java/lang/Math", Cond.code Lib.Math.max.name Lib.Math.max.code 2 (some .int), Cond.classLink RJx4a65c 7 "java/lang/Object", Cond.methodLink RJx4a65c 73 yJ8_newLength_cabcc, Cond.static yJ8_newLength_cabcc, Cond.initialized RJ8, Cond.code yJ8_newLength_cabcc cJ8_newLength_cabcc 4 (some .int), Cond.methodLink RJ8 194 Lib.Math.max.name, Cond.constant RJ8 200 (2147483639), Cond.methodLink RJ8 201 yJ8_hugeLength_7cf53, Cond.static yJ8_hugeLength_7cf53, Cond.code yJ8_hugeLength_7cf53 cJ8_hugeLength_7cf53 3 (some .int), Cond.methodLink RJx4a65c 66 yJ7_copyOf_1904c, Cond.static yJ7_copyOf_1904c]
def wsJx4a65c_grow_d5877_r2 : List Cond := [Cond.initialized RJ7, Cond.code yJ7_copyOf_1904c cJ7_copyOf_1904c 2 (some (.array (.object "java/lang/Object"))), Cond.methodLink RJ7 86 ⟨"java/lang/Object", "getClass", "()Ljava/lang/Class;"⟩, Cond.selects "[Ljava/lang/Object;" ⟨"java/lang/Object", "getClass", "()Ljava/lang/Class;"⟩ ⟨"java/lang/Object", "getClass", "()Ljava/lang/Class;"⟩, Cond.instanceMethod ⟨"java/lang/Object", "getClass", "()Ljava/lang/Class;"⟩, Cond.native ⟨"java/lang/Object", "getClass", "()Ljava/lang/Class;"⟩, Cond.methodLink RJ7 300 yJ7_copyOf_6403c, Cond.static yJ7_copyOf_6403c, Cond.code yJ7_copyOf_6403c cJ7_copyOf_6403c 4 (some (.array (.object "java/lang/Object"))), Cond.classLink RJ7 110 "[Ljava/lang/Object;", Cond.classLink RJ7 2 "java/lang/Object", Cond.methodLink RJ7 304 Lib.Math.min.name, Cond.static Lib.Math.min.name, Cond.code Lib.Math.min.name Lib.Math.min.code 2 (some .int), Cond.methodLink RJ7 150 arraycopyName, Cond.native arraycopyName, Cond.static arraycopyName, Cond.initialized "java/lang/System"]
def wsJx4a65c_grow_d5877 : List Cond := .code yJx4a65c_grow_d5877 cJx4a65c_grow_d5877 1 (some (.array (.object "java/lang/Object"))) :: ((wsJx4a65c_grow_d5877_r1 ++ wsJx4a65c_grow_d5877_r2) ++ wsJx4a65c0)
def wsJx4a65c_add_72be8_r1 : List Cond := [Cond.fieldLink RJx4a65c 48 "java/util/ArrayList" "size" "I", Cond.methodLink RJx4a65c 129 yJx4a65c_grow_d5877, Cond.instanceMethod yJx4a65c_grow_d5877, Cond.selects RJx4a65c yJx4a65c_grow_d5877 yJx4a65c_grow_d5877, Cond.initialized RJx4a65c, Cond.code yJx4a65c_grow_d5877 cJx4a65c_grow_d5877 1 (some (.array (.object "java/lang/Object"))), Cond.methodLink RJx4a65c 69 yJx4a65c_grow_92f84, Cond.instanceMethod yJx4a65c_grow_92f84, Cond.selects RJx4a65c yJx4a65c_grow_92f84 yJx4a65c_grow_92f84, Cond.code yJx4a65c_grow_92f84 cJx4a65c_grow_92f84 4 (some (.array (.object "java/lang/Object"))), Cond.fieldLink RJx4a65c 9 "java/util/ArrayList" "elementData" "[Ljava/lang/Object;", Cond.fieldLink RJx4a65c 39 "java/util/ArrayList" "DEFAULTCAPACITY_EMPTY_ELEMENTDATA" "[Ljava/lang/Object;", Cond.methodLink RJx4a65c 79 Lib.Math.max.name, Cond.static Lib.Math.max.name, Cond.initialized "java/lang/Math", Cond.code Lib.Math.max.name Lib.Math.max.code 2 (some .int), Cond.classLink RJx4a65c 7 "java/lang/Object", Cond.methodLink RJx4a65c 73 yJ8_newLength_cabcc, Cond.static yJ8_newLength_cabcc, Cond.initialized RJ8, Cond.code yJ8_newLength_cabcc cJ8_newLength_cabcc 4 (some .int), Cond.methodLink RJ8 194 Lib.Math.max.name, Cond.constant RJ8 200 (2147483639), Cond.methodLink RJ8 201 yJ8_hugeLength_7cf53]
def wsJx4a65c_add_72be8_r2 : List Cond := [Cond.static yJ8_hugeLength_7cf53, Cond.code yJ8_hugeLength_7cf53 cJ8_hugeLength_7cf53 3 (some .int), Cond.methodLink RJx4a65c 66 yJ7_copyOf_1904c, Cond.static yJ7_copyOf_1904c, Cond.initialized RJ7, Cond.code yJ7_copyOf_1904c cJ7_copyOf_1904c 2 (some (.array (.object "java/lang/Object"))), Cond.methodLink RJ7 86 ⟨"java/lang/Object", "getClass", "()Ljava/lang/Class;"⟩, Cond.selects "[Ljava/lang/Object;" ⟨"java/lang/Object", "getClass", "()Ljava/lang/Class;"⟩ ⟨"java/lang/Object", "getClass", "()Ljava/lang/Class;"⟩, Cond.instanceMethod ⟨"java/lang/Object", "getClass", "()Ljava/lang/Class;"⟩, Cond.native ⟨"java/lang/Object", "getClass", "()Ljava/lang/Class;"⟩, Cond.methodLink RJ7 300 yJ7_copyOf_6403c, Cond.static yJ7_copyOf_6403c, Cond.code yJ7_copyOf_6403c cJ7_copyOf_6403c 4 (some (.array (.object "java/lang/Object"))), Cond.classLink RJ7 110 "[Ljava/lang/Object;", Cond.classLink RJ7 2 "java/lang/Object", Cond.methodLink RJ7 304 Lib.Math.min.name, Cond.static Lib.Math.min.name, Cond.code Lib.Math.min.name Lib.Math.min.code 2 (some .int), Cond.methodLink RJ7 150 arraycopyName, Cond.native arraycopyName, Cond.static arraycopyName, Cond.initialized "java/lang/System"]
def wsJx4a65c_add_72be8 : List Cond := .code yJx4a65c_add_72be8 cJx4a65c_add_72be8 4 none :: ((wsJx4a65c_add_72be8_r1 ++ wsJx4a65c_add_72be8_r2) ++ wsJx4a65c0)
def wsJx4a65c_add_9ea2d_r1 : List Cond := [Cond.fieldLink RJx4a65c 63 "java/util/ArrayList" "modCount" "I", Cond.sameField "java/util/ArrayList" "java/util/AbstractList" "modCount" "I", Cond.fieldLink RJx4a65c 9 "java/util/ArrayList" "elementData" "[Ljava/lang/Object;", Cond.fieldLink RJx4a65c 48 "java/util/ArrayList" "size" "I", Cond.methodLink RJx4a65c 131 yJx4a65c_add_72be8, Cond.instanceMethod yJx4a65c_add_72be8, Cond.selects RJx4a65c yJx4a65c_add_72be8 yJx4a65c_add_72be8, Cond.initialized RJx4a65c, Cond.code yJx4a65c_add_72be8 cJx4a65c_add_72be8 4 none, Cond.methodLink RJx4a65c 129 yJx4a65c_grow_d5877, Cond.instanceMethod yJx4a65c_grow_d5877, Cond.selects RJx4a65c yJx4a65c_grow_d5877 yJx4a65c_grow_d5877, Cond.code yJx4a65c_grow_d5877 cJx4a65c_grow_d5877 1 (some (.array (.object "java/lang/Object"))), Cond.methodLink RJx4a65c 69 yJx4a65c_grow_92f84, Cond.instanceMethod yJx4a65c_grow_92f84, Cond.selects RJx4a65c yJx4a65c_grow_92f84 yJx4a65c_grow_92f84, Cond.code yJx4a65c_grow_92f84 cJx4a65c_grow_92f84 4 (some (.array (.object "java/lang/Object"))), Cond.fieldLink RJx4a65c 39 "java/util/ArrayList" "DEFAULTCAPACITY_EMPTY_ELEMENTDATA" "[Ljava/lang/Object;", Cond.methodLink RJx4a65c 79 Lib.Math.max.name, Cond.static Lib.Math.max.name, Cond.initialized "java/lang/Math", Cond.code Lib.Math.max.name Lib.Math.max.code 2 (some .int), Cond.classLink RJx4a65c 7 "java/lang/Object", Cond.methodLink RJx4a65c 73 yJ8_newLength_cabcc]
def wsJx4a65c_add_9ea2d_r2 : List Cond := [Cond.static yJ8_newLength_cabcc, Cond.initialized RJ8, Cond.code yJ8_newLength_cabcc cJ8_newLength_cabcc 4 (some .int), Cond.methodLink RJ8 194 Lib.Math.max.name, Cond.constant RJ8 200 (2147483639), Cond.methodLink RJ8 201 yJ8_hugeLength_7cf53, Cond.static yJ8_hugeLength_7cf53, Cond.code yJ8_hugeLength_7cf53 cJ8_hugeLength_7cf53 3 (some .int), Cond.methodLink RJx4a65c 66 yJ7_copyOf_1904c, Cond.static yJ7_copyOf_1904c, Cond.initialized RJ7, Cond.code yJ7_copyOf_1904c cJ7_copyOf_1904c 2 (some (.array (.object "java/lang/Object"))), Cond.methodLink RJ7 86 ⟨"java/lang/Object", "getClass", "()Ljava/lang/Class;"⟩, Cond.selects "[Ljava/lang/Object;" ⟨"java/lang/Object", "getClass", "()Ljava/lang/Class;"⟩ ⟨"java/lang/Object", "getClass", "()Ljava/lang/Class;"⟩, Cond.instanceMethod ⟨"java/lang/Object", "getClass", "()Ljava/lang/Class;"⟩, Cond.native ⟨"java/lang/Object", "getClass", "()Ljava/lang/Class;"⟩, Cond.methodLink RJ7 300 yJ7_copyOf_6403c, Cond.static yJ7_copyOf_6403c, Cond.code yJ7_copyOf_6403c cJ7_copyOf_6403c 4 (some (.array (.object "java/lang/Object"))), Cond.classLink RJ7 110 "[Ljava/lang/Object;", Cond.classLink RJ7 2 "java/lang/Object", Cond.methodLink RJ7 304 Lib.Math.min.name, Cond.static Lib.Math.min.name, Cond.code Lib.Math.min.name Lib.Math.min.code 2 (some .int)]
def wsJx4a65c_add_9ea2d_r3 : List Cond := [Cond.methodLink RJ7 150 arraycopyName, Cond.native arraycopyName, Cond.static arraycopyName, Cond.initialized "java/lang/System"]
def wsJx4a65c_add_9ea2d : List Cond := .code yJx4a65c_add_9ea2d cJx4a65c_add_9ea2d 2 (some .boolean) :: ((wsJx4a65c_add_9ea2d_r1 ++ (wsJx4a65c_add_9ea2d_r2 ++ wsJx4a65c_add_9ea2d_r3)) ++ wsJx4a65c0)
def wsX7_authorise_r1 : List Cond := [Cond.constant RX7 93 (100000), Cond.fieldLink RX7 36 "CardPort" "payments" "Ljava/util/List;", Cond.classLink RX7 108 RX5, Cond.instantiable RX5 7, Cond.initialized RX5, Cond.fieldLink RX7 46 "CardPort" "day" "I", Cond.fieldLink RX7 117 "CardPort$Payment" "number" "I", Cond.methodLink RX7 89 yX7_cardAt, Cond.instanceMethod yX7_cardAt, Cond.selects RX7 yX7_cardAt yX7_cardAt, Cond.initialized RX7, Cond.code yX7_cardAt cX7_cardAt 2 (some (.object "CardPort$Card")), Cond.classLink RX7 247 "java/lang/IndexOutOfBoundsException", Cond.initialized "java/lang/IndexOutOfBoundsException", Cond.fieldLink RX7 29 "CardPort" "cards" "[LCardPort$Card;", Cond.methodLink RX7 60 yX7_shopAt, Cond.instanceMethod yX7_shopAt, Cond.selects RX7 yX7_shopAt yX7_shopAt, Cond.code yX7_shopAt cX7_shopAt 2 (some (.object "CardPort$Shop")), Cond.fieldLink RX7 23 "CardPort" "shops" "[LCardPort$Shop;", Cond.methodLink RX7 75 yX7_requireRange, Cond.static yX7_requireRange, Cond.code yX7_requireRange cX7_requireRange 3 none, Cond.classLink RX7 213 "java/lang/IllegalArgumentException"]
def wsX7_authorise_r2 : List Cond := [Cond.initialized "java/lang/IllegalArgumentException", Cond.methodLink RX7 94 ⟨"java/util/List", "size", "()I"⟩, Cond.selects RJx4a65c ⟨"java/util/List", "size", "()I"⟩ yJx4a65c_size_8abf5, Cond.instanceMethod yJx4a65c_size_8abf5, Cond.initialized RJx4a65c, Cond.code yJx4a65c_size_8abf5 cJx4a65c_size_8abf5 1 (some .int), Cond.fieldLink RJx4a65c 48 "java/util/ArrayList" "size" "I", Cond.methodLink RX7 100 yX7_requirePossible, Cond.static yX7_requirePossible, Cond.code yX7_requirePossible cX7_requirePossible 1 none, Cond.classLink RX7 275 "java/lang/IllegalStateException", Cond.initialized "java/lang/IllegalStateException", Cond.methodLink RX7 104 yX7_limitOf, Cond.instanceMethod yX7_limitOf, Cond.selects RX7 yX7_limitOf yX7_limitOf, Cond.code yX7_limitOf cX7_limitOf 6 (some .int), Cond.fieldLink RX7 40 "CardPort" "captures" "Ljava/util/List;", Cond.classLink RX7 129 "CardPort$Capture", Cond.fieldLink RX7 220 "CardPort$Capture" "payment" "LCardPort$Payment;", Cond.fieldLink RX7 205 "CardPort$Payment" "card" "LCardPort$Card;", Cond.fieldLink RX7 148 "CardPort$Capture" "amount" "I", Cond.methodLink RX7 280 Lib.Math.max.name, Cond.static Lib.Math.max.name, Cond.initialized "java/lang/Math"]
def wsX7_authorise_r3 : List Cond := [Cond.code Lib.Math.max.name Lib.Math.max.code 2 (some .int), Cond.methodLink RX7 235 ⟨"java/util/List", "get", "(I)Ljava/lang/Object;"⟩, Cond.selects RJx4a65c ⟨"java/util/List", "get", "(I)Ljava/lang/Object;"⟩ yJx4a65c_get_915e3, Cond.instanceMethod yJx4a65c_get_915e3, Cond.code yJx4a65c_get_915e3 cJx4a65c_get_915e3 2 (some (.object "java/lang/Object")), Cond.methodLink RJx4a65c 118 yJ15_checkIndex_7cf53, Cond.static yJ15_checkIndex_7cf53, Cond.initialized RJ15, Cond.code yJ15_checkIndex_7cf53 cJ15_checkIndex_7cf53 2 (some .int), Cond.methodLink RJ15 105 yJ3_checkIndex_8e157, Cond.static yJ3_checkIndex_8e157, Cond.initialized RJ3, Cond.code yJ3_checkIndex_8e157 cJ3_checkIndex_8e157 3 (some .int), Cond.methodLink RJx4a65c 123 yJx4a65c_elementData_915e3, Cond.instanceMethod yJx4a65c_elementData_915e3, Cond.selects RJx4a65c yJx4a65c_elementData_915e3 yJx4a65c_elementData_915e3, Cond.code yJx4a65c_elementData_915e3 cJx4a65c_elementData_915e3 2 (some (.object "java/lang/Object")), Cond.fieldLink RJx4a65c 9 "java/util/ArrayList" "elementData" "[Ljava/lang/Object;", Cond.methodLink RX7 110 yX5_init, Cond.instanceMethod yX5_init, Cond.code yX5_init cX5_init 6 none, Cond.methodLink RX5 1 objectInit, Cond.instanceMethod objectInit, Cond.code objectInit ⟨#[0xb1]⟩ 1 none]
def wsX7_authorise_r4 : List Cond := [Cond.fieldLink RX5 7 "CardPort$Payment" "captured" "I", Cond.fieldLink RX5 13 "CardPort$Payment" "isVoid" "Z", Cond.fieldLink RX5 17 "CardPort$Payment" "number" "I", Cond.fieldLink RX5 20 "CardPort$Payment" "card" "LCardPort$Card;", Cond.fieldLink RX5 24 "CardPort$Payment" "shop" "LCardPort$Shop;", Cond.fieldLink RX5 28 "CardPort$Payment" "amount" "I", Cond.fieldLink RX5 31 "CardPort$Payment" "lastDay" "I", Cond.methodLink RX7 113 ⟨"java/util/List", "add", "(Ljava/lang/Object;)Z"⟩, Cond.selects RJx4a65c ⟨"java/util/List", "add", "(Ljava/lang/Object;)Z"⟩ yJx4a65c_add_9ea2d, Cond.instanceMethod yJx4a65c_add_9ea2d, Cond.code yJx4a65c_add_9ea2d cJx4a65c_add_9ea2d 2 (some .boolean), Cond.fieldLink RJx4a65c 63 "java/util/ArrayList" "modCount" "I", Cond.sameField "java/util/ArrayList" "java/util/AbstractList" "modCount" "I", Cond.methodLink RJx4a65c 131 yJx4a65c_add_72be8, Cond.instanceMethod yJx4a65c_add_72be8, Cond.selects RJx4a65c yJx4a65c_add_72be8 yJx4a65c_add_72be8, Cond.code yJx4a65c_add_72be8 cJx4a65c_add_72be8 4 none, Cond.methodLink RJx4a65c 129 yJx4a65c_grow_d5877, Cond.instanceMethod yJx4a65c_grow_d5877, Cond.selects RJx4a65c yJx4a65c_grow_d5877 yJx4a65c_grow_d5877, Cond.code yJx4a65c_grow_d5877 cJx4a65c_grow_d5877 1 (some (.array (.object "java/lang/Object"))), Cond.methodLink RJx4a65c 69 yJx4a65c_grow_92f84, Cond.instanceMethod yJx4a65c_grow_92f84, Cond.selects RJx4a65c yJx4a65c_grow_92f84 yJx4a65c_grow_92f84]
def wsX7_authorise_r5 : List Cond := [Cond.code yJx4a65c_grow_92f84 cJx4a65c_grow_92f84 4 (some (.array (.object "java/lang/Object"))), Cond.fieldLink RJx4a65c 39 "java/util/ArrayList" "DEFAULTCAPACITY_EMPTY_ELEMENTDATA" "[Ljava/lang/Object;", Cond.methodLink RJx4a65c 79 Lib.Math.max.name, Cond.classLink RJx4a65c 7 "java/lang/Object", Cond.methodLink RJx4a65c 73 yJ8_newLength_cabcc, Cond.static yJ8_newLength_cabcc, Cond.initialized RJ8, Cond.code yJ8_newLength_cabcc cJ8_newLength_cabcc 4 (some .int), Cond.methodLink RJ8 194 Lib.Math.max.name, Cond.constant RJ8 200 (2147483639), Cond.methodLink RJ8 201 yJ8_hugeLength_7cf53, Cond.static yJ8_hugeLength_7cf53, Cond.code yJ8_hugeLength_7cf53 cJ8_hugeLength_7cf53 3 (some .int), Cond.methodLink RJx4a65c 66 yJ7_copyOf_1904c, Cond.static yJ7_copyOf_1904c, Cond.initialized RJ7, Cond.code yJ7_copyOf_1904c cJ7_copyOf_1904c 2 (some (.array (.object "java/lang/Object"))), Cond.methodLink RJ7 86 ⟨"java/lang/Object", "getClass", "()Ljava/lang/Class;"⟩, Cond.selects "[Ljava/lang/Object;" ⟨"java/lang/Object", "getClass", "()Ljava/lang/Class;"⟩ ⟨"java/lang/Object", "getClass", "()Ljava/lang/Class;"⟩, Cond.instanceMethod ⟨"java/lang/Object", "getClass", "()Ljava/lang/Class;"⟩, Cond.native ⟨"java/lang/Object", "getClass", "()Ljava/lang/Class;"⟩, Cond.methodLink RJ7 300 yJ7_copyOf_6403c, Cond.static yJ7_copyOf_6403c, Cond.code yJ7_copyOf_6403c cJ7_copyOf_6403c 4 (some (.array (.object "java/lang/Object")))]
def wsX7_authorise_r6 : List Cond := [Cond.classLink RJ7 110 "[Ljava/lang/Object;", Cond.classLink RJ7 2 "java/lang/Object", Cond.methodLink RJ7 304 Lib.Math.min.name, Cond.static Lib.Math.min.name, Cond.code Lib.Math.min.name Lib.Math.min.code 2 (some .int), Cond.methodLink RJ7 150 arraycopyName, Cond.native arraycopyName, Cond.static arraycopyName, Cond.initialized "java/lang/System"]
def wsX7_authorise : List Cond := .code yX7_authorise cX7_authorise 7 (some .int) :: ((wsX7_authorise_r1 ++ (wsX7_authorise_r2 ++ (wsX7_authorise_r3 ++ (wsX7_authorise_r4 ++ (wsX7_authorise_r5 ++ wsX7_authorise_r6))))) ++ wsX70 ++ wsX50 ++ wsJx4a65c0 ++ wsX10 ++ (vx_atS RX7 251 "java/lang/IndexOutOfBoundsException" ["java/lang/RuntimeException", "java/lang/Exception"]).filter goodWord ++ (vx_atS RX7 217 "java/lang/IllegalArgumentException" ["java/lang/RuntimeException", "java/lang/Exception"]).filter goodWord ++ (vx_atS RX7 279 "java/lang/IllegalStateException" ["java/lang/RuntimeException", "java/lang/Exception"]).filter goodWord)
def wsX7_paymentAt_r1 : List Cond := [Cond.classLink RX7 247 "java/lang/IndexOutOfBoundsException", Cond.initialized "java/lang/IndexOutOfBoundsException", Cond.fieldLink RX7 36 "CardPort" "payments" "Ljava/util/List;", Cond.classLink RX7 108 "CardPort$Payment", Cond.methodLink RX7 94 ⟨"java/util/List", "size", "()I"⟩, Cond.selects RJx4a65c ⟨"java/util/List", "size", "()I"⟩ yJx4a65c_size_8abf5, Cond.instanceMethod yJx4a65c_size_8abf5, Cond.initialized RJx4a65c, Cond.code yJx4a65c_size_8abf5 cJx4a65c_size_8abf5 1 (some .int), Cond.fieldLink RJx4a65c 48 "java/util/ArrayList" "size" "I", Cond.methodLink RX7 235 ⟨"java/util/List", "get", "(I)Ljava/lang/Object;"⟩, Cond.selects RJx4a65c ⟨"java/util/List", "get", "(I)Ljava/lang/Object;"⟩ yJx4a65c_get_915e3, Cond.instanceMethod yJx4a65c_get_915e3, Cond.code yJx4a65c_get_915e3 cJx4a65c_get_915e3 2 (some (.object "java/lang/Object")), Cond.methodLink RJx4a65c 118 yJ15_checkIndex_7cf53, Cond.static yJ15_checkIndex_7cf53, Cond.initialized RJ15, Cond.code yJ15_checkIndex_7cf53 cJ15_checkIndex_7cf53 2 (some .int), Cond.methodLink RJ15 105 yJ3_checkIndex_8e157, Cond.static yJ3_checkIndex_8e157, Cond.initialized RJ3, Cond.code yJ3_checkIndex_8e157 cJ3_checkIndex_8e157 3 (some .int), Cond.methodLink RJx4a65c 123 yJx4a65c_elementData_915e3, Cond.instanceMethod yJx4a65c_elementData_915e3]
def wsX7_paymentAt_r2 : List Cond := [Cond.selects RJx4a65c yJx4a65c_elementData_915e3 yJx4a65c_elementData_915e3, Cond.code yJx4a65c_elementData_915e3 cJx4a65c_elementData_915e3 2 (some (.object "java/lang/Object")), Cond.fieldLink RJx4a65c 9 "java/util/ArrayList" "elementData" "[Ljava/lang/Object;"]
def wsX7_paymentAt : List Cond := .code yX7_paymentAt cX7_paymentAt 2 (some (.object "CardPort$Payment")) :: ((wsX7_paymentAt_r1 ++ wsX7_paymentAt_r2) ++ wsX70 ++ wsJx4a65c0 ++ (vx_atS RX7 251 "java/lang/IndexOutOfBoundsException" ["java/lang/RuntimeException", "java/lang/Exception"]).filter goodWord)
def wsX7_capture_r1 : List Cond := [Cond.constant RX7 93 (100000), Cond.fieldLink RX7 40 "CardPort" "captures" "Ljava/util/List;", Cond.fieldLink RX7 46 "CardPort" "day" "I", Cond.classLink RX7 129 RX1, Cond.instantiable RX1 5, Cond.initialized RX1, Cond.fieldLink RX7 131 "CardPort$Payment" "shop" "LCardPort$Shop;", Cond.fieldLink RX7 68 "CardPort$Shop" "kind" "LCardPort$Kind;", Cond.fieldLink RX7 138 "CardPort$Payment" "captured" "I", Cond.fieldLink RX7 148 "CardPort$Capture" "amount" "I", Cond.fieldLink RX7 151 "CardPort$Capture" "fee" "I", Cond.fieldLink RX7 158 "CardPort$Capture" "number" "I", Cond.methodLink RX7 118 yX7_paymentAt, Cond.instanceMethod yX7_paymentAt, Cond.selects RX7 yX7_paymentAt yX7_paymentAt, Cond.initialized RX7, Cond.code yX7_paymentAt cX7_paymentAt 2 (some (.object "CardPort$Payment")), Cond.classLink RX7 247 "java/lang/IndexOutOfBoundsException", Cond.initialized "java/lang/IndexOutOfBoundsException", Cond.fieldLink RX7 36 "CardPort" "payments" "Ljava/util/List;", Cond.classLink RX7 108 "CardPort$Payment", Cond.methodLink RX7 94 ⟨"java/util/List", "size", "()I"⟩, Cond.selects RJx4a65c ⟨"java/util/List", "size", "()I"⟩ yJx4a65c_size_8abf5, Cond.instanceMethod yJx4a65c_size_8abf5]
def wsX7_capture_r2 : List Cond := [Cond.initialized RJx4a65c, Cond.code yJx4a65c_size_8abf5 cJx4a65c_size_8abf5 1 (some .int), Cond.fieldLink RJx4a65c 48 "java/util/ArrayList" "size" "I", Cond.methodLink RX7 235 ⟨"java/util/List", "get", "(I)Ljava/lang/Object;"⟩, Cond.selects RJx4a65c ⟨"java/util/List", "get", "(I)Ljava/lang/Object;"⟩ yJx4a65c_get_915e3, Cond.instanceMethod yJx4a65c_get_915e3, Cond.code yJx4a65c_get_915e3 cJx4a65c_get_915e3 2 (some (.object "java/lang/Object")), Cond.methodLink RJx4a65c 118 yJ15_checkIndex_7cf53, Cond.static yJ15_checkIndex_7cf53, Cond.initialized RJ15, Cond.code yJ15_checkIndex_7cf53 cJ15_checkIndex_7cf53 2 (some .int), Cond.methodLink RJ15 105 yJ3_checkIndex_8e157, Cond.static yJ3_checkIndex_8e157, Cond.initialized RJ3, Cond.code yJ3_checkIndex_8e157 cJ3_checkIndex_8e157 3 (some .int), Cond.methodLink RJx4a65c 123 yJx4a65c_elementData_915e3, Cond.instanceMethod yJx4a65c_elementData_915e3, Cond.selects RJx4a65c yJx4a65c_elementData_915e3 yJx4a65c_elementData_915e3, Cond.code yJx4a65c_elementData_915e3 cJx4a65c_elementData_915e3 2 (some (.object "java/lang/Object")), Cond.fieldLink RJx4a65c 9 "java/util/ArrayList" "elementData" "[Ljava/lang/Object;", Cond.methodLink RX7 75 yX7_requireRange, Cond.static yX7_requireRange, Cond.code yX7_requireRange cX7_requireRange 3 none, Cond.classLink RX7 213 "java/lang/IllegalArgumentException"]
def wsX7_capture_r3 : List Cond := [Cond.initialized "java/lang/IllegalArgumentException", Cond.methodLink RX7 100 yX7_requirePossible, Cond.static yX7_requirePossible, Cond.code yX7_requirePossible cX7_requirePossible 1 none, Cond.classLink RX7 275 "java/lang/IllegalStateException", Cond.initialized "java/lang/IllegalStateException", Cond.methodLink RX7 122 yX5_isAlive, Cond.instanceMethod yX5_isAlive, Cond.selects RX5 yX5_isAlive yX5_isAlive, Cond.initialized RX5, Cond.code yX5_isAlive cX5_isAlive 2 (some .boolean), Cond.fieldLink RX5 13 "CardPort$Payment" "isVoid" "Z", Cond.fieldLink RX5 31 "CardPort$Payment" "lastDay" "I", Cond.methodLink RX7 126 yX5_left, Cond.instanceMethod yX5_left, Cond.selects RX5 yX5_left yX5_left, Cond.code yX5_left cX5_left 1 (some .int), Cond.fieldLink RX5 28 "CardPort$Payment" "amount" "I", Cond.fieldLink RX5 7 "CardPort$Payment" "captured" "I", Cond.methodLink RX7 85 yX4_feeOf, Cond.instanceMethod yX4_feeOf, Cond.selects RX4 yX4_feeOf yX4_feeOf, Cond.initialized RX4, Cond.code yX4_feeOf cX4_feeOf 2 (some .int)]
def wsX7_capture_r4 : List Cond := [Cond.fieldLink RX4 15 "CardPort$Kind" "cap" "I", Cond.fieldLink RX4 9 "CardPort$Kind" "rate" "I", Cond.methodLink RX4 21 Lib.Math.min.name, Cond.static Lib.Math.min.name, Cond.initialized "java/lang/Math", Cond.code Lib.Math.min.name Lib.Math.min.code 2 (some .int), Cond.methodLink RX7 135 yX1_init, Cond.instanceMethod yX1_init, Cond.code yX1_init cX1_init 5 none, Cond.methodLink RX1 1 objectInit, Cond.instanceMethod objectInit, Cond.code objectInit ⟨#[0xb1]⟩ 1 none, Cond.fieldLink RX1 7 "CardPort$Capture" "refunded" "I", Cond.fieldLink RX1 13 "CardPort$Capture" "number" "I", Cond.fieldLink RX1 16 "CardPort$Capture" "payment" "LCardPort$Payment;", Cond.fieldLink RX1 20 "CardPort$Capture" "amount" "I", Cond.fieldLink RX1 23 "CardPort$Capture" "fee" "I", Cond.methodLink RX7 113 ⟨"java/util/List", "add", "(Ljava/lang/Object;)Z"⟩, Cond.selects RJx4a65c ⟨"java/util/List", "add", "(Ljava/lang/Object;)Z"⟩ yJx4a65c_add_9ea2d, Cond.instanceMethod yJx4a65c_add_9ea2d, Cond.code yJx4a65c_add_9ea2d cJx4a65c_add_9ea2d 2 (some .boolean), Cond.fieldLink RJx4a65c 63 "java/util/ArrayList" "modCount" "I", Cond.sameField "java/util/ArrayList" "java/util/AbstractList" "modCount" "I", Cond.methodLink RJx4a65c 131 yJx4a65c_add_72be8]
def wsX7_capture_r5 : List Cond := [Cond.instanceMethod yJx4a65c_add_72be8, Cond.selects RJx4a65c yJx4a65c_add_72be8 yJx4a65c_add_72be8, Cond.code yJx4a65c_add_72be8 cJx4a65c_add_72be8 4 none, Cond.methodLink RJx4a65c 129 yJx4a65c_grow_d5877, Cond.instanceMethod yJx4a65c_grow_d5877, Cond.selects RJx4a65c yJx4a65c_grow_d5877 yJx4a65c_grow_d5877, Cond.code yJx4a65c_grow_d5877 cJx4a65c_grow_d5877 1 (some (.array (.object "java/lang/Object"))), Cond.methodLink RJx4a65c 69 yJx4a65c_grow_92f84, Cond.instanceMethod yJx4a65c_grow_92f84, Cond.selects RJx4a65c yJx4a65c_grow_92f84 yJx4a65c_grow_92f84, Cond.code yJx4a65c_grow_92f84 cJx4a65c_grow_92f84 4 (some (.array (.object "java/lang/Object"))), Cond.fieldLink RJx4a65c 39 "java/util/ArrayList" "DEFAULTCAPACITY_EMPTY_ELEMENTDATA" "[Ljava/lang/Object;", Cond.methodLink RJx4a65c 79 Lib.Math.max.name, Cond.static Lib.Math.max.name, Cond.code Lib.Math.max.name Lib.Math.max.code 2 (some .int), Cond.classLink RJx4a65c 7 "java/lang/Object", Cond.methodLink RJx4a65c 73 yJ8_newLength_cabcc, Cond.static yJ8_newLength_cabcc, Cond.initialized RJ8, Cond.code yJ8_newLength_cabcc cJ8_newLength_cabcc 4 (some .int), Cond.methodLink RJ8 194 Lib.Math.max.name, Cond.constant RJ8 200 (2147483639), Cond.methodLink RJ8 201 yJ8_hugeLength_7cf53, Cond.static yJ8_hugeLength_7cf53]
def wsX7_capture_r6 : List Cond := [Cond.code yJ8_hugeLength_7cf53 cJ8_hugeLength_7cf53 3 (some .int), Cond.methodLink RJx4a65c 66 yJ7_copyOf_1904c, Cond.static yJ7_copyOf_1904c, Cond.initialized RJ7, Cond.code yJ7_copyOf_1904c cJ7_copyOf_1904c 2 (some (.array (.object "java/lang/Object"))), Cond.methodLink RJ7 86 ⟨"java/lang/Object", "getClass", "()Ljava/lang/Class;"⟩, Cond.selects "[Ljava/lang/Object;" ⟨"java/lang/Object", "getClass", "()Ljava/lang/Class;"⟩ ⟨"java/lang/Object", "getClass", "()Ljava/lang/Class;"⟩, Cond.instanceMethod ⟨"java/lang/Object", "getClass", "()Ljava/lang/Class;"⟩, Cond.native ⟨"java/lang/Object", "getClass", "()Ljava/lang/Class;"⟩, Cond.methodLink RJ7 300 yJ7_copyOf_6403c, Cond.static yJ7_copyOf_6403c, Cond.code yJ7_copyOf_6403c cJ7_copyOf_6403c 4 (some (.array (.object "java/lang/Object"))), Cond.classLink RJ7 110 "[Ljava/lang/Object;", Cond.classLink RJ7 2 "java/lang/Object", Cond.methodLink RJ7 304 Lib.Math.min.name, Cond.methodLink RJ7 150 arraycopyName, Cond.native arraycopyName, Cond.static arraycopyName, Cond.initialized "java/lang/System", Cond.methodLink RX7 141 yX1_cardBank, Cond.instanceMethod yX1_cardBank, Cond.selects RX1 yX1_cardBank yX1_cardBank, Cond.code yX1_cardBank cX1_cardBank 1 (some (.object "CardPort$Bank")), Cond.fieldLink RX1 26 "CardPort$Payment" "card" "LCardPort$Card;"]
def wsX7_capture_r7 : List Cond := [Cond.fieldLink RX1 32 "CardPort$Card" "bank" "LCardPort$Bank;", Cond.methodLink RX7 145 yX1_shopBank, Cond.instanceMethod yX1_shopBank, Cond.selects RX1 yX1_shopBank yX1_shopBank, Cond.code yX1_shopBank cX1_shopBank 1 (some (.object "CardPort$Bank")), Cond.fieldLink RX1 38 "CardPort$Payment" "shop" "LCardPort$Shop;", Cond.fieldLink RX1 42 "CardPort$Shop" "bank" "LCardPort$Bank;", Cond.methodLink RX7 154 yX0_pay, Cond.instanceMethod yX0_pay, Cond.selects RX0 yX0_pay yX0_pay, Cond.initialized RX0, Cond.code yX0_pay cX0_pay 3 none, Cond.methodLink RX0 16 yX0_book, Cond.instanceMethod yX0_book, Cond.selects RX0 yX0_book yX0_book, Cond.code yX0_book cX0_book 2 none, Cond.fieldLink RX0 7 "CardPort$Bank" "netInAll" "J", Cond.fieldLink RX0 13 "CardPort$Bank" "netToday" "J"]
def wsX7_capture : List Cond := .code yX7_capture cX7_capture 5 (some .int) :: ((wsX7_capture_r1 ++ (wsX7_capture_r2 ++ (wsX7_capture_r3 ++ (wsX7_capture_r4 ++ (wsX7_capture_r5 ++ (wsX7_capture_r6 ++ wsX7_capture_r7)))))) ++ wsX70 ++ wsX10 ++ wsX50 ++ wsX60 ++ wsJx4a65c0 ++ wsX40 ++ wsX20 ++ wsX00 ++ (vx_atS RX7 251 "java/lang/IndexOutOfBoundsException" ["java/lang/RuntimeException", "java/lang/Exception"]).filter goodWord ++ (vx_atS RX7 217 "java/lang/IllegalArgumentException" ["java/lang/RuntimeException", "java/lang/Exception"]).filter goodWord ++ (vx_atS RX7 279 "java/lang/IllegalStateException" ["java/lang/RuntimeException", "java/lang/Exception"]).filter goodWord)
def wsX7_cancel_r1 : List Cond := [Cond.fieldLink RX7 46 "CardPort" "day" "I", Cond.fieldLink RX7 159 "CardPort$Payment" "isVoid" "Z", Cond.methodLink RX7 118 yX7_paymentAt, Cond.instanceMethod yX7_paymentAt, Cond.selects RX7 yX7_paymentAt yX7_paymentAt, Cond.initialized RX7, Cond.code yX7_paymentAt cX7_paymentAt 2 (some (.object "CardPort$Payment")), Cond.classLink RX7 247 "java/lang/IndexOutOfBoundsException", Cond.initialized "java/lang/IndexOutOfBoundsException", Cond.fieldLink RX7 36 "CardPort" "payments" "Ljava/util/List;", Cond.classLink RX7 108 "CardPort$Payment", Cond.methodLink RX7 94 ⟨"java/util/List", "size", "()I"⟩, Cond.selects RJx4a65c ⟨"java/util/List", "size", "()I"⟩ yJx4a65c_size_8abf5, Cond.instanceMethod yJx4a65c_size_8abf5, Cond.initialized RJx4a65c, Cond.code yJx4a65c_size_8abf5 cJx4a65c_size_8abf5 1 (some .int), Cond.fieldLink RJx4a65c 48 "java/util/ArrayList" "size" "I", Cond.methodLink RX7 235 ⟨"java/util/List", "get", "(I)Ljava/lang/Object;"⟩, Cond.selects RJx4a65c ⟨"java/util/List", "get", "(I)Ljava/lang/Object;"⟩ yJx4a65c_get_915e3, Cond.instanceMethod yJx4a65c_get_915e3, Cond.code yJx4a65c_get_915e3 cJx4a65c_get_915e3 2 (some (.object "java/lang/Object")), Cond.methodLink RJx4a65c 118 yJ15_checkIndex_7cf53, Cond.static yJ15_checkIndex_7cf53, Cond.initialized RJ15]
def wsX7_cancel_r2 : List Cond := [Cond.code yJ15_checkIndex_7cf53 cJ15_checkIndex_7cf53 2 (some .int), Cond.methodLink RJ15 105 yJ3_checkIndex_8e157, Cond.static yJ3_checkIndex_8e157, Cond.initialized RJ3, Cond.code yJ3_checkIndex_8e157 cJ3_checkIndex_8e157 3 (some .int), Cond.methodLink RJx4a65c 123 yJx4a65c_elementData_915e3, Cond.instanceMethod yJx4a65c_elementData_915e3, Cond.selects RJx4a65c yJx4a65c_elementData_915e3 yJx4a65c_elementData_915e3, Cond.code yJx4a65c_elementData_915e3 cJx4a65c_elementData_915e3 2 (some (.object "java/lang/Object")), Cond.fieldLink RJx4a65c 9 "java/util/ArrayList" "elementData" "[Ljava/lang/Object;", Cond.methodLink RX7 122 yX5_isAlive, Cond.instanceMethod yX5_isAlive, Cond.selects RX5 yX5_isAlive yX5_isAlive, Cond.initialized RX5, Cond.code yX5_isAlive cX5_isAlive 2 (some .boolean), Cond.fieldLink RX5 13 "CardPort$Payment" "isVoid" "Z", Cond.fieldLink RX5 31 "CardPort$Payment" "lastDay" "I", Cond.methodLink RX7 100 yX7_requirePossible, Cond.static yX7_requirePossible, Cond.code yX7_requirePossible cX7_requirePossible 1 none, Cond.classLink RX7 275 "java/lang/IllegalStateException", Cond.initialized "java/lang/IllegalStateException", Cond.methodLink RX7 126 yX5_left, Cond.instanceMethod yX5_left]
def wsX7_cancel_r3 : List Cond := [Cond.selects RX5 yX5_left yX5_left, Cond.code yX5_left cX5_left 1 (some .int), Cond.fieldLink RX5 28 "CardPort$Payment" "amount" "I", Cond.fieldLink RX5 7 "CardPort$Payment" "captured" "I"]
def wsX7_cancel : List Cond := .code yX7_cancel cX7_cancel 3 (some .int) :: ((wsX7_cancel_r1 ++ (wsX7_cancel_r2 ++ wsX7_cancel_r3)) ++ wsX70 ++ wsX50 ++ wsJx4a65c0 ++ (vx_atS RX7 251 "java/lang/IndexOutOfBoundsException" ["java/lang/RuntimeException", "java/lang/Exception"]).filter goodWord ++ (vx_atS RX7 279 "java/lang/IllegalStateException" ["java/lang/RuntimeException", "java/lang/Exception"]).filter goodWord)
def wsX7_captureAt_r1 : List Cond := [Cond.classLink RX7 247 "java/lang/IndexOutOfBoundsException", Cond.initialized "java/lang/IndexOutOfBoundsException", Cond.fieldLink RX7 40 "CardPort" "captures" "Ljava/util/List;", Cond.classLink RX7 129 "CardPort$Capture", Cond.methodLink RX7 94 ⟨"java/util/List", "size", "()I"⟩, Cond.selects RJx4a65c ⟨"java/util/List", "size", "()I"⟩ yJx4a65c_size_8abf5, Cond.instanceMethod yJx4a65c_size_8abf5, Cond.initialized RJx4a65c, Cond.code yJx4a65c_size_8abf5 cJx4a65c_size_8abf5 1 (some .int), Cond.fieldLink RJx4a65c 48 "java/util/ArrayList" "size" "I", Cond.methodLink RX7 235 ⟨"java/util/List", "get", "(I)Ljava/lang/Object;"⟩, Cond.selects RJx4a65c ⟨"java/util/List", "get", "(I)Ljava/lang/Object;"⟩ yJx4a65c_get_915e3, Cond.instanceMethod yJx4a65c_get_915e3, Cond.code yJx4a65c_get_915e3 cJx4a65c_get_915e3 2 (some (.object "java/lang/Object")), Cond.methodLink RJx4a65c 118 yJ15_checkIndex_7cf53, Cond.static yJ15_checkIndex_7cf53, Cond.initialized RJ15, Cond.code yJ15_checkIndex_7cf53 cJ15_checkIndex_7cf53 2 (some .int), Cond.methodLink RJ15 105 yJ3_checkIndex_8e157, Cond.static yJ3_checkIndex_8e157, Cond.initialized RJ3, Cond.code yJ3_checkIndex_8e157 cJ3_checkIndex_8e157 3 (some .int), Cond.methodLink RJx4a65c 123 yJx4a65c_elementData_915e3, Cond.instanceMethod yJx4a65c_elementData_915e3]
def wsX7_captureAt_r2 : List Cond := [Cond.selects RJx4a65c yJx4a65c_elementData_915e3 yJx4a65c_elementData_915e3, Cond.code yJx4a65c_elementData_915e3 cJx4a65c_elementData_915e3 2 (some (.object "java/lang/Object")), Cond.fieldLink RJx4a65c 9 "java/util/ArrayList" "elementData" "[Ljava/lang/Object;"]
def wsX7_captureAt : List Cond := .code yX7_captureAt cX7_captureAt 2 (some (.object "CardPort$Capture")) :: ((wsX7_captureAt_r1 ++ wsX7_captureAt_r2) ++ wsX70 ++ wsJx4a65c0 ++ (vx_atS RX7 251 "java/lang/IndexOutOfBoundsException" ["java/lang/RuntimeException", "java/lang/Exception"]).filter goodWord)
def wsX7_givenBackOf_r1 : List Cond := [Cond.fieldLink RX7 171 "CardPort$Capture" "refunded" "I", Cond.fieldLink RX7 43 "CardPort" "chargebacks" "Ljava/util/List;", Cond.classLink RX7 174 "CardPort$Chargeback", Cond.fieldLink RX7 194 "CardPort$Chargeback" "capture" "LCardPort$Capture;", Cond.fieldLink RX7 184 "CardPort$Chargeback" "stage" "I", Cond.fieldLink RX7 198 "CardPort$Chargeback" "amount" "I", Cond.methodLink RX7 94 ⟨"java/util/List", "size", "()I"⟩, Cond.selects RJx4a65c ⟨"java/util/List", "size", "()I"⟩ yJx4a65c_size_8abf5, Cond.instanceMethod yJx4a65c_size_8abf5, Cond.initialized RJx4a65c, Cond.code yJx4a65c_size_8abf5 cJx4a65c_size_8abf5 1 (some .int), Cond.fieldLink RJx4a65c 48 "java/util/ArrayList" "size" "I", Cond.methodLink RX7 235 ⟨"java/util/List", "get", "(I)Ljava/lang/Object;"⟩, Cond.selects RJx4a65c ⟨"java/util/List", "get", "(I)Ljava/lang/Object;"⟩ yJx4a65c_get_915e3, Cond.instanceMethod yJx4a65c_get_915e3, Cond.code yJx4a65c_get_915e3 cJx4a65c_get_915e3 2 (some (.object "java/lang/Object")), Cond.methodLink RJx4a65c 118 yJ15_checkIndex_7cf53, Cond.static yJ15_checkIndex_7cf53, Cond.initialized RJ15, Cond.code yJ15_checkIndex_7cf53 cJ15_checkIndex_7cf53 2 (some .int), Cond.methodLink RJ15 105 yJ3_checkIndex_8e157, Cond.static yJ3_checkIndex_8e157, Cond.initialized RJ3, Cond.code yJ3_checkIndex_8e157 cJ3_checkIndex_8e157 3 (some .int)]
def wsX7_givenBackOf_r2 : List Cond := [Cond.methodLink RJx4a65c 123 yJx4a65c_elementData_915e3, Cond.instanceMethod yJx4a65c_elementData_915e3, Cond.selects RJx4a65c yJx4a65c_elementData_915e3 yJx4a65c_elementData_915e3, Cond.code yJx4a65c_elementData_915e3 cJx4a65c_elementData_915e3 2 (some (.object "java/lang/Object")), Cond.fieldLink RJx4a65c 9 "java/util/ArrayList" "elementData" "[Ljava/lang/Object;"]
def wsX7_givenBackOf : List Cond := .code yX7_givenBackOf cX7_givenBackOf 5 (some .int) :: ((wsX7_givenBackOf_r1 ++ wsX7_givenBackOf_r2) ++ wsX10 ++ wsX70 ++ wsX30 ++ wsJx4a65c0)
def wsX7_refund_r1 : List Cond := [Cond.constant RX7 93 (100000), Cond.fieldLink RX7 148 "CardPort$Capture" "amount" "I", Cond.fieldLink RX7 171 "CardPort$Capture" "refunded" "I", Cond.methodLink RX7 163 yX7_captureAt, Cond.instanceMethod yX7_captureAt, Cond.selects RX7 yX7_captureAt yX7_captureAt, Cond.initialized RX7, Cond.code yX7_captureAt cX7_captureAt 2 (some (.object "CardPort$Capture")), Cond.classLink RX7 247 "java/lang/IndexOutOfBoundsException", Cond.initialized "java/lang/IndexOutOfBoundsException", Cond.fieldLink RX7 40 "CardPort" "captures" "Ljava/util/List;", Cond.classLink RX7 129 "CardPort$Capture", Cond.methodLink RX7 94 ⟨"java/util/List", "size", "()I"⟩, Cond.selects RJx4a65c ⟨"java/util/List", "size", "()I"⟩ yJx4a65c_size_8abf5, Cond.instanceMethod yJx4a65c_size_8abf5, Cond.initialized RJx4a65c, Cond.code yJx4a65c_size_8abf5 cJx4a65c_size_8abf5 1 (some .int), Cond.fieldLink RJx4a65c 48 "java/util/ArrayList" "size" "I", Cond.methodLink RX7 235 ⟨"java/util/List", "get", "(I)Ljava/lang/Object;"⟩, Cond.selects RJx4a65c ⟨"java/util/List", "get", "(I)Ljava/lang/Object;"⟩ yJx4a65c_get_915e3, Cond.instanceMethod yJx4a65c_get_915e3, Cond.code yJx4a65c_get_915e3 cJx4a65c_get_915e3 2 (some (.object "java/lang/Object")), Cond.methodLink RJx4a65c 118 yJ15_checkIndex_7cf53, Cond.static yJ15_checkIndex_7cf53]
def wsX7_refund_r2 : List Cond := [Cond.initialized RJ15, Cond.code yJ15_checkIndex_7cf53 cJ15_checkIndex_7cf53 2 (some .int), Cond.methodLink RJ15 105 yJ3_checkIndex_8e157, Cond.static yJ3_checkIndex_8e157, Cond.initialized RJ3, Cond.code yJ3_checkIndex_8e157 cJ3_checkIndex_8e157 3 (some .int), Cond.methodLink RJx4a65c 123 yJx4a65c_elementData_915e3, Cond.instanceMethod yJx4a65c_elementData_915e3, Cond.selects RJx4a65c yJx4a65c_elementData_915e3 yJx4a65c_elementData_915e3, Cond.code yJx4a65c_elementData_915e3 cJx4a65c_elementData_915e3 2 (some (.object "java/lang/Object")), Cond.fieldLink RJx4a65c 9 "java/util/ArrayList" "elementData" "[Ljava/lang/Object;", Cond.methodLink RX7 75 yX7_requireRange, Cond.static yX7_requireRange, Cond.code yX7_requireRange cX7_requireRange 3 none, Cond.classLink RX7 213 "java/lang/IllegalArgumentException", Cond.initialized "java/lang/IllegalArgumentException", Cond.methodLink RX7 167 yX7_givenBackOf, Cond.instanceMethod yX7_givenBackOf, Cond.selects RX7 yX7_givenBackOf yX7_givenBackOf, Cond.code yX7_givenBackOf cX7_givenBackOf 5 (some .int), Cond.fieldLink RX7 43 "CardPort" "chargebacks" "Ljava/util/List;", Cond.classLink RX7 174 "CardPort$Chargeback", Cond.fieldLink RX7 194 "CardPort$Chargeback" "capture" "LCardPort$Capture;", Cond.fieldLink RX7 184 "CardPort$Chargeback" "stage" "I"]
def wsX7_refund_r3 : List Cond := [Cond.fieldLink RX7 198 "CardPort$Chargeback" "amount" "I", Cond.methodLink RX7 100 yX7_requirePossible, Cond.static yX7_requirePossible, Cond.code yX7_requirePossible cX7_requirePossible 1 none, Cond.classLink RX7 275 "java/lang/IllegalStateException", Cond.initialized "java/lang/IllegalStateException", Cond.methodLink RX7 145 yX1_shopBank, Cond.instanceMethod yX1_shopBank, Cond.selects RX1 yX1_shopBank yX1_shopBank, Cond.initialized RX1, Cond.code yX1_shopBank cX1_shopBank 1 (some (.object "CardPort$Bank")), Cond.fieldLink RX1 16 "CardPort$Capture" "payment" "LCardPort$Payment;", Cond.fieldLink RX1 38 "CardPort$Payment" "shop" "LCardPort$Shop;", Cond.fieldLink RX1 42 "CardPort$Shop" "bank" "LCardPort$Bank;", Cond.methodLink RX7 141 yX1_cardBank, Cond.instanceMethod yX1_cardBank, Cond.selects RX1 yX1_cardBank yX1_cardBank, Cond.code yX1_cardBank cX1_cardBank 1 (some (.object "CardPort$Bank")), Cond.fieldLink RX1 26 "CardPort$Payment" "card" "LCardPort$Card;", Cond.fieldLink RX1 32 "CardPort$Card" "bank" "LCardPort$Bank;", Cond.methodLink RX7 154 yX0_pay, Cond.instanceMethod yX0_pay, Cond.selects RX0 yX0_pay yX0_pay, Cond.initialized RX0]
def wsX7_refund_r4 : List Cond := [Cond.code yX0_pay cX0_pay 3 none, Cond.methodLink RX0 16 yX0_book, Cond.instanceMethod yX0_book, Cond.selects RX0 yX0_book yX0_book, Cond.code yX0_book cX0_book 2 none, Cond.fieldLink RX0 7 "CardPort$Bank" "netInAll" "J", Cond.fieldLink RX0 13 "CardPort$Bank" "netToday" "J"]
def wsX7_refund : List Cond := .code yX7_refund cX7_refund 4 (some .int) :: ((wsX7_refund_r1 ++ (wsX7_refund_r2 ++ (wsX7_refund_r3 ++ wsX7_refund_r4))) ++ wsX10 ++ wsX70 ++ wsJx4a65c0 ++ wsX30 ++ wsX50 ++ wsX60 ++ wsX20 ++ wsX00 ++ (vx_atS RX7 251 "java/lang/IndexOutOfBoundsException" ["java/lang/RuntimeException", "java/lang/Exception"]).filter goodWord ++ (vx_atS RX7 217 "java/lang/IllegalArgumentException" ["java/lang/RuntimeException", "java/lang/Exception"]).filter goodWord ++ (vx_atS RX7 279 "java/lang/IllegalStateException" ["java/lang/RuntimeException", "java/lang/Exception"]).filter goodWord)
def wsX7_dispute_r1 : List Cond := [Cond.constant RX7 93 (100000), Cond.fieldLink RX7 43 "CardPort" "chargebacks" "Ljava/util/List;", Cond.fieldLink RX7 148 "CardPort$Capture" "amount" "I", Cond.classLink RX7 174 RX3, Cond.instantiable RX3 5, Cond.initialized RX3, Cond.fieldLink RX7 46 "CardPort" "day" "I", Cond.fieldLink RX7 179 "CardPort$Chargeback" "number" "I", Cond.methodLink RX7 163 yX7_captureAt, Cond.instanceMethod yX7_captureAt, Cond.selects RX7 yX7_captureAt yX7_captureAt, Cond.initialized RX7, Cond.code yX7_captureAt cX7_captureAt 2 (some (.object "CardPort$Capture")), Cond.classLink RX7 247 "java/lang/IndexOutOfBoundsException", Cond.initialized "java/lang/IndexOutOfBoundsException", Cond.fieldLink RX7 40 "CardPort" "captures" "Ljava/util/List;", Cond.classLink RX7 129 "CardPort$Capture", Cond.methodLink RX7 94 ⟨"java/util/List", "size", "()I"⟩, Cond.selects RJx4a65c ⟨"java/util/List", "size", "()I"⟩ yJx4a65c_size_8abf5, Cond.instanceMethod yJx4a65c_size_8abf5, Cond.initialized RJx4a65c, Cond.code yJx4a65c_size_8abf5 cJx4a65c_size_8abf5 1 (some .int), Cond.fieldLink RJx4a65c 48 "java/util/ArrayList" "size" "I", Cond.methodLink RX7 235 ⟨"java/util/List", "get", "(I)Ljava/lang/Object;"⟩]
def wsX7_dispute_r2 : List Cond := [Cond.selects RJx4a65c ⟨"java/util/List", "get", "(I)Ljava/lang/Object;"⟩ yJx4a65c_get_915e3, Cond.instanceMethod yJx4a65c_get_915e3, Cond.code yJx4a65c_get_915e3 cJx4a65c_get_915e3 2 (some (.object "java/lang/Object")), Cond.methodLink RJx4a65c 118 yJ15_checkIndex_7cf53, Cond.static yJ15_checkIndex_7cf53, Cond.initialized RJ15, Cond.code yJ15_checkIndex_7cf53 cJ15_checkIndex_7cf53 2 (some .int), Cond.methodLink RJ15 105 yJ3_checkIndex_8e157, Cond.static yJ3_checkIndex_8e157, Cond.initialized RJ3, Cond.code yJ3_checkIndex_8e157 cJ3_checkIndex_8e157 3 (some .int), Cond.methodLink RJx4a65c 123 yJx4a65c_elementData_915e3, Cond.instanceMethod yJx4a65c_elementData_915e3, Cond.selects RJx4a65c yJx4a65c_elementData_915e3 yJx4a65c_elementData_915e3, Cond.code yJx4a65c_elementData_915e3 cJx4a65c_elementData_915e3 2 (some (.object "java/lang/Object")), Cond.fieldLink RJx4a65c 9 "java/util/ArrayList" "elementData" "[Ljava/lang/Object;", Cond.methodLink RX7 75 yX7_requireRange, Cond.static yX7_requireRange, Cond.code yX7_requireRange cX7_requireRange 3 none, Cond.classLink RX7 213 "java/lang/IllegalArgumentException", Cond.initialized "java/lang/IllegalArgumentException", Cond.methodLink RX7 100 yX7_requirePossible, Cond.static yX7_requirePossible, Cond.code yX7_requirePossible cX7_requirePossible 1 none]
def wsX7_dispute_r3 : List Cond := [Cond.classLink RX7 275 "java/lang/IllegalStateException", Cond.initialized "java/lang/IllegalStateException", Cond.methodLink RX7 167 yX7_givenBackOf, Cond.instanceMethod yX7_givenBackOf, Cond.selects RX7 yX7_givenBackOf yX7_givenBackOf, Cond.code yX7_givenBackOf cX7_givenBackOf 5 (some .int), Cond.fieldLink RX7 171 "CardPort$Capture" "refunded" "I", Cond.classLink RX7 174 "CardPort$Chargeback", Cond.fieldLink RX7 194 "CardPort$Chargeback" "capture" "LCardPort$Capture;", Cond.fieldLink RX7 184 "CardPort$Chargeback" "stage" "I", Cond.fieldLink RX7 198 "CardPort$Chargeback" "amount" "I", Cond.methodLink RX7 176 yX3_init, Cond.instanceMethod yX3_init, Cond.code yX3_init cX3_init 5 none, Cond.methodLink RX3 3 objectInit, Cond.instanceMethod objectInit, Cond.code objectInit ⟨#[0xb1]⟩ 1 none, Cond.fieldLink RX3 9 "CardPort$Chargeback" "stage" "I", Cond.fieldLink RX3 15 "CardPort$Chargeback" "number" "I", Cond.fieldLink RX3 18 "CardPort$Chargeback" "capture" "LCardPort$Capture;", Cond.fieldLink RX3 22 "CardPort$Chargeback" "amount" "I", Cond.fieldLink RX3 25 "CardPort$Chargeback" "lastDay" "I", Cond.methodLink RX7 113 ⟨"java/util/List", "add", "(Ljava/lang/Object;)Z"⟩, Cond.selects RJx4a65c ⟨"java/util/List", "add", "(Ljava/lang/Object;)Z"⟩ yJx4a65c_add_9ea2d]
def wsX7_dispute_r4 : List Cond := [Cond.instanceMethod yJx4a65c_add_9ea2d, Cond.code yJx4a65c_add_9ea2d cJx4a65c_add_9ea2d 2 (some .boolean), Cond.fieldLink RJx4a65c 63 "java/util/ArrayList" "modCount" "I", Cond.sameField "java/util/ArrayList" "java/util/AbstractList" "modCount" "I", Cond.methodLink RJx4a65c 131 yJx4a65c_add_72be8, Cond.instanceMethod yJx4a65c_add_72be8, Cond.selects RJx4a65c yJx4a65c_add_72be8 yJx4a65c_add_72be8, Cond.code yJx4a65c_add_72be8 cJx4a65c_add_72be8 4 none, Cond.methodLink RJx4a65c 129 yJx4a65c_grow_d5877, Cond.instanceMethod yJx4a65c_grow_d5877, Cond.selects RJx4a65c yJx4a65c_grow_d5877 yJx4a65c_grow_d5877, Cond.code yJx4a65c_grow_d5877 cJx4a65c_grow_d5877 1 (some (.array (.object "java/lang/Object"))), Cond.methodLink RJx4a65c 69 yJx4a65c_grow_92f84, Cond.instanceMethod yJx4a65c_grow_92f84, Cond.selects RJx4a65c yJx4a65c_grow_92f84 yJx4a65c_grow_92f84, Cond.code yJx4a65c_grow_92f84 cJx4a65c_grow_92f84 4 (some (.array (.object "java/lang/Object"))), Cond.fieldLink RJx4a65c 39 "java/util/ArrayList" "DEFAULTCAPACITY_EMPTY_ELEMENTDATA" "[Ljava/lang/Object;", Cond.methodLink RJx4a65c 79 Lib.Math.max.name, Cond.static Lib.Math.max.name, Cond.initialized "java/lang/Math", Cond.code Lib.Math.max.name Lib.Math.max.code 2 (some .int), Cond.classLink RJx4a65c 7 "java/lang/Object", Cond.methodLink RJx4a65c 73 yJ8_newLength_cabcc, Cond.static yJ8_newLength_cabcc]
def wsX7_dispute_r5 : List Cond := [Cond.initialized RJ8, Cond.code yJ8_newLength_cabcc cJ8_newLength_cabcc 4 (some .int), Cond.methodLink RJ8 194 Lib.Math.max.name, Cond.constant RJ8 200 (2147483639), Cond.methodLink RJ8 201 yJ8_hugeLength_7cf53, Cond.static yJ8_hugeLength_7cf53, Cond.code yJ8_hugeLength_7cf53 cJ8_hugeLength_7cf53 3 (some .int), Cond.methodLink RJx4a65c 66 yJ7_copyOf_1904c, Cond.static yJ7_copyOf_1904c, Cond.initialized RJ7, Cond.code yJ7_copyOf_1904c cJ7_copyOf_1904c 2 (some (.array (.object "java/lang/Object"))), Cond.methodLink RJ7 86 ⟨"java/lang/Object", "getClass", "()Ljava/lang/Class;"⟩, Cond.selects "[Ljava/lang/Object;" ⟨"java/lang/Object", "getClass", "()Ljava/lang/Class;"⟩ ⟨"java/lang/Object", "getClass", "()Ljava/lang/Class;"⟩, Cond.instanceMethod ⟨"java/lang/Object", "getClass", "()Ljava/lang/Class;"⟩, Cond.native ⟨"java/lang/Object", "getClass", "()Ljava/lang/Class;"⟩, Cond.methodLink RJ7 300 yJ7_copyOf_6403c, Cond.static yJ7_copyOf_6403c, Cond.code yJ7_copyOf_6403c cJ7_copyOf_6403c 4 (some (.array (.object "java/lang/Object"))), Cond.classLink RJ7 110 "[Ljava/lang/Object;", Cond.classLink RJ7 2 "java/lang/Object", Cond.methodLink RJ7 304 Lib.Math.min.name, Cond.static Lib.Math.min.name, Cond.code Lib.Math.min.name Lib.Math.min.code 2 (some .int), Cond.methodLink RJ7 150 arraycopyName]
def wsX7_dispute_r6 : List Cond := [Cond.native arraycopyName, Cond.static arraycopyName, Cond.initialized "java/lang/System", Cond.methodLink RX7 145 yX1_shopBank, Cond.instanceMethod yX1_shopBank, Cond.selects RX1 yX1_shopBank yX1_shopBank, Cond.initialized RX1, Cond.code yX1_shopBank cX1_shopBank 1 (some (.object "CardPort$Bank")), Cond.fieldLink RX1 16 "CardPort$Capture" "payment" "LCardPort$Payment;", Cond.fieldLink RX1 38 "CardPort$Payment" "shop" "LCardPort$Shop;", Cond.fieldLink RX1 42 "CardPort$Shop" "bank" "LCardPort$Bank;", Cond.methodLink RX7 141 yX1_cardBank, Cond.instanceMethod yX1_cardBank, Cond.selects RX1 yX1_cardBank yX1_cardBank, Cond.code yX1_cardBank cX1_cardBank 1 (some (.object "CardPort$Bank")), Cond.fieldLink RX1 26 "CardPort$Payment" "card" "LCardPort$Card;", Cond.fieldLink RX1 32 "CardPort$Card" "bank" "LCardPort$Bank;", Cond.methodLink RX7 154 yX0_pay, Cond.instanceMethod yX0_pay, Cond.selects RX0 yX0_pay yX0_pay, Cond.initialized RX0, Cond.code yX0_pay cX0_pay 3 none, Cond.methodLink RX0 16 yX0_book, Cond.instanceMethod yX0_book]
def wsX7_dispute_r7 : List Cond := [Cond.selects RX0 yX0_book yX0_book, Cond.code yX0_book cX0_book 2 none, Cond.fieldLink RX0 7 "CardPort$Bank" "netInAll" "J", Cond.fieldLink RX0 13 "CardPort$Bank" "netToday" "J"]
def wsX7_dispute : List Cond := .code yX7_dispute cX7_dispute 5 (some .int) :: ((wsX7_dispute_r1 ++ (wsX7_dispute_r2 ++ (wsX7_dispute_r3 ++ (wsX7_dispute_r4 ++ (wsX7_dispute_r5 ++ (wsX7_dispute_r6 ++ wsX7_dispute_r7)))))) ++ wsX70 ++ wsX10 ++ wsX30 ++ wsJx4a65c0 ++ wsX50 ++ wsX60 ++ wsX20 ++ wsX00 ++ (vx_atS RX7 251 "java/lang/IndexOutOfBoundsException" ["java/lang/RuntimeException", "java/lang/Exception"]).filter goodWord ++ (vx_atS RX7 217 "java/lang/IllegalArgumentException" ["java/lang/RuntimeException", "java/lang/Exception"]).filter goodWord ++ (vx_atS RX7 279 "java/lang/IllegalStateException" ["java/lang/RuntimeException", "java/lang/Exception"]).filter goodWord)
def wsX7_chargebackAt_r1 : List Cond := [Cond.classLink RX7 247 "java/lang/IndexOutOfBoundsException", Cond.initialized "java/lang/IndexOutOfBoundsException", Cond.fieldLink RX7 43 "CardPort" "chargebacks" "Ljava/util/List;", Cond.classLink RX7 174 "CardPort$Chargeback", Cond.methodLink RX7 94 ⟨"java/util/List", "size", "()I"⟩, Cond.selects RJx4a65c ⟨"java/util/List", "size", "()I"⟩ yJx4a65c_size_8abf5, Cond.instanceMethod yJx4a65c_size_8abf5, Cond.initialized RJx4a65c, Cond.code yJx4a65c_size_8abf5 cJx4a65c_size_8abf5 1 (some .int), Cond.fieldLink RJx4a65c 48 "java/util/ArrayList" "size" "I", Cond.methodLink RX7 235 ⟨"java/util/List", "get", "(I)Ljava/lang/Object;"⟩, Cond.selects RJx4a65c ⟨"java/util/List", "get", "(I)Ljava/lang/Object;"⟩ yJx4a65c_get_915e3, Cond.instanceMethod yJx4a65c_get_915e3, Cond.code yJx4a65c_get_915e3 cJx4a65c_get_915e3 2 (some (.object "java/lang/Object")), Cond.methodLink RJx4a65c 118 yJ15_checkIndex_7cf53, Cond.static yJ15_checkIndex_7cf53, Cond.initialized RJ15, Cond.code yJ15_checkIndex_7cf53 cJ15_checkIndex_7cf53 2 (some .int), Cond.methodLink RJ15 105 yJ3_checkIndex_8e157, Cond.static yJ3_checkIndex_8e157, Cond.initialized RJ3, Cond.code yJ3_checkIndex_8e157 cJ3_checkIndex_8e157 3 (some .int), Cond.methodLink RJx4a65c 123 yJx4a65c_elementData_915e3, Cond.instanceMethod yJx4a65c_elementData_915e3]
def wsX7_chargebackAt_r2 : List Cond := [Cond.selects RJx4a65c yJx4a65c_elementData_915e3 yJx4a65c_elementData_915e3, Cond.code yJx4a65c_elementData_915e3 cJx4a65c_elementData_915e3 2 (some (.object "java/lang/Object")), Cond.fieldLink RJx4a65c 9 "java/util/ArrayList" "elementData" "[Ljava/lang/Object;"]
def wsX7_chargebackAt : List Cond := .code yX7_chargebackAt cX7_chargebackAt 2 (some (.object "CardPort$Chargeback")) :: ((wsX7_chargebackAt_r1 ++ wsX7_chargebackAt_r2) ++ wsX70 ++ wsJx4a65c0 ++ (vx_atS RX7 251 "java/lang/IndexOutOfBoundsException" ["java/lang/RuntimeException", "java/lang/Exception"]).filter goodWord)
def wsX7_payBackToShop_r1 : List Cond := [Cond.fieldLink RX7 194 "CardPort$Chargeback" "capture" "LCardPort$Capture;", Cond.fieldLink RX7 198 "CardPort$Chargeback" "amount" "I", Cond.methodLink RX7 141 yX1_cardBank, Cond.instanceMethod yX1_cardBank, Cond.selects RX1 yX1_cardBank yX1_cardBank, Cond.initialized RX1, Cond.code yX1_cardBank cX1_cardBank 1 (some (.object "CardPort$Bank")), Cond.fieldLink RX1 16 "CardPort$Capture" "payment" "LCardPort$Payment;", Cond.fieldLink RX1 26 "CardPort$Payment" "card" "LCardPort$Card;", Cond.fieldLink RX1 32 "CardPort$Card" "bank" "LCardPort$Bank;", Cond.methodLink RX7 145 yX1_shopBank, Cond.instanceMethod yX1_shopBank, Cond.selects RX1 yX1_shopBank yX1_shopBank, Cond.code yX1_shopBank cX1_shopBank 1 (some (.object "CardPort$Bank")), Cond.fieldLink RX1 38 "CardPort$Payment" "shop" "LCardPort$Shop;", Cond.fieldLink RX1 42 "CardPort$Shop" "bank" "LCardPort$Bank;", Cond.methodLink RX7 154 yX0_pay, Cond.instanceMethod yX0_pay, Cond.selects RX0 yX0_pay yX0_pay, Cond.initialized RX0, Cond.code yX0_pay cX0_pay 3 none, Cond.methodLink RX0 16 yX0_book, Cond.instanceMethod yX0_book, Cond.selects RX0 yX0_book yX0_book]
def wsX7_payBackToShop_r2 : List Cond := [Cond.code yX0_book cX0_book 2 none, Cond.fieldLink RX0 7 "CardPort$Bank" "netInAll" "J", Cond.fieldLink RX0 13 "CardPort$Bank" "netToday" "J"]
def wsX7_payBackToShop : List Cond := .code yX7_payBackToShop cX7_payBackToShop 1 none :: ((wsX7_payBackToShop_r1 ++ wsX7_payBackToShop_r2) ++ wsX30 ++ wsX10 ++ wsX50 ++ wsX20 ++ wsX60 ++ wsX00)
def wsX7_answer_r1 : List Cond := [Cond.fieldLink RX7 184 "CardPort$Chargeback" "stage" "I", Cond.fieldLink RX7 46 "CardPort" "day" "I", Cond.fieldLink RX7 187 "CardPort$Chargeback" "lastDay" "I", Cond.methodLink RX7 180 yX7_chargebackAt, Cond.instanceMethod yX7_chargebackAt, Cond.selects RX7 yX7_chargebackAt yX7_chargebackAt, Cond.initialized RX7, Cond.code yX7_chargebackAt cX7_chargebackAt 2 (some (.object "CardPort$Chargeback")), Cond.classLink RX7 247 "java/lang/IndexOutOfBoundsException", Cond.initialized "java/lang/IndexOutOfBoundsException", Cond.fieldLink RX7 43 "CardPort" "chargebacks" "Ljava/util/List;", Cond.classLink RX7 174 "CardPort$Chargeback", Cond.methodLink RX7 94 ⟨"java/util/List", "size", "()I"⟩, Cond.selects RJx4a65c ⟨"java/util/List", "size", "()I"⟩ yJx4a65c_size_8abf5, Cond.instanceMethod yJx4a65c_size_8abf5, Cond.initialized RJx4a65c, Cond.code yJx4a65c_size_8abf5 cJx4a65c_size_8abf5 1 (some .int), Cond.fieldLink RJx4a65c 48 "java/util/ArrayList" "size" "I", Cond.methodLink RX7 235 ⟨"java/util/List", "get", "(I)Ljava/lang/Object;"⟩, Cond.selects RJx4a65c ⟨"java/util/List", "get", "(I)Ljava/lang/Object;"⟩ yJx4a65c_get_915e3, Cond.instanceMethod yJx4a65c_get_915e3, Cond.code yJx4a65c_get_915e3 cJx4a65c_get_915e3 2 (some (.object "java/lang/Object")), Cond.methodLink RJx4a65c 118 yJ15_checkIndex_7cf53, Cond.static yJ15_checkIndex_7cf53]
def wsX7_answer_r2 : List Cond := [Cond.initialized RJ15, Cond.code yJ15_checkIndex_7cf53 cJ15_checkIndex_7cf53 2 (some .int), Cond.methodLink RJ15 105 yJ3_checkIndex_8e157, Cond.static yJ3_checkIndex_8e157, Cond.initialized RJ3, Cond.code yJ3_checkIndex_8e157 cJ3_checkIndex_8e157 3 (some .int), Cond.methodLink RJx4a65c 123 yJx4a65c_elementData_915e3, Cond.instanceMethod yJx4a65c_elementData_915e3, Cond.selects RJx4a65c yJx4a65c_elementData_915e3 yJx4a65c_elementData_915e3, Cond.code yJx4a65c_elementData_915e3 cJx4a65c_elementData_915e3 2 (some (.object "java/lang/Object")), Cond.fieldLink RJx4a65c 9 "java/util/ArrayList" "elementData" "[Ljava/lang/Object;", Cond.methodLink RX7 100 yX7_requirePossible, Cond.static yX7_requirePossible, Cond.code yX7_requirePossible cX7_requirePossible 1 none, Cond.classLink RX7 275 "java/lang/IllegalStateException", Cond.initialized "java/lang/IllegalStateException", Cond.methodLink RX7 190 yX7_payBackToShop, Cond.static yX7_payBackToShop, Cond.code yX7_payBackToShop cX7_payBackToShop 1 none, Cond.fieldLink RX7 194 "CardPort$Chargeback" "capture" "LCardPort$Capture;", Cond.fieldLink RX7 198 "CardPort$Chargeback" "amount" "I", Cond.methodLink RX7 141 yX1_cardBank, Cond.instanceMethod yX1_cardBank, Cond.selects RX1 yX1_cardBank yX1_cardBank]
def wsX7_answer_r3 : List Cond := [Cond.initialized RX1, Cond.code yX1_cardBank cX1_cardBank 1 (some (.object "CardPort$Bank")), Cond.fieldLink RX1 16 "CardPort$Capture" "payment" "LCardPort$Payment;", Cond.fieldLink RX1 26 "CardPort$Payment" "card" "LCardPort$Card;", Cond.fieldLink RX1 32 "CardPort$Card" "bank" "LCardPort$Bank;", Cond.methodLink RX7 145 yX1_shopBank, Cond.instanceMethod yX1_shopBank, Cond.selects RX1 yX1_shopBank yX1_shopBank, Cond.code yX1_shopBank cX1_shopBank 1 (some (.object "CardPort$Bank")), Cond.fieldLink RX1 38 "CardPort$Payment" "shop" "LCardPort$Shop;", Cond.fieldLink RX1 42 "CardPort$Shop" "bank" "LCardPort$Bank;", Cond.methodLink RX7 154 yX0_pay, Cond.instanceMethod yX0_pay, Cond.selects RX0 yX0_pay yX0_pay, Cond.initialized RX0, Cond.code yX0_pay cX0_pay 3 none, Cond.methodLink RX0 16 yX0_book, Cond.instanceMethod yX0_book, Cond.selects RX0 yX0_book yX0_book, Cond.code yX0_book cX0_book 2 none, Cond.fieldLink RX0 7 "CardPort$Bank" "netInAll" "J", Cond.fieldLink RX0 13 "CardPort$Bank" "netToday" "J"]
def wsX7_answer : List Cond := .code yX7_answer cX7_answer 3 (some .int) :: ((wsX7_answer_r1 ++ (wsX7_answer_r2 ++ wsX7_answer_r3)) ++ wsX30 ++ wsX70 ++ wsJx4a65c0 ++ wsX10 ++ wsX50 ++ wsX20 ++ wsX60 ++ wsX00 ++ (vx_atS RX7 251 "java/lang/IndexOutOfBoundsException" ["java/lang/RuntimeException", "java/lang/Exception"]).filter goodWord ++ (vx_atS RX7 279 "java/lang/IllegalStateException" ["java/lang/RuntimeException", "java/lang/Exception"]).filter goodWord)
def wsX7_countPressed_r1 : List Cond := [Cond.fieldLink RX7 43 "CardPort" "chargebacks" "Ljava/util/List;", Cond.classLink RX7 174 "CardPort$Chargeback", Cond.fieldLink RX7 184 "CardPort$Chargeback" "stage" "I", Cond.methodLink RX7 94 ⟨"java/util/List", "size", "()I"⟩, Cond.selects RJx4a65c ⟨"java/util/List", "size", "()I"⟩ yJx4a65c_size_8abf5, Cond.instanceMethod yJx4a65c_size_8abf5, Cond.initialized RJx4a65c, Cond.code yJx4a65c_size_8abf5 cJx4a65c_size_8abf5 1 (some .int), Cond.fieldLink RJx4a65c 48 "java/util/ArrayList" "size" "I", Cond.methodLink RX7 235 ⟨"java/util/List", "get", "(I)Ljava/lang/Object;"⟩, Cond.selects RJx4a65c ⟨"java/util/List", "get", "(I)Ljava/lang/Object;"⟩ yJx4a65c_get_915e3, Cond.instanceMethod yJx4a65c_get_915e3, Cond.code yJx4a65c_get_915e3 cJx4a65c_get_915e3 2 (some (.object "java/lang/Object")), Cond.methodLink RJx4a65c 118 yJ15_checkIndex_7cf53, Cond.static yJ15_checkIndex_7cf53, Cond.initialized RJ15, Cond.code yJ15_checkIndex_7cf53 cJ15_checkIndex_7cf53 2 (some .int), Cond.methodLink RJ15 105 yJ3_checkIndex_8e157, Cond.static yJ3_checkIndex_8e157, Cond.initialized RJ3, Cond.code yJ3_checkIndex_8e157 cJ3_checkIndex_8e157 3 (some .int), Cond.methodLink RJx4a65c 123 yJx4a65c_elementData_915e3, Cond.instanceMethod yJx4a65c_elementData_915e3, Cond.selects RJx4a65c yJx4a65c_elementData_915e3 yJx4a65c_elementData_915e3]
def wsX7_countPressed_r2 : List Cond := [Cond.code yJx4a65c_elementData_915e3 cJx4a65c_elementData_915e3 2 (some (.object "java/lang/Object")), Cond.fieldLink RJx4a65c 9 "java/util/ArrayList" "elementData" "[Ljava/lang/Object;"]
def wsX7_countPressed : List Cond := .code yX7_countPressed cX7_countPressed 3 (some .int) :: ((wsX7_countPressed_r1 ++ wsX7_countPressed_r2) ++ wsX70 ++ wsX30 ++ wsJx4a65c0)
def wsX7_press_r1 : List Cond := [Cond.fieldLink RX7 184 "CardPort$Chargeback" "stage" "I", Cond.fieldLink RX7 187 "CardPort$Chargeback" "lastDay" "I", Cond.fieldLink RX7 194 "CardPort$Chargeback" "capture" "LCardPort$Capture;", Cond.fieldLink RX7 198 "CardPort$Chargeback" "amount" "I", Cond.methodLink RX7 180 yX7_chargebackAt, Cond.instanceMethod yX7_chargebackAt, Cond.selects RX7 yX7_chargebackAt yX7_chargebackAt, Cond.initialized RX7, Cond.code yX7_chargebackAt cX7_chargebackAt 2 (some (.object "CardPort$Chargeback")), Cond.classLink RX7 247 "java/lang/IndexOutOfBoundsException", Cond.initialized "java/lang/IndexOutOfBoundsException", Cond.fieldLink RX7 43 "CardPort" "chargebacks" "Ljava/util/List;", Cond.classLink RX7 174 "CardPort$Chargeback", Cond.methodLink RX7 94 ⟨"java/util/List", "size", "()I"⟩, Cond.selects RJx4a65c ⟨"java/util/List", "size", "()I"⟩ yJx4a65c_size_8abf5, Cond.instanceMethod yJx4a65c_size_8abf5, Cond.initialized RJx4a65c, Cond.code yJx4a65c_size_8abf5 cJx4a65c_size_8abf5 1 (some .int), Cond.fieldLink RJx4a65c 48 "java/util/ArrayList" "size" "I", Cond.methodLink RX7 235 ⟨"java/util/List", "get", "(I)Ljava/lang/Object;"⟩, Cond.selects RJx4a65c ⟨"java/util/List", "get", "(I)Ljava/lang/Object;"⟩ yJx4a65c_get_915e3, Cond.instanceMethod yJx4a65c_get_915e3, Cond.code yJx4a65c_get_915e3 cJx4a65c_get_915e3 2 (some (.object "java/lang/Object")), Cond.methodLink RJx4a65c 118 yJ15_checkIndex_7cf53]
def wsX7_press_r2 : List Cond := [Cond.static yJ15_checkIndex_7cf53, Cond.initialized RJ15, Cond.code yJ15_checkIndex_7cf53 cJ15_checkIndex_7cf53 2 (some .int), Cond.methodLink RJ15 105 yJ3_checkIndex_8e157, Cond.static yJ3_checkIndex_8e157, Cond.initialized RJ3, Cond.code yJ3_checkIndex_8e157 cJ3_checkIndex_8e157 3 (some .int), Cond.methodLink RJx4a65c 123 yJx4a65c_elementData_915e3, Cond.instanceMethod yJx4a65c_elementData_915e3, Cond.selects RJx4a65c yJx4a65c_elementData_915e3 yJx4a65c_elementData_915e3, Cond.code yJx4a65c_elementData_915e3 cJx4a65c_elementData_915e3 2 (some (.object "java/lang/Object")), Cond.fieldLink RJx4a65c 9 "java/util/ArrayList" "elementData" "[Ljava/lang/Object;", Cond.methodLink RX7 100 yX7_requirePossible, Cond.static yX7_requirePossible, Cond.code yX7_requirePossible cX7_requirePossible 1 none, Cond.classLink RX7 275 "java/lang/IllegalStateException", Cond.initialized "java/lang/IllegalStateException", Cond.methodLink RX7 145 yX1_shopBank, Cond.instanceMethod yX1_shopBank, Cond.selects RX1 yX1_shopBank yX1_shopBank, Cond.initialized RX1, Cond.code yX1_shopBank cX1_shopBank 1 (some (.object "CardPort$Bank")), Cond.fieldLink RX1 16 "CardPort$Capture" "payment" "LCardPort$Payment;", Cond.fieldLink RX1 38 "CardPort$Payment" "shop" "LCardPort$Shop;"]
def wsX7_press_r3 : List Cond := [Cond.fieldLink RX1 42 "CardPort$Shop" "bank" "LCardPort$Bank;", Cond.methodLink RX7 141 yX1_cardBank, Cond.instanceMethod yX1_cardBank, Cond.selects RX1 yX1_cardBank yX1_cardBank, Cond.code yX1_cardBank cX1_cardBank 1 (some (.object "CardPort$Bank")), Cond.fieldLink RX1 26 "CardPort$Payment" "card" "LCardPort$Card;", Cond.fieldLink RX1 32 "CardPort$Card" "bank" "LCardPort$Bank;", Cond.methodLink RX7 154 yX0_pay, Cond.instanceMethod yX0_pay, Cond.selects RX0 yX0_pay yX0_pay, Cond.initialized RX0, Cond.code yX0_pay cX0_pay 3 none, Cond.methodLink RX0 16 yX0_book, Cond.instanceMethod yX0_book, Cond.selects RX0 yX0_book yX0_book, Cond.code yX0_book cX0_book 2 none, Cond.fieldLink RX0 7 "CardPort$Bank" "netInAll" "J", Cond.fieldLink RX0 13 "CardPort$Bank" "netToday" "J", Cond.methodLink RX7 199 yX7_countPressed, Cond.instanceMethod yX7_countPressed, Cond.selects RX7 yX7_countPressed yX7_countPressed, Cond.code yX7_countPressed cX7_countPressed 3 (some .int)]
def wsX7_press : List Cond := .code yX7_press cX7_press 3 (some .int) :: ((wsX7_press_r1 ++ (wsX7_press_r2 ++ wsX7_press_r3)) ++ wsX30 ++ wsX70 ++ wsJx4a65c0 ++ wsX10 ++ wsX50 ++ wsX60 ++ wsX20 ++ wsX00 ++ (vx_atS RX7 251 "java/lang/IndexOutOfBoundsException" ["java/lang/RuntimeException", "java/lang/Exception"]).filter goodWord ++ (vx_atS RX7 279 "java/lang/IllegalStateException" ["java/lang/RuntimeException", "java/lang/Exception"]).filter goodWord)
def wsX7_rule_r1 : List Cond := [Cond.fieldLink RX7 184 "CardPort$Chargeback" "stage" "I", Cond.methodLink RX7 180 yX7_chargebackAt, Cond.instanceMethod yX7_chargebackAt, Cond.selects RX7 yX7_chargebackAt yX7_chargebackAt, Cond.initialized RX7, Cond.code yX7_chargebackAt cX7_chargebackAt 2 (some (.object "CardPort$Chargeback")), Cond.classLink RX7 247 "java/lang/IndexOutOfBoundsException", Cond.initialized "java/lang/IndexOutOfBoundsException", Cond.fieldLink RX7 43 "CardPort" "chargebacks" "Ljava/util/List;", Cond.classLink RX7 174 "CardPort$Chargeback", Cond.methodLink RX7 94 ⟨"java/util/List", "size", "()I"⟩, Cond.selects RJx4a65c ⟨"java/util/List", "size", "()I"⟩ yJx4a65c_size_8abf5, Cond.instanceMethod yJx4a65c_size_8abf5, Cond.initialized RJx4a65c, Cond.code yJx4a65c_size_8abf5 cJx4a65c_size_8abf5 1 (some .int), Cond.fieldLink RJx4a65c 48 "java/util/ArrayList" "size" "I", Cond.methodLink RX7 235 ⟨"java/util/List", "get", "(I)Ljava/lang/Object;"⟩, Cond.selects RJx4a65c ⟨"java/util/List", "get", "(I)Ljava/lang/Object;"⟩ yJx4a65c_get_915e3, Cond.instanceMethod yJx4a65c_get_915e3, Cond.code yJx4a65c_get_915e3 cJx4a65c_get_915e3 2 (some (.object "java/lang/Object")), Cond.methodLink RJx4a65c 118 yJ15_checkIndex_7cf53, Cond.static yJ15_checkIndex_7cf53, Cond.initialized RJ15, Cond.code yJ15_checkIndex_7cf53 cJ15_checkIndex_7cf53 2 (some .int)]
def wsX7_rule_r2 : List Cond := [Cond.methodLink RJ15 105 yJ3_checkIndex_8e157, Cond.static yJ3_checkIndex_8e157, Cond.initialized RJ3, Cond.code yJ3_checkIndex_8e157 cJ3_checkIndex_8e157 3 (some .int), Cond.methodLink RJx4a65c 123 yJx4a65c_elementData_915e3, Cond.instanceMethod yJx4a65c_elementData_915e3, Cond.selects RJx4a65c yJx4a65c_elementData_915e3 yJx4a65c_elementData_915e3, Cond.code yJx4a65c_elementData_915e3 cJx4a65c_elementData_915e3 2 (some (.object "java/lang/Object")), Cond.fieldLink RJx4a65c 9 "java/util/ArrayList" "elementData" "[Ljava/lang/Object;", Cond.methodLink RX7 100 yX7_requirePossible, Cond.static yX7_requirePossible, Cond.code yX7_requirePossible cX7_requirePossible 1 none, Cond.classLink RX7 275 "java/lang/IllegalStateException", Cond.initialized "java/lang/IllegalStateException", Cond.methodLink RX7 190 yX7_payBackToShop, Cond.static yX7_payBackToShop, Cond.code yX7_payBackToShop cX7_payBackToShop 1 none, Cond.fieldLink RX7 194 "CardPort$Chargeback" "capture" "LCardPort$Capture;", Cond.fieldLink RX7 198 "CardPort$Chargeback" "amount" "I", Cond.methodLink RX7 141 yX1_cardBank, Cond.instanceMethod yX1_cardBank, Cond.selects RX1 yX1_cardBank yX1_cardBank, Cond.initialized RX1, Cond.code yX1_cardBank cX1_cardBank 1 (some (.object "CardPort$Bank"))]
def wsX7_rule_r3 : List Cond := [Cond.fieldLink RX1 16 "CardPort$Capture" "payment" "LCardPort$Payment;", Cond.fieldLink RX1 26 "CardPort$Payment" "card" "LCardPort$Card;", Cond.fieldLink RX1 32 "CardPort$Card" "bank" "LCardPort$Bank;", Cond.methodLink RX7 145 yX1_shopBank, Cond.instanceMethod yX1_shopBank, Cond.selects RX1 yX1_shopBank yX1_shopBank, Cond.code yX1_shopBank cX1_shopBank 1 (some (.object "CardPort$Bank")), Cond.fieldLink RX1 38 "CardPort$Payment" "shop" "LCardPort$Shop;", Cond.fieldLink RX1 42 "CardPort$Shop" "bank" "LCardPort$Bank;", Cond.methodLink RX7 154 yX0_pay, Cond.instanceMethod yX0_pay, Cond.selects RX0 yX0_pay yX0_pay, Cond.initialized RX0, Cond.code yX0_pay cX0_pay 3 none, Cond.methodLink RX0 16 yX0_book, Cond.instanceMethod yX0_book, Cond.selects RX0 yX0_book yX0_book, Cond.code yX0_book cX0_book 2 none, Cond.fieldLink RX0 7 "CardPort$Bank" "netInAll" "J", Cond.fieldLink RX0 13 "CardPort$Bank" "netToday" "J"]
def wsX7_rule : List Cond := .code yX7_rule cX7_rule 4 (some .int) :: ((wsX7_rule_r1 ++ (wsX7_rule_r2 ++ wsX7_rule_r3)) ++ wsX30 ++ wsX70 ++ wsJx4a65c0 ++ wsX10 ++ wsX50 ++ wsX20 ++ wsX60 ++ wsX00 ++ (vx_atS RX7 251 "java/lang/IndexOutOfBoundsException" ["java/lang/RuntimeException", "java/lang/Exception"]).filter goodWord ++ (vx_atS RX7 279 "java/lang/IllegalStateException" ["java/lang/RuntimeException", "java/lang/Exception"]).filter goodWord)
def wsX7_beginNextDay_r1 : List Cond := [Cond.fieldLink RX7 46 "CardPort" "day" "I", Cond.fieldLink RX7 11 "CardPort" "banks" "[LCardPort$Bank;", Cond.fieldLink RX7 232 "CardPort$Bank" "netToday" "J", Cond.fieldLink RX7 43 "CardPort" "chargebacks" "Ljava/util/List;", Cond.classLink RX7 174 "CardPort$Chargeback", Cond.methodLink RX7 94 ⟨"java/util/List", "size", "()I"⟩, Cond.selects RJx4a65c ⟨"java/util/List", "size", "()I"⟩ yJx4a65c_size_8abf5, Cond.instanceMethod yJx4a65c_size_8abf5, Cond.initialized RJx4a65c, Cond.code yJx4a65c_size_8abf5 cJx4a65c_size_8abf5 1 (some .int), Cond.fieldLink RJx4a65c 48 "java/util/ArrayList" "size" "I", Cond.methodLink RX7 235 ⟨"java/util/List", "get", "(I)Ljava/lang/Object;"⟩, Cond.selects RJx4a65c ⟨"java/util/List", "get", "(I)Ljava/lang/Object;"⟩ yJx4a65c_get_915e3, Cond.instanceMethod yJx4a65c_get_915e3, Cond.code yJx4a65c_get_915e3 cJx4a65c_get_915e3 2 (some (.object "java/lang/Object")), Cond.methodLink RJx4a65c 118 yJ15_checkIndex_7cf53, Cond.static yJ15_checkIndex_7cf53, Cond.initialized RJ15, Cond.code yJ15_checkIndex_7cf53 cJ15_checkIndex_7cf53 2 (some .int), Cond.methodLink RJ15 105 yJ3_checkIndex_8e157, Cond.static yJ3_checkIndex_8e157, Cond.initialized RJ3, Cond.code yJ3_checkIndex_8e157 cJ3_checkIndex_8e157 3 (some .int), Cond.methodLink RJx4a65c 123 yJx4a65c_elementData_915e3]
def wsX7_beginNextDay_r2 : List Cond := [Cond.instanceMethod yJx4a65c_elementData_915e3, Cond.selects RJx4a65c yJx4a65c_elementData_915e3 yJx4a65c_elementData_915e3, Cond.code yJx4a65c_elementData_915e3 cJx4a65c_elementData_915e3 2 (some (.object "java/lang/Object")), Cond.fieldLink RJx4a65c 9 "java/util/ArrayList" "elementData" "[Ljava/lang/Object;", Cond.methodLink RX7 286 yX3_endIfLate, Cond.instanceMethod yX3_endIfLate, Cond.selects RX3 yX3_endIfLate yX3_endIfLate, Cond.initialized RX3, Cond.code yX3_endIfLate cX3_endIfLate 2 none, Cond.fieldLink RX3 25 "CardPort$Chargeback" "lastDay" "I", Cond.fieldLink RX3 9 "CardPort$Chargeback" "stage" "I", Cond.methodLink RX3 28 yX3_hasDeadline, Cond.instanceMethod yX3_hasDeadline, Cond.selects RX3 yX3_hasDeadline yX3_hasDeadline, Cond.code yX3_hasDeadline cX3_hasDeadline 1 (some .boolean)]
def wsX7_beginNextDay : List Cond := .code yX7_beginNextDay cX7_beginNextDay 2 none :: ((wsX7_beginNextDay_r1 ++ wsX7_beginNextDay_r2) ++ wsX70 ++ wsX00 ++ wsJx4a65c0 ++ wsX30)
def wsX7_pass_r1 : List Cond := [Cond.fieldLink RX7 46 "CardPort" "day" "I", Cond.methodLink RX7 75 yX7_requireRange, Cond.static yX7_requireRange, Cond.initialized RX7, Cond.code yX7_requireRange cX7_requireRange 3 none, Cond.classLink RX7 213 "java/lang/IllegalArgumentException", Cond.initialized "java/lang/IllegalArgumentException", Cond.methodLink RX7 202 yX7_beginNextDay, Cond.instanceMethod yX7_beginNextDay, Cond.selects RX7 yX7_beginNextDay yX7_beginNextDay, Cond.code yX7_beginNextDay cX7_beginNextDay 2 none, Cond.fieldLink RX7 11 "CardPort" "banks" "[LCardPort$Bank;", Cond.fieldLink RX7 232 "CardPort$Bank" "netToday" "J", Cond.fieldLink RX7 43 "CardPort" "chargebacks" "Ljava/util/List;", Cond.classLink RX7 174 "CardPort$Chargeback", Cond.methodLink RX7 94 ⟨"java/util/List", "size", "()I"⟩, Cond.selects RJx4a65c ⟨"java/util/List", "size", "()I"⟩ yJx4a65c_size_8abf5, Cond.instanceMethod yJx4a65c_size_8abf5, Cond.initialized RJx4a65c, Cond.code yJx4a65c_size_8abf5 cJx4a65c_size_8abf5 1 (some .int), Cond.fieldLink RJx4a65c 48 "java/util/ArrayList" "size" "I", Cond.methodLink RX7 235 ⟨"java/util/List", "get", "(I)Ljava/lang/Object;"⟩, Cond.selects RJx4a65c ⟨"java/util/List", "get", "(I)Ljava/lang/Object;"⟩ yJx4a65c_get_915e3, Cond.instanceMethod yJx4a65c_get_915e3]
def wsX7_pass_r2 : List Cond := [Cond.code yJx4a65c_get_915e3 cJx4a65c_get_915e3 2 (some (.object "java/lang/Object")), Cond.methodLink RJx4a65c 118 yJ15_checkIndex_7cf53, Cond.static yJ15_checkIndex_7cf53, Cond.initialized RJ15, Cond.code yJ15_checkIndex_7cf53 cJ15_checkIndex_7cf53 2 (some .int), Cond.methodLink RJ15 105 yJ3_checkIndex_8e157, Cond.static yJ3_checkIndex_8e157, Cond.initialized RJ3, Cond.code yJ3_checkIndex_8e157 cJ3_checkIndex_8e157 3 (some .int), Cond.methodLink RJx4a65c 123 yJx4a65c_elementData_915e3, Cond.instanceMethod yJx4a65c_elementData_915e3, Cond.selects RJx4a65c yJx4a65c_elementData_915e3 yJx4a65c_elementData_915e3, Cond.code yJx4a65c_elementData_915e3 cJx4a65c_elementData_915e3 2 (some (.object "java/lang/Object")), Cond.fieldLink RJx4a65c 9 "java/util/ArrayList" "elementData" "[Ljava/lang/Object;", Cond.methodLink RX7 286 yX3_endIfLate, Cond.instanceMethod yX3_endIfLate, Cond.selects RX3 yX3_endIfLate yX3_endIfLate, Cond.initialized RX3, Cond.code yX3_endIfLate cX3_endIfLate 2 none, Cond.fieldLink RX3 25 "CardPort$Chargeback" "lastDay" "I", Cond.fieldLink RX3 9 "CardPort$Chargeback" "stage" "I", Cond.methodLink RX3 28 yX3_hasDeadline, Cond.instanceMethod yX3_hasDeadline, Cond.selects RX3 yX3_hasDeadline yX3_hasDeadline]
def wsX7_pass_r3 : List Cond := [Cond.code yX3_hasDeadline cX3_hasDeadline 1 (some .boolean)]
def wsX7_pass : List Cond := .code yX7_pass cX7_pass 3 (some .int) :: ((wsX7_pass_r1 ++ (wsX7_pass_r2 ++ wsX7_pass_r3)) ++ wsX70 ++ wsX00 ++ wsJx4a65c0 ++ wsX30 ++ (vx_atS RX7 217 "java/lang/IllegalArgumentException" ["java/lang/RuntimeException", "java/lang/Exception"]).filter goodWord)
def wsX7_paymentOf_r1 : List Cond := [Cond.classLink RX7 213 "java/lang/IllegalArgumentException", Cond.initialized "java/lang/IllegalArgumentException", Cond.fieldLink RX7 205 "CardPort$Payment" "card" "LCardPort$Card;", Cond.fieldLink RX7 209 "CardPort$Card" "number" "I", Cond.fieldLink RX7 131 "CardPort$Payment" "shop" "LCardPort$Shop;", Cond.fieldLink RX7 210 "CardPort$Shop" "number" "I", Cond.fieldLink RX7 211 "CardPort$Payment" "amount" "I", Cond.fieldLink RX7 138 "CardPort$Payment" "captured" "I", Cond.fieldLink RX7 212 "CardPort$Payment" "lastDay" "I", Cond.fieldLink RX7 46 "CardPort" "day" "I", Cond.methodLink RX7 118 yX7_paymentAt, Cond.instanceMethod yX7_paymentAt, Cond.selects RX7 yX7_paymentAt yX7_paymentAt, Cond.initialized RX7, Cond.code yX7_paymentAt cX7_paymentAt 2 (some (.object "CardPort$Payment")), Cond.classLink RX7 247 "java/lang/IndexOutOfBoundsException", Cond.initialized "java/lang/IndexOutOfBoundsException", Cond.fieldLink RX7 36 "CardPort" "payments" "Ljava/util/List;", Cond.classLink RX7 108 "CardPort$Payment", Cond.methodLink RX7 94 ⟨"java/util/List", "size", "()I"⟩, Cond.selects RJx4a65c ⟨"java/util/List", "size", "()I"⟩ yJx4a65c_size_8abf5, Cond.instanceMethod yJx4a65c_size_8abf5, Cond.initialized RJx4a65c, Cond.code yJx4a65c_size_8abf5 cJx4a65c_size_8abf5 1 (some .int)]
def wsX7_paymentOf_r2 : List Cond := [Cond.fieldLink RJx4a65c 48 "java/util/ArrayList" "size" "I", Cond.methodLink RX7 235 ⟨"java/util/List", "get", "(I)Ljava/lang/Object;"⟩, Cond.selects RJx4a65c ⟨"java/util/List", "get", "(I)Ljava/lang/Object;"⟩ yJx4a65c_get_915e3, Cond.instanceMethod yJx4a65c_get_915e3, Cond.code yJx4a65c_get_915e3 cJx4a65c_get_915e3 2 (some (.object "java/lang/Object")), Cond.methodLink RJx4a65c 118 yJ15_checkIndex_7cf53, Cond.static yJ15_checkIndex_7cf53, Cond.initialized RJ15, Cond.code yJ15_checkIndex_7cf53 cJ15_checkIndex_7cf53 2 (some .int), Cond.methodLink RJ15 105 yJ3_checkIndex_8e157, Cond.static yJ3_checkIndex_8e157, Cond.initialized RJ3, Cond.code yJ3_checkIndex_8e157 cJ3_checkIndex_8e157 3 (some .int), Cond.methodLink RJx4a65c 123 yJx4a65c_elementData_915e3, Cond.instanceMethod yJx4a65c_elementData_915e3, Cond.selects RJx4a65c yJx4a65c_elementData_915e3 yJx4a65c_elementData_915e3, Cond.code yJx4a65c_elementData_915e3 cJx4a65c_elementData_915e3 2 (some (.object "java/lang/Object")), Cond.fieldLink RJx4a65c 9 "java/util/ArrayList" "elementData" "[Ljava/lang/Object;", Cond.methodLink RX7 122 yX5_isAlive, Cond.instanceMethod yX5_isAlive, Cond.selects RX5 yX5_isAlive yX5_isAlive, Cond.initialized RX5, Cond.code yX5_isAlive cX5_isAlive 2 (some .boolean), Cond.fieldLink RX5 13 "CardPort$Payment" "isVoid" "Z"]
def wsX7_paymentOf_r3 : List Cond := [Cond.fieldLink RX5 31 "CardPort$Payment" "lastDay" "I", Cond.methodLink RX7 126 yX5_left, Cond.instanceMethod yX5_left, Cond.selects RX5 yX5_left yX5_left, Cond.code yX5_left cX5_left 1 (some .int), Cond.fieldLink RX5 28 "CardPort$Payment" "amount" "I", Cond.fieldLink RX5 7 "CardPort$Payment" "captured" "I"]
def wsX7_paymentOf : List Cond := .code yX7_paymentOf cX7_paymentOf 4 (some .int) :: ((wsX7_paymentOf_r1 ++ (wsX7_paymentOf_r2 ++ wsX7_paymentOf_r3)) ++ wsX50 ++ wsX20 ++ wsX60 ++ wsX70 ++ wsJx4a65c0 ++ (vx_atS RX7 217 "java/lang/IllegalArgumentException" ["java/lang/RuntimeException", "java/lang/Exception"]).filter goodWord ++ (vx_atS RX7 251 "java/lang/IndexOutOfBoundsException" ["java/lang/RuntimeException", "java/lang/Exception"]).filter goodWord)
def wsX7_captureOf_r1 : List Cond := [Cond.classLink RX7 213 "java/lang/IllegalArgumentException", Cond.initialized "java/lang/IllegalArgumentException", Cond.fieldLink RX7 220 "CardPort$Capture" "payment" "LCardPort$Payment;", Cond.fieldLink RX7 117 "CardPort$Payment" "number" "I", Cond.fieldLink RX7 148 "CardPort$Capture" "amount" "I", Cond.fieldLink RX7 151 "CardPort$Capture" "fee" "I", Cond.fieldLink RX7 171 "CardPort$Capture" "refunded" "I", Cond.methodLink RX7 163 yX7_captureAt, Cond.instanceMethod yX7_captureAt, Cond.selects RX7 yX7_captureAt yX7_captureAt, Cond.initialized RX7, Cond.code yX7_captureAt cX7_captureAt 2 (some (.object "CardPort$Capture")), Cond.classLink RX7 247 "java/lang/IndexOutOfBoundsException", Cond.initialized "java/lang/IndexOutOfBoundsException", Cond.fieldLink RX7 40 "CardPort" "captures" "Ljava/util/List;", Cond.classLink RX7 129 "CardPort$Capture", Cond.methodLink RX7 94 ⟨"java/util/List", "size", "()I"⟩, Cond.selects RJx4a65c ⟨"java/util/List", "size", "()I"⟩ yJx4a65c_size_8abf5, Cond.instanceMethod yJx4a65c_size_8abf5, Cond.initialized RJx4a65c, Cond.code yJx4a65c_size_8abf5 cJx4a65c_size_8abf5 1 (some .int), Cond.fieldLink RJx4a65c 48 "java/util/ArrayList" "size" "I", Cond.methodLink RX7 235 ⟨"java/util/List", "get", "(I)Ljava/lang/Object;"⟩, Cond.selects RJx4a65c ⟨"java/util/List", "get", "(I)Ljava/lang/Object;"⟩ yJx4a65c_get_915e3]
def wsX7_captureOf_r2 : List Cond := [Cond.instanceMethod yJx4a65c_get_915e3, Cond.code yJx4a65c_get_915e3 cJx4a65c_get_915e3 2 (some (.object "java/lang/Object")), Cond.methodLink RJx4a65c 118 yJ15_checkIndex_7cf53, Cond.static yJ15_checkIndex_7cf53, Cond.initialized RJ15, Cond.code yJ15_checkIndex_7cf53 cJ15_checkIndex_7cf53 2 (some .int), Cond.methodLink RJ15 105 yJ3_checkIndex_8e157, Cond.static yJ3_checkIndex_8e157, Cond.initialized RJ3, Cond.code yJ3_checkIndex_8e157 cJ3_checkIndex_8e157 3 (some .int), Cond.methodLink RJx4a65c 123 yJx4a65c_elementData_915e3, Cond.instanceMethod yJx4a65c_elementData_915e3, Cond.selects RJx4a65c yJx4a65c_elementData_915e3 yJx4a65c_elementData_915e3, Cond.code yJx4a65c_elementData_915e3 cJx4a65c_elementData_915e3 2 (some (.object "java/lang/Object")), Cond.fieldLink RJx4a65c 9 "java/util/ArrayList" "elementData" "[Ljava/lang/Object;", Cond.methodLink RX7 167 yX7_givenBackOf, Cond.instanceMethod yX7_givenBackOf, Cond.selects RX7 yX7_givenBackOf yX7_givenBackOf, Cond.code yX7_givenBackOf cX7_givenBackOf 5 (some .int), Cond.fieldLink RX7 43 "CardPort" "chargebacks" "Ljava/util/List;", Cond.classLink RX7 174 "CardPort$Chargeback", Cond.fieldLink RX7 194 "CardPort$Chargeback" "capture" "LCardPort$Capture;", Cond.fieldLink RX7 184 "CardPort$Chargeback" "stage" "I", Cond.fieldLink RX7 198 "CardPort$Chargeback" "amount" "I"]
def wsX7_captureOf : List Cond := .code yX7_captureOf cX7_captureOf 4 (some .int) :: ((wsX7_captureOf_r1 ++ wsX7_captureOf_r2) ++ wsX10 ++ wsX50 ++ wsX70 ++ wsJx4a65c0 ++ wsX30 ++ (vx_atS RX7 217 "java/lang/IllegalArgumentException" ["java/lang/RuntimeException", "java/lang/Exception"]).filter goodWord ++ (vx_atS RX7 251 "java/lang/IndexOutOfBoundsException" ["java/lang/RuntimeException", "java/lang/Exception"]).filter goodWord)
def wsX7_chargebackOf_r1 : List Cond := [Cond.classLink RX7 213 "java/lang/IllegalArgumentException", Cond.initialized "java/lang/IllegalArgumentException", Cond.fieldLink RX7 184 "CardPort$Chargeback" "stage" "I", Cond.fieldLink RX7 194 "CardPort$Chargeback" "capture" "LCardPort$Capture;", Cond.fieldLink RX7 158 "CardPort$Capture" "number" "I", Cond.fieldLink RX7 198 "CardPort$Chargeback" "amount" "I", Cond.fieldLink RX7 187 "CardPort$Chargeback" "lastDay" "I", Cond.methodLink RX7 180 yX7_chargebackAt, Cond.instanceMethod yX7_chargebackAt, Cond.selects RX7 yX7_chargebackAt yX7_chargebackAt, Cond.initialized RX7, Cond.code yX7_chargebackAt cX7_chargebackAt 2 (some (.object "CardPort$Chargeback")), Cond.classLink RX7 247 "java/lang/IndexOutOfBoundsException", Cond.initialized "java/lang/IndexOutOfBoundsException", Cond.fieldLink RX7 43 "CardPort" "chargebacks" "Ljava/util/List;", Cond.classLink RX7 174 "CardPort$Chargeback", Cond.methodLink RX7 94 ⟨"java/util/List", "size", "()I"⟩, Cond.selects RJx4a65c ⟨"java/util/List", "size", "()I"⟩ yJx4a65c_size_8abf5, Cond.instanceMethod yJx4a65c_size_8abf5, Cond.initialized RJx4a65c, Cond.code yJx4a65c_size_8abf5 cJx4a65c_size_8abf5 1 (some .int), Cond.fieldLink RJx4a65c 48 "java/util/ArrayList" "size" "I", Cond.methodLink RX7 235 ⟨"java/util/List", "get", "(I)Ljava/lang/Object;"⟩, Cond.selects RJx4a65c ⟨"java/util/List", "get", "(I)Ljava/lang/Object;"⟩ yJx4a65c_get_915e3]
def wsX7_chargebackOf_r2 : List Cond := [Cond.instanceMethod yJx4a65c_get_915e3, Cond.code yJx4a65c_get_915e3 cJx4a65c_get_915e3 2 (some (.object "java/lang/Object")), Cond.methodLink RJx4a65c 118 yJ15_checkIndex_7cf53, Cond.static yJ15_checkIndex_7cf53, Cond.initialized RJ15, Cond.code yJ15_checkIndex_7cf53 cJ15_checkIndex_7cf53 2 (some .int), Cond.methodLink RJ15 105 yJ3_checkIndex_8e157, Cond.static yJ3_checkIndex_8e157, Cond.initialized RJ3, Cond.code yJ3_checkIndex_8e157 cJ3_checkIndex_8e157 3 (some .int), Cond.methodLink RJx4a65c 123 yJx4a65c_elementData_915e3, Cond.instanceMethod yJx4a65c_elementData_915e3, Cond.selects RJx4a65c yJx4a65c_elementData_915e3 yJx4a65c_elementData_915e3, Cond.code yJx4a65c_elementData_915e3 cJx4a65c_elementData_915e3 2 (some (.object "java/lang/Object")), Cond.fieldLink RJx4a65c 9 "java/util/ArrayList" "elementData" "[Ljava/lang/Object;"]
def wsX7_chargebackOf : List Cond := .code yX7_chargebackOf cX7_chargebackOf 4 (some .int) :: ((wsX7_chargebackOf_r1 ++ wsX7_chargebackOf_r2) ++ wsX30 ++ wsX10 ++ wsX70 ++ wsJx4a65c0 ++ (vx_atS RX7 217 "java/lang/IllegalArgumentException" ["java/lang/RuntimeException", "java/lang/Exception"]).filter goodWord ++ (vx_atS RX7 251 "java/lang/IndexOutOfBoundsException" ["java/lang/RuntimeException", "java/lang/Exception"]).filter goodWord)
def wsX7_limit_r1 : List Cond := [Cond.methodLink RX7 89 yX7_cardAt, Cond.instanceMethod yX7_cardAt, Cond.selects RX7 yX7_cardAt yX7_cardAt, Cond.initialized RX7, Cond.code yX7_cardAt cX7_cardAt 2 (some (.object "CardPort$Card")), Cond.classLink RX7 247 "java/lang/IndexOutOfBoundsException", Cond.initialized "java/lang/IndexOutOfBoundsException", Cond.fieldLink RX7 29 "CardPort" "cards" "[LCardPort$Card;", Cond.methodLink RX7 104 yX7_limitOf, Cond.instanceMethod yX7_limitOf, Cond.selects RX7 yX7_limitOf yX7_limitOf, Cond.code yX7_limitOf cX7_limitOf 6 (some .int), Cond.fieldLink RX7 40 "CardPort" "captures" "Ljava/util/List;", Cond.classLink RX7 129 "CardPort$Capture", Cond.fieldLink RX7 220 "CardPort$Capture" "payment" "LCardPort$Payment;", Cond.fieldLink RX7 205 "CardPort$Payment" "card" "LCardPort$Card;", Cond.fieldLink RX7 148 "CardPort$Capture" "amount" "I", Cond.methodLink RX7 280 Lib.Math.max.name, Cond.static Lib.Math.max.name, Cond.initialized "java/lang/Math", Cond.code Lib.Math.max.name Lib.Math.max.code 2 (some .int), Cond.methodLink RX7 94 ⟨"java/util/List", "size", "()I"⟩, Cond.selects RJx4a65c ⟨"java/util/List", "size", "()I"⟩ yJx4a65c_size_8abf5, Cond.instanceMethod yJx4a65c_size_8abf5]
def wsX7_limit_r2 : List Cond := [Cond.initialized RJx4a65c, Cond.code yJx4a65c_size_8abf5 cJx4a65c_size_8abf5 1 (some .int), Cond.fieldLink RJx4a65c 48 "java/util/ArrayList" "size" "I", Cond.methodLink RX7 235 ⟨"java/util/List", "get", "(I)Ljava/lang/Object;"⟩, Cond.selects RJx4a65c ⟨"java/util/List", "get", "(I)Ljava/lang/Object;"⟩ yJx4a65c_get_915e3, Cond.instanceMethod yJx4a65c_get_915e3, Cond.code yJx4a65c_get_915e3 cJx4a65c_get_915e3 2 (some (.object "java/lang/Object")), Cond.methodLink RJx4a65c 118 yJ15_checkIndex_7cf53, Cond.static yJ15_checkIndex_7cf53, Cond.initialized RJ15, Cond.code yJ15_checkIndex_7cf53 cJ15_checkIndex_7cf53 2 (some .int), Cond.methodLink RJ15 105 yJ3_checkIndex_8e157, Cond.static yJ3_checkIndex_8e157, Cond.initialized RJ3, Cond.code yJ3_checkIndex_8e157 cJ3_checkIndex_8e157 3 (some .int), Cond.methodLink RJx4a65c 123 yJx4a65c_elementData_915e3, Cond.instanceMethod yJx4a65c_elementData_915e3, Cond.selects RJx4a65c yJx4a65c_elementData_915e3 yJx4a65c_elementData_915e3, Cond.code yJx4a65c_elementData_915e3 cJx4a65c_elementData_915e3 2 (some (.object "java/lang/Object")), Cond.fieldLink RJx4a65c 9 "java/util/ArrayList" "elementData" "[Ljava/lang/Object;"]
def wsX7_limit : List Cond := .code yX7_limit cX7_limit 2 (some .int) :: ((wsX7_limit_r1 ++ wsX7_limit_r2) ++ wsX70 ++ wsX10 ++ wsX50 ++ wsJx4a65c0 ++ (vx_atS RX7 251 "java/lang/IndexOutOfBoundsException" ["java/lang/RuntimeException", "java/lang/Exception"]).filter goodWord)
def wsX7_bankAt : List Cond := .code yX7_bankAt cX7_bankAt 2 (some (.object "CardPort$Bank")) :: ([.classLink RX7 247 "java/lang/IndexOutOfBoundsException", .initialized "java/lang/IndexOutOfBoundsException", .fieldLink RX7 11 "CardPort" "banks" "[LCardPort$Bank;"] ++ wsX70 ++ (vx_atS RX7 251 "java/lang/IndexOutOfBoundsException" ["java/lang/RuntimeException", "java/lang/Exception"]).filter goodWord)
def wsX7_net : List Cond := .code yX7_net cX7_net 4 (some .long) :: ([.fieldLink RX7 228 "CardPort$Bank" "netInAll" "J", .fieldLink RX7 232 "CardPort$Bank" "netToday" "J", .methodLink RX7 224 yX7_bankAt, .instanceMethod yX7_bankAt, .selects RX7 yX7_bankAt yX7_bankAt, .initialized RX7, .code yX7_bankAt cX7_bankAt 2 (some (.object "CardPort$Bank")), .classLink RX7 247 "java/lang/IndexOutOfBoundsException", .initialized "java/lang/IndexOutOfBoundsException", .fieldLink RX7 11 "CardPort" "banks" "[LCardPort$Bank;"] ++ wsX00 ++ wsX70 ++ (vx_atS RX7 251 "java/lang/IndexOutOfBoundsException" ["java/lang/RuntimeException", "java/lang/Exception"]).filter goodWord)
def wsX7_netAnew_r1 : List Cond := [Cond.fieldLink RX7 40 "CardPort" "captures" "Ljava/util/List;", Cond.classLink RX7 129 "CardPort$Capture", Cond.fieldLink RX7 148 "CardPort$Capture" "amount" "I", Cond.fieldLink RX7 151 "CardPort$Capture" "fee" "I", Cond.fieldLink RX7 171 "CardPort$Capture" "refunded" "I", Cond.fieldLink RX7 43 "CardPort" "chargebacks" "Ljava/util/List;", Cond.classLink RX7 174 "CardPort$Chargeback", Cond.fieldLink RX7 194 "CardPort$Chargeback" "capture" "LCardPort$Capture;", Cond.fieldLink RX7 198 "CardPort$Chargeback" "amount" "I", Cond.methodLink RX7 224 yX7_bankAt, Cond.instanceMethod yX7_bankAt, Cond.selects RX7 yX7_bankAt yX7_bankAt, Cond.initialized RX7, Cond.code yX7_bankAt cX7_bankAt 2 (some (.object "CardPort$Bank")), Cond.classLink RX7 247 "java/lang/IndexOutOfBoundsException", Cond.initialized "java/lang/IndexOutOfBoundsException", Cond.fieldLink RX7 11 "CardPort" "banks" "[LCardPort$Bank;", Cond.methodLink RX7 94 ⟨"java/util/List", "size", "()I"⟩, Cond.selects RJx4a65c ⟨"java/util/List", "size", "()I"⟩ yJx4a65c_size_8abf5, Cond.instanceMethod yJx4a65c_size_8abf5, Cond.initialized RJx4a65c, Cond.code yJx4a65c_size_8abf5 cJx4a65c_size_8abf5 1 (some .int), Cond.fieldLink RJx4a65c 48 "java/util/ArrayList" "size" "I", Cond.methodLink RX7 235 ⟨"java/util/List", "get", "(I)Ljava/lang/Object;"⟩]
def wsX7_netAnew_r2 : List Cond := [Cond.selects RJx4a65c ⟨"java/util/List", "get", "(I)Ljava/lang/Object;"⟩ yJx4a65c_get_915e3, Cond.instanceMethod yJx4a65c_get_915e3, Cond.code yJx4a65c_get_915e3 cJx4a65c_get_915e3 2 (some (.object "java/lang/Object")), Cond.methodLink RJx4a65c 118 yJ15_checkIndex_7cf53, Cond.static yJ15_checkIndex_7cf53, Cond.initialized RJ15, Cond.code yJ15_checkIndex_7cf53 cJ15_checkIndex_7cf53 2 (some .int), Cond.methodLink RJ15 105 yJ3_checkIndex_8e157, Cond.static yJ3_checkIndex_8e157, Cond.initialized RJ3, Cond.code yJ3_checkIndex_8e157 cJ3_checkIndex_8e157 3 (some .int), Cond.methodLink RJx4a65c 123 yJx4a65c_elementData_915e3, Cond.instanceMethod yJx4a65c_elementData_915e3, Cond.selects RJx4a65c yJx4a65c_elementData_915e3 yJx4a65c_elementData_915e3, Cond.code yJx4a65c_elementData_915e3 cJx4a65c_elementData_915e3 2 (some (.object "java/lang/Object")), Cond.fieldLink RJx4a65c 9 "java/util/ArrayList" "elementData" "[Ljava/lang/Object;", Cond.methodLink RX7 239 yX1_shareOf, Cond.instanceMethod yX1_shareOf, Cond.selects RX1 yX1_shareOf yX1_shareOf, Cond.initialized RX1, Cond.code yX1_shareOf cX1_shareOf 4 (some .int), Cond.methodLink RX1 45 yX1_shopBank, Cond.instanceMethod yX1_shopBank, Cond.selects RX1 yX1_shopBank yX1_shopBank]
def wsX7_netAnew_r3 : List Cond := [Cond.code yX1_shopBank cX1_shopBank 1 (some (.object "CardPort$Bank")), Cond.fieldLink RX1 16 "CardPort$Capture" "payment" "LCardPort$Payment;", Cond.fieldLink RX1 38 "CardPort$Payment" "shop" "LCardPort$Shop;", Cond.fieldLink RX1 42 "CardPort$Shop" "bank" "LCardPort$Bank;", Cond.methodLink RX1 49 yX1_cardBank, Cond.instanceMethod yX1_cardBank, Cond.selects RX1 yX1_cardBank yX1_cardBank, Cond.code yX1_cardBank cX1_cardBank 1 (some (.object "CardPort$Bank")), Cond.fieldLink RX1 26 "CardPort$Payment" "card" "LCardPort$Card;", Cond.fieldLink RX1 32 "CardPort$Card" "bank" "LCardPort$Bank;", Cond.methodLink RX7 243 yX3_isWithCard, Cond.instanceMethod yX3_isWithCard, Cond.selects RX3 yX3_isWithCard yX3_isWithCard, Cond.initialized RX3, Cond.code yX3_isWithCard cX3_isWithCard 1 (some .boolean), Cond.fieldLink RX3 9 "CardPort$Chargeback" "stage" "I"]
def wsX7_netAnew : List Cond := .code yX7_netAnew cX7_netAnew 7 (some .long) :: ((wsX7_netAnew_r1 ++ (wsX7_netAnew_r2 ++ wsX7_netAnew_r3)) ++ wsX70 ++ wsX10 ++ wsX30 ++ wsJx4a65c0 ++ wsX50 ++ wsX60 ++ wsX20 ++ (vx_atS RX7 251 "java/lang/IndexOutOfBoundsException" ["java/lang/RuntimeException", "java/lang/Exception"]).filter goodWord)
def wsX7_nextDueBehind_r1 : List Cond := [Cond.fieldLink RX7 43 "CardPort" "chargebacks" "Ljava/util/List;", Cond.classLink RX7 174 "CardPort$Chargeback", Cond.methodLink RX7 94 ⟨"java/util/List", "size", "()I"⟩, Cond.selects RJx4a65c ⟨"java/util/List", "size", "()I"⟩ yJx4a65c_size_8abf5, Cond.instanceMethod yJx4a65c_size_8abf5, Cond.initialized RJx4a65c, Cond.code yJx4a65c_size_8abf5 cJx4a65c_size_8abf5 1 (some .int), Cond.fieldLink RJx4a65c 48 "java/util/ArrayList" "size" "I", Cond.methodLink RX7 235 ⟨"java/util/List", "get", "(I)Ljava/lang/Object;"⟩, Cond.selects RJx4a65c ⟨"java/util/List", "get", "(I)Ljava/lang/Object;"⟩ yJx4a65c_get_915e3, Cond.instanceMethod yJx4a65c_get_915e3, Cond.code yJx4a65c_get_915e3 cJx4a65c_get_915e3 2 (some (.object "java/lang/Object")), Cond.methodLink RJx4a65c 118 yJ15_checkIndex_7cf53, Cond.static yJ15_checkIndex_7cf53, Cond.initialized RJ15, Cond.code yJ15_checkIndex_7cf53 cJ15_checkIndex_7cf53 2 (some .int), Cond.methodLink RJ15 105 yJ3_checkIndex_8e157, Cond.static yJ3_checkIndex_8e157, Cond.initialized RJ3, Cond.code yJ3_checkIndex_8e157 cJ3_checkIndex_8e157 3 (some .int), Cond.methodLink RJx4a65c 123 yJx4a65c_elementData_915e3, Cond.instanceMethod yJx4a65c_elementData_915e3, Cond.selects RJx4a65c yJx4a65c_elementData_915e3 yJx4a65c_elementData_915e3, Cond.code yJx4a65c_elementData_915e3 cJx4a65c_elementData_915e3 2 (some (.object "java/lang/Object"))]
def wsX7_nextDueBehind_r2 : List Cond := [Cond.fieldLink RJx4a65c 9 "java/util/ArrayList" "elementData" "[Ljava/lang/Object;", Cond.methodLink RX7 289 yX3_isDueBefore, Cond.instanceMethod yX3_isDueBefore, Cond.selects RX3 yX3_isDueBefore yX3_isDueBefore, Cond.initialized RX3, Cond.code yX3_isDueBefore cX3_isDueBefore 2 (some .boolean), Cond.fieldLink RX3 25 "CardPort$Chargeback" "lastDay" "I", Cond.fieldLink RX3 22 "CardPort$Chargeback" "amount" "I", Cond.fieldLink RX3 15 "CardPort$Chargeback" "number" "I", Cond.methodLink RX7 293 yX3_hasDeadline, Cond.instanceMethod yX3_hasDeadline, Cond.selects RX3 yX3_hasDeadline yX3_hasDeadline, Cond.code yX3_hasDeadline cX3_hasDeadline 1 (some .boolean), Cond.fieldLink RX3 9 "CardPort$Chargeback" "stage" "I"]
def wsX7_nextDueBehind : List Cond := .code yX7_nextDueBehind cX7_nextDueBehind 6 (some (.object "CardPort$Chargeback")) :: ((wsX7_nextDueBehind_r1 ++ wsX7_nextDueBehind_r2) ++ wsX70 ++ wsJx4a65c0 ++ wsX30)
def wsX7_due_r1 : List Cond := [Cond.classLink RX7 247 "java/lang/IndexOutOfBoundsException", Cond.initialized "java/lang/IndexOutOfBoundsException", Cond.fieldLink RX7 43 "CardPort" "chargebacks" "Ljava/util/List;", Cond.fieldLink RX7 179 "CardPort$Chargeback" "number" "I", Cond.methodLink RX7 94 ⟨"java/util/List", "size", "()I"⟩, Cond.selects RJx4a65c ⟨"java/util/List", "size", "()I"⟩ yJx4a65c_size_8abf5, Cond.instanceMethod yJx4a65c_size_8abf5, Cond.initialized RJx4a65c, Cond.code yJx4a65c_size_8abf5 cJx4a65c_size_8abf5 1 (some .int), Cond.fieldLink RJx4a65c 48 "java/util/ArrayList" "size" "I", Cond.methodLink RX7 252 yX7_nextDueBehind, Cond.instanceMethod yX7_nextDueBehind, Cond.selects RX7 yX7_nextDueBehind yX7_nextDueBehind, Cond.initialized RX7, Cond.code yX7_nextDueBehind cX7_nextDueBehind 6 (some (.object "CardPort$Chargeback")), Cond.classLink RX7 174 "CardPort$Chargeback", Cond.methodLink RX7 235 ⟨"java/util/List", "get", "(I)Ljava/lang/Object;"⟩, Cond.selects RJx4a65c ⟨"java/util/List", "get", "(I)Ljava/lang/Object;"⟩ yJx4a65c_get_915e3, Cond.instanceMethod yJx4a65c_get_915e3, Cond.code yJx4a65c_get_915e3 cJx4a65c_get_915e3 2 (some (.object "java/lang/Object")), Cond.methodLink RJx4a65c 118 yJ15_checkIndex_7cf53, Cond.static yJ15_checkIndex_7cf53, Cond.initialized RJ15, Cond.code yJ15_checkIndex_7cf53 cJ15_checkIndex_7cf53 2 (some .int)]
def wsX7_due_r2 : List Cond := [Cond.methodLink RJ15 105 yJ3_checkIndex_8e157, Cond.static yJ3_checkIndex_8e157, Cond.initialized RJ3, Cond.code yJ3_checkIndex_8e157 cJ3_checkIndex_8e157 3 (some .int), Cond.methodLink RJx4a65c 123 yJx4a65c_elementData_915e3, Cond.instanceMethod yJx4a65c_elementData_915e3, Cond.selects RJx4a65c yJx4a65c_elementData_915e3 yJx4a65c_elementData_915e3, Cond.code yJx4a65c_elementData_915e3 cJx4a65c_elementData_915e3 2 (some (.object "java/lang/Object")), Cond.fieldLink RJx4a65c 9 "java/util/ArrayList" "elementData" "[Ljava/lang/Object;", Cond.methodLink RX7 289 yX3_isDueBefore, Cond.instanceMethod yX3_isDueBefore, Cond.selects RX3 yX3_isDueBefore yX3_isDueBefore, Cond.initialized RX3, Cond.code yX3_isDueBefore cX3_isDueBefore 2 (some .boolean), Cond.fieldLink RX3 25 "CardPort$Chargeback" "lastDay" "I", Cond.fieldLink RX3 22 "CardPort$Chargeback" "amount" "I", Cond.fieldLink RX3 15 "CardPort$Chargeback" "number" "I", Cond.methodLink RX7 293 yX3_hasDeadline, Cond.instanceMethod yX3_hasDeadline, Cond.selects RX3 yX3_hasDeadline yX3_hasDeadline, Cond.code yX3_hasDeadline cX3_hasDeadline 1 (some .boolean), Cond.fieldLink RX3 9 "CardPort$Chargeback" "stage" "I"]
def wsX7_due : List Cond := .code yX7_due cX7_due 4 (some .int) :: ((wsX7_due_r1 ++ wsX7_due_r2) ++ wsX70 ++ wsX30 ++ wsJx4a65c0 ++ (vx_atS RX7 251 "java/lang/IndexOutOfBoundsException" ["java/lang/RuntimeException", "java/lang/Exception"]).filter goodWord)
def wsX7_sumOfFees_r1 : List Cond := [Cond.fieldLink RX7 40 "CardPort" "captures" "Ljava/util/List;", Cond.classLink RX7 129 "CardPort$Capture", Cond.fieldLink RX7 151 "CardPort$Capture" "fee" "I", Cond.methodLink RX7 94 ⟨"java/util/List", "size", "()I"⟩, Cond.selects RJx4a65c ⟨"java/util/List", "size", "()I"⟩ yJx4a65c_size_8abf5, Cond.instanceMethod yJx4a65c_size_8abf5, Cond.initialized RJx4a65c, Cond.code yJx4a65c_size_8abf5 cJx4a65c_size_8abf5 1 (some .int), Cond.fieldLink RJx4a65c 48 "java/util/ArrayList" "size" "I", Cond.methodLink RX7 235 ⟨"java/util/List", "get", "(I)Ljava/lang/Object;"⟩, Cond.selects RJx4a65c ⟨"java/util/List", "get", "(I)Ljava/lang/Object;"⟩ yJx4a65c_get_915e3, Cond.instanceMethod yJx4a65c_get_915e3, Cond.code yJx4a65c_get_915e3 cJx4a65c_get_915e3 2 (some (.object "java/lang/Object")), Cond.methodLink RJx4a65c 118 yJ15_checkIndex_7cf53, Cond.static yJ15_checkIndex_7cf53, Cond.initialized RJ15, Cond.code yJ15_checkIndex_7cf53 cJ15_checkIndex_7cf53 2 (some .int), Cond.methodLink RJ15 105 yJ3_checkIndex_8e157, Cond.static yJ3_checkIndex_8e157, Cond.initialized RJ3, Cond.code yJ3_checkIndex_8e157 cJ3_checkIndex_8e157 3 (some .int), Cond.methodLink RJx4a65c 123 yJx4a65c_elementData_915e3, Cond.instanceMethod yJx4a65c_elementData_915e3, Cond.selects RJx4a65c yJx4a65c_elementData_915e3 yJx4a65c_elementData_915e3]
def wsX7_sumOfFees_r2 : List Cond := [Cond.code yJx4a65c_elementData_915e3 cJx4a65c_elementData_915e3 2 (some (.object "java/lang/Object")), Cond.fieldLink RJx4a65c 9 "java/util/ArrayList" "elementData" "[Ljava/lang/Object;"]
def wsX7_sumOfFees : List Cond := .code yX7_sumOfFees cX7_sumOfFees 3 (some .int) :: ((wsX7_sumOfFees_r1 ++ wsX7_sumOfFees_r2) ++ wsX70 ++ wsX10 ++ wsJx4a65c0)
def wsX7_count_r1 : List Cond := [Cond.classLink RX7 213 "java/lang/IllegalArgumentException", Cond.initialized "java/lang/IllegalArgumentException", Cond.fieldLink RX7 36 "CardPort" "payments" "Ljava/util/List;", Cond.fieldLink RX7 40 "CardPort" "captures" "Ljava/util/List;", Cond.fieldLink RX7 43 "CardPort" "chargebacks" "Ljava/util/List;", Cond.fieldLink RX7 46 "CardPort" "day" "I", Cond.methodLink RX7 94 ⟨"java/util/List", "size", "()I"⟩, Cond.selects RJx4a65c ⟨"java/util/List", "size", "()I"⟩ yJx4a65c_size_8abf5, Cond.instanceMethod yJx4a65c_size_8abf5, Cond.initialized RJx4a65c, Cond.code yJx4a65c_size_8abf5 cJx4a65c_size_8abf5 1 (some .int), Cond.fieldLink RJx4a65c 48 "java/util/ArrayList" "size" "I", Cond.methodLink RX7 256 yX7_sumOfFees, Cond.instanceMethod yX7_sumOfFees, Cond.selects RX7 yX7_sumOfFees yX7_sumOfFees, Cond.initialized RX7, Cond.code yX7_sumOfFees cX7_sumOfFees 3 (some .int), Cond.classLink RX7 129 "CardPort$Capture", Cond.fieldLink RX7 151 "CardPort$Capture" "fee" "I", Cond.methodLink RX7 235 ⟨"java/util/List", "get", "(I)Ljava/lang/Object;"⟩, Cond.selects RJx4a65c ⟨"java/util/List", "get", "(I)Ljava/lang/Object;"⟩ yJx4a65c_get_915e3, Cond.instanceMethod yJx4a65c_get_915e3, Cond.code yJx4a65c_get_915e3 cJx4a65c_get_915e3 2 (some (.object "java/lang/Object")), Cond.methodLink RJx4a65c 118 yJ15_checkIndex_7cf53]
def wsX7_count_r2 : List Cond := [Cond.static yJ15_checkIndex_7cf53, Cond.initialized RJ15, Cond.code yJ15_checkIndex_7cf53 cJ15_checkIndex_7cf53 2 (some .int), Cond.methodLink RJ15 105 yJ3_checkIndex_8e157, Cond.static yJ3_checkIndex_8e157, Cond.initialized RJ3, Cond.code yJ3_checkIndex_8e157 cJ3_checkIndex_8e157 3 (some .int), Cond.methodLink RJx4a65c 123 yJx4a65c_elementData_915e3, Cond.instanceMethod yJx4a65c_elementData_915e3, Cond.selects RJx4a65c yJx4a65c_elementData_915e3 yJx4a65c_elementData_915e3, Cond.code yJx4a65c_elementData_915e3 cJx4a65c_elementData_915e3 2 (some (.object "java/lang/Object")), Cond.fieldLink RJx4a65c 9 "java/util/ArrayList" "elementData" "[Ljava/lang/Object;"]
def wsX7_count : List Cond := .code yX7_count cX7_count 2 (some .int) :: ((wsX7_count_r1 ++ wsX7_count_r2) ++ wsX70 ++ wsJx4a65c0 ++ wsX10 ++ (vx_atS RX7 217 "java/lang/IllegalArgumentException" ["java/lang/RuntimeException", "java/lang/Exception"]).filter goodWord)
def wsX8_init_r1 : List Cond := [Cond.methodLink RX8 1 objectInit, Cond.instanceMethod objectInit, Cond.code objectInit ⟨#[0xb1]⟩ 1 none, Cond.arrayClass .int, Cond.fieldLink RX8 7 "CardPortModel" "kindOf" "[I", Cond.fieldLink RX8 13 "CardPortModel" "rate" "[I", Cond.fieldLink RX8 16 "CardPortModel" "cap" "[I", Cond.fieldLink RX8 19 "CardPortModel" "card" "[I", Cond.fieldLink RX8 22 "CardPortModel" "shop" "[I", Cond.fieldLink RX8 25 "CardPortModel" "amount" "[I", Cond.fieldLink RX8 28 "CardPortModel" "captured" "[I", Cond.fieldLink RX8 31 "CardPortModel" "last" "[I", Cond.arrayClass .boolean, Cond.fieldLink RX8 34 "CardPortModel" "isVoid" "[Z", Cond.fieldLink RX8 38 "CardPortModel" "payment" "[I", Cond.fieldLink RX8 41 "CardPortModel" "size" "[I", Cond.fieldLink RX8 44 "CardPortModel" "fee" "[I", Cond.fieldLink RX8 47 "CardPortModel" "refunded" "[I", Cond.fieldLink RX8 50 "CardPortModel" "state" "[I", Cond.fieldLink RX8 53 "CardPortModel" "capture" "[I", Cond.fieldLink RX8 56 "CardPortModel" "disputed" "[I", Cond.fieldLink RX8 59 "CardPortModel" "until" "[I", Cond.arrayClass .long, Cond.fieldLink RX8 62 "CardPortModel" "all" "[J"]
def wsX8_init_r2 : List Cond := [Cond.fieldLink RX8 66 "CardPortModel" "today" "[J"]
def wsX8_init : List Cond := .code yX8_init cX8_init 2 none :: ((wsX8_init_r1 ++ wsX8_init_r2) ++ wsX80)
def wsX8_thrown : List Cond := .code yX8_thrown cX8_thrown 1 (some .int) :: ([.fieldLink RX8 69 "CardPortModel" "thrown" "I"] ++ wsX80)
def wsX8_fails : List Cond := .code yX8_fails cX8_fails 2 (some .boolean) :: ([.fieldLink RX8 69 "CardPortModel" "thrown" "I"] ++ wsX80)
def wsX8_isIn : List Cond := .code yX8_isIn cX8_isIn 3 (some .boolean) :: ([])
def wsX8_isAmount : List Cond := .code yX8_isAmount cX8_isAmount 1 (some .boolean) :: ([.constant RX8 73 (100000), .methodLink RX8 74 yX8_isIn, .static yX8_isIn, .initialized RX8, .code yX8_isIn cX8_isIn 3 (some .boolean)])
def wsX8_isShop : List Cond := .code yX8_isShop cX8_isShop 1 (some .boolean) :: ([.methodLink RX8 74 yX8_isIn, .static yX8_isIn, .initialized RX8, .code yX8_isIn cX8_isIn 3 (some .boolean)])
def wsX8_isKind : List Cond := .code yX8_isKind cX8_isKind 1 (some .boolean) :: ([.methodLink RX8 74 yX8_isIn, .static yX8_isIn, .initialized RX8, .code yX8_isIn cX8_isIn 3 (some .boolean)])
def wsX8_isCard : List Cond := .code yX8_isCard cX8_isCard 1 (some .boolean) :: ([.methodLink RX8 74 yX8_isIn, .static yX8_isIn, .initialized RX8, .code yX8_isIn cX8_isIn 3 (some .boolean)])
def wsX8_shop : List Cond := .code yX8_shop cX8_shop 4 (some .int) :: ([.fieldLink RX8 7 "CardPortModel" "kindOf" "[I", .methodLink RX8 78 yX8_isShop, .static yX8_isShop, .initialized RX8, .code yX8_isShop cX8_isShop 1 (some .boolean), .methodLink RX8 74 yX8_isIn, .static yX8_isIn, .code yX8_isIn cX8_isIn 3 (some .boolean), .methodLink RX8 82 yX8_isKind, .static yX8_isKind, .code yX8_isKind cX8_isKind 1 (some .boolean), .methodLink RX8 85 yX8_fails, .instanceMethod yX8_fails, .selects RX8 yX8_fails yX8_fails, .code yX8_fails cX8_fails 2 (some .boolean), .fieldLink RX8 69 "CardPortModel" "thrown" "I"] ++ wsX80)
def wsX8_feeOf : List Cond := .code yX8_feeOf cX8_feeOf 5 (some .int) :: ([.fieldLink RX8 13 "CardPortModel" "rate" "[I", .constantLong RX8 88 (1000), .fieldLink RX8 16 "CardPortModel" "cap" "[I"] ++ wsX80)
def wsX8_kind : List Cond := .code yX8_kind cX8_kind 5 (some .int) :: ([.fieldLink RX8 13 "CardPortModel" "rate" "[I", .fieldLink RX8 16 "CardPortModel" "cap" "[I", .methodLink RX8 74 yX8_isIn, .static yX8_isIn, .initialized RX8, .code yX8_isIn cX8_isIn 3 (some .boolean), .methodLink RX8 82 yX8_isKind, .static yX8_isKind, .code yX8_isKind cX8_isKind 1 (some .boolean), .methodLink RX8 85 yX8_fails, .instanceMethod yX8_fails, .selects RX8 yX8_fails yX8_fails, .code yX8_fails cX8_fails 2 (some .boolean), .fieldLink RX8 69 "CardPortModel" "thrown" "I", .methodLink RX8 90 yX8_feeOf, .instanceMethod yX8_feeOf, .selects RX8 yX8_feeOf yX8_feeOf, .code yX8_feeOf cX8_feeOf 5 (some .int), .constantLong RX8 88 (1000)] ++ wsX80)
def wsX8_limitOf : List Cond := .code yX8_limitOf cX8_limitOf 7 (some .int) :: ([.fieldLink RX8 94 "CardPortModel" "captures" "I", .fieldLink RX8 19 "CardPortModel" "card" "[I", .fieldLink RX8 38 "CardPortModel" "payment" "[I", .fieldLink RX8 41 "CardPortModel" "size" "[I", .constantLong RX8 97 (3), .constantLong RX8 99 (500)] ++ wsX80)
def wsX8_authorise_r1 : List Cond := [Cond.fieldLink RX8 107 "CardPortModel" "payments" "I", Cond.fieldLink RX8 19 "CardPortModel" "card" "[I", Cond.fieldLink RX8 22 "CardPortModel" "shop" "[I", Cond.fieldLink RX8 25 "CardPortModel" "amount" "[I", Cond.fieldLink RX8 31 "CardPortModel" "last" "[I", Cond.fieldLink RX8 114 "CardPortModel" "day" "I", Cond.methodLink RX8 101 yX8_isCard, Cond.static yX8_isCard, Cond.initialized RX8, Cond.code yX8_isCard cX8_isCard 1 (some .boolean), Cond.methodLink RX8 74 yX8_isIn, Cond.static yX8_isIn, Cond.code yX8_isIn cX8_isIn 3 (some .boolean), Cond.methodLink RX8 78 yX8_isShop, Cond.static yX8_isShop, Cond.code yX8_isShop cX8_isShop 1 (some .boolean), Cond.methodLink RX8 104 yX8_isAmount, Cond.static yX8_isAmount, Cond.code yX8_isAmount cX8_isAmount 1 (some .boolean), Cond.constant RX8 73 (100000), Cond.methodLink RX8 85 yX8_fails, Cond.instanceMethod yX8_fails, Cond.selects RX8 yX8_fails yX8_fails, Cond.code yX8_fails cX8_fails 2 (some .boolean)]
def wsX8_authorise_r2 : List Cond := [Cond.fieldLink RX8 69 "CardPortModel" "thrown" "I", Cond.methodLink RX8 110 yX8_limitOf, Cond.instanceMethod yX8_limitOf, Cond.selects RX8 yX8_limitOf yX8_limitOf, Cond.code yX8_limitOf cX8_limitOf 7 (some .int), Cond.fieldLink RX8 94 "CardPortModel" "captures" "I", Cond.fieldLink RX8 38 "CardPortModel" "payment" "[I", Cond.fieldLink RX8 41 "CardPortModel" "size" "[I", Cond.constantLong RX8 97 (3), Cond.constantLong RX8 99 (500)]
def wsX8_authorise : List Cond := .code yX8_authorise cX8_authorise 5 (some .int) :: ((wsX8_authorise_r1 ++ wsX8_authorise_r2) ++ wsX80)
def wsX8_isPayment : List Cond := .code yX8_isPayment cX8_isPayment 2 (some .boolean) :: ([.fieldLink RX8 107 "CardPortModel" "payments" "I", .methodLink RX8 74 yX8_isIn, .static yX8_isIn, .initialized RX8, .code yX8_isIn cX8_isIn 3 (some .boolean)] ++ wsX80)
def wsX8_isOpen : List Cond := .code yX8_isOpen cX8_isOpen 2 (some .boolean) :: ([.fieldLink RX8 34 "CardPortModel" "isVoid" "[Z", .fieldLink RX8 114 "CardPortModel" "day" "I", .fieldLink RX8 31 "CardPortModel" "last" "[I"] ++ wsX80)
def wsX8_pays : List Cond := .code yX8_pays cX8_pays 4 none :: ([.fieldLink RX8 62 "CardPortModel" "all" "[J", .fieldLink RX8 66 "CardPortModel" "today" "[J"] ++ wsX80)
def wsX8_cardBank : List Cond := .code yX8_cardBank cX8_cardBank 2 (some .int) :: ([.fieldLink RX8 19 "CardPortModel" "card" "[I", .fieldLink RX8 38 "CardPortModel" "payment" "[I"] ++ wsX80)
def wsX8_shopBank : List Cond := .code yX8_shopBank cX8_shopBank 2 (some .int) :: ([.fieldLink RX8 22 "CardPortModel" "shop" "[I", .fieldLink RX8 38 "CardPortModel" "payment" "[I"] ++ wsX80)
def wsX8_capture_r1 : List Cond := [Cond.fieldLink RX8 25 "CardPortModel" "amount" "[I", Cond.fieldLink RX8 28 "CardPortModel" "captured" "[I", Cond.fieldLink RX8 94 "CardPortModel" "captures" "I", Cond.fieldLink RX8 38 "CardPortModel" "payment" "[I", Cond.fieldLink RX8 41 "CardPortModel" "size" "[I", Cond.fieldLink RX8 44 "CardPortModel" "fee" "[I", Cond.fieldLink RX8 7 "CardPortModel" "kindOf" "[I", Cond.fieldLink RX8 22 "CardPortModel" "shop" "[I", Cond.fieldLink RX8 123 "CardPortModel" "fees" "I", Cond.methodLink RX8 117 yX8_isPayment, Cond.instanceMethod yX8_isPayment, Cond.selects RX8 yX8_isPayment yX8_isPayment, Cond.initialized RX8, Cond.code yX8_isPayment cX8_isPayment 2 (some .boolean), Cond.fieldLink RX8 107 "CardPortModel" "payments" "I", Cond.methodLink RX8 74 yX8_isIn, Cond.static yX8_isIn, Cond.code yX8_isIn cX8_isIn 3 (some .boolean), Cond.methodLink RX8 120 yX8_isOpen, Cond.instanceMethod yX8_isOpen, Cond.selects RX8 yX8_isOpen yX8_isOpen, Cond.code yX8_isOpen cX8_isOpen 2 (some .boolean), Cond.fieldLink RX8 34 "CardPortModel" "isVoid" "[Z", Cond.fieldLink RX8 114 "CardPortModel" "day" "I"]
def wsX8_capture_r2 : List Cond := [Cond.fieldLink RX8 31 "CardPortModel" "last" "[I", Cond.methodLink RX8 104 yX8_isAmount, Cond.static yX8_isAmount, Cond.code yX8_isAmount cX8_isAmount 1 (some .boolean), Cond.constant RX8 73 (100000), Cond.methodLink RX8 85 yX8_fails, Cond.instanceMethod yX8_fails, Cond.selects RX8 yX8_fails yX8_fails, Cond.code yX8_fails cX8_fails 2 (some .boolean), Cond.fieldLink RX8 69 "CardPortModel" "thrown" "I", Cond.methodLink RX8 90 yX8_feeOf, Cond.instanceMethod yX8_feeOf, Cond.selects RX8 yX8_feeOf yX8_feeOf, Cond.code yX8_feeOf cX8_feeOf 5 (some .int), Cond.fieldLink RX8 13 "CardPortModel" "rate" "[I", Cond.constantLong RX8 88 (1000), Cond.fieldLink RX8 16 "CardPortModel" "cap" "[I", Cond.methodLink RX8 126 yX8_cardBank, Cond.instanceMethod yX8_cardBank, Cond.selects RX8 yX8_cardBank yX8_cardBank, Cond.code yX8_cardBank cX8_cardBank 2 (some .int), Cond.fieldLink RX8 19 "CardPortModel" "card" "[I", Cond.methodLink RX8 129 yX8_shopBank, Cond.instanceMethod yX8_shopBank]
def wsX8_capture_r3 : List Cond := [Cond.selects RX8 yX8_shopBank yX8_shopBank, Cond.code yX8_shopBank cX8_shopBank 2 (some .int), Cond.methodLink RX8 132 yX8_pays, Cond.instanceMethod yX8_pays, Cond.selects RX8 yX8_pays yX8_pays, Cond.code yX8_pays cX8_pays 4 none, Cond.fieldLink RX8 62 "CardPortModel" "all" "[J", Cond.fieldLink RX8 66 "CardPortModel" "today" "[J"]
def wsX8_capture : List Cond := .code yX8_capture cX8_capture 5 (some .int) :: ((wsX8_capture_r1 ++ (wsX8_capture_r2 ++ wsX8_capture_r3)) ++ wsX80)
def wsX8_cancel : List Cond := .code yX8_cancel cX8_cancel 2 (some .int) :: ([.fieldLink RX8 34 "CardPortModel" "isVoid" "[Z", .fieldLink RX8 25 "CardPortModel" "amount" "[I", .fieldLink RX8 28 "CardPortModel" "captured" "[I", .methodLink RX8 117 yX8_isPayment, .instanceMethod yX8_isPayment, .selects RX8 yX8_isPayment yX8_isPayment, .initialized RX8, .code yX8_isPayment cX8_isPayment 2 (some .boolean), .fieldLink RX8 107 "CardPortModel" "payments" "I", .methodLink RX8 74 yX8_isIn, .static yX8_isIn, .code yX8_isIn cX8_isIn 3 (some .boolean), .methodLink RX8 120 yX8_isOpen, .instanceMethod yX8_isOpen, .selects RX8 yX8_isOpen yX8_isOpen, .code yX8_isOpen cX8_isOpen 2 (some .boolean), .fieldLink RX8 114 "CardPortModel" "day" "I", .fieldLink RX8 31 "CardPortModel" "last" "[I", .methodLink RX8 85 yX8_fails, .instanceMethod yX8_fails, .selects RX8 yX8_fails yX8_fails, .code yX8_fails cX8_fails 2 (some .boolean), .fieldLink RX8 69 "CardPortModel" "thrown" "I"] ++ wsX80)
def wsX8_isCapture : List Cond := .code yX8_isCapture cX8_isCapture 2 (some .boolean) :: ([.fieldLink RX8 94 "CardPortModel" "captures" "I", .methodLink RX8 74 yX8_isIn, .static yX8_isIn, .initialized RX8, .code yX8_isIn cX8_isIn 3 (some .boolean)] ++ wsX80)
def wsX8_givenBack : List Cond := .code yX8_givenBack cX8_givenBack 4 (some .int) :: ([.fieldLink RX8 47 "CardPortModel" "refunded" "[I", .fieldLink RX8 136 "CardPortModel" "chargebacks" "I", .fieldLink RX8 53 "CardPortModel" "capture" "[I", .fieldLink RX8 50 "CardPortModel" "state" "[I", .fieldLink RX8 56 "CardPortModel" "disputed" "[I"] ++ wsX80)
def wsX8_canGive : List Cond := .code yX8_canGive cX8_canGive 3 (some .boolean) :: ([.fieldLink RX8 41 "CardPortModel" "size" "[I", .methodLink RX8 139 yX8_isCapture, .instanceMethod yX8_isCapture, .selects RX8 yX8_isCapture yX8_isCapture, .initialized RX8, .code yX8_isCapture cX8_isCapture 2 (some .boolean), .fieldLink RX8 94 "CardPortModel" "captures" "I", .methodLink RX8 74 yX8_isIn, .static yX8_isIn, .code yX8_isIn cX8_isIn 3 (some .boolean), .methodLink RX8 142 yX8_givenBack, .instanceMethod yX8_givenBack, .selects RX8 yX8_givenBack yX8_givenBack, .code yX8_givenBack cX8_givenBack 4 (some .int), .fieldLink RX8 47 "CardPortModel" "refunded" "[I", .fieldLink RX8 136 "CardPortModel" "chargebacks" "I", .fieldLink RX8 53 "CardPortModel" "capture" "[I", .fieldLink RX8 50 "CardPortModel" "state" "[I", .fieldLink RX8 56 "CardPortModel" "disputed" "[I"] ++ wsX80)
def wsX8_refund_r1 : List Cond := [Cond.fieldLink RX8 47 "CardPortModel" "refunded" "[I", Cond.methodLink RX8 139 yX8_isCapture, Cond.instanceMethod yX8_isCapture, Cond.selects RX8 yX8_isCapture yX8_isCapture, Cond.initialized RX8, Cond.code yX8_isCapture cX8_isCapture 2 (some .boolean), Cond.fieldLink RX8 94 "CardPortModel" "captures" "I", Cond.methodLink RX8 74 yX8_isIn, Cond.static yX8_isIn, Cond.code yX8_isIn cX8_isIn 3 (some .boolean), Cond.methodLink RX8 104 yX8_isAmount, Cond.static yX8_isAmount, Cond.code yX8_isAmount cX8_isAmount 1 (some .boolean), Cond.constant RX8 73 (100000), Cond.methodLink RX8 145 yX8_canGive, Cond.instanceMethod yX8_canGive, Cond.selects RX8 yX8_canGive yX8_canGive, Cond.code yX8_canGive cX8_canGive 3 (some .boolean), Cond.fieldLink RX8 41 "CardPortModel" "size" "[I", Cond.methodLink RX8 142 yX8_givenBack, Cond.instanceMethod yX8_givenBack, Cond.selects RX8 yX8_givenBack yX8_givenBack, Cond.code yX8_givenBack cX8_givenBack 4 (some .int), Cond.fieldLink RX8 136 "CardPortModel" "chargebacks" "I"]
def wsX8_refund_r2 : List Cond := [Cond.fieldLink RX8 53 "CardPortModel" "capture" "[I", Cond.fieldLink RX8 50 "CardPortModel" "state" "[I", Cond.fieldLink RX8 56 "CardPortModel" "disputed" "[I", Cond.methodLink RX8 85 yX8_fails, Cond.instanceMethod yX8_fails, Cond.selects RX8 yX8_fails yX8_fails, Cond.code yX8_fails cX8_fails 2 (some .boolean), Cond.fieldLink RX8 69 "CardPortModel" "thrown" "I", Cond.methodLink RX8 129 yX8_shopBank, Cond.instanceMethod yX8_shopBank, Cond.selects RX8 yX8_shopBank yX8_shopBank, Cond.code yX8_shopBank cX8_shopBank 2 (some .int), Cond.fieldLink RX8 22 "CardPortModel" "shop" "[I", Cond.fieldLink RX8 38 "CardPortModel" "payment" "[I", Cond.methodLink RX8 126 yX8_cardBank, Cond.instanceMethod yX8_cardBank, Cond.selects RX8 yX8_cardBank yX8_cardBank, Cond.code yX8_cardBank cX8_cardBank 2 (some .int), Cond.fieldLink RX8 19 "CardPortModel" "card" "[I", Cond.methodLink RX8 132 yX8_pays, Cond.instanceMethod yX8_pays, Cond.selects RX8 yX8_pays yX8_pays, Cond.code yX8_pays cX8_pays 4 none, Cond.fieldLink RX8 62 "CardPortModel" "all" "[J"]
def wsX8_refund_r3 : List Cond := [Cond.fieldLink RX8 66 "CardPortModel" "today" "[J"]
def wsX8_refund : List Cond := .code yX8_refund cX8_refund 3 (some .int) :: ((wsX8_refund_r1 ++ (wsX8_refund_r2 ++ wsX8_refund_r3)) ++ wsX80)
def wsX8_dispute_r1 : List Cond := [Cond.fieldLink RX8 136 "CardPortModel" "chargebacks" "I", Cond.fieldLink RX8 50 "CardPortModel" "state" "[I", Cond.fieldLink RX8 53 "CardPortModel" "capture" "[I", Cond.fieldLink RX8 56 "CardPortModel" "disputed" "[I", Cond.fieldLink RX8 59 "CardPortModel" "until" "[I", Cond.fieldLink RX8 114 "CardPortModel" "day" "I", Cond.methodLink RX8 145 yX8_canGive, Cond.instanceMethod yX8_canGive, Cond.selects RX8 yX8_canGive yX8_canGive, Cond.initialized RX8, Cond.code yX8_canGive cX8_canGive 3 (some .boolean), Cond.fieldLink RX8 41 "CardPortModel" "size" "[I", Cond.methodLink RX8 139 yX8_isCapture, Cond.instanceMethod yX8_isCapture, Cond.selects RX8 yX8_isCapture yX8_isCapture, Cond.code yX8_isCapture cX8_isCapture 2 (some .boolean), Cond.fieldLink RX8 94 "CardPortModel" "captures" "I", Cond.methodLink RX8 74 yX8_isIn, Cond.static yX8_isIn, Cond.code yX8_isIn cX8_isIn 3 (some .boolean), Cond.methodLink RX8 142 yX8_givenBack, Cond.instanceMethod yX8_givenBack, Cond.selects RX8 yX8_givenBack yX8_givenBack, Cond.code yX8_givenBack cX8_givenBack 4 (some .int)]
def wsX8_dispute_r2 : List Cond := [Cond.fieldLink RX8 47 "CardPortModel" "refunded" "[I", Cond.methodLink RX8 104 yX8_isAmount, Cond.static yX8_isAmount, Cond.code yX8_isAmount cX8_isAmount 1 (some .boolean), Cond.constant RX8 73 (100000), Cond.methodLink RX8 85 yX8_fails, Cond.instanceMethod yX8_fails, Cond.selects RX8 yX8_fails yX8_fails, Cond.code yX8_fails cX8_fails 2 (some .boolean), Cond.fieldLink RX8 69 "CardPortModel" "thrown" "I", Cond.methodLink RX8 129 yX8_shopBank, Cond.instanceMethod yX8_shopBank, Cond.selects RX8 yX8_shopBank yX8_shopBank, Cond.code yX8_shopBank cX8_shopBank 2 (some .int), Cond.fieldLink RX8 22 "CardPortModel" "shop" "[I", Cond.fieldLink RX8 38 "CardPortModel" "payment" "[I", Cond.methodLink RX8 126 yX8_cardBank, Cond.instanceMethod yX8_cardBank, Cond.selects RX8 yX8_cardBank yX8_cardBank, Cond.code yX8_cardBank cX8_cardBank 2 (some .int), Cond.fieldLink RX8 19 "CardPortModel" "card" "[I", Cond.methodLink RX8 132 yX8_pays, Cond.instanceMethod yX8_pays, Cond.selects RX8 yX8_pays yX8_pays]
def wsX8_dispute_r3 : List Cond := [Cond.code yX8_pays cX8_pays 4 none, Cond.fieldLink RX8 62 "CardPortModel" "all" "[J", Cond.fieldLink RX8 66 "CardPortModel" "today" "[J"]
def wsX8_dispute : List Cond := .code yX8_dispute cX8_dispute 5 (some .int) :: ((wsX8_dispute_r1 ++ (wsX8_dispute_r2 ++ wsX8_dispute_r3)) ++ wsX80)
def wsX8_misses : List Cond := .code yX8_misses cX8_misses 3 (some .int) :: ([.fieldLink RX8 136 "CardPortModel" "chargebacks" "I", .fieldLink RX8 50 "CardPortModel" "state" "[I", .methodLink RX8 74 yX8_isIn, .static yX8_isIn, .initialized RX8, .code yX8_isIn cX8_isIn 3 (some .boolean)] ++ wsX80)
def wsX8_paysBack : List Cond := .code yX8_paysBack cX8_paysBack 2 none :: ([.fieldLink RX8 53 "CardPortModel" "capture" "[I", .fieldLink RX8 56 "CardPortModel" "disputed" "[I", .methodLink RX8 126 yX8_cardBank, .instanceMethod yX8_cardBank, .selects RX8 yX8_cardBank yX8_cardBank, .initialized RX8, .code yX8_cardBank cX8_cardBank 2 (some .int), .fieldLink RX8 19 "CardPortModel" "card" "[I", .fieldLink RX8 38 "CardPortModel" "payment" "[I", .methodLink RX8 129 yX8_shopBank, .instanceMethod yX8_shopBank, .selects RX8 yX8_shopBank yX8_shopBank, .code yX8_shopBank cX8_shopBank 2 (some .int), .fieldLink RX8 22 "CardPortModel" "shop" "[I", .methodLink RX8 132 yX8_pays, .instanceMethod yX8_pays, .selects RX8 yX8_pays yX8_pays, .code yX8_pays cX8_pays 4 none, .fieldLink RX8 62 "CardPortModel" "all" "[J", .fieldLink RX8 66 "CardPortModel" "today" "[J"] ++ wsX80)
def wsX8_answer_r1 : List Cond := [Cond.fieldLink RX8 50 "CardPortModel" "state" "[I", Cond.fieldLink RX8 59 "CardPortModel" "until" "[I", Cond.fieldLink RX8 114 "CardPortModel" "day" "I", Cond.methodLink RX8 149 yX8_misses, Cond.instanceMethod yX8_misses, Cond.selects RX8 yX8_misses yX8_misses, Cond.initialized RX8, Cond.code yX8_misses cX8_misses 3 (some .int), Cond.fieldLink RX8 136 "CardPortModel" "chargebacks" "I", Cond.methodLink RX8 74 yX8_isIn, Cond.static yX8_isIn, Cond.code yX8_isIn cX8_isIn 3 (some .boolean), Cond.methodLink RX8 85 yX8_fails, Cond.instanceMethod yX8_fails, Cond.selects RX8 yX8_fails yX8_fails, Cond.code yX8_fails cX8_fails 2 (some .boolean), Cond.fieldLink RX8 69 "CardPortModel" "thrown" "I", Cond.methodLink RX8 152 yX8_paysBack, Cond.instanceMethod yX8_paysBack, Cond.selects RX8 yX8_paysBack yX8_paysBack, Cond.code yX8_paysBack cX8_paysBack 2 none, Cond.fieldLink RX8 53 "CardPortModel" "capture" "[I", Cond.fieldLink RX8 56 "CardPortModel" "disputed" "[I", Cond.methodLink RX8 126 yX8_cardBank]
def wsX8_answer_r2 : List Cond := [Cond.instanceMethod yX8_cardBank, Cond.selects RX8 yX8_cardBank yX8_cardBank, Cond.code yX8_cardBank cX8_cardBank 2 (some .int), Cond.fieldLink RX8 19 "CardPortModel" "card" "[I", Cond.fieldLink RX8 38 "CardPortModel" "payment" "[I", Cond.methodLink RX8 129 yX8_shopBank, Cond.instanceMethod yX8_shopBank, Cond.selects RX8 yX8_shopBank yX8_shopBank, Cond.code yX8_shopBank cX8_shopBank 2 (some .int), Cond.fieldLink RX8 22 "CardPortModel" "shop" "[I", Cond.methodLink RX8 132 yX8_pays, Cond.instanceMethod yX8_pays, Cond.selects RX8 yX8_pays yX8_pays, Cond.code yX8_pays cX8_pays 4 none, Cond.fieldLink RX8 62 "CardPortModel" "all" "[J", Cond.fieldLink RX8 66 "CardPortModel" "today" "[J"]
def wsX8_answer : List Cond := .code yX8_answer cX8_answer 2 (some .int) :: ((wsX8_answer_r1 ++ wsX8_answer_r2) ++ wsX80)
def wsX8_press_r1 : List Cond := [Cond.fieldLink RX8 50 "CardPortModel" "state" "[I", Cond.fieldLink RX8 53 "CardPortModel" "capture" "[I", Cond.fieldLink RX8 56 "CardPortModel" "disputed" "[I", Cond.fieldLink RX8 136 "CardPortModel" "chargebacks" "I", Cond.methodLink RX8 149 yX8_misses, Cond.instanceMethod yX8_misses, Cond.selects RX8 yX8_misses yX8_misses, Cond.initialized RX8, Cond.code yX8_misses cX8_misses 3 (some .int), Cond.methodLink RX8 74 yX8_isIn, Cond.static yX8_isIn, Cond.code yX8_isIn cX8_isIn 3 (some .boolean), Cond.methodLink RX8 85 yX8_fails, Cond.instanceMethod yX8_fails, Cond.selects RX8 yX8_fails yX8_fails, Cond.code yX8_fails cX8_fails 2 (some .boolean), Cond.fieldLink RX8 69 "CardPortModel" "thrown" "I", Cond.methodLink RX8 129 yX8_shopBank, Cond.instanceMethod yX8_shopBank, Cond.selects RX8 yX8_shopBank yX8_shopBank, Cond.code yX8_shopBank cX8_shopBank 2 (some .int), Cond.fieldLink RX8 22 "CardPortModel" "shop" "[I", Cond.fieldLink RX8 38 "CardPortModel" "payment" "[I", Cond.methodLink RX8 126 yX8_cardBank]
def wsX8_press_r2 : List Cond := [Cond.instanceMethod yX8_cardBank, Cond.selects RX8 yX8_cardBank yX8_cardBank, Cond.code yX8_cardBank cX8_cardBank 2 (some .int), Cond.fieldLink RX8 19 "CardPortModel" "card" "[I", Cond.methodLink RX8 132 yX8_pays, Cond.instanceMethod yX8_pays, Cond.selects RX8 yX8_pays yX8_pays, Cond.code yX8_pays cX8_pays 4 none, Cond.fieldLink RX8 62 "CardPortModel" "all" "[J", Cond.fieldLink RX8 66 "CardPortModel" "today" "[J"]
def wsX8_press : List Cond := .code yX8_press cX8_press 4 (some .int) :: ((wsX8_press_r1 ++ wsX8_press_r2) ++ wsX80)
def wsX8_rule_r1 : List Cond := [Cond.fieldLink RX8 50 "CardPortModel" "state" "[I", Cond.methodLink RX8 149 yX8_misses, Cond.instanceMethod yX8_misses, Cond.selects RX8 yX8_misses yX8_misses, Cond.initialized RX8, Cond.code yX8_misses cX8_misses 3 (some .int), Cond.fieldLink RX8 136 "CardPortModel" "chargebacks" "I", Cond.methodLink RX8 74 yX8_isIn, Cond.static yX8_isIn, Cond.code yX8_isIn cX8_isIn 3 (some .boolean), Cond.methodLink RX8 85 yX8_fails, Cond.instanceMethod yX8_fails, Cond.selects RX8 yX8_fails yX8_fails, Cond.code yX8_fails cX8_fails 2 (some .boolean), Cond.fieldLink RX8 69 "CardPortModel" "thrown" "I", Cond.methodLink RX8 152 yX8_paysBack, Cond.instanceMethod yX8_paysBack, Cond.selects RX8 yX8_paysBack yX8_paysBack, Cond.code yX8_paysBack cX8_paysBack 2 none, Cond.fieldLink RX8 53 "CardPortModel" "capture" "[I", Cond.fieldLink RX8 56 "CardPortModel" "disputed" "[I", Cond.methodLink RX8 126 yX8_cardBank, Cond.instanceMethod yX8_cardBank, Cond.selects RX8 yX8_cardBank yX8_cardBank]
def wsX8_rule_r2 : List Cond := [Cond.code yX8_cardBank cX8_cardBank 2 (some .int), Cond.fieldLink RX8 19 "CardPortModel" "card" "[I", Cond.fieldLink RX8 38 "CardPortModel" "payment" "[I", Cond.methodLink RX8 129 yX8_shopBank, Cond.instanceMethod yX8_shopBank, Cond.selects RX8 yX8_shopBank yX8_shopBank, Cond.code yX8_shopBank cX8_shopBank 2 (some .int), Cond.fieldLink RX8 22 "CardPortModel" "shop" "[I", Cond.methodLink RX8 132 yX8_pays, Cond.instanceMethod yX8_pays, Cond.selects RX8 yX8_pays yX8_pays, Cond.code yX8_pays cX8_pays 4 none, Cond.fieldLink RX8 62 "CardPortModel" "all" "[J", Cond.fieldLink RX8 66 "CardPortModel" "today" "[J"]
def wsX8_rule : List Cond := .code yX8_rule cX8_rule 3 (some .int) :: ((wsX8_rule_r1 ++ wsX8_rule_r2) ++ wsX80)
def wsX8_pass : List Cond := .code yX8_pass cX8_pass 4 (some .int) :: ([.fieldLink RX8 114 "CardPortModel" "day" "I", .fieldLink RX8 66 "CardPortModel" "today" "[J", .fieldLink RX8 136 "CardPortModel" "chargebacks" "I", .fieldLink RX8 59 "CardPortModel" "until" "[I", .fieldLink RX8 50 "CardPortModel" "state" "[I", .methodLink RX8 74 yX8_isIn, .static yX8_isIn, .initialized RX8, .code yX8_isIn cX8_isIn 3 (some .boolean), .methodLink RX8 85 yX8_fails, .instanceMethod yX8_fails, .selects RX8 yX8_fails yX8_fails, .code yX8_fails cX8_fails 2 (some .boolean), .fieldLink RX8 69 "CardPortModel" "thrown" "I"] ++ wsX80)
def wsX8_paymentOf_r1 : List Cond := [Cond.fieldLink RX8 19 "CardPortModel" "card" "[I", Cond.fieldLink RX8 22 "CardPortModel" "shop" "[I", Cond.fieldLink RX8 25 "CardPortModel" "amount" "[I", Cond.fieldLink RX8 28 "CardPortModel" "captured" "[I", Cond.fieldLink RX8 31 "CardPortModel" "last" "[I", Cond.methodLink RX8 117 yX8_isPayment, Cond.instanceMethod yX8_isPayment, Cond.selects RX8 yX8_isPayment yX8_isPayment, Cond.initialized RX8, Cond.code yX8_isPayment cX8_isPayment 2 (some .boolean), Cond.fieldLink RX8 107 "CardPortModel" "payments" "I", Cond.methodLink RX8 74 yX8_isIn, Cond.static yX8_isIn, Cond.code yX8_isIn cX8_isIn 3 (some .boolean), Cond.methodLink RX8 85 yX8_fails, Cond.instanceMethod yX8_fails, Cond.selects RX8 yX8_fails yX8_fails, Cond.code yX8_fails cX8_fails 2 (some .boolean), Cond.fieldLink RX8 69 "CardPortModel" "thrown" "I", Cond.methodLink RX8 120 yX8_isOpen, Cond.instanceMethod yX8_isOpen, Cond.selects RX8 yX8_isOpen yX8_isOpen, Cond.code yX8_isOpen cX8_isOpen 2 (some .boolean), Cond.fieldLink RX8 34 "CardPortModel" "isVoid" "[Z"]
def wsX8_paymentOf_r2 : List Cond := [Cond.fieldLink RX8 114 "CardPortModel" "day" "I"]
def wsX8_paymentOf : List Cond := .code yX8_paymentOf cX8_paymentOf 3 (some .int) :: ((wsX8_paymentOf_r1 ++ wsX8_paymentOf_r2) ++ wsX80)
def wsX8_captureOf_r1 : List Cond := [Cond.fieldLink RX8 38 "CardPortModel" "payment" "[I", Cond.fieldLink RX8 41 "CardPortModel" "size" "[I", Cond.fieldLink RX8 44 "CardPortModel" "fee" "[I", Cond.fieldLink RX8 47 "CardPortModel" "refunded" "[I", Cond.methodLink RX8 139 yX8_isCapture, Cond.instanceMethod yX8_isCapture, Cond.selects RX8 yX8_isCapture yX8_isCapture, Cond.initialized RX8, Cond.code yX8_isCapture cX8_isCapture 2 (some .boolean), Cond.fieldLink RX8 94 "CardPortModel" "captures" "I", Cond.methodLink RX8 74 yX8_isIn, Cond.static yX8_isIn, Cond.code yX8_isIn cX8_isIn 3 (some .boolean), Cond.methodLink RX8 85 yX8_fails, Cond.instanceMethod yX8_fails, Cond.selects RX8 yX8_fails yX8_fails, Cond.code yX8_fails cX8_fails 2 (some .boolean), Cond.fieldLink RX8 69 "CardPortModel" "thrown" "I", Cond.methodLink RX8 142 yX8_givenBack, Cond.instanceMethod yX8_givenBack, Cond.selects RX8 yX8_givenBack yX8_givenBack, Cond.code yX8_givenBack cX8_givenBack 4 (some .int), Cond.fieldLink RX8 136 "CardPortModel" "chargebacks" "I", Cond.fieldLink RX8 53 "CardPortModel" "capture" "[I"]
def wsX8_captureOf_r2 : List Cond := [Cond.fieldLink RX8 50 "CardPortModel" "state" "[I", Cond.fieldLink RX8 56 "CardPortModel" "disputed" "[I"]
def wsX8_captureOf : List Cond := .code yX8_captureOf cX8_captureOf 3 (some .int) :: ((wsX8_captureOf_r1 ++ wsX8_captureOf_r2) ++ wsX80)
def wsX8_isDue : List Cond := .code yX8_isDue cX8_isDue 2 (some .boolean) :: ([.fieldLink RX8 50 "CardPortModel" "state" "[I"] ++ wsX80)
def wsX8_chargebackOf : List Cond := .code yX8_chargebackOf cX8_chargebackOf 3 (some .int) :: ([.fieldLink RX8 136 "CardPortModel" "chargebacks" "I", .fieldLink RX8 50 "CardPortModel" "state" "[I", .fieldLink RX8 53 "CardPortModel" "capture" "[I", .fieldLink RX8 56 "CardPortModel" "disputed" "[I", .fieldLink RX8 59 "CardPortModel" "until" "[I", .methodLink RX8 74 yX8_isIn, .static yX8_isIn, .initialized RX8, .code yX8_isIn cX8_isIn 3 (some .boolean), .methodLink RX8 85 yX8_fails, .instanceMethod yX8_fails, .selects RX8 yX8_fails yX8_fails, .code yX8_fails cX8_fails 2 (some .boolean), .fieldLink RX8 69 "CardPortModel" "thrown" "I", .methodLink RX8 156 yX8_isDue, .instanceMethod yX8_isDue, .selects RX8 yX8_isDue yX8_isDue, .code yX8_isDue cX8_isDue 2 (some .boolean)] ++ wsX80)
def wsX8_limit : List Cond := .code yX8_limit cX8_limit 2 (some .int) :: ([.methodLink RX8 101 yX8_isCard, .static yX8_isCard, .initialized RX8, .code yX8_isCard cX8_isCard 1 (some .boolean), .methodLink RX8 74 yX8_isIn, .static yX8_isIn, .code yX8_isIn cX8_isIn 3 (some .boolean), .methodLink RX8 85 yX8_fails, .instanceMethod yX8_fails, .selects RX8 yX8_fails yX8_fails, .code yX8_fails cX8_fails 2 (some .boolean), .fieldLink RX8 69 "CardPortModel" "thrown" "I", .methodLink RX8 110 yX8_limitOf, .instanceMethod yX8_limitOf, .selects RX8 yX8_limitOf yX8_limitOf, .code yX8_limitOf cX8_limitOf 7 (some .int), .fieldLink RX8 94 "CardPortModel" "captures" "I", .fieldLink RX8 19 "CardPortModel" "card" "[I", .fieldLink RX8 38 "CardPortModel" "payment" "[I", .fieldLink RX8 41 "CardPortModel" "size" "[I", .constantLong RX8 97 (3), .constantLong RX8 99 (500)] ++ wsX80)
def wsX8_isBank : List Cond := .code yX8_isBank cX8_isBank 1 (some .boolean) :: ([.methodLink RX8 74 yX8_isIn, .static yX8_isIn, .initialized RX8, .code yX8_isIn cX8_isIn 3 (some .boolean)])
def wsX8_net : List Cond := .code yX8_net cX8_net 3 (some .long) :: ([.fieldLink RX8 62 "CardPortModel" "all" "[J", .fieldLink RX8 66 "CardPortModel" "today" "[J", .methodLink RX8 159 yX8_isBank, .static yX8_isBank, .initialized RX8, .code yX8_isBank cX8_isBank 1 (some .boolean), .methodLink RX8 74 yX8_isIn, .static yX8_isIn, .code yX8_isIn cX8_isIn 3 (some .boolean), .methodLink RX8 85 yX8_fails, .instanceMethod yX8_fails, .selects RX8 yX8_fails yX8_fails, .code yX8_fails cX8_fails 2 (some .boolean), .fieldLink RX8 69 "CardPortModel" "thrown" "I"] ++ wsX80)
def wsX8_netAnew : List Cond := .code yX8_netAnew cX8_netAnew 2 (some .long) :: ([.fieldLink RX8 62 "CardPortModel" "all" "[J", .methodLink RX8 159 yX8_isBank, .static yX8_isBank, .initialized RX8, .code yX8_isBank cX8_isBank 1 (some .boolean), .methodLink RX8 74 yX8_isIn, .static yX8_isIn, .code yX8_isIn cX8_isIn 3 (some .boolean), .methodLink RX8 85 yX8_fails, .instanceMethod yX8_fails, .selects RX8 yX8_fails yX8_fails, .code yX8_fails cX8_fails 2 (some .boolean), .fieldLink RX8 69 "CardPortModel" "thrown" "I"] ++ wsX80)
def wsX8_isAhead : List Cond := .code yX8_isAhead cX8_isAhead 3 (some .boolean) :: ([.fieldLink RX8 59 "CardPortModel" "until" "[I", .fieldLink RX8 56 "CardPortModel" "disputed" "[I"] ++ wsX80)
def wsX8_due : List Cond := .code yX8_due cX8_due 6 (some .int) :: ([.fieldLink RX8 136 "CardPortModel" "chargebacks" "I", .methodLink RX8 85 yX8_fails, .instanceMethod yX8_fails, .selects RX8 yX8_fails yX8_fails, .initialized RX8, .code yX8_fails cX8_fails 2 (some .boolean), .fieldLink RX8 69 "CardPortModel" "thrown" "I", .methodLink RX8 156 yX8_isDue, .instanceMethod yX8_isDue, .selects RX8 yX8_isDue yX8_isDue, .code yX8_isDue cX8_isDue 2 (some .boolean), .fieldLink RX8 50 "CardPortModel" "state" "[I", .methodLink RX8 162 yX8_isAhead, .instanceMethod yX8_isAhead, .selects RX8 yX8_isAhead yX8_isAhead, .code yX8_isAhead cX8_isAhead 3 (some .boolean), .fieldLink RX8 59 "CardPortModel" "until" "[I", .fieldLink RX8 56 "CardPortModel" "disputed" "[I"] ++ wsX80)
def wsX8_count : List Cond := .code yX8_count cX8_count 2 (some .int) :: ([.fieldLink RX8 107 "CardPortModel" "payments" "I", .fieldLink RX8 94 "CardPortModel" "captures" "I", .fieldLink RX8 136 "CardPortModel" "chargebacks" "I", .fieldLink RX8 123 "CardPortModel" "fees" "I", .fieldLink RX8 114 "CardPortModel" "day" "I", .methodLink RX8 74 yX8_isIn, .static yX8_isIn, .initialized RX8, .code yX8_isIn cX8_isIn 3 (some .boolean), .methodLink RX8 85 yX8_fails, .instanceMethod yX8_fails, .selects RX8 yX8_fails yX8_fails, .code yX8_fails cX8_fails 2 (some .boolean), .fieldLink RX8 69 "CardPortModel" "thrown" "I"] ++ wsX80)
def wsJ9_max_7cf53 : List Cond := .code yJ9_max_7cf53 cJ9_max_7cf53 2 (some .int) :: ([])
def wsJ9_min_7cf53 : List Cond := .code yJ9_min_7cf53 cJ9_min_7cf53 2 (some .int) :: ([])
def wsL_shop : List Cond := .codeWith yL_shop cL_shop 5 (some .int) [(0, 10, 13, 13)] :: ([.classLink RL 13 "java/lang/IndexOutOfBoundsException", .methodLink RL 7 yX7_shop, .instanceMethod yX7_shop, .selects RX7 yX7_shop yX7_shop, .initialized RX7, .code yX7_shop cX7_shop 6 (some .int), .fieldLink RX7 68 "CardPort$Shop" "kind" "LCardPort$Kind;", .fieldLink RX7 72 "CardPort$Kind" "number" "I", .methodLink RX7 60 yX7_shopAt, .instanceMethod yX7_shopAt, .selects RX7 yX7_shopAt yX7_shopAt, .code yX7_shopAt cX7_shopAt 2 (some (.object "CardPort$Shop")), .classLink RX7 247 "java/lang/IndexOutOfBoundsException", .initialized "java/lang/IndexOutOfBoundsException", .fieldLink RX7 23 "CardPort" "shops" "[LCardPort$Shop;", .methodLink RX7 64 yX7_kindAt, .instanceMethod yX7_kindAt, .selects RX7 yX7_kindAt yX7_kindAt, .code yX7_kindAt cX7_kindAt 2 (some (.object "CardPort$Kind")), .fieldLink RX7 17 "CardPort" "kinds" "[LCardPort$Kind;"] ++ wsX60 ++ wsX40 ++ wsX70 ++ (vx_atS RX7 251 "java/lang/IndexOutOfBoundsException" ["java/lang/RuntimeException", "java/lang/Exception"]).filter goodWord)
def wsL_kind_r1 : List Cond := [Cond.classLink RL 13 "java/lang/IndexOutOfBoundsException", Cond.classLink RL 19 "java/lang/IllegalArgumentException", Cond.methodLink RL 15 yX7_kind, Cond.instanceMethod yX7_kind, Cond.selects RX7 yX7_kind yX7_kind, Cond.initialized RX7, Cond.code yX7_kind cX7_kind 5 (some .int), Cond.fieldLink RX7 79 "CardPort$Kind" "rate" "I", Cond.fieldLink RX7 82 "CardPort$Kind" "cap" "I", Cond.methodLink RX7 64 yX7_kindAt, Cond.instanceMethod yX7_kindAt, Cond.selects RX7 yX7_kindAt yX7_kindAt, Cond.code yX7_kindAt cX7_kindAt 2 (some (.object "CardPort$Kind")), Cond.classLink RX7 247 "java/lang/IndexOutOfBoundsException", Cond.initialized "java/lang/IndexOutOfBoundsException", Cond.fieldLink RX7 17 "CardPort" "kinds" "[LCardPort$Kind;", Cond.methodLink RX7 75 yX7_requireRange, Cond.static yX7_requireRange, Cond.code yX7_requireRange cX7_requireRange 3 none, Cond.classLink RX7 213 "java/lang/IllegalArgumentException", Cond.initialized "java/lang/IllegalArgumentException", Cond.methodLink RX7 85 yX4_feeOf, Cond.instanceMethod yX4_feeOf, Cond.selects RX4 yX4_feeOf yX4_feeOf]
def wsL_kind_r2 : List Cond := [Cond.initialized RX4, Cond.code yX4_feeOf cX4_feeOf 2 (some .int), Cond.fieldLink RX4 15 "CardPort$Kind" "cap" "I", Cond.fieldLink RX4 9 "CardPort$Kind" "rate" "I", Cond.methodLink RX4 21 Lib.Math.min.name, Cond.static Lib.Math.min.name, Cond.initialized "java/lang/Math", Cond.code Lib.Math.min.name Lib.Math.min.code 2 (some .int)]
def wsL_kind : List Cond := .codeWith yL_kind cL_kind 6 (some .int) [(0, 12, 15, 13), (0, 12, 19, 19)] :: ((wsL_kind_r1 ++ wsL_kind_r2) ++ wsX40 ++ wsX70 ++ (vx_atS RX7 251 "java/lang/IndexOutOfBoundsException" ["java/lang/RuntimeException", "java/lang/Exception"]).filter goodWord ++ (vx_atS RX7 217 "java/lang/IllegalArgumentException" ["java/lang/RuntimeException", "java/lang/Exception"]).filter goodWord)
def wsL_authorise_r1 : List Cond := [Cond.classLink RL 13 "java/lang/IndexOutOfBoundsException", Cond.classLink RL 19 "java/lang/IllegalArgumentException", Cond.classLink RL 24 "java/lang/IllegalStateException", Cond.methodLink RL 21 yX7_authorise, Cond.instanceMethod yX7_authorise, Cond.selects RX7 yX7_authorise yX7_authorise, Cond.initialized RX7, Cond.code yX7_authorise cX7_authorise 7 (some .int), Cond.constant RX7 93 (100000), Cond.fieldLink RX7 36 "CardPort" "payments" "Ljava/util/List;", Cond.classLink RX7 108 RX5, Cond.instantiable RX5 7, Cond.initialized RX5, Cond.fieldLink RX7 46 "CardPort" "day" "I", Cond.fieldLink RX7 117 "CardPort$Payment" "number" "I", Cond.methodLink RX7 89 yX7_cardAt, Cond.instanceMethod yX7_cardAt, Cond.selects RX7 yX7_cardAt yX7_cardAt, Cond.code yX7_cardAt cX7_cardAt 2 (some (.object "CardPort$Card")), Cond.classLink RX7 247 "java/lang/IndexOutOfBoundsException", Cond.initialized "java/lang/IndexOutOfBoundsException", Cond.fieldLink RX7 29 "CardPort" "cards" "[LCardPort$Card;", Cond.methodLink RX7 60 yX7_shopAt, Cond.instanceMethod yX7_shopAt]
def wsL_authorise_r2 : List Cond := [Cond.selects RX7 yX7_shopAt yX7_shopAt, Cond.code yX7_shopAt cX7_shopAt 2 (some (.object "CardPort$Shop")), Cond.fieldLink RX7 23 "CardPort" "shops" "[LCardPort$Shop;", Cond.methodLink RX7 75 yX7_requireRange, Cond.static yX7_requireRange, Cond.code yX7_requireRange cX7_requireRange 3 none, Cond.classLink RX7 213 "java/lang/IllegalArgumentException", Cond.initialized "java/lang/IllegalArgumentException", Cond.methodLink RX7 94 ⟨"java/util/List", "size", "()I"⟩, Cond.selects RJx4a65c ⟨"java/util/List", "size", "()I"⟩ yJx4a65c_size_8abf5, Cond.instanceMethod yJx4a65c_size_8abf5, Cond.initialized RJx4a65c, Cond.code yJx4a65c_size_8abf5 cJx4a65c_size_8abf5 1 (some .int), Cond.fieldLink RJx4a65c 48 "java/util/ArrayList" "size" "I", Cond.methodLink RX7 100 yX7_requirePossible, Cond.static yX7_requirePossible, Cond.code yX7_requirePossible cX7_requirePossible 1 none, Cond.classLink RX7 275 "java/lang/IllegalStateException", Cond.initialized "java/lang/IllegalStateException", Cond.methodLink RX7 104 yX7_limitOf, Cond.instanceMethod yX7_limitOf, Cond.selects RX7 yX7_limitOf yX7_limitOf, Cond.code yX7_limitOf cX7_limitOf 6 (some .int), Cond.fieldLink RX7 40 "CardPort" "captures" "Ljava/util/List;"]
def wsL_authorise_r3 : List Cond := [Cond.classLink RX7 129 "CardPort$Capture", Cond.fieldLink RX7 220 "CardPort$Capture" "payment" "LCardPort$Payment;", Cond.fieldLink RX7 205 "CardPort$Payment" "card" "LCardPort$Card;", Cond.fieldLink RX7 148 "CardPort$Capture" "amount" "I", Cond.methodLink RX7 280 Lib.Math.max.name, Cond.static Lib.Math.max.name, Cond.initialized "java/lang/Math", Cond.code Lib.Math.max.name Lib.Math.max.code 2 (some .int), Cond.methodLink RX7 235 ⟨"java/util/List", "get", "(I)Ljava/lang/Object;"⟩, Cond.selects RJx4a65c ⟨"java/util/List", "get", "(I)Ljava/lang/Object;"⟩ yJx4a65c_get_915e3, Cond.instanceMethod yJx4a65c_get_915e3, Cond.code yJx4a65c_get_915e3 cJx4a65c_get_915e3 2 (some (.object "java/lang/Object")), Cond.methodLink RJx4a65c 118 yJ15_checkIndex_7cf53, Cond.static yJ15_checkIndex_7cf53, Cond.initialized RJ15, Cond.code yJ15_checkIndex_7cf53 cJ15_checkIndex_7cf53 2 (some .int), Cond.methodLink RJ15 105 yJ3_checkIndex_8e157, Cond.static yJ3_checkIndex_8e157, Cond.initialized RJ3, Cond.code yJ3_checkIndex_8e157 cJ3_checkIndex_8e157 3 (some .int), Cond.methodLink RJx4a65c 123 yJx4a65c_elementData_915e3, Cond.instanceMethod yJx4a65c_elementData_915e3, Cond.selects RJx4a65c yJx4a65c_elementData_915e3 yJx4a65c_elementData_915e3, Cond.code yJx4a65c_elementData_915e3 cJx4a65c_elementData_915e3 2 (some (.object "java/lang/Object"))]
def wsL_authorise_r4 : List Cond := [Cond.fieldLink RJx4a65c 9 "java/util/ArrayList" "elementData" "[Ljava/lang/Object;", Cond.methodLink RX7 110 yX5_init, Cond.instanceMethod yX5_init, Cond.code yX5_init cX5_init 6 none, Cond.methodLink RX5 1 objectInit, Cond.instanceMethod objectInit, Cond.code objectInit ⟨#[0xb1]⟩ 1 none, Cond.fieldLink RX5 7 "CardPort$Payment" "captured" "I", Cond.fieldLink RX5 13 "CardPort$Payment" "isVoid" "Z", Cond.fieldLink RX5 17 "CardPort$Payment" "number" "I", Cond.fieldLink RX5 20 "CardPort$Payment" "card" "LCardPort$Card;", Cond.fieldLink RX5 24 "CardPort$Payment" "shop" "LCardPort$Shop;", Cond.fieldLink RX5 28 "CardPort$Payment" "amount" "I", Cond.fieldLink RX5 31 "CardPort$Payment" "lastDay" "I", Cond.methodLink RX7 113 ⟨"java/util/List", "add", "(Ljava/lang/Object;)Z"⟩, Cond.selects RJx4a65c ⟨"java/util/List", "add", "(Ljava/lang/Object;)Z"⟩ yJx4a65c_add_9ea2d, Cond.instanceMethod yJx4a65c_add_9ea2d, Cond.code yJx4a65c_add_9ea2d cJx4a65c_add_9ea2d 2 (some .boolean), Cond.fieldLink RJx4a65c 63 "java/util/ArrayList" "modCount" "I", Cond.sameField "java/util/ArrayList" "java/util/AbstractList" "modCount" "I", Cond.methodLink RJx4a65c 131 yJx4a65c_add_72be8, Cond.instanceMethod yJx4a65c_add_72be8, Cond.selects RJx4a65c yJx4a65c_add_72be8 yJx4a65c_add_72be8, Cond.code yJx4a65c_add_72be8 cJx4a65c_add_72be8 4 none]
def wsL_authorise_r5 : List Cond := [Cond.methodLink RJx4a65c 129 yJx4a65c_grow_d5877, Cond.instanceMethod yJx4a65c_grow_d5877, Cond.selects RJx4a65c yJx4a65c_grow_d5877 yJx4a65c_grow_d5877, Cond.code yJx4a65c_grow_d5877 cJx4a65c_grow_d5877 1 (some (.array (.object "java/lang/Object"))), Cond.methodLink RJx4a65c 69 yJx4a65c_grow_92f84, Cond.instanceMethod yJx4a65c_grow_92f84, Cond.selects RJx4a65c yJx4a65c_grow_92f84 yJx4a65c_grow_92f84, Cond.code yJx4a65c_grow_92f84 cJx4a65c_grow_92f84 4 (some (.array (.object "java/lang/Object"))), Cond.fieldLink RJx4a65c 39 "java/util/ArrayList" "DEFAULTCAPACITY_EMPTY_ELEMENTDATA" "[Ljava/lang/Object;", Cond.methodLink RJx4a65c 79 Lib.Math.max.name, Cond.classLink RJx4a65c 7 "java/lang/Object", Cond.methodLink RJx4a65c 73 yJ8_newLength_cabcc, Cond.static yJ8_newLength_cabcc, Cond.initialized RJ8, Cond.code yJ8_newLength_cabcc cJ8_newLength_cabcc 4 (some .int), Cond.methodLink RJ8 194 Lib.Math.max.name, Cond.constant RJ8 200 (2147483639), Cond.methodLink RJ8 201 yJ8_hugeLength_7cf53, Cond.static yJ8_hugeLength_7cf53, Cond.code yJ8_hugeLength_7cf53 cJ8_hugeLength_7cf53 3 (some .int), Cond.methodLink RJx4a65c 66 yJ7_copyOf_1904c, Cond.static yJ7_copyOf_1904c, Cond.initialized RJ7, Cond.code yJ7_copyOf_1904c cJ7_copyOf_1904c 2 (some (.array (.object "java/lang/Object")))]
def wsL_authorise_r6 : List Cond := [Cond.methodLink RJ7 86 ⟨"java/lang/Object", "getClass", "()Ljava/lang/Class;"⟩, Cond.selects "[Ljava/lang/Object;" ⟨"java/lang/Object", "getClass", "()Ljava/lang/Class;"⟩ ⟨"java/lang/Object", "getClass", "()Ljava/lang/Class;"⟩, Cond.instanceMethod ⟨"java/lang/Object", "getClass", "()Ljava/lang/Class;"⟩, Cond.native ⟨"java/lang/Object", "getClass", "()Ljava/lang/Class;"⟩, Cond.methodLink RJ7 300 yJ7_copyOf_6403c, Cond.static yJ7_copyOf_6403c, Cond.code yJ7_copyOf_6403c cJ7_copyOf_6403c 4 (some (.array (.object "java/lang/Object"))), Cond.classLink RJ7 110 "[Ljava/lang/Object;", Cond.classLink RJ7 2 "java/lang/Object", Cond.methodLink RJ7 304 Lib.Math.min.name, Cond.static Lib.Math.min.name, Cond.code Lib.Math.min.name Lib.Math.min.code 2 (some .int), Cond.methodLink RJ7 150 arraycopyName, Cond.native arraycopyName, Cond.static arraycopyName, Cond.initialized "java/lang/System"]
def wsL_authorise : List Cond := .codeWith yL_authorise cL_authorise 6 (some .int) [(0, 12, 15, 13), (0, 12, 19, 19), (0, 12, 23, 24)] :: ((wsL_authorise_r1 ++ (wsL_authorise_r2 ++ (wsL_authorise_r3 ++ (wsL_authorise_r4 ++ (wsL_authorise_r5 ++ wsL_authorise_r6))))) ++ wsX70 ++ wsX50 ++ wsJx4a65c0 ++ wsX10 ++ (vx_atS RX7 251 "java/lang/IndexOutOfBoundsException" ["java/lang/RuntimeException", "java/lang/Exception"]).filter goodWord ++ (vx_atS RX7 217 "java/lang/IllegalArgumentException" ["java/lang/RuntimeException", "java/lang/Exception"]).filter goodWord ++ (vx_atS RX7 279 "java/lang/IllegalStateException" ["java/lang/RuntimeException", "java/lang/Exception"]).filter goodWord)
def wsL_capture_r1 : List Cond := [Cond.classLink RL 13 "java/lang/IndexOutOfBoundsException", Cond.classLink RL 19 "java/lang/IllegalArgumentException", Cond.classLink RL 24 "java/lang/IllegalStateException", Cond.methodLink RL 26 yX7_capture, Cond.instanceMethod yX7_capture, Cond.selects RX7 yX7_capture yX7_capture, Cond.initialized RX7, Cond.code yX7_capture cX7_capture 5 (some .int), Cond.constant RX7 93 (100000), Cond.fieldLink RX7 40 "CardPort" "captures" "Ljava/util/List;", Cond.fieldLink RX7 46 "CardPort" "day" "I", Cond.classLink RX7 129 RX1, Cond.instantiable RX1 5, Cond.initialized RX1, Cond.fieldLink RX7 131 "CardPort$Payment" "shop" "LCardPort$Shop;", Cond.fieldLink RX7 68 "CardPort$Shop" "kind" "LCardPort$Kind;", Cond.fieldLink RX7 138 "CardPort$Payment" "captured" "I", Cond.fieldLink RX7 148 "CardPort$Capture" "amount" "I", Cond.fieldLink RX7 151 "CardPort$Capture" "fee" "I", Cond.fieldLink RX7 158 "CardPort$Capture" "number" "I", Cond.methodLink RX7 118 yX7_paymentAt, Cond.instanceMethod yX7_paymentAt, Cond.selects RX7 yX7_paymentAt yX7_paymentAt, Cond.code yX7_paymentAt cX7_paymentAt 2 (some (.object "CardPort$Payment"))]
def wsL_capture_r2 : List Cond := [Cond.classLink RX7 247 "java/lang/IndexOutOfBoundsException", Cond.initialized "java/lang/IndexOutOfBoundsException", Cond.fieldLink RX7 36 "CardPort" "payments" "Ljava/util/List;", Cond.classLink RX7 108 "CardPort$Payment", Cond.methodLink RX7 94 ⟨"java/util/List", "size", "()I"⟩, Cond.selects RJx4a65c ⟨"java/util/List", "size", "()I"⟩ yJx4a65c_size_8abf5, Cond.instanceMethod yJx4a65c_size_8abf5, Cond.initialized RJx4a65c, Cond.code yJx4a65c_size_8abf5 cJx4a65c_size_8abf5 1 (some .int), Cond.fieldLink RJx4a65c 48 "java/util/ArrayList" "size" "I", Cond.methodLink RX7 235 ⟨"java/util/List", "get", "(I)Ljava/lang/Object;"⟩, Cond.selects RJx4a65c ⟨"java/util/List", "get", "(I)Ljava/lang/Object;"⟩ yJx4a65c_get_915e3, Cond.instanceMethod yJx4a65c_get_915e3, Cond.code yJx4a65c_get_915e3 cJx4a65c_get_915e3 2 (some (.object "java/lang/Object")), Cond.methodLink RJx4a65c 118 yJ15_checkIndex_7cf53, Cond.static yJ15_checkIndex_7cf53, Cond.initialized RJ15, Cond.code yJ15_checkIndex_7cf53 cJ15_checkIndex_7cf53 2 (some .int), Cond.methodLink RJ15 105 yJ3_checkIndex_8e157, Cond.static yJ3_checkIndex_8e157, Cond.initialized RJ3, Cond.code yJ3_checkIndex_8e157 cJ3_checkIndex_8e157 3 (some .int), Cond.methodLink RJx4a65c 123 yJx4a65c_elementData_915e3, Cond.instanceMethod yJx4a65c_elementData_915e3]
def wsL_capture_r3 : List Cond := [Cond.selects RJx4a65c yJx4a65c_elementData_915e3 yJx4a65c_elementData_915e3, Cond.code yJx4a65c_elementData_915e3 cJx4a65c_elementData_915e3 2 (some (.object "java/lang/Object")), Cond.fieldLink RJx4a65c 9 "java/util/ArrayList" "elementData" "[Ljava/lang/Object;", Cond.methodLink RX7 75 yX7_requireRange, Cond.static yX7_requireRange, Cond.code yX7_requireRange cX7_requireRange 3 none, Cond.classLink RX7 213 "java/lang/IllegalArgumentException", Cond.initialized "java/lang/IllegalArgumentException", Cond.methodLink RX7 100 yX7_requirePossible, Cond.static yX7_requirePossible, Cond.code yX7_requirePossible cX7_requirePossible 1 none, Cond.classLink RX7 275 "java/lang/IllegalStateException", Cond.initialized "java/lang/IllegalStateException", Cond.methodLink RX7 122 yX5_isAlive, Cond.instanceMethod yX5_isAlive, Cond.selects RX5 yX5_isAlive yX5_isAlive, Cond.initialized RX5, Cond.code yX5_isAlive cX5_isAlive 2 (some .boolean), Cond.fieldLink RX5 13 "CardPort$Payment" "isVoid" "Z", Cond.fieldLink RX5 31 "CardPort$Payment" "lastDay" "I", Cond.methodLink RX7 126 yX5_left, Cond.instanceMethod yX5_left, Cond.selects RX5 yX5_left yX5_left, Cond.code yX5_left cX5_left 1 (some .int)]
def wsL_capture_r4 : List Cond := [Cond.fieldLink RX5 28 "CardPort$Payment" "amount" "I", Cond.fieldLink RX5 7 "CardPort$Payment" "captured" "I", Cond.methodLink RX7 85 yX4_feeOf, Cond.instanceMethod yX4_feeOf, Cond.selects RX4 yX4_feeOf yX4_feeOf, Cond.initialized RX4, Cond.code yX4_feeOf cX4_feeOf 2 (some .int), Cond.fieldLink RX4 15 "CardPort$Kind" "cap" "I", Cond.fieldLink RX4 9 "CardPort$Kind" "rate" "I", Cond.methodLink RX4 21 Lib.Math.min.name, Cond.static Lib.Math.min.name, Cond.initialized "java/lang/Math", Cond.code Lib.Math.min.name Lib.Math.min.code 2 (some .int), Cond.methodLink RX7 135 yX1_init, Cond.instanceMethod yX1_init, Cond.code yX1_init cX1_init 5 none, Cond.methodLink RX1 1 objectInit, Cond.instanceMethod objectInit, Cond.code objectInit ⟨#[0xb1]⟩ 1 none, Cond.fieldLink RX1 7 "CardPort$Capture" "refunded" "I", Cond.fieldLink RX1 13 "CardPort$Capture" "number" "I", Cond.fieldLink RX1 16 "CardPort$Capture" "payment" "LCardPort$Payment;", Cond.fieldLink RX1 20 "CardPort$Capture" "amount" "I", Cond.fieldLink RX1 23 "CardPort$Capture" "fee" "I"]
def wsL_capture_r5 : List Cond := [Cond.methodLink RX7 113 ⟨"java/util/List", "add", "(Ljava/lang/Object;)Z"⟩, Cond.selects RJx4a65c ⟨"java/util/List", "add", "(Ljava/lang/Object;)Z"⟩ yJx4a65c_add_9ea2d, Cond.instanceMethod yJx4a65c_add_9ea2d, Cond.code yJx4a65c_add_9ea2d cJx4a65c_add_9ea2d 2 (some .boolean), Cond.fieldLink RJx4a65c 63 "java/util/ArrayList" "modCount" "I", Cond.sameField "java/util/ArrayList" "java/util/AbstractList" "modCount" "I", Cond.methodLink RJx4a65c 131 yJx4a65c_add_72be8, Cond.instanceMethod yJx4a65c_add_72be8, Cond.selects RJx4a65c yJx4a65c_add_72be8 yJx4a65c_add_72be8, Cond.code yJx4a65c_add_72be8 cJx4a65c_add_72be8 4 none, Cond.methodLink RJx4a65c 129 yJx4a65c_grow_d5877, Cond.instanceMethod yJx4a65c_grow_d5877, Cond.selects RJx4a65c yJx4a65c_grow_d5877 yJx4a65c_grow_d5877, Cond.code yJx4a65c_grow_d5877 cJx4a65c_grow_d5877 1 (some (.array (.object "java/lang/Object"))), Cond.methodLink RJx4a65c 69 yJx4a65c_grow_92f84, Cond.instanceMethod yJx4a65c_grow_92f84, Cond.selects RJx4a65c yJx4a65c_grow_92f84 yJx4a65c_grow_92f84, Cond.code yJx4a65c_grow_92f84 cJx4a65c_grow_92f84 4 (some (.array (.object "java/lang/Object"))), Cond.fieldLink RJx4a65c 39 "java/util/ArrayList" "DEFAULTCAPACITY_EMPTY_ELEMENTDATA" "[Ljava/lang/Object;", Cond.methodLink RJx4a65c 79 Lib.Math.max.name, Cond.static Lib.Math.max.name, Cond.code Lib.Math.max.name Lib.Math.max.code 2 (some .int), Cond.classLink RJx4a65c 7 "java/lang/Object", Cond.methodLink RJx4a65c 73 yJ8_newLength_cabcc]
def wsL_capture_r6 : List Cond := [Cond.static yJ8_newLength_cabcc, Cond.initialized RJ8, Cond.code yJ8_newLength_cabcc cJ8_newLength_cabcc 4 (some .int), Cond.methodLink RJ8 194 Lib.Math.max.name, Cond.constant RJ8 200 (2147483639), Cond.methodLink RJ8 201 yJ8_hugeLength_7cf53, Cond.static yJ8_hugeLength_7cf53, Cond.code yJ8_hugeLength_7cf53 cJ8_hugeLength_7cf53 3 (some .int), Cond.methodLink RJx4a65c 66 yJ7_copyOf_1904c, Cond.static yJ7_copyOf_1904c, Cond.initialized RJ7, Cond.code yJ7_copyOf_1904c cJ7_copyOf_1904c 2 (some (.array (.object "java/lang/Object"))), Cond.methodLink RJ7 86 ⟨"java/lang/Object", "getClass", "()Ljava/lang/Class;"⟩, Cond.selects "[Ljava/lang/Object;" ⟨"java/lang/Object", "getClass", "()Ljava/lang/Class;"⟩ ⟨"java/lang/Object", "getClass", "()Ljava/lang/Class;"⟩, Cond.instanceMethod ⟨"java/lang/Object", "getClass", "()Ljava/lang/Class;"⟩, Cond.native ⟨"java/lang/Object", "getClass", "()Ljava/lang/Class;"⟩, Cond.methodLink RJ7 300 yJ7_copyOf_6403c, Cond.static yJ7_copyOf_6403c, Cond.code yJ7_copyOf_6403c cJ7_copyOf_6403c 4 (some (.array (.object "java/lang/Object"))), Cond.classLink RJ7 110 "[Ljava/lang/Object;", Cond.classLink RJ7 2 "java/lang/Object", Cond.methodLink RJ7 304 Lib.Math.min.name, Cond.methodLink RJ7 150 arraycopyName, Cond.native arraycopyName]
def wsL_capture_r7 : List Cond := [Cond.static arraycopyName, Cond.initialized "java/lang/System", Cond.methodLink RX7 141 yX1_cardBank, Cond.instanceMethod yX1_cardBank, Cond.selects RX1 yX1_cardBank yX1_cardBank, Cond.code yX1_cardBank cX1_cardBank 1 (some (.object "CardPort$Bank")), Cond.fieldLink RX1 26 "CardPort$Payment" "card" "LCardPort$Card;", Cond.fieldLink RX1 32 "CardPort$Card" "bank" "LCardPort$Bank;", Cond.methodLink RX7 145 yX1_shopBank, Cond.instanceMethod yX1_shopBank, Cond.selects RX1 yX1_shopBank yX1_shopBank, Cond.code yX1_shopBank cX1_shopBank 1 (some (.object "CardPort$Bank")), Cond.fieldLink RX1 38 "CardPort$Payment" "shop" "LCardPort$Shop;", Cond.fieldLink RX1 42 "CardPort$Shop" "bank" "LCardPort$Bank;", Cond.methodLink RX7 154 yX0_pay, Cond.instanceMethod yX0_pay, Cond.selects RX0 yX0_pay yX0_pay, Cond.initialized RX0, Cond.code yX0_pay cX0_pay 3 none, Cond.methodLink RX0 16 yX0_book, Cond.instanceMethod yX0_book, Cond.selects RX0 yX0_book yX0_book, Cond.code yX0_book cX0_book 2 none, Cond.fieldLink RX0 7 "CardPort$Bank" "netInAll" "J"]
def wsL_capture_r8 : List Cond := [Cond.fieldLink RX0 13 "CardPort$Bank" "netToday" "J"]
def wsL_capture : List Cond := .codeWith yL_capture cL_capture 5 (some .int) [(0, 10, 13, 13), (0, 10, 17, 19), (0, 10, 21, 24)] :: ((wsL_capture_r1 ++ (wsL_capture_r2 ++ (wsL_capture_r3 ++ (wsL_capture_r4 ++ (wsL_capture_r5 ++ (wsL_capture_r6 ++ (wsL_capture_r7 ++ wsL_capture_r8))))))) ++ wsX70 ++ wsX10 ++ wsX50 ++ wsX60 ++ wsJx4a65c0 ++ wsX40 ++ wsX20 ++ wsX00 ++ (vx_atS RX7 251 "java/lang/IndexOutOfBoundsException" ["java/lang/RuntimeException", "java/lang/Exception"]).filter goodWord ++ (vx_atS RX7 217 "java/lang/IllegalArgumentException" ["java/lang/RuntimeException", "java/lang/Exception"]).filter goodWord ++ (vx_atS RX7 279 "java/lang/IllegalStateException" ["java/lang/RuntimeException", "java/lang/Exception"]).filter goodWord)
def wsL_cancel_r1 : List Cond := [Cond.classLink RL 13 "java/lang/IndexOutOfBoundsException", Cond.classLink RL 24 "java/lang/IllegalStateException", Cond.methodLink RL 29 yX7_cancel, Cond.instanceMethod yX7_cancel, Cond.selects RX7 yX7_cancel yX7_cancel, Cond.initialized RX7, Cond.code yX7_cancel cX7_cancel 3 (some .int), Cond.fieldLink RX7 46 "CardPort" "day" "I", Cond.fieldLink RX7 159 "CardPort$Payment" "isVoid" "Z", Cond.methodLink RX7 118 yX7_paymentAt, Cond.instanceMethod yX7_paymentAt, Cond.selects RX7 yX7_paymentAt yX7_paymentAt, Cond.code yX7_paymentAt cX7_paymentAt 2 (some (.object "CardPort$Payment")), Cond.classLink RX7 247 "java/lang/IndexOutOfBoundsException", Cond.initialized "java/lang/IndexOutOfBoundsException", Cond.fieldLink RX7 36 "CardPort" "payments" "Ljava/util/List;", Cond.classLink RX7 108 "CardPort$Payment", Cond.methodLink RX7 94 ⟨"java/util/List", "size", "()I"⟩, Cond.selects RJx4a65c ⟨"java/util/List", "size", "()I"⟩ yJx4a65c_size_8abf5, Cond.instanceMethod yJx4a65c_size_8abf5, Cond.initialized RJx4a65c, Cond.code yJx4a65c_size_8abf5 cJx4a65c_size_8abf5 1 (some .int), Cond.fieldLink RJx4a65c 48 "java/util/ArrayList" "size" "I", Cond.methodLink RX7 235 ⟨"java/util/List", "get", "(I)Ljava/lang/Object;"⟩]
def wsL_cancel_r2 : List Cond := [Cond.selects RJx4a65c ⟨"java/util/List", "get", "(I)Ljava/lang/Object;"⟩ yJx4a65c_get_915e3, Cond.instanceMethod yJx4a65c_get_915e3, Cond.code yJx4a65c_get_915e3 cJx4a65c_get_915e3 2 (some (.object "java/lang/Object")), Cond.methodLink RJx4a65c 118 yJ15_checkIndex_7cf53, Cond.static yJ15_checkIndex_7cf53, Cond.initialized RJ15, Cond.code yJ15_checkIndex_7cf53 cJ15_checkIndex_7cf53 2 (some .int), Cond.methodLink RJ15 105 yJ3_checkIndex_8e157, Cond.static yJ3_checkIndex_8e157, Cond.initialized RJ3, Cond.code yJ3_checkIndex_8e157 cJ3_checkIndex_8e157 3 (some .int), Cond.methodLink RJx4a65c 123 yJx4a65c_elementData_915e3, Cond.instanceMethod yJx4a65c_elementData_915e3, Cond.selects RJx4a65c yJx4a65c_elementData_915e3 yJx4a65c_elementData_915e3, Cond.code yJx4a65c_elementData_915e3 cJx4a65c_elementData_915e3 2 (some (.object "java/lang/Object")), Cond.fieldLink RJx4a65c 9 "java/util/ArrayList" "elementData" "[Ljava/lang/Object;", Cond.methodLink RX7 122 yX5_isAlive, Cond.instanceMethod yX5_isAlive, Cond.selects RX5 yX5_isAlive yX5_isAlive, Cond.initialized RX5, Cond.code yX5_isAlive cX5_isAlive 2 (some .boolean), Cond.fieldLink RX5 13 "CardPort$Payment" "isVoid" "Z", Cond.fieldLink RX5 31 "CardPort$Payment" "lastDay" "I", Cond.methodLink RX7 100 yX7_requirePossible]
def wsL_cancel_r3 : List Cond := [Cond.static yX7_requirePossible, Cond.code yX7_requirePossible cX7_requirePossible 1 none, Cond.classLink RX7 275 "java/lang/IllegalStateException", Cond.initialized "java/lang/IllegalStateException", Cond.methodLink RX7 126 yX5_left, Cond.instanceMethod yX5_left, Cond.selects RX5 yX5_left yX5_left, Cond.code yX5_left cX5_left 1 (some .int), Cond.fieldLink RX5 28 "CardPort$Payment" "amount" "I", Cond.fieldLink RX5 7 "CardPort$Payment" "captured" "I"]
def wsL_cancel : List Cond := .codeWith yL_cancel cL_cancel 4 (some .int) [(0, 9, 12, 13), (0, 9, 15, 24)] :: ((wsL_cancel_r1 ++ (wsL_cancel_r2 ++ wsL_cancel_r3)) ++ wsX70 ++ wsX50 ++ wsJx4a65c0 ++ (vx_atS RX7 251 "java/lang/IndexOutOfBoundsException" ["java/lang/RuntimeException", "java/lang/Exception"]).filter goodWord ++ (vx_atS RX7 279 "java/lang/IllegalStateException" ["java/lang/RuntimeException", "java/lang/Exception"]).filter goodWord)
def wsL_refund_r1 : List Cond := [Cond.classLink RL 13 "java/lang/IndexOutOfBoundsException", Cond.classLink RL 19 "java/lang/IllegalArgumentException", Cond.classLink RL 24 "java/lang/IllegalStateException", Cond.methodLink RL 33 yX7_refund, Cond.instanceMethod yX7_refund, Cond.selects RX7 yX7_refund yX7_refund, Cond.initialized RX7, Cond.code yX7_refund cX7_refund 4 (some .int), Cond.constant RX7 93 (100000), Cond.fieldLink RX7 148 "CardPort$Capture" "amount" "I", Cond.fieldLink RX7 171 "CardPort$Capture" "refunded" "I", Cond.methodLink RX7 163 yX7_captureAt, Cond.instanceMethod yX7_captureAt, Cond.selects RX7 yX7_captureAt yX7_captureAt, Cond.code yX7_captureAt cX7_captureAt 2 (some (.object "CardPort$Capture")), Cond.classLink RX7 247 "java/lang/IndexOutOfBoundsException", Cond.initialized "java/lang/IndexOutOfBoundsException", Cond.fieldLink RX7 40 "CardPort" "captures" "Ljava/util/List;", Cond.classLink RX7 129 "CardPort$Capture", Cond.methodLink RX7 94 ⟨"java/util/List", "size", "()I"⟩, Cond.selects RJx4a65c ⟨"java/util/List", "size", "()I"⟩ yJx4a65c_size_8abf5, Cond.instanceMethod yJx4a65c_size_8abf5, Cond.initialized RJx4a65c, Cond.code yJx4a65c_size_8abf5 cJx4a65c_size_8abf5 1 (some .int)]
def wsL_refund_r2 : List Cond := [Cond.fieldLink RJx4a65c 48 "java/util/ArrayList" "size" "I", Cond.methodLink RX7 235 ⟨"java/util/List", "get", "(I)Ljava/lang/Object;"⟩, Cond.selects RJx4a65c ⟨"java/util/List", "get", "(I)Ljava/lang/Object;"⟩ yJx4a65c_get_915e3, Cond.instanceMethod yJx4a65c_get_915e3, Cond.code yJx4a65c_get_915e3 cJx4a65c_get_915e3 2 (some (.object "java/lang/Object")), Cond.methodLink RJx4a65c 118 yJ15_checkIndex_7cf53, Cond.static yJ15_checkIndex_7cf53, Cond.initialized RJ15, Cond.code yJ15_checkIndex_7cf53 cJ15_checkIndex_7cf53 2 (some .int), Cond.methodLink RJ15 105 yJ3_checkIndex_8e157, Cond.static yJ3_checkIndex_8e157, Cond.initialized RJ3, Cond.code yJ3_checkIndex_8e157 cJ3_checkIndex_8e157 3 (some .int), Cond.methodLink RJx4a65c 123 yJx4a65c_elementData_915e3, Cond.instanceMethod yJx4a65c_elementData_915e3, Cond.selects RJx4a65c yJx4a65c_elementData_915e3 yJx4a65c_elementData_915e3, Cond.code yJx4a65c_elementData_915e3 cJx4a65c_elementData_915e3 2 (some (.object "java/lang/Object")), Cond.fieldLink RJx4a65c 9 "java/util/ArrayList" "elementData" "[Ljava/lang/Object;", Cond.methodLink RX7 75 yX7_requireRange, Cond.static yX7_requireRange, Cond.code yX7_requireRange cX7_requireRange 3 none, Cond.classLink RX7 213 "java/lang/IllegalArgumentException", Cond.initialized "java/lang/IllegalArgumentException", Cond.methodLink RX7 167 yX7_givenBackOf]
def wsL_refund_r3 : List Cond := [Cond.instanceMethod yX7_givenBackOf, Cond.selects RX7 yX7_givenBackOf yX7_givenBackOf, Cond.code yX7_givenBackOf cX7_givenBackOf 5 (some .int), Cond.fieldLink RX7 43 "CardPort" "chargebacks" "Ljava/util/List;", Cond.classLink RX7 174 "CardPort$Chargeback", Cond.fieldLink RX7 194 "CardPort$Chargeback" "capture" "LCardPort$Capture;", Cond.fieldLink RX7 184 "CardPort$Chargeback" "stage" "I", Cond.fieldLink RX7 198 "CardPort$Chargeback" "amount" "I", Cond.methodLink RX7 100 yX7_requirePossible, Cond.static yX7_requirePossible, Cond.code yX7_requirePossible cX7_requirePossible 1 none, Cond.classLink RX7 275 "java/lang/IllegalStateException", Cond.initialized "java/lang/IllegalStateException", Cond.methodLink RX7 145 yX1_shopBank, Cond.instanceMethod yX1_shopBank, Cond.selects RX1 yX1_shopBank yX1_shopBank, Cond.initialized RX1, Cond.code yX1_shopBank cX1_shopBank 1 (some (.object "CardPort$Bank")), Cond.fieldLink RX1 16 "CardPort$Capture" "payment" "LCardPort$Payment;", Cond.fieldLink RX1 38 "CardPort$Payment" "shop" "LCardPort$Shop;", Cond.fieldLink RX1 42 "CardPort$Shop" "bank" "LCardPort$Bank;", Cond.methodLink RX7 141 yX1_cardBank, Cond.instanceMethod yX1_cardBank, Cond.selects RX1 yX1_cardBank yX1_cardBank]
def wsL_refund_r4 : List Cond := [Cond.code yX1_cardBank cX1_cardBank 1 (some (.object "CardPort$Bank")), Cond.fieldLink RX1 26 "CardPort$Payment" "card" "LCardPort$Card;", Cond.fieldLink RX1 32 "CardPort$Card" "bank" "LCardPort$Bank;", Cond.methodLink RX7 154 yX0_pay, Cond.instanceMethod yX0_pay, Cond.selects RX0 yX0_pay yX0_pay, Cond.initialized RX0, Cond.code yX0_pay cX0_pay 3 none, Cond.methodLink RX0 16 yX0_book, Cond.instanceMethod yX0_book, Cond.selects RX0 yX0_book yX0_book, Cond.code yX0_book cX0_book 2 none, Cond.fieldLink RX0 7 "CardPort$Bank" "netInAll" "J", Cond.fieldLink RX0 13 "CardPort$Bank" "netToday" "J"]
def wsL_refund : List Cond := .codeWith yL_refund cL_refund 5 (some .int) [(0, 10, 13, 13), (0, 10, 17, 19), (0, 10, 21, 24)] :: ((wsL_refund_r1 ++ (wsL_refund_r2 ++ (wsL_refund_r3 ++ wsL_refund_r4))) ++ wsX10 ++ wsX70 ++ wsJx4a65c0 ++ wsX30 ++ wsX50 ++ wsX60 ++ wsX20 ++ wsX00 ++ (vx_atS RX7 251 "java/lang/IndexOutOfBoundsException" ["java/lang/RuntimeException", "java/lang/Exception"]).filter goodWord ++ (vx_atS RX7 217 "java/lang/IllegalArgumentException" ["java/lang/RuntimeException", "java/lang/Exception"]).filter goodWord ++ (vx_atS RX7 279 "java/lang/IllegalStateException" ["java/lang/RuntimeException", "java/lang/Exception"]).filter goodWord)
def wsL_dispute_r1 : List Cond := [Cond.classLink RL 13 "java/lang/IndexOutOfBoundsException", Cond.classLink RL 19 "java/lang/IllegalArgumentException", Cond.classLink RL 24 "java/lang/IllegalStateException", Cond.methodLink RL 36 yX7_dispute, Cond.instanceMethod yX7_dispute, Cond.selects RX7 yX7_dispute yX7_dispute, Cond.initialized RX7, Cond.code yX7_dispute cX7_dispute 5 (some .int), Cond.constant RX7 93 (100000), Cond.fieldLink RX7 43 "CardPort" "chargebacks" "Ljava/util/List;", Cond.fieldLink RX7 148 "CardPort$Capture" "amount" "I", Cond.classLink RX7 174 RX3, Cond.instantiable RX3 5, Cond.initialized RX3, Cond.fieldLink RX7 46 "CardPort" "day" "I", Cond.fieldLink RX7 179 "CardPort$Chargeback" "number" "I", Cond.methodLink RX7 163 yX7_captureAt, Cond.instanceMethod yX7_captureAt, Cond.selects RX7 yX7_captureAt yX7_captureAt, Cond.code yX7_captureAt cX7_captureAt 2 (some (.object "CardPort$Capture")), Cond.classLink RX7 247 "java/lang/IndexOutOfBoundsException", Cond.initialized "java/lang/IndexOutOfBoundsException", Cond.fieldLink RX7 40 "CardPort" "captures" "Ljava/util/List;", Cond.classLink RX7 129 "CardPort$Capture"]
def wsL_dispute_r2 : List Cond := [Cond.methodLink RX7 94 ⟨"java/util/List", "size", "()I"⟩, Cond.selects RJx4a65c ⟨"java/util/List", "size", "()I"⟩ yJx4a65c_size_8abf5, Cond.instanceMethod yJx4a65c_size_8abf5, Cond.initialized RJx4a65c, Cond.code yJx4a65c_size_8abf5 cJx4a65c_size_8abf5 1 (some .int), Cond.fieldLink RJx4a65c 48 "java/util/ArrayList" "size" "I", Cond.methodLink RX7 235 ⟨"java/util/List", "get", "(I)Ljava/lang/Object;"⟩, Cond.selects RJx4a65c ⟨"java/util/List", "get", "(I)Ljava/lang/Object;"⟩ yJx4a65c_get_915e3, Cond.instanceMethod yJx4a65c_get_915e3, Cond.code yJx4a65c_get_915e3 cJx4a65c_get_915e3 2 (some (.object "java/lang/Object")), Cond.methodLink RJx4a65c 118 yJ15_checkIndex_7cf53, Cond.static yJ15_checkIndex_7cf53, Cond.initialized RJ15, Cond.code yJ15_checkIndex_7cf53 cJ15_checkIndex_7cf53 2 (some .int), Cond.methodLink RJ15 105 yJ3_checkIndex_8e157, Cond.static yJ3_checkIndex_8e157, Cond.initialized RJ3, Cond.code yJ3_checkIndex_8e157 cJ3_checkIndex_8e157 3 (some .int), Cond.methodLink RJx4a65c 123 yJx4a65c_elementData_915e3, Cond.instanceMethod yJx4a65c_elementData_915e3, Cond.selects RJx4a65c yJx4a65c_elementData_915e3 yJx4a65c_elementData_915e3, Cond.code yJx4a65c_elementData_915e3 cJx4a65c_elementData_915e3 2 (some (.object "java/lang/Object")), Cond.fieldLink RJx4a65c 9 "java/util/ArrayList" "elementData" "[Ljava/lang/Object;", Cond.methodLink RX7 75 yX7_requireRange]
def wsL_dispute_r3 : List Cond := [Cond.static yX7_requireRange, Cond.code yX7_requireRange cX7_requireRange 3 none, Cond.classLink RX7 213 "java/lang/IllegalArgumentException", Cond.initialized "java/lang/IllegalArgumentException", Cond.methodLink RX7 100 yX7_requirePossible, Cond.static yX7_requirePossible, Cond.code yX7_requirePossible cX7_requirePossible 1 none, Cond.classLink RX7 275 "java/lang/IllegalStateException", Cond.initialized "java/lang/IllegalStateException", Cond.methodLink RX7 167 yX7_givenBackOf, Cond.instanceMethod yX7_givenBackOf, Cond.selects RX7 yX7_givenBackOf yX7_givenBackOf, Cond.code yX7_givenBackOf cX7_givenBackOf 5 (some .int), Cond.fieldLink RX7 171 "CardPort$Capture" "refunded" "I", Cond.classLink RX7 174 "CardPort$Chargeback", Cond.fieldLink RX7 194 "CardPort$Chargeback" "capture" "LCardPort$Capture;", Cond.fieldLink RX7 184 "CardPort$Chargeback" "stage" "I", Cond.fieldLink RX7 198 "CardPort$Chargeback" "amount" "I", Cond.methodLink RX7 176 yX3_init, Cond.instanceMethod yX3_init, Cond.code yX3_init cX3_init 5 none, Cond.methodLink RX3 3 objectInit, Cond.instanceMethod objectInit, Cond.code objectInit ⟨#[0xb1]⟩ 1 none]
def wsL_dispute_r4 : List Cond := [Cond.fieldLink RX3 9 "CardPort$Chargeback" "stage" "I", Cond.fieldLink RX3 15 "CardPort$Chargeback" "number" "I", Cond.fieldLink RX3 18 "CardPort$Chargeback" "capture" "LCardPort$Capture;", Cond.fieldLink RX3 22 "CardPort$Chargeback" "amount" "I", Cond.fieldLink RX3 25 "CardPort$Chargeback" "lastDay" "I", Cond.methodLink RX7 113 ⟨"java/util/List", "add", "(Ljava/lang/Object;)Z"⟩, Cond.selects RJx4a65c ⟨"java/util/List", "add", "(Ljava/lang/Object;)Z"⟩ yJx4a65c_add_9ea2d, Cond.instanceMethod yJx4a65c_add_9ea2d, Cond.code yJx4a65c_add_9ea2d cJx4a65c_add_9ea2d 2 (some .boolean), Cond.fieldLink RJx4a65c 63 "java/util/ArrayList" "modCount" "I", Cond.sameField "java/util/ArrayList" "java/util/AbstractList" "modCount" "I", Cond.methodLink RJx4a65c 131 yJx4a65c_add_72be8, Cond.instanceMethod yJx4a65c_add_72be8, Cond.selects RJx4a65c yJx4a65c_add_72be8 yJx4a65c_add_72be8, Cond.code yJx4a65c_add_72be8 cJx4a65c_add_72be8 4 none, Cond.methodLink RJx4a65c 129 yJx4a65c_grow_d5877, Cond.instanceMethod yJx4a65c_grow_d5877, Cond.selects RJx4a65c yJx4a65c_grow_d5877 yJx4a65c_grow_d5877, Cond.code yJx4a65c_grow_d5877 cJx4a65c_grow_d5877 1 (some (.array (.object "java/lang/Object"))), Cond.methodLink RJx4a65c 69 yJx4a65c_grow_92f84, Cond.instanceMethod yJx4a65c_grow_92f84, Cond.selects RJx4a65c yJx4a65c_grow_92f84 yJx4a65c_grow_92f84, Cond.code yJx4a65c_grow_92f84 cJx4a65c_grow_92f84 4 (some (.array (.object "java/lang/Object"))), Cond.fieldLink RJx4a65c 39 "java/util/ArrayList" "DEFAULTCAPACITY_EMPTY_ELEMENTDATA" "[Ljava/lang/Object;"]
def wsL_dispute_r5 : List Cond := [Cond.methodLink RJx4a65c 79 Lib.Math.max.name, Cond.static Lib.Math.max.name, Cond.initialized "java/lang/Math", Cond.code Lib.Math.max.name Lib.Math.max.code 2 (some .int), Cond.classLink RJx4a65c 7 "java/lang/Object", Cond.methodLink RJx4a65c 73 yJ8_newLength_cabcc, Cond.static yJ8_newLength_cabcc, Cond.initialized RJ8, Cond.code yJ8_newLength_cabcc cJ8_newLength_cabcc 4 (some .int), Cond.methodLink RJ8 194 Lib.Math.max.name, Cond.constant RJ8 200 (2147483639), Cond.methodLink RJ8 201 yJ8_hugeLength_7cf53, Cond.static yJ8_hugeLength_7cf53, Cond.code yJ8_hugeLength_7cf53 cJ8_hugeLength_7cf53 3 (some .int), Cond.methodLink RJx4a65c 66 yJ7_copyOf_1904c, Cond.static yJ7_copyOf_1904c, Cond.initialized RJ7, Cond.code yJ7_copyOf_1904c cJ7_copyOf_1904c 2 (some (.array (.object "java/lang/Object"))), Cond.methodLink RJ7 86 ⟨"java/lang/Object", "getClass", "()Ljava/lang/Class;"⟩, Cond.selects "[Ljava/lang/Object;" ⟨"java/lang/Object", "getClass", "()Ljava/lang/Class;"⟩ ⟨"java/lang/Object", "getClass", "()Ljava/lang/Class;"⟩, Cond.instanceMethod ⟨"java/lang/Object", "getClass", "()Ljava/lang/Class;"⟩, Cond.native ⟨"java/lang/Object", "getClass", "()Ljava/lang/Class;"⟩, Cond.methodLink RJ7 300 yJ7_copyOf_6403c, Cond.static yJ7_copyOf_6403c]
def wsL_dispute_r6 : List Cond := [Cond.code yJ7_copyOf_6403c cJ7_copyOf_6403c 4 (some (.array (.object "java/lang/Object"))), Cond.classLink RJ7 110 "[Ljava/lang/Object;", Cond.classLink RJ7 2 "java/lang/Object", Cond.methodLink RJ7 304 Lib.Math.min.name, Cond.static Lib.Math.min.name, Cond.code Lib.Math.min.name Lib.Math.min.code 2 (some .int), Cond.methodLink RJ7 150 arraycopyName, Cond.native arraycopyName, Cond.static arraycopyName, Cond.initialized "java/lang/System", Cond.methodLink RX7 145 yX1_shopBank, Cond.instanceMethod yX1_shopBank, Cond.selects RX1 yX1_shopBank yX1_shopBank, Cond.initialized RX1, Cond.code yX1_shopBank cX1_shopBank 1 (some (.object "CardPort$Bank")), Cond.fieldLink RX1 16 "CardPort$Capture" "payment" "LCardPort$Payment;", Cond.fieldLink RX1 38 "CardPort$Payment" "shop" "LCardPort$Shop;", Cond.fieldLink RX1 42 "CardPort$Shop" "bank" "LCardPort$Bank;", Cond.methodLink RX7 141 yX1_cardBank, Cond.instanceMethod yX1_cardBank, Cond.selects RX1 yX1_cardBank yX1_cardBank, Cond.code yX1_cardBank cX1_cardBank 1 (some (.object "CardPort$Bank")), Cond.fieldLink RX1 26 "CardPort$Payment" "card" "LCardPort$Card;", Cond.fieldLink RX1 32 "CardPort$Card" "bank" "LCardPort$Bank;"]
def wsL_dispute_r7 : List Cond := [Cond.methodLink RX7 154 yX0_pay, Cond.instanceMethod yX0_pay, Cond.selects RX0 yX0_pay yX0_pay, Cond.initialized RX0, Cond.code yX0_pay cX0_pay 3 none, Cond.methodLink RX0 16 yX0_book, Cond.instanceMethod yX0_book, Cond.selects RX0 yX0_book yX0_book, Cond.code yX0_book cX0_book 2 none, Cond.fieldLink RX0 7 "CardPort$Bank" "netInAll" "J", Cond.fieldLink RX0 13 "CardPort$Bank" "netToday" "J"]
def wsL_dispute : List Cond := .codeWith yL_dispute cL_dispute 5 (some .int) [(0, 10, 13, 13), (0, 10, 17, 19), (0, 10, 21, 24)] :: ((wsL_dispute_r1 ++ (wsL_dispute_r2 ++ (wsL_dispute_r3 ++ (wsL_dispute_r4 ++ (wsL_dispute_r5 ++ (wsL_dispute_r6 ++ wsL_dispute_r7)))))) ++ wsX70 ++ wsX10 ++ wsX30 ++ wsJx4a65c0 ++ wsX50 ++ wsX60 ++ wsX20 ++ wsX00 ++ (vx_atS RX7 251 "java/lang/IndexOutOfBoundsException" ["java/lang/RuntimeException", "java/lang/Exception"]).filter goodWord ++ (vx_atS RX7 217 "java/lang/IllegalArgumentException" ["java/lang/RuntimeException", "java/lang/Exception"]).filter goodWord ++ (vx_atS RX7 279 "java/lang/IllegalStateException" ["java/lang/RuntimeException", "java/lang/Exception"]).filter goodWord)
def wsL_answer_r1 : List Cond := [Cond.classLink RL 13 "java/lang/IndexOutOfBoundsException", Cond.classLink RL 24 "java/lang/IllegalStateException", Cond.methodLink RL 39 yX7_answer, Cond.instanceMethod yX7_answer, Cond.selects RX7 yX7_answer yX7_answer, Cond.initialized RX7, Cond.code yX7_answer cX7_answer 3 (some .int), Cond.fieldLink RX7 184 "CardPort$Chargeback" "stage" "I", Cond.fieldLink RX7 46 "CardPort" "day" "I", Cond.fieldLink RX7 187 "CardPort$Chargeback" "lastDay" "I", Cond.methodLink RX7 180 yX7_chargebackAt, Cond.instanceMethod yX7_chargebackAt, Cond.selects RX7 yX7_chargebackAt yX7_chargebackAt, Cond.code yX7_chargebackAt cX7_chargebackAt 2 (some (.object "CardPort$Chargeback")), Cond.classLink RX7 247 "java/lang/IndexOutOfBoundsException", Cond.initialized "java/lang/IndexOutOfBoundsException", Cond.fieldLink RX7 43 "CardPort" "chargebacks" "Ljava/util/List;", Cond.classLink RX7 174 "CardPort$Chargeback", Cond.methodLink RX7 94 ⟨"java/util/List", "size", "()I"⟩, Cond.selects RJx4a65c ⟨"java/util/List", "size", "()I"⟩ yJx4a65c_size_8abf5, Cond.instanceMethod yJx4a65c_size_8abf5, Cond.initialized RJx4a65c, Cond.code yJx4a65c_size_8abf5 cJx4a65c_size_8abf5 1 (some .int), Cond.fieldLink RJx4a65c 48 "java/util/ArrayList" "size" "I"]
def wsL_answer_r2 : List Cond := [Cond.methodLink RX7 235 ⟨"java/util/List", "get", "(I)Ljava/lang/Object;"⟩, Cond.selects RJx4a65c ⟨"java/util/List", "get", "(I)Ljava/lang/Object;"⟩ yJx4a65c_get_915e3, Cond.instanceMethod yJx4a65c_get_915e3, Cond.code yJx4a65c_get_915e3 cJx4a65c_get_915e3 2 (some (.object "java/lang/Object")), Cond.methodLink RJx4a65c 118 yJ15_checkIndex_7cf53, Cond.static yJ15_checkIndex_7cf53, Cond.initialized RJ15, Cond.code yJ15_checkIndex_7cf53 cJ15_checkIndex_7cf53 2 (some .int), Cond.methodLink RJ15 105 yJ3_checkIndex_8e157, Cond.static yJ3_checkIndex_8e157, Cond.initialized RJ3, Cond.code yJ3_checkIndex_8e157 cJ3_checkIndex_8e157 3 (some .int), Cond.methodLink RJx4a65c 123 yJx4a65c_elementData_915e3, Cond.instanceMethod yJx4a65c_elementData_915e3, Cond.selects RJx4a65c yJx4a65c_elementData_915e3 yJx4a65c_elementData_915e3, Cond.code yJx4a65c_elementData_915e3 cJx4a65c_elementData_915e3 2 (some (.object "java/lang/Object")), Cond.fieldLink RJx4a65c 9 "java/util/ArrayList" "elementData" "[Ljava/lang/Object;", Cond.methodLink RX7 100 yX7_requirePossible, Cond.static yX7_requirePossible, Cond.code yX7_requirePossible cX7_requirePossible 1 none, Cond.classLink RX7 275 "java/lang/IllegalStateException", Cond.initialized "java/lang/IllegalStateException", Cond.methodLink RX7 190 yX7_payBackToShop, Cond.static yX7_payBackToShop]
def wsL_answer_r3 : List Cond := [Cond.code yX7_payBackToShop cX7_payBackToShop 1 none, Cond.fieldLink RX7 194 "CardPort$Chargeback" "capture" "LCardPort$Capture;", Cond.fieldLink RX7 198 "CardPort$Chargeback" "amount" "I", Cond.methodLink RX7 141 yX1_cardBank, Cond.instanceMethod yX1_cardBank, Cond.selects RX1 yX1_cardBank yX1_cardBank, Cond.initialized RX1, Cond.code yX1_cardBank cX1_cardBank 1 (some (.object "CardPort$Bank")), Cond.fieldLink RX1 16 "CardPort$Capture" "payment" "LCardPort$Payment;", Cond.fieldLink RX1 26 "CardPort$Payment" "card" "LCardPort$Card;", Cond.fieldLink RX1 32 "CardPort$Card" "bank" "LCardPort$Bank;", Cond.methodLink RX7 145 yX1_shopBank, Cond.instanceMethod yX1_shopBank, Cond.selects RX1 yX1_shopBank yX1_shopBank, Cond.code yX1_shopBank cX1_shopBank 1 (some (.object "CardPort$Bank")), Cond.fieldLink RX1 38 "CardPort$Payment" "shop" "LCardPort$Shop;", Cond.fieldLink RX1 42 "CardPort$Shop" "bank" "LCardPort$Bank;", Cond.methodLink RX7 154 yX0_pay, Cond.instanceMethod yX0_pay, Cond.selects RX0 yX0_pay yX0_pay, Cond.initialized RX0, Cond.code yX0_pay cX0_pay 3 none, Cond.methodLink RX0 16 yX0_book, Cond.instanceMethod yX0_book]
def wsL_answer_r4 : List Cond := [Cond.selects RX0 yX0_book yX0_book, Cond.code yX0_book cX0_book 2 none, Cond.fieldLink RX0 7 "CardPort$Bank" "netInAll" "J", Cond.fieldLink RX0 13 "CardPort$Bank" "netToday" "J"]
def wsL_answer : List Cond := .codeWith yL_answer cL_answer 4 (some .int) [(0, 9, 12, 13), (0, 9, 15, 24)] :: ((wsL_answer_r1 ++ (wsL_answer_r2 ++ (wsL_answer_r3 ++ wsL_answer_r4))) ++ wsX30 ++ wsX70 ++ wsJx4a65c0 ++ wsX10 ++ wsX50 ++ wsX20 ++ wsX60 ++ wsX00 ++ (vx_atS RX7 251 "java/lang/IndexOutOfBoundsException" ["java/lang/RuntimeException", "java/lang/Exception"]).filter goodWord ++ (vx_atS RX7 279 "java/lang/IllegalStateException" ["java/lang/RuntimeException", "java/lang/Exception"]).filter goodWord)
def wsL_press_r1 : List Cond := [Cond.classLink RL 13 "java/lang/IndexOutOfBoundsException", Cond.classLink RL 24 "java/lang/IllegalStateException", Cond.methodLink RL 42 yX7_press, Cond.instanceMethod yX7_press, Cond.selects RX7 yX7_press yX7_press, Cond.initialized RX7, Cond.code yX7_press cX7_press 3 (some .int), Cond.fieldLink RX7 184 "CardPort$Chargeback" "stage" "I", Cond.fieldLink RX7 187 "CardPort$Chargeback" "lastDay" "I", Cond.fieldLink RX7 194 "CardPort$Chargeback" "capture" "LCardPort$Capture;", Cond.fieldLink RX7 198 "CardPort$Chargeback" "amount" "I", Cond.methodLink RX7 180 yX7_chargebackAt, Cond.instanceMethod yX7_chargebackAt, Cond.selects RX7 yX7_chargebackAt yX7_chargebackAt, Cond.code yX7_chargebackAt cX7_chargebackAt 2 (some (.object "CardPort$Chargeback")), Cond.classLink RX7 247 "java/lang/IndexOutOfBoundsException", Cond.initialized "java/lang/IndexOutOfBoundsException", Cond.fieldLink RX7 43 "CardPort" "chargebacks" "Ljava/util/List;", Cond.classLink RX7 174 "CardPort$Chargeback", Cond.methodLink RX7 94 ⟨"java/util/List", "size", "()I"⟩, Cond.selects RJx4a65c ⟨"java/util/List", "size", "()I"⟩ yJx4a65c_size_8abf5, Cond.instanceMethod yJx4a65c_size_8abf5, Cond.initialized RJx4a65c, Cond.code yJx4a65c_size_8abf5 cJx4a65c_size_8abf5 1 (some .int)]
def wsL_press_r2 : List Cond := [Cond.fieldLink RJx4a65c 48 "java/util/ArrayList" "size" "I", Cond.methodLink RX7 235 ⟨"java/util/List", "get", "(I)Ljava/lang/Object;"⟩, Cond.selects RJx4a65c ⟨"java/util/List", "get", "(I)Ljava/lang/Object;"⟩ yJx4a65c_get_915e3, Cond.instanceMethod yJx4a65c_get_915e3, Cond.code yJx4a65c_get_915e3 cJx4a65c_get_915e3 2 (some (.object "java/lang/Object")), Cond.methodLink RJx4a65c 118 yJ15_checkIndex_7cf53, Cond.static yJ15_checkIndex_7cf53, Cond.initialized RJ15, Cond.code yJ15_checkIndex_7cf53 cJ15_checkIndex_7cf53 2 (some .int), Cond.methodLink RJ15 105 yJ3_checkIndex_8e157, Cond.static yJ3_checkIndex_8e157, Cond.initialized RJ3, Cond.code yJ3_checkIndex_8e157 cJ3_checkIndex_8e157 3 (some .int), Cond.methodLink RJx4a65c 123 yJx4a65c_elementData_915e3, Cond.instanceMethod yJx4a65c_elementData_915e3, Cond.selects RJx4a65c yJx4a65c_elementData_915e3 yJx4a65c_elementData_915e3, Cond.code yJx4a65c_elementData_915e3 cJx4a65c_elementData_915e3 2 (some (.object "java/lang/Object")), Cond.fieldLink RJx4a65c 9 "java/util/ArrayList" "elementData" "[Ljava/lang/Object;", Cond.methodLink RX7 100 yX7_requirePossible, Cond.static yX7_requirePossible, Cond.code yX7_requirePossible cX7_requirePossible 1 none, Cond.classLink RX7 275 "java/lang/IllegalStateException", Cond.initialized "java/lang/IllegalStateException", Cond.methodLink RX7 145 yX1_shopBank]
def wsL_press_r3 : List Cond := [Cond.instanceMethod yX1_shopBank, Cond.selects RX1 yX1_shopBank yX1_shopBank, Cond.initialized RX1, Cond.code yX1_shopBank cX1_shopBank 1 (some (.object "CardPort$Bank")), Cond.fieldLink RX1 16 "CardPort$Capture" "payment" "LCardPort$Payment;", Cond.fieldLink RX1 38 "CardPort$Payment" "shop" "LCardPort$Shop;", Cond.fieldLink RX1 42 "CardPort$Shop" "bank" "LCardPort$Bank;", Cond.methodLink RX7 141 yX1_cardBank, Cond.instanceMethod yX1_cardBank, Cond.selects RX1 yX1_cardBank yX1_cardBank, Cond.code yX1_cardBank cX1_cardBank 1 (some (.object "CardPort$Bank")), Cond.fieldLink RX1 26 "CardPort$Payment" "card" "LCardPort$Card;", Cond.fieldLink RX1 32 "CardPort$Card" "bank" "LCardPort$Bank;", Cond.methodLink RX7 154 yX0_pay, Cond.instanceMethod yX0_pay, Cond.selects RX0 yX0_pay yX0_pay, Cond.initialized RX0, Cond.code yX0_pay cX0_pay 3 none, Cond.methodLink RX0 16 yX0_book, Cond.instanceMethod yX0_book, Cond.selects RX0 yX0_book yX0_book, Cond.code yX0_book cX0_book 2 none, Cond.fieldLink RX0 7 "CardPort$Bank" "netInAll" "J", Cond.fieldLink RX0 13 "CardPort$Bank" "netToday" "J"]
def wsL_press_r4 : List Cond := [Cond.methodLink RX7 199 yX7_countPressed, Cond.instanceMethod yX7_countPressed, Cond.selects RX7 yX7_countPressed yX7_countPressed, Cond.code yX7_countPressed cX7_countPressed 3 (some .int)]
def wsL_press : List Cond := .codeWith yL_press cL_press 4 (some .int) [(0, 9, 12, 13), (0, 9, 15, 24)] :: ((wsL_press_r1 ++ (wsL_press_r2 ++ (wsL_press_r3 ++ wsL_press_r4))) ++ wsX30 ++ wsX70 ++ wsJx4a65c0 ++ wsX10 ++ wsX50 ++ wsX60 ++ wsX20 ++ wsX00 ++ (vx_atS RX7 251 "java/lang/IndexOutOfBoundsException" ["java/lang/RuntimeException", "java/lang/Exception"]).filter goodWord ++ (vx_atS RX7 279 "java/lang/IllegalStateException" ["java/lang/RuntimeException", "java/lang/Exception"]).filter goodWord)
def wsL_rule_r1 : List Cond := [Cond.classLink RL 13 "java/lang/IndexOutOfBoundsException", Cond.classLink RL 24 "java/lang/IllegalStateException", Cond.methodLink RL 45 yX7_rule, Cond.instanceMethod yX7_rule, Cond.selects RX7 yX7_rule yX7_rule, Cond.initialized RX7, Cond.code yX7_rule cX7_rule 4 (some .int), Cond.fieldLink RX7 184 "CardPort$Chargeback" "stage" "I", Cond.methodLink RX7 180 yX7_chargebackAt, Cond.instanceMethod yX7_chargebackAt, Cond.selects RX7 yX7_chargebackAt yX7_chargebackAt, Cond.code yX7_chargebackAt cX7_chargebackAt 2 (some (.object "CardPort$Chargeback")), Cond.classLink RX7 247 "java/lang/IndexOutOfBoundsException", Cond.initialized "java/lang/IndexOutOfBoundsException", Cond.fieldLink RX7 43 "CardPort" "chargebacks" "Ljava/util/List;", Cond.classLink RX7 174 "CardPort$Chargeback", Cond.methodLink RX7 94 ⟨"java/util/List", "size", "()I"⟩, Cond.selects RJx4a65c ⟨"java/util/List", "size", "()I"⟩ yJx4a65c_size_8abf5, Cond.instanceMethod yJx4a65c_size_8abf5, Cond.initialized RJx4a65c, Cond.code yJx4a65c_size_8abf5 cJx4a65c_size_8abf5 1 (some .int), Cond.fieldLink RJx4a65c 48 "java/util/ArrayList" "size" "I", Cond.methodLink RX7 235 ⟨"java/util/List", "get", "(I)Ljava/lang/Object;"⟩, Cond.selects RJx4a65c ⟨"java/util/List", "get", "(I)Ljava/lang/Object;"⟩ yJx4a65c_get_915e3]
def wsL_rule_r2 : List Cond := [Cond.instanceMethod yJx4a65c_get_915e3, Cond.code yJx4a65c_get_915e3 cJx4a65c_get_915e3 2 (some (.object "java/lang/Object")), Cond.methodLink RJx4a65c 118 yJ15_checkIndex_7cf53, Cond.static yJ15_checkIndex_7cf53, Cond.initialized RJ15, Cond.code yJ15_checkIndex_7cf53 cJ15_checkIndex_7cf53 2 (some .int), Cond.methodLink RJ15 105 yJ3_checkIndex_8e157, Cond.static yJ3_checkIndex_8e157, Cond.initialized RJ3, Cond.code yJ3_checkIndex_8e157 cJ3_checkIndex_8e157 3 (some .int), Cond.methodLink RJx4a65c 123 yJx4a65c_elementData_915e3, Cond.instanceMethod yJx4a65c_elementData_915e3, Cond.selects RJx4a65c yJx4a65c_elementData_915e3 yJx4a65c_elementData_915e3, Cond.code yJx4a65c_elementData_915e3 cJx4a65c_elementData_915e3 2 (some (.object "java/lang/Object")), Cond.fieldLink RJx4a65c 9 "java/util/ArrayList" "elementData" "[Ljava/lang/Object;", Cond.methodLink RX7 100 yX7_requirePossible, Cond.static yX7_requirePossible, Cond.code yX7_requirePossible cX7_requirePossible 1 none, Cond.classLink RX7 275 "java/lang/IllegalStateException", Cond.initialized "java/lang/IllegalStateException", Cond.methodLink RX7 190 yX7_payBackToShop, Cond.static yX7_payBackToShop, Cond.code yX7_payBackToShop cX7_payBackToShop 1 none, Cond.fieldLink RX7 194 "CardPort$Chargeback" "capture" "LCardPort$Capture;"]
def wsL_rule_r3 : List Cond := [Cond.fieldLink RX7 198 "CardPort$Chargeback" "amount" "I", Cond.methodLink RX7 141 yX1_cardBank, Cond.instanceMethod yX1_cardBank, Cond.selects RX1 yX1_cardBank yX1_cardBank, Cond.initialized RX1, Cond.code yX1_cardBank cX1_cardBank 1 (some (.object "CardPort$Bank")), Cond.fieldLink RX1 16 "CardPort$Capture" "payment" "LCardPort$Payment;", Cond.fieldLink RX1 26 "CardPort$Payment" "card" "LCardPort$Card;", Cond.fieldLink RX1 32 "CardPort$Card" "bank" "LCardPort$Bank;", Cond.methodLink RX7 145 yX1_shopBank, Cond.instanceMethod yX1_shopBank, Cond.selects RX1 yX1_shopBank yX1_shopBank, Cond.code yX1_shopBank cX1_shopBank 1 (some (.object "CardPort$Bank")), Cond.fieldLink RX1 38 "CardPort$Payment" "shop" "LCardPort$Shop;", Cond.fieldLink RX1 42 "CardPort$Shop" "bank" "LCardPort$Bank;", Cond.methodLink RX7 154 yX0_pay, Cond.instanceMethod yX0_pay, Cond.selects RX0 yX0_pay yX0_pay, Cond.initialized RX0, Cond.code yX0_pay cX0_pay 3 none, Cond.methodLink RX0 16 yX0_book, Cond.instanceMethod yX0_book, Cond.selects RX0 yX0_book yX0_book, Cond.code yX0_book cX0_book 2 none]
def wsL_rule_r4 : List Cond := [Cond.fieldLink RX0 7 "CardPort$Bank" "netInAll" "J", Cond.fieldLink RX0 13 "CardPort$Bank" "netToday" "J"]
def wsL_rule : List Cond := .codeWith yL_rule cL_rule 5 (some .int) [(0, 10, 13, 13), (0, 10, 17, 24)] :: ((wsL_rule_r1 ++ (wsL_rule_r2 ++ (wsL_rule_r3 ++ wsL_rule_r4))) ++ wsX30 ++ wsX70 ++ wsJx4a65c0 ++ wsX10 ++ wsX50 ++ wsX20 ++ wsX60 ++ wsX00 ++ (vx_atS RX7 251 "java/lang/IndexOutOfBoundsException" ["java/lang/RuntimeException", "java/lang/Exception"]).filter goodWord ++ (vx_atS RX7 279 "java/lang/IllegalStateException" ["java/lang/RuntimeException", "java/lang/Exception"]).filter goodWord)
def wsL_pass_r1 : List Cond := [Cond.classLink RL 19 "java/lang/IllegalArgumentException", Cond.methodLink RL 49 yX7_pass, Cond.instanceMethod yX7_pass, Cond.selects RX7 yX7_pass yX7_pass, Cond.initialized RX7, Cond.code yX7_pass cX7_pass 3 (some .int), Cond.fieldLink RX7 46 "CardPort" "day" "I", Cond.methodLink RX7 75 yX7_requireRange, Cond.static yX7_requireRange, Cond.code yX7_requireRange cX7_requireRange 3 none, Cond.classLink RX7 213 "java/lang/IllegalArgumentException", Cond.initialized "java/lang/IllegalArgumentException", Cond.methodLink RX7 202 yX7_beginNextDay, Cond.instanceMethod yX7_beginNextDay, Cond.selects RX7 yX7_beginNextDay yX7_beginNextDay, Cond.code yX7_beginNextDay cX7_beginNextDay 2 none, Cond.fieldLink RX7 11 "CardPort" "banks" "[LCardPort$Bank;", Cond.fieldLink RX7 232 "CardPort$Bank" "netToday" "J", Cond.fieldLink RX7 43 "CardPort" "chargebacks" "Ljava/util/List;", Cond.classLink RX7 174 "CardPort$Chargeback", Cond.methodLink RX7 94 ⟨"java/util/List", "size", "()I"⟩, Cond.selects RJx4a65c ⟨"java/util/List", "size", "()I"⟩ yJx4a65c_size_8abf5, Cond.instanceMethod yJx4a65c_size_8abf5, Cond.initialized RJx4a65c]
def wsL_pass_r2 : List Cond := [Cond.code yJx4a65c_size_8abf5 cJx4a65c_size_8abf5 1 (some .int), Cond.fieldLink RJx4a65c 48 "java/util/ArrayList" "size" "I", Cond.methodLink RX7 235 ⟨"java/util/List", "get", "(I)Ljava/lang/Object;"⟩, Cond.selects RJx4a65c ⟨"java/util/List", "get", "(I)Ljava/lang/Object;"⟩ yJx4a65c_get_915e3, Cond.instanceMethod yJx4a65c_get_915e3, Cond.code yJx4a65c_get_915e3 cJx4a65c_get_915e3 2 (some (.object "java/lang/Object")), Cond.methodLink RJx4a65c 118 yJ15_checkIndex_7cf53, Cond.static yJ15_checkIndex_7cf53, Cond.initialized RJ15, Cond.code yJ15_checkIndex_7cf53 cJ15_checkIndex_7cf53 2 (some .int), Cond.methodLink RJ15 105 yJ3_checkIndex_8e157, Cond.static yJ3_checkIndex_8e157, Cond.initialized RJ3, Cond.code yJ3_checkIndex_8e157 cJ3_checkIndex_8e157 3 (some .int), Cond.methodLink RJx4a65c 123 yJx4a65c_elementData_915e3, Cond.instanceMethod yJx4a65c_elementData_915e3, Cond.selects RJx4a65c yJx4a65c_elementData_915e3 yJx4a65c_elementData_915e3, Cond.code yJx4a65c_elementData_915e3 cJx4a65c_elementData_915e3 2 (some (.object "java/lang/Object")), Cond.fieldLink RJx4a65c 9 "java/util/ArrayList" "elementData" "[Ljava/lang/Object;", Cond.methodLink RX7 286 yX3_endIfLate, Cond.instanceMethod yX3_endIfLate, Cond.selects RX3 yX3_endIfLate yX3_endIfLate, Cond.initialized RX3, Cond.code yX3_endIfLate cX3_endIfLate 2 none]
def wsL_pass_r3 : List Cond := [Cond.fieldLink RX3 25 "CardPort$Chargeback" "lastDay" "I", Cond.fieldLink RX3 9 "CardPort$Chargeback" "stage" "I", Cond.methodLink RX3 28 yX3_hasDeadline, Cond.instanceMethod yX3_hasDeadline, Cond.selects RX3 yX3_hasDeadline yX3_hasDeadline, Cond.code yX3_hasDeadline cX3_hasDeadline 1 (some .boolean)]
def wsL_pass : List Cond := .codeWith yL_pass cL_pass 4 (some .int) [(0, 9, 12, 19)] :: ((wsL_pass_r1 ++ (wsL_pass_r2 ++ wsL_pass_r3)) ++ wsX70 ++ wsX00 ++ wsJx4a65c0 ++ wsX30 ++ (vx_atS RX7 217 "java/lang/IllegalArgumentException" ["java/lang/RuntimeException", "java/lang/Exception"]).filter goodWord)
def wsL_paymentOf_r1 : List Cond := [Cond.classLink RL 13 "java/lang/IndexOutOfBoundsException", Cond.classLink RL 19 "java/lang/IllegalArgumentException", Cond.methodLink RL 52 yX7_paymentOf, Cond.instanceMethod yX7_paymentOf, Cond.selects RX7 yX7_paymentOf yX7_paymentOf, Cond.initialized RX7, Cond.code yX7_paymentOf cX7_paymentOf 4 (some .int), Cond.classLink RX7 213 "java/lang/IllegalArgumentException", Cond.initialized "java/lang/IllegalArgumentException", Cond.fieldLink RX7 205 "CardPort$Payment" "card" "LCardPort$Card;", Cond.fieldLink RX7 209 "CardPort$Card" "number" "I", Cond.fieldLink RX7 131 "CardPort$Payment" "shop" "LCardPort$Shop;", Cond.fieldLink RX7 210 "CardPort$Shop" "number" "I", Cond.fieldLink RX7 211 "CardPort$Payment" "amount" "I", Cond.fieldLink RX7 138 "CardPort$Payment" "captured" "I", Cond.fieldLink RX7 212 "CardPort$Payment" "lastDay" "I", Cond.fieldLink RX7 46 "CardPort" "day" "I", Cond.methodLink RX7 118 yX7_paymentAt, Cond.instanceMethod yX7_paymentAt, Cond.selects RX7 yX7_paymentAt yX7_paymentAt, Cond.code yX7_paymentAt cX7_paymentAt 2 (some (.object "CardPort$Payment")), Cond.classLink RX7 247 "java/lang/IndexOutOfBoundsException", Cond.initialized "java/lang/IndexOutOfBoundsException", Cond.fieldLink RX7 36 "CardPort" "payments" "Ljava/util/List;"]
def wsL_paymentOf_r2 : List Cond := [Cond.classLink RX7 108 "CardPort$Payment", Cond.methodLink RX7 94 ⟨"java/util/List", "size", "()I"⟩, Cond.selects RJx4a65c ⟨"java/util/List", "size", "()I"⟩ yJx4a65c_size_8abf5, Cond.instanceMethod yJx4a65c_size_8abf5, Cond.initialized RJx4a65c, Cond.code yJx4a65c_size_8abf5 cJx4a65c_size_8abf5 1 (some .int), Cond.fieldLink RJx4a65c 48 "java/util/ArrayList" "size" "I", Cond.methodLink RX7 235 ⟨"java/util/List", "get", "(I)Ljava/lang/Object;"⟩, Cond.selects RJx4a65c ⟨"java/util/List", "get", "(I)Ljava/lang/Object;"⟩ yJx4a65c_get_915e3, Cond.instanceMethod yJx4a65c_get_915e3, Cond.code yJx4a65c_get_915e3 cJx4a65c_get_915e3 2 (some (.object "java/lang/Object")), Cond.methodLink RJx4a65c 118 yJ15_checkIndex_7cf53, Cond.static yJ15_checkIndex_7cf53, Cond.initialized RJ15, Cond.code yJ15_checkIndex_7cf53 cJ15_checkIndex_7cf53 2 (some .int), Cond.methodLink RJ15 105 yJ3_checkIndex_8e157, Cond.static yJ3_checkIndex_8e157, Cond.initialized RJ3, Cond.code yJ3_checkIndex_8e157 cJ3_checkIndex_8e157 3 (some .int), Cond.methodLink RJx4a65c 123 yJx4a65c_elementData_915e3, Cond.instanceMethod yJx4a65c_elementData_915e3, Cond.selects RJx4a65c yJx4a65c_elementData_915e3 yJx4a65c_elementData_915e3, Cond.code yJx4a65c_elementData_915e3 cJx4a65c_elementData_915e3 2 (some (.object "java/lang/Object")), Cond.fieldLink RJx4a65c 9 "java/util/ArrayList" "elementData" "[Ljava/lang/Object;"]
def wsL_paymentOf_r3 : List Cond := [Cond.methodLink RX7 122 yX5_isAlive, Cond.instanceMethod yX5_isAlive, Cond.selects RX5 yX5_isAlive yX5_isAlive, Cond.initialized RX5, Cond.code yX5_isAlive cX5_isAlive 2 (some .boolean), Cond.fieldLink RX5 13 "CardPort$Payment" "isVoid" "Z", Cond.fieldLink RX5 31 "CardPort$Payment" "lastDay" "I", Cond.methodLink RX7 126 yX5_left, Cond.instanceMethod yX5_left, Cond.selects RX5 yX5_left yX5_left, Cond.code yX5_left cX5_left 1 (some .int), Cond.fieldLink RX5 28 "CardPort$Payment" "amount" "I", Cond.fieldLink RX5 7 "CardPort$Payment" "captured" "I"]
def wsL_paymentOf : List Cond := .codeWith yL_paymentOf cL_paymentOf 5 (some .int) [(0, 10, 13, 13), (0, 10, 17, 19)] :: ((wsL_paymentOf_r1 ++ (wsL_paymentOf_r2 ++ wsL_paymentOf_r3)) ++ wsX50 ++ wsX20 ++ wsX60 ++ wsX70 ++ wsJx4a65c0 ++ (vx_atS RX7 217 "java/lang/IllegalArgumentException" ["java/lang/RuntimeException", "java/lang/Exception"]).filter goodWord ++ (vx_atS RX7 251 "java/lang/IndexOutOfBoundsException" ["java/lang/RuntimeException", "java/lang/Exception"]).filter goodWord)
def wsL_captureOf_r1 : List Cond := [Cond.classLink RL 13 "java/lang/IndexOutOfBoundsException", Cond.classLink RL 19 "java/lang/IllegalArgumentException", Cond.methodLink RL 55 yX7_captureOf, Cond.instanceMethod yX7_captureOf, Cond.selects RX7 yX7_captureOf yX7_captureOf, Cond.initialized RX7, Cond.code yX7_captureOf cX7_captureOf 4 (some .int), Cond.classLink RX7 213 "java/lang/IllegalArgumentException", Cond.initialized "java/lang/IllegalArgumentException", Cond.fieldLink RX7 220 "CardPort$Capture" "payment" "LCardPort$Payment;", Cond.fieldLink RX7 117 "CardPort$Payment" "number" "I", Cond.fieldLink RX7 148 "CardPort$Capture" "amount" "I", Cond.fieldLink RX7 151 "CardPort$Capture" "fee" "I", Cond.fieldLink RX7 171 "CardPort$Capture" "refunded" "I", Cond.methodLink RX7 163 yX7_captureAt, Cond.instanceMethod yX7_captureAt, Cond.selects RX7 yX7_captureAt yX7_captureAt, Cond.code yX7_captureAt cX7_captureAt 2 (some (.object "CardPort$Capture")), Cond.classLink RX7 247 "java/lang/IndexOutOfBoundsException", Cond.initialized "java/lang/IndexOutOfBoundsException", Cond.fieldLink RX7 40 "CardPort" "captures" "Ljava/util/List;", Cond.classLink RX7 129 "CardPort$Capture", Cond.methodLink RX7 94 ⟨"java/util/List", "size", "()I"⟩, Cond.selects RJx4a65c ⟨"java/util/List", "size", "()I"⟩ yJx4a65c_size_8abf5]
def wsL_captureOf_r2 : List Cond := [Cond.instanceMethod yJx4a65c_size_8abf5, Cond.initialized RJx4a65c, Cond.code yJx4a65c_size_8abf5 cJx4a65c_size_8abf5 1 (some .int), Cond.fieldLink RJx4a65c 48 "java/util/ArrayList" "size" "I", Cond.methodLink RX7 235 ⟨"java/util/List", "get", "(I)Ljava/lang/Object;"⟩, Cond.selects RJx4a65c ⟨"java/util/List", "get", "(I)Ljava/lang/Object;"⟩ yJx4a65c_get_915e3, Cond.instanceMethod yJx4a65c_get_915e3, Cond.code yJx4a65c_get_915e3 cJx4a65c_get_915e3 2 (some (.object "java/lang/Object")), Cond.methodLink RJx4a65c 118 yJ15_checkIndex_7cf53, Cond.static yJ15_checkIndex_7cf53, Cond.initialized RJ15, Cond.code yJ15_checkIndex_7cf53 cJ15_checkIndex_7cf53 2 (some .int), Cond.methodLink RJ15 105 yJ3_checkIndex_8e157, Cond.static yJ3_checkIndex_8e157, Cond.initialized RJ3, Cond.code yJ3_checkIndex_8e157 cJ3_checkIndex_8e157 3 (some .int), Cond.methodLink RJx4a65c 123 yJx4a65c_elementData_915e3, Cond.instanceMethod yJx4a65c_elementData_915e3, Cond.selects RJx4a65c yJx4a65c_elementData_915e3 yJx4a65c_elementData_915e3, Cond.code yJx4a65c_elementData_915e3 cJx4a65c_elementData_915e3 2 (some (.object "java/lang/Object")), Cond.fieldLink RJx4a65c 9 "java/util/ArrayList" "elementData" "[Ljava/lang/Object;", Cond.methodLink RX7 167 yX7_givenBackOf, Cond.instanceMethod yX7_givenBackOf, Cond.selects RX7 yX7_givenBackOf yX7_givenBackOf]
def wsL_captureOf_r3 : List Cond := [Cond.code yX7_givenBackOf cX7_givenBackOf 5 (some .int), Cond.fieldLink RX7 43 "CardPort" "chargebacks" "Ljava/util/List;", Cond.classLink RX7 174 "CardPort$Chargeback", Cond.fieldLink RX7 194 "CardPort$Chargeback" "capture" "LCardPort$Capture;", Cond.fieldLink RX7 184 "CardPort$Chargeback" "stage" "I", Cond.fieldLink RX7 198 "CardPort$Chargeback" "amount" "I"]
def wsL_captureOf : List Cond := .codeWith yL_captureOf cL_captureOf 5 (some .int) [(0, 10, 13, 13), (0, 10, 17, 19)] :: ((wsL_captureOf_r1 ++ (wsL_captureOf_r2 ++ wsL_captureOf_r3)) ++ wsX10 ++ wsX50 ++ wsX70 ++ wsJx4a65c0 ++ wsX30 ++ (vx_atS RX7 217 "java/lang/IllegalArgumentException" ["java/lang/RuntimeException", "java/lang/Exception"]).filter goodWord ++ (vx_atS RX7 251 "java/lang/IndexOutOfBoundsException" ["java/lang/RuntimeException", "java/lang/Exception"]).filter goodWord)
def wsL_chargebackOf_r1 : List Cond := [Cond.classLink RL 13 "java/lang/IndexOutOfBoundsException", Cond.classLink RL 19 "java/lang/IllegalArgumentException", Cond.methodLink RL 58 yX7_chargebackOf, Cond.instanceMethod yX7_chargebackOf, Cond.selects RX7 yX7_chargebackOf yX7_chargebackOf, Cond.initialized RX7, Cond.code yX7_chargebackOf cX7_chargebackOf 4 (some .int), Cond.classLink RX7 213 "java/lang/IllegalArgumentException", Cond.initialized "java/lang/IllegalArgumentException", Cond.fieldLink RX7 184 "CardPort$Chargeback" "stage" "I", Cond.fieldLink RX7 194 "CardPort$Chargeback" "capture" "LCardPort$Capture;", Cond.fieldLink RX7 158 "CardPort$Capture" "number" "I", Cond.fieldLink RX7 198 "CardPort$Chargeback" "amount" "I", Cond.fieldLink RX7 187 "CardPort$Chargeback" "lastDay" "I", Cond.methodLink RX7 180 yX7_chargebackAt, Cond.instanceMethod yX7_chargebackAt, Cond.selects RX7 yX7_chargebackAt yX7_chargebackAt, Cond.code yX7_chargebackAt cX7_chargebackAt 2 (some (.object "CardPort$Chargeback")), Cond.classLink RX7 247 "java/lang/IndexOutOfBoundsException", Cond.initialized "java/lang/IndexOutOfBoundsException", Cond.fieldLink RX7 43 "CardPort" "chargebacks" "Ljava/util/List;", Cond.classLink RX7 174 "CardPort$Chargeback", Cond.methodLink RX7 94 ⟨"java/util/List", "size", "()I"⟩, Cond.selects RJx4a65c ⟨"java/util/List", "size", "()I"⟩ yJx4a65c_size_8abf5]
def wsL_chargebackOf_r2 : List Cond := [Cond.instanceMethod yJx4a65c_size_8abf5, Cond.initialized RJx4a65c, Cond.code yJx4a65c_size_8abf5 cJx4a65c_size_8abf5 1 (some .int), Cond.fieldLink RJx4a65c 48 "java/util/ArrayList" "size" "I", Cond.methodLink RX7 235 ⟨"java/util/List", "get", "(I)Ljava/lang/Object;"⟩, Cond.selects RJx4a65c ⟨"java/util/List", "get", "(I)Ljava/lang/Object;"⟩ yJx4a65c_get_915e3, Cond.instanceMethod yJx4a65c_get_915e3, Cond.code yJx4a65c_get_915e3 cJx4a65c_get_915e3 2 (some (.object "java/lang/Object")), Cond.methodLink RJx4a65c 118 yJ15_checkIndex_7cf53, Cond.static yJ15_checkIndex_7cf53, Cond.initialized RJ15, Cond.code yJ15_checkIndex_7cf53 cJ15_checkIndex_7cf53 2 (some .int), Cond.methodLink RJ15 105 yJ3_checkIndex_8e157, Cond.static yJ3_checkIndex_8e157, Cond.initialized RJ3, Cond.code yJ3_checkIndex_8e157 cJ3_checkIndex_8e157 3 (some .int), Cond.methodLink RJx4a65c 123 yJx4a65c_elementData_915e3, Cond.instanceMethod yJx4a65c_elementData_915e3, Cond.selects RJx4a65c yJx4a65c_elementData_915e3 yJx4a65c_elementData_915e3, Cond.code yJx4a65c_elementData_915e3 cJx4a65c_elementData_915e3 2 (some (.object "java/lang/Object")), Cond.fieldLink RJx4a65c 9 "java/util/ArrayList" "elementData" "[Ljava/lang/Object;"]
def wsL_chargebackOf : List Cond := .codeWith yL_chargebackOf cL_chargebackOf 5 (some .int) [(0, 10, 13, 13), (0, 10, 17, 19)] :: ((wsL_chargebackOf_r1 ++ wsL_chargebackOf_r2) ++ wsX30 ++ wsX10 ++ wsX70 ++ wsJx4a65c0 ++ (vx_atS RX7 217 "java/lang/IllegalArgumentException" ["java/lang/RuntimeException", "java/lang/Exception"]).filter goodWord ++ (vx_atS RX7 251 "java/lang/IndexOutOfBoundsException" ["java/lang/RuntimeException", "java/lang/Exception"]).filter goodWord)
def wsL_limit_r1 : List Cond := [Cond.classLink RL 13 "java/lang/IndexOutOfBoundsException", Cond.methodLink RL 61 yX7_limit, Cond.instanceMethod yX7_limit, Cond.selects RX7 yX7_limit yX7_limit, Cond.initialized RX7, Cond.code yX7_limit cX7_limit 2 (some .int), Cond.methodLink RX7 89 yX7_cardAt, Cond.instanceMethod yX7_cardAt, Cond.selects RX7 yX7_cardAt yX7_cardAt, Cond.code yX7_cardAt cX7_cardAt 2 (some (.object "CardPort$Card")), Cond.classLink RX7 247 "java/lang/IndexOutOfBoundsException", Cond.initialized "java/lang/IndexOutOfBoundsException", Cond.fieldLink RX7 29 "CardPort" "cards" "[LCardPort$Card;", Cond.methodLink RX7 104 yX7_limitOf, Cond.instanceMethod yX7_limitOf, Cond.selects RX7 yX7_limitOf yX7_limitOf, Cond.code yX7_limitOf cX7_limitOf 6 (some .int), Cond.fieldLink RX7 40 "CardPort" "captures" "Ljava/util/List;", Cond.classLink RX7 129 "CardPort$Capture", Cond.fieldLink RX7 220 "CardPort$Capture" "payment" "LCardPort$Payment;", Cond.fieldLink RX7 205 "CardPort$Payment" "card" "LCardPort$Card;", Cond.fieldLink RX7 148 "CardPort$Capture" "amount" "I", Cond.methodLink RX7 280 Lib.Math.max.name, Cond.static Lib.Math.max.name]
def wsL_limit_r2 : List Cond := [Cond.initialized "java/lang/Math", Cond.code Lib.Math.max.name Lib.Math.max.code 2 (some .int), Cond.methodLink RX7 94 ⟨"java/util/List", "size", "()I"⟩, Cond.selects RJx4a65c ⟨"java/util/List", "size", "()I"⟩ yJx4a65c_size_8abf5, Cond.instanceMethod yJx4a65c_size_8abf5, Cond.initialized RJx4a65c, Cond.code yJx4a65c_size_8abf5 cJx4a65c_size_8abf5 1 (some .int), Cond.fieldLink RJx4a65c 48 "java/util/ArrayList" "size" "I", Cond.methodLink RX7 235 ⟨"java/util/List", "get", "(I)Ljava/lang/Object;"⟩, Cond.selects RJx4a65c ⟨"java/util/List", "get", "(I)Ljava/lang/Object;"⟩ yJx4a65c_get_915e3, Cond.instanceMethod yJx4a65c_get_915e3, Cond.code yJx4a65c_get_915e3 cJx4a65c_get_915e3 2 (some (.object "java/lang/Object")), Cond.methodLink RJx4a65c 118 yJ15_checkIndex_7cf53, Cond.static yJ15_checkIndex_7cf53, Cond.initialized RJ15, Cond.code yJ15_checkIndex_7cf53 cJ15_checkIndex_7cf53 2 (some .int), Cond.methodLink RJ15 105 yJ3_checkIndex_8e157, Cond.static yJ3_checkIndex_8e157, Cond.initialized RJ3, Cond.code yJ3_checkIndex_8e157 cJ3_checkIndex_8e157 3 (some .int), Cond.methodLink RJx4a65c 123 yJx4a65c_elementData_915e3, Cond.instanceMethod yJx4a65c_elementData_915e3, Cond.selects RJx4a65c yJx4a65c_elementData_915e3 yJx4a65c_elementData_915e3, Cond.code yJx4a65c_elementData_915e3 cJx4a65c_elementData_915e3 2 (some (.object "java/lang/Object"))]
def wsL_limit_r3 : List Cond := [Cond.fieldLink RJx4a65c 9 "java/util/ArrayList" "elementData" "[Ljava/lang/Object;"]
def wsL_limit : List Cond := .codeWith yL_limit cL_limit 4 (some .int) [(0, 9, 12, 13)] :: ((wsL_limit_r1 ++ (wsL_limit_r2 ++ wsL_limit_r3)) ++ wsX70 ++ wsX10 ++ wsX50 ++ wsJx4a65c0 ++ (vx_atS RX7 251 "java/lang/IndexOutOfBoundsException" ["java/lang/RuntimeException", "java/lang/Exception"]).filter goodWord)
def wsL_net : List Cond := .codeWith yL_net cL_net 5 (some .int) [(0, 9, 12, 13)] :: ([.classLink RL 13 "java/lang/IndexOutOfBoundsException", .methodLink RL 64 yX7_net, .instanceMethod yX7_net, .selects RX7 yX7_net yX7_net, .initialized RX7, .code yX7_net cX7_net 4 (some .long), .fieldLink RX7 228 "CardPort$Bank" "netInAll" "J", .fieldLink RX7 232 "CardPort$Bank" "netToday" "J", .methodLink RX7 224 yX7_bankAt, .instanceMethod yX7_bankAt, .selects RX7 yX7_bankAt yX7_bankAt, .code yX7_bankAt cX7_bankAt 2 (some (.object "CardPort$Bank")), .classLink RX7 247 "java/lang/IndexOutOfBoundsException", .initialized "java/lang/IndexOutOfBoundsException", .fieldLink RX7 11 "CardPort" "banks" "[LCardPort$Bank;"] ++ wsX00 ++ wsX70 ++ (vx_atS RX7 251 "java/lang/IndexOutOfBoundsException" ["java/lang/RuntimeException", "java/lang/Exception"]).filter goodWord)
def wsL_netAnew_r1 : List Cond := [Cond.classLink RL 13 "java/lang/IndexOutOfBoundsException", Cond.methodLink RL 68 yX7_netAnew, Cond.instanceMethod yX7_netAnew, Cond.selects RX7 yX7_netAnew yX7_netAnew, Cond.initialized RX7, Cond.code yX7_netAnew cX7_netAnew 7 (some .long), Cond.fieldLink RX7 40 "CardPort" "captures" "Ljava/util/List;", Cond.classLink RX7 129 "CardPort$Capture", Cond.fieldLink RX7 148 "CardPort$Capture" "amount" "I", Cond.fieldLink RX7 151 "CardPort$Capture" "fee" "I", Cond.fieldLink RX7 171 "CardPort$Capture" "refunded" "I", Cond.fieldLink RX7 43 "CardPort" "chargebacks" "Ljava/util/List;", Cond.classLink RX7 174 "CardPort$Chargeback", Cond.fieldLink RX7 194 "CardPort$Chargeback" "capture" "LCardPort$Capture;", Cond.fieldLink RX7 198 "CardPort$Chargeback" "amount" "I", Cond.methodLink RX7 224 yX7_bankAt, Cond.instanceMethod yX7_bankAt, Cond.selects RX7 yX7_bankAt yX7_bankAt, Cond.code yX7_bankAt cX7_bankAt 2 (some (.object "CardPort$Bank")), Cond.classLink RX7 247 "java/lang/IndexOutOfBoundsException", Cond.initialized "java/lang/IndexOutOfBoundsException", Cond.fieldLink RX7 11 "CardPort" "banks" "[LCardPort$Bank;", Cond.methodLink RX7 94 ⟨"java/util/List", "size", "()I"⟩, Cond.selects RJx4a65c ⟨"java/util/List", "size", "()I"⟩ yJx4a65c_size_8abf5]
def wsL_netAnew_r2 : List Cond := [Cond.instanceMethod yJx4a65c_size_8abf5, Cond.initialized RJx4a65c, Cond.code yJx4a65c_size_8abf5 cJx4a65c_size_8abf5 1 (some .int), Cond.fieldLink RJx4a65c 48 "java/util/ArrayList" "size" "I", Cond.methodLink RX7 235 ⟨"java/util/List", "get", "(I)Ljava/lang/Object;"⟩, Cond.selects RJx4a65c ⟨"java/util/List", "get", "(I)Ljava/lang/Object;"⟩ yJx4a65c_get_915e3, Cond.instanceMethod yJx4a65c_get_915e3, Cond.code yJx4a65c_get_915e3 cJx4a65c_get_915e3 2 (some (.object "java/lang/Object")), Cond.methodLink RJx4a65c 118 yJ15_checkIndex_7cf53, Cond.static yJ15_checkIndex_7cf53, Cond.initialized RJ15, Cond.code yJ15_checkIndex_7cf53 cJ15_checkIndex_7cf53 2 (some .int), Cond.methodLink RJ15 105 yJ3_checkIndex_8e157, Cond.static yJ3_checkIndex_8e157, Cond.initialized RJ3, Cond.code yJ3_checkIndex_8e157 cJ3_checkIndex_8e157 3 (some .int), Cond.methodLink RJx4a65c 123 yJx4a65c_elementData_915e3, Cond.instanceMethod yJx4a65c_elementData_915e3, Cond.selects RJx4a65c yJx4a65c_elementData_915e3 yJx4a65c_elementData_915e3, Cond.code yJx4a65c_elementData_915e3 cJx4a65c_elementData_915e3 2 (some (.object "java/lang/Object")), Cond.fieldLink RJx4a65c 9 "java/util/ArrayList" "elementData" "[Ljava/lang/Object;", Cond.methodLink RX7 239 yX1_shareOf, Cond.instanceMethod yX1_shareOf, Cond.selects RX1 yX1_shareOf yX1_shareOf]
def wsL_netAnew_r3 : List Cond := [Cond.initialized RX1, Cond.code yX1_shareOf cX1_shareOf 4 (some .int), Cond.methodLink RX1 45 yX1_shopBank, Cond.instanceMethod yX1_shopBank, Cond.selects RX1 yX1_shopBank yX1_shopBank, Cond.code yX1_shopBank cX1_shopBank 1 (some (.object "CardPort$Bank")), Cond.fieldLink RX1 16 "CardPort$Capture" "payment" "LCardPort$Payment;", Cond.fieldLink RX1 38 "CardPort$Payment" "shop" "LCardPort$Shop;", Cond.fieldLink RX1 42 "CardPort$Shop" "bank" "LCardPort$Bank;", Cond.methodLink RX1 49 yX1_cardBank, Cond.instanceMethod yX1_cardBank, Cond.selects RX1 yX1_cardBank yX1_cardBank, Cond.code yX1_cardBank cX1_cardBank 1 (some (.object "CardPort$Bank")), Cond.fieldLink RX1 26 "CardPort$Payment" "card" "LCardPort$Card;", Cond.fieldLink RX1 32 "CardPort$Card" "bank" "LCardPort$Bank;", Cond.methodLink RX7 243 yX3_isWithCard, Cond.instanceMethod yX3_isWithCard, Cond.selects RX3 yX3_isWithCard yX3_isWithCard, Cond.initialized RX3, Cond.code yX3_isWithCard cX3_isWithCard 1 (some .boolean), Cond.fieldLink RX3 9 "CardPort$Chargeback" "stage" "I"]
def wsL_netAnew : List Cond := .codeWith yL_netAnew cL_netAnew 4 (some .int) [(0, 8, 11, 13)] :: ((wsL_netAnew_r1 ++ (wsL_netAnew_r2 ++ wsL_netAnew_r3)) ++ wsX70 ++ wsX10 ++ wsX30 ++ wsJx4a65c0 ++ wsX50 ++ wsX60 ++ wsX20 ++ (vx_atS RX7 251 "java/lang/IndexOutOfBoundsException" ["java/lang/RuntimeException", "java/lang/Exception"]).filter goodWord)
def wsL_due_r1 : List Cond := [Cond.classLink RL 13 "java/lang/IndexOutOfBoundsException", Cond.methodLink RL 72 yX7_due, Cond.instanceMethod yX7_due, Cond.selects RX7 yX7_due yX7_due, Cond.initialized RX7, Cond.code yX7_due cX7_due 4 (some .int), Cond.classLink RX7 247 "java/lang/IndexOutOfBoundsException", Cond.initialized "java/lang/IndexOutOfBoundsException", Cond.fieldLink RX7 43 "CardPort" "chargebacks" "Ljava/util/List;", Cond.fieldLink RX7 179 "CardPort$Chargeback" "number" "I", Cond.methodLink RX7 94 ⟨"java/util/List", "size", "()I"⟩, Cond.selects RJx4a65c ⟨"java/util/List", "size", "()I"⟩ yJx4a65c_size_8abf5, Cond.instanceMethod yJx4a65c_size_8abf5, Cond.initialized RJx4a65c, Cond.code yJx4a65c_size_8abf5 cJx4a65c_size_8abf5 1 (some .int), Cond.fieldLink RJx4a65c 48 "java/util/ArrayList" "size" "I", Cond.methodLink RX7 252 yX7_nextDueBehind, Cond.instanceMethod yX7_nextDueBehind, Cond.selects RX7 yX7_nextDueBehind yX7_nextDueBehind, Cond.code yX7_nextDueBehind cX7_nextDueBehind 6 (some (.object "CardPort$Chargeback")), Cond.classLink RX7 174 "CardPort$Chargeback", Cond.methodLink RX7 235 ⟨"java/util/List", "get", "(I)Ljava/lang/Object;"⟩, Cond.selects RJx4a65c ⟨"java/util/List", "get", "(I)Ljava/lang/Object;"⟩ yJx4a65c_get_915e3, Cond.instanceMethod yJx4a65c_get_915e3]
def wsL_due_r2 : List Cond := [Cond.code yJx4a65c_get_915e3 cJx4a65c_get_915e3 2 (some (.object "java/lang/Object")), Cond.methodLink RJx4a65c 118 yJ15_checkIndex_7cf53, Cond.static yJ15_checkIndex_7cf53, Cond.initialized RJ15, Cond.code yJ15_checkIndex_7cf53 cJ15_checkIndex_7cf53 2 (some .int), Cond.methodLink RJ15 105 yJ3_checkIndex_8e157, Cond.static yJ3_checkIndex_8e157, Cond.initialized RJ3, Cond.code yJ3_checkIndex_8e157 cJ3_checkIndex_8e157 3 (some .int), Cond.methodLink RJx4a65c 123 yJx4a65c_elementData_915e3, Cond.instanceMethod yJx4a65c_elementData_915e3, Cond.selects RJx4a65c yJx4a65c_elementData_915e3 yJx4a65c_elementData_915e3, Cond.code yJx4a65c_elementData_915e3 cJx4a65c_elementData_915e3 2 (some (.object "java/lang/Object")), Cond.fieldLink RJx4a65c 9 "java/util/ArrayList" "elementData" "[Ljava/lang/Object;", Cond.methodLink RX7 289 yX3_isDueBefore, Cond.instanceMethod yX3_isDueBefore, Cond.selects RX3 yX3_isDueBefore yX3_isDueBefore, Cond.initialized RX3, Cond.code yX3_isDueBefore cX3_isDueBefore 2 (some .boolean), Cond.fieldLink RX3 25 "CardPort$Chargeback" "lastDay" "I", Cond.fieldLink RX3 22 "CardPort$Chargeback" "amount" "I", Cond.fieldLink RX3 15 "CardPort$Chargeback" "number" "I", Cond.methodLink RX7 293 yX3_hasDeadline, Cond.instanceMethod yX3_hasDeadline]
def wsL_due_r3 : List Cond := [Cond.selects RX3 yX3_hasDeadline yX3_hasDeadline, Cond.code yX3_hasDeadline cX3_hasDeadline 1 (some .boolean), Cond.fieldLink RX3 9 "CardPort$Chargeback" "stage" "I"]
def wsL_due : List Cond := .codeWith yL_due cL_due 4 (some .int) [(0, 9, 12, 13)] :: ((wsL_due_r1 ++ (wsL_due_r2 ++ wsL_due_r3)) ++ wsX70 ++ wsX30 ++ wsJx4a65c0 ++ (vx_atS RX7 251 "java/lang/IndexOutOfBoundsException" ["java/lang/RuntimeException", "java/lang/Exception"]).filter goodWord)
def wsL_count_r1 : List Cond := [Cond.classLink RL 19 "java/lang/IllegalArgumentException", Cond.methodLink RL 75 yX7_count, Cond.instanceMethod yX7_count, Cond.selects RX7 yX7_count yX7_count, Cond.initialized RX7, Cond.code yX7_count cX7_count 2 (some .int), Cond.classLink RX7 213 "java/lang/IllegalArgumentException", Cond.initialized "java/lang/IllegalArgumentException", Cond.fieldLink RX7 36 "CardPort" "payments" "Ljava/util/List;", Cond.fieldLink RX7 40 "CardPort" "captures" "Ljava/util/List;", Cond.fieldLink RX7 43 "CardPort" "chargebacks" "Ljava/util/List;", Cond.fieldLink RX7 46 "CardPort" "day" "I", Cond.methodLink RX7 94 ⟨"java/util/List", "size", "()I"⟩, Cond.selects RJx4a65c ⟨"java/util/List", "size", "()I"⟩ yJx4a65c_size_8abf5, Cond.instanceMethod yJx4a65c_size_8abf5, Cond.initialized RJx4a65c, Cond.code yJx4a65c_size_8abf5 cJx4a65c_size_8abf5 1 (some .int), Cond.fieldLink RJx4a65c 48 "java/util/ArrayList" "size" "I", Cond.methodLink RX7 256 yX7_sumOfFees, Cond.instanceMethod yX7_sumOfFees, Cond.selects RX7 yX7_sumOfFees yX7_sumOfFees, Cond.code yX7_sumOfFees cX7_sumOfFees 3 (some .int), Cond.classLink RX7 129 "CardPort$Capture", Cond.fieldLink RX7 151 "CardPort$Capture" "fee" "I"]
def wsL_count_r2 : List Cond := [Cond.methodLink RX7 235 ⟨"java/util/List", "get", "(I)Ljava/lang/Object;"⟩, Cond.selects RJx4a65c ⟨"java/util/List", "get", "(I)Ljava/lang/Object;"⟩ yJx4a65c_get_915e3, Cond.instanceMethod yJx4a65c_get_915e3, Cond.code yJx4a65c_get_915e3 cJx4a65c_get_915e3 2 (some (.object "java/lang/Object")), Cond.methodLink RJx4a65c 118 yJ15_checkIndex_7cf53, Cond.static yJ15_checkIndex_7cf53, Cond.initialized RJ15, Cond.code yJ15_checkIndex_7cf53 cJ15_checkIndex_7cf53 2 (some .int), Cond.methodLink RJ15 105 yJ3_checkIndex_8e157, Cond.static yJ3_checkIndex_8e157, Cond.initialized RJ3, Cond.code yJ3_checkIndex_8e157 cJ3_checkIndex_8e157 3 (some .int), Cond.methodLink RJx4a65c 123 yJx4a65c_elementData_915e3, Cond.instanceMethod yJx4a65c_elementData_915e3, Cond.selects RJx4a65c yJx4a65c_elementData_915e3 yJx4a65c_elementData_915e3, Cond.code yJx4a65c_elementData_915e3 cJx4a65c_elementData_915e3 2 (some (.object "java/lang/Object")), Cond.fieldLink RJx4a65c 9 "java/util/ArrayList" "elementData" "[Ljava/lang/Object;"]
def wsL_count : List Cond := .codeWith yL_count cL_count 4 (some .int) [(0, 9, 12, 19)] :: ((wsL_count_r1 ++ wsL_count_r2) ++ wsX70 ++ wsJx4a65c0 ++ wsX10 ++ (vx_atS RX7 217 "java/lang/IllegalArgumentException" ["java/lang/RuntimeException", "java/lang/Exception"]).filter goodWord)
def wsL_law0_r1 : List Cond := [Cond.classLink RL 8 RX7, Cond.instantiable RX7 8, Cond.initialized RX7, Cond.classLink RL 79 RX8, Cond.instantiable RX8 25, Cond.initialized RX8, Cond.arrayClass .long, Cond.methodLink RL 78 yX7_init, Cond.instanceMethod yX7_init, Cond.code yX7_init cX7_init 2 none, Cond.methodLink RX7 1 objectInit, Cond.instanceMethod objectInit, Cond.code objectInit ⟨#[0xb1]⟩ 1 none, Cond.classLink RX7 9 RX0, Cond.fieldLink RX7 11 "CardPort" "banks" "[LCardPort$Bank;", Cond.classLink RX7 15 RX4, Cond.fieldLink RX7 17 "CardPort" "kinds" "[LCardPort$Kind;", Cond.classLink RX7 21 RX6, Cond.fieldLink RX7 23 "CardPort" "shops" "[LCardPort$Shop;", Cond.classLink RX7 27 RX2, Cond.fieldLink RX7 29 "CardPort" "cards" "[LCardPort$Card;", Cond.classLink RX7 33 RJx4a65c, Cond.instantiable RJx4a65c 3, Cond.initialized RJx4a65c]
def wsL_law0_r2 : List Cond := [Cond.fieldLink RX7 36 "CardPort" "payments" "Ljava/util/List;", Cond.fieldLink RX7 40 "CardPort" "captures" "Ljava/util/List;", Cond.fieldLink RX7 43 "CardPort" "chargebacks" "Ljava/util/List;", Cond.fieldLink RX7 46 "CardPort" "day" "I", Cond.instantiable RX0 2, Cond.initialized RX0, Cond.instantiable RX4 3, Cond.initialized RX4, Cond.instantiable RX6 3, Cond.initialized RX6, Cond.instantiable RX2 2, Cond.initialized RX2, Cond.methodLink RX7 35 yJx4a65c_init_da8c8, Cond.instanceMethod yJx4a65c_init_da8c8, Cond.code yJx4a65c_init_da8c8 cJx4a65c_init_da8c8 1 none, Cond.fieldLink RJx4a65c 39 "java/util/ArrayList" "DEFAULTCAPACITY_EMPTY_ELEMENTDATA" "[Ljava/lang/Object;", Cond.fieldLink RJx4a65c 9 "java/util/ArrayList" "elementData" "[Ljava/lang/Object;", Cond.methodLink RJx4a65c 1 yJxc12de_init_da8c8, Cond.instanceMethod yJxc12de_init_da8c8, Cond.initialized RJxc12de, Cond.code yJxc12de_init_da8c8 cJxc12de_init_da8c8 1 none, Cond.fieldLink RJxc12de 7 "java/util/AbstractList" "modCount" "I", Cond.methodLink RJxc12de 1 yJxa1e45_init_da8c8, Cond.instanceMethod yJxa1e45_init_da8c8]
def wsL_law0_r3 : List Cond := [Cond.initialized RJxa1e45, Cond.code yJxa1e45_init_da8c8 cJxa1e45_init_da8c8 1 none, Cond.methodLink RJxa1e45 1 objectInit, Cond.instanceMethod yX0_init, Cond.code yX0_init cX0_init 1 none, Cond.methodLink RX0 1 objectInit, Cond.fieldLink RX0 7 "CardPort$Bank" "netInAll" "J", Cond.fieldLink RX0 13 "CardPort$Bank" "netToday" "J", Cond.methodLink RX7 51 yX4_init, Cond.instanceMethod yX4_init, Cond.code yX4_init cX4_init 2 none, Cond.methodLink RX4 3 objectInit, Cond.fieldLink RX4 9 "CardPort$Kind" "rate" "I", Cond.fieldLink RX4 15 "CardPort$Kind" "cap" "I", Cond.fieldLink RX4 18 "CardPort$Kind" "number" "I", Cond.methodLink RX7 54 yX6_init, Cond.instanceMethod yX6_init, Cond.code yX6_init cX6_init 4 none, Cond.methodLink RX6 1 objectInit, Cond.fieldLink RX6 7 "CardPort$Shop" "number" "I", Cond.fieldLink RX6 13 "CardPort$Shop" "bank" "LCardPort$Bank;", Cond.fieldLink RX6 17 "CardPort$Shop" "kind" "LCardPort$Kind;", Cond.methodLink RX7 57 yX2_init, Cond.instanceMethod yX2_init]
def wsL_law0_r4 : List Cond := [Cond.code yX2_init cX2_init 3 none, Cond.methodLink RX2 1 objectInit, Cond.fieldLink RX2 7 "CardPort$Card" "number" "I", Cond.fieldLink RX2 13 "CardPort$Card" "bank" "LCardPort$Bank;", Cond.methodLink RL 81 yX8_init, Cond.instanceMethod yX8_init, Cond.code yX8_init cX8_init 2 none, Cond.methodLink RX8 1 objectInit, Cond.arrayClass .int, Cond.fieldLink RX8 7 "CardPortModel" "kindOf" "[I", Cond.fieldLink RX8 13 "CardPortModel" "rate" "[I", Cond.fieldLink RX8 16 "CardPortModel" "cap" "[I", Cond.fieldLink RX8 19 "CardPortModel" "card" "[I", Cond.fieldLink RX8 22 "CardPortModel" "shop" "[I", Cond.fieldLink RX8 25 "CardPortModel" "amount" "[I", Cond.fieldLink RX8 28 "CardPortModel" "captured" "[I", Cond.fieldLink RX8 31 "CardPortModel" "last" "[I", Cond.arrayClass .boolean, Cond.fieldLink RX8 34 "CardPortModel" "isVoid" "[Z", Cond.fieldLink RX8 38 "CardPortModel" "payment" "[I", Cond.fieldLink RX8 41 "CardPortModel" "size" "[I", Cond.fieldLink RX8 44 "CardPortModel" "fee" "[I", Cond.fieldLink RX8 47 "CardPortModel" "refunded" "[I", Cond.fieldLink RX8 50 "CardPortModel" "state" "[I"]
def wsL_law0_r5 : List Cond := [Cond.fieldLink RX8 53 "CardPortModel" "capture" "[I", Cond.fieldLink RX8 56 "CardPortModel" "disputed" "[I", Cond.fieldLink RX8 59 "CardPortModel" "until" "[I", Cond.fieldLink RX8 62 "CardPortModel" "all" "[J", Cond.fieldLink RX8 66 "CardPortModel" "today" "[J", Cond.methodLink RL 82 yL_shop, Cond.static yL_shop, Cond.initialized RL, Cond.codeWith yL_shop cL_shop 5 (some .int) [(0, 10, 13, 13)], Cond.classLink RL 13 "java/lang/IndexOutOfBoundsException", Cond.methodLink RL 7 yX7_shop, Cond.instanceMethod yX7_shop, Cond.selects RX7 yX7_shop yX7_shop, Cond.code yX7_shop cX7_shop 6 (some .int), Cond.fieldLink RX7 68 "CardPort$Shop" "kind" "LCardPort$Kind;", Cond.fieldLink RX7 72 "CardPort$Kind" "number" "I", Cond.methodLink RX7 60 yX7_shopAt, Cond.instanceMethod yX7_shopAt, Cond.selects RX7 yX7_shopAt yX7_shopAt, Cond.code yX7_shopAt cX7_shopAt 2 (some (.object "CardPort$Shop")), Cond.classLink RX7 247 "java/lang/IndexOutOfBoundsException", Cond.initialized "java/lang/IndexOutOfBoundsException", Cond.methodLink RX7 64 yX7_kindAt, Cond.instanceMethod yX7_kindAt]
def wsL_law0_r6 : List Cond := [Cond.selects RX7 yX7_kindAt yX7_kindAt, Cond.code yX7_kindAt cX7_kindAt 2 (some (.object "CardPort$Kind")), Cond.methodLink RL 87 yX8_shop, Cond.instanceMethod yX8_shop, Cond.selects RX8 yX8_shop yX8_shop, Cond.code yX8_shop cX8_shop 4 (some .int), Cond.methodLink RX8 78 yX8_isShop, Cond.static yX8_isShop, Cond.code yX8_isShop cX8_isShop 1 (some .boolean), Cond.methodLink RX8 74 yX8_isIn, Cond.static yX8_isIn, Cond.code yX8_isIn cX8_isIn 3 (some .boolean), Cond.methodLink RX8 82 yX8_isKind, Cond.static yX8_isKind, Cond.code yX8_isKind cX8_isKind 1 (some .boolean), Cond.methodLink RX8 85 yX8_fails, Cond.instanceMethod yX8_fails, Cond.selects RX8 yX8_fails yX8_fails, Cond.code yX8_fails cX8_fails 2 (some .boolean), Cond.fieldLink RX8 69 "CardPortModel" "thrown" "I", Cond.methodLink RL 88 yX8_thrown, Cond.instanceMethod yX8_thrown, Cond.selects RX8 yX8_thrown yX8_thrown, Cond.code yX8_thrown cX8_thrown 1 (some .int)]
def wsL_law0_r7 : List Cond := [Cond.methodLink RL 92 yL_kind, Cond.static yL_kind, Cond.codeWith yL_kind cL_kind 6 (some .int) [(0, 12, 15, 13), (0, 12, 19, 19)], Cond.classLink RL 19 "java/lang/IllegalArgumentException", Cond.methodLink RL 15 yX7_kind, Cond.instanceMethod yX7_kind, Cond.selects RX7 yX7_kind yX7_kind, Cond.code yX7_kind cX7_kind 5 (some .int), Cond.fieldLink RX7 79 "CardPort$Kind" "rate" "I", Cond.fieldLink RX7 82 "CardPort$Kind" "cap" "I", Cond.methodLink RX7 75 yX7_requireRange, Cond.static yX7_requireRange, Cond.code yX7_requireRange cX7_requireRange 3 none, Cond.classLink RX7 213 "java/lang/IllegalArgumentException", Cond.initialized "java/lang/IllegalArgumentException", Cond.methodLink RX7 85 yX4_feeOf, Cond.instanceMethod yX4_feeOf, Cond.selects RX4 yX4_feeOf yX4_feeOf, Cond.code yX4_feeOf cX4_feeOf 2 (some .int), Cond.methodLink RX4 21 Lib.Math.min.name, Cond.static Lib.Math.min.name, Cond.initialized "java/lang/Math", Cond.code Lib.Math.min.name Lib.Math.min.code 2 (some .int), Cond.methodLink RL 95 yX8_kind]
def wsL_law0_r8 : List Cond := [Cond.instanceMethod yX8_kind, Cond.selects RX8 yX8_kind yX8_kind, Cond.code yX8_kind cX8_kind 5 (some .int), Cond.methodLink RX8 90 yX8_feeOf, Cond.instanceMethod yX8_feeOf, Cond.selects RX8 yX8_feeOf yX8_feeOf, Cond.code yX8_feeOf cX8_feeOf 5 (some .int), Cond.constantLong RX8 88 (1000), Cond.methodLink RL 96 yL_authorise, Cond.static yL_authorise, Cond.codeWith yL_authorise cL_authorise 6 (some .int) [(0, 12, 15, 13), (0, 12, 19, 19), (0, 12, 23, 24)], Cond.classLink RL 24 "java/lang/IllegalStateException", Cond.methodLink RL 21 yX7_authorise, Cond.instanceMethod yX7_authorise, Cond.selects RX7 yX7_authorise yX7_authorise, Cond.code yX7_authorise cX7_authorise 7 (some .int), Cond.constant RX7 93 (100000), Cond.classLink RX7 108 RX5, Cond.instantiable RX5 7, Cond.initialized RX5, Cond.fieldLink RX7 117 "CardPort$Payment" "number" "I", Cond.methodLink RX7 89 yX7_cardAt, Cond.instanceMethod yX7_cardAt, Cond.selects RX7 yX7_cardAt yX7_cardAt]
def wsL_law0_r9 : List Cond := [Cond.code yX7_cardAt cX7_cardAt 2 (some (.object "CardPort$Card")), Cond.methodLink RX7 94 ⟨"java/util/List", "size", "()I"⟩, Cond.selects RJx4a65c ⟨"java/util/List", "size", "()I"⟩ yJx4a65c_size_8abf5, Cond.instanceMethod yJx4a65c_size_8abf5, Cond.code yJx4a65c_size_8abf5 cJx4a65c_size_8abf5 1 (some .int), Cond.fieldLink RJx4a65c 48 "java/util/ArrayList" "size" "I", Cond.methodLink RX7 100 yX7_requirePossible, Cond.static yX7_requirePossible, Cond.code yX7_requirePossible cX7_requirePossible 1 none, Cond.classLink RX7 275 "java/lang/IllegalStateException", Cond.initialized "java/lang/IllegalStateException", Cond.methodLink RX7 104 yX7_limitOf, Cond.instanceMethod yX7_limitOf, Cond.selects RX7 yX7_limitOf yX7_limitOf, Cond.code yX7_limitOf cX7_limitOf 6 (some .int), Cond.classLink RX7 129 "CardPort$Capture", Cond.fieldLink RX7 220 "CardPort$Capture" "payment" "LCardPort$Payment;", Cond.fieldLink RX7 205 "CardPort$Payment" "card" "LCardPort$Card;", Cond.fieldLink RX7 148 "CardPort$Capture" "amount" "I", Cond.methodLink RX7 280 Lib.Math.max.name, Cond.static Lib.Math.max.name, Cond.code Lib.Math.max.name Lib.Math.max.code 2 (some .int), Cond.methodLink RX7 235 ⟨"java/util/List", "get", "(I)Ljava/lang/Object;"⟩, Cond.selects RJx4a65c ⟨"java/util/List", "get", "(I)Ljava/lang/Object;"⟩ yJx4a65c_get_915e3]
def wsL_law0_r10 : List Cond := [Cond.instanceMethod yJx4a65c_get_915e3, Cond.code yJx4a65c_get_915e3 cJx4a65c_get_915e3 2 (some (.object "java/lang/Object")), Cond.methodLink RJx4a65c 118 yJ15_checkIndex_7cf53, Cond.static yJ15_checkIndex_7cf53, Cond.initialized RJ15, Cond.code yJ15_checkIndex_7cf53 cJ15_checkIndex_7cf53 2 (some .int), Cond.methodLink RJ15 105 yJ3_checkIndex_8e157, Cond.static yJ3_checkIndex_8e157, Cond.initialized RJ3, Cond.code yJ3_checkIndex_8e157 cJ3_checkIndex_8e157 3 (some .int), Cond.methodLink RJx4a65c 123 yJx4a65c_elementData_915e3, Cond.instanceMethod yJx4a65c_elementData_915e3, Cond.selects RJx4a65c yJx4a65c_elementData_915e3 yJx4a65c_elementData_915e3, Cond.code yJx4a65c_elementData_915e3 cJx4a65c_elementData_915e3 2 (some (.object "java/lang/Object")), Cond.methodLink RX7 110 yX5_init, Cond.instanceMethod yX5_init, Cond.code yX5_init cX5_init 6 none, Cond.methodLink RX5 1 objectInit, Cond.fieldLink RX5 7 "CardPort$Payment" "captured" "I", Cond.fieldLink RX5 13 "CardPort$Payment" "isVoid" "Z", Cond.fieldLink RX5 17 "CardPort$Payment" "number" "I", Cond.fieldLink RX5 20 "CardPort$Payment" "card" "LCardPort$Card;", Cond.fieldLink RX5 24 "CardPort$Payment" "shop" "LCardPort$Shop;", Cond.fieldLink RX5 28 "CardPort$Payment" "amount" "I"]
def wsL_law0_r11 : List Cond := [Cond.fieldLink RX5 31 "CardPort$Payment" "lastDay" "I", Cond.methodLink RX7 113 ⟨"java/util/List", "add", "(Ljava/lang/Object;)Z"⟩, Cond.selects RJx4a65c ⟨"java/util/List", "add", "(Ljava/lang/Object;)Z"⟩ yJx4a65c_add_9ea2d, Cond.instanceMethod yJx4a65c_add_9ea2d, Cond.code yJx4a65c_add_9ea2d cJx4a65c_add_9ea2d 2 (some .boolean), Cond.fieldLink RJx4a65c 63 "java/util/ArrayList" "modCount" "I", Cond.sameField "java/util/ArrayList" "java/util/AbstractList" "modCount" "I", Cond.methodLink RJx4a65c 131 yJx4a65c_add_72be8, Cond.instanceMethod yJx4a65c_add_72be8, Cond.selects RJx4a65c yJx4a65c_add_72be8 yJx4a65c_add_72be8, Cond.code yJx4a65c_add_72be8 cJx4a65c_add_72be8 4 none, Cond.methodLink RJx4a65c 129 yJx4a65c_grow_d5877, Cond.instanceMethod yJx4a65c_grow_d5877, Cond.selects RJx4a65c yJx4a65c_grow_d5877 yJx4a65c_grow_d5877, Cond.code yJx4a65c_grow_d5877 cJx4a65c_grow_d5877 1 (some (.array (.object "java/lang/Object"))), Cond.methodLink RJx4a65c 69 yJx4a65c_grow_92f84, Cond.instanceMethod yJx4a65c_grow_92f84, Cond.selects RJx4a65c yJx4a65c_grow_92f84 yJx4a65c_grow_92f84, Cond.code yJx4a65c_grow_92f84 cJx4a65c_grow_92f84 4 (some (.array (.object "java/lang/Object"))), Cond.methodLink RJx4a65c 79 Lib.Math.max.name, Cond.classLink RJx4a65c 7 "java/lang/Object", Cond.methodLink RJx4a65c 73 yJ8_newLength_cabcc, Cond.static yJ8_newLength_cabcc, Cond.initialized RJ8]
def wsL_law0_r12 : List Cond := [Cond.code yJ8_newLength_cabcc cJ8_newLength_cabcc 4 (some .int), Cond.methodLink RJ8 194 Lib.Math.max.name, Cond.constant RJ8 200 (2147483639), Cond.methodLink RJ8 201 yJ8_hugeLength_7cf53, Cond.static yJ8_hugeLength_7cf53, Cond.code yJ8_hugeLength_7cf53 cJ8_hugeLength_7cf53 3 (some .int), Cond.methodLink RJx4a65c 66 yJ7_copyOf_1904c, Cond.static yJ7_copyOf_1904c, Cond.initialized RJ7, Cond.code yJ7_copyOf_1904c cJ7_copyOf_1904c 2 (some (.array (.object "java/lang/Object"))), Cond.methodLink RJ7 86 ⟨"java/lang/Object", "getClass", "()Ljava/lang/Class;"⟩, Cond.selects "[Ljava/lang/Object;" ⟨"java/lang/Object", "getClass", "()Ljava/lang/Class;"⟩ ⟨"java/lang/Object", "getClass", "()Ljava/lang/Class;"⟩, Cond.instanceMethod ⟨"java/lang/Object", "getClass", "()Ljava/lang/Class;"⟩, Cond.native ⟨"java/lang/Object", "getClass", "()Ljava/lang/Class;"⟩, Cond.methodLink RJ7 300 yJ7_copyOf_6403c, Cond.static yJ7_copyOf_6403c, Cond.code yJ7_copyOf_6403c cJ7_copyOf_6403c 4 (some (.array (.object "java/lang/Object"))), Cond.classLink RJ7 110 "[Ljava/lang/Object;", Cond.classLink RJ7 2 "java/lang/Object", Cond.methodLink RJ7 304 Lib.Math.min.name, Cond.methodLink RJ7 150 arraycopyName, Cond.native arraycopyName, Cond.static arraycopyName, Cond.initialized "java/lang/System"]
def wsL_law0_r13 : List Cond := [Cond.methodLink RL 98 yX8_authorise, Cond.instanceMethod yX8_authorise, Cond.selects RX8 yX8_authorise yX8_authorise, Cond.code yX8_authorise cX8_authorise 5 (some .int), Cond.fieldLink RX8 107 "CardPortModel" "payments" "I", Cond.fieldLink RX8 114 "CardPortModel" "day" "I", Cond.methodLink RX8 101 yX8_isCard, Cond.static yX8_isCard, Cond.code yX8_isCard cX8_isCard 1 (some .boolean), Cond.methodLink RX8 104 yX8_isAmount, Cond.static yX8_isAmount, Cond.code yX8_isAmount cX8_isAmount 1 (some .boolean), Cond.constant RX8 73 (100000), Cond.methodLink RX8 110 yX8_limitOf, Cond.instanceMethod yX8_limitOf, Cond.selects RX8 yX8_limitOf yX8_limitOf, Cond.code yX8_limitOf cX8_limitOf 7 (some .int), Cond.fieldLink RX8 94 "CardPortModel" "captures" "I", Cond.constantLong RX8 97 (3), Cond.constantLong RX8 99 (500), Cond.methodLink RL 99 yL_capture, Cond.static yL_capture, Cond.codeWith yL_capture cL_capture 5 (some .int) [(0, 10, 13, 13), (0, 10, 17, 19), (0, 10, 21, 24)], Cond.methodLink RL 26 yX7_capture]
def wsL_law0_r14 : List Cond := [Cond.instanceMethod yX7_capture, Cond.selects RX7 yX7_capture yX7_capture, Cond.code yX7_capture cX7_capture 5 (some .int), Cond.classLink RX7 129 RX1, Cond.instantiable RX1 5, Cond.initialized RX1, Cond.fieldLink RX7 131 "CardPort$Payment" "shop" "LCardPort$Shop;", Cond.fieldLink RX7 138 "CardPort$Payment" "captured" "I", Cond.fieldLink RX7 151 "CardPort$Capture" "fee" "I", Cond.fieldLink RX7 158 "CardPort$Capture" "number" "I", Cond.methodLink RX7 118 yX7_paymentAt, Cond.instanceMethod yX7_paymentAt, Cond.selects RX7 yX7_paymentAt yX7_paymentAt, Cond.code yX7_paymentAt cX7_paymentAt 2 (some (.object "CardPort$Payment")), Cond.classLink RX7 108 "CardPort$Payment", Cond.methodLink RX7 122 yX5_isAlive, Cond.instanceMethod yX5_isAlive, Cond.selects RX5 yX5_isAlive yX5_isAlive, Cond.code yX5_isAlive cX5_isAlive 2 (some .boolean), Cond.methodLink RX7 126 yX5_left, Cond.instanceMethod yX5_left, Cond.selects RX5 yX5_left yX5_left, Cond.code yX5_left cX5_left 1 (some .int), Cond.methodLink RX7 135 yX1_init]
def wsL_law0_r15 : List Cond := [Cond.instanceMethod yX1_init, Cond.code yX1_init cX1_init 5 none, Cond.methodLink RX1 1 objectInit, Cond.fieldLink RX1 7 "CardPort$Capture" "refunded" "I", Cond.fieldLink RX1 13 "CardPort$Capture" "number" "I", Cond.fieldLink RX1 16 "CardPort$Capture" "payment" "LCardPort$Payment;", Cond.fieldLink RX1 20 "CardPort$Capture" "amount" "I", Cond.fieldLink RX1 23 "CardPort$Capture" "fee" "I", Cond.methodLink RX7 141 yX1_cardBank, Cond.instanceMethod yX1_cardBank, Cond.selects RX1 yX1_cardBank yX1_cardBank, Cond.code yX1_cardBank cX1_cardBank 1 (some (.object "CardPort$Bank")), Cond.fieldLink RX1 26 "CardPort$Payment" "card" "LCardPort$Card;", Cond.fieldLink RX1 32 "CardPort$Card" "bank" "LCardPort$Bank;", Cond.methodLink RX7 145 yX1_shopBank, Cond.instanceMethod yX1_shopBank, Cond.selects RX1 yX1_shopBank yX1_shopBank, Cond.code yX1_shopBank cX1_shopBank 1 (some (.object "CardPort$Bank")), Cond.fieldLink RX1 38 "CardPort$Payment" "shop" "LCardPort$Shop;", Cond.fieldLink RX1 42 "CardPort$Shop" "bank" "LCardPort$Bank;", Cond.methodLink RX7 154 yX0_pay, Cond.instanceMethod yX0_pay, Cond.selects RX0 yX0_pay yX0_pay, Cond.code yX0_pay cX0_pay 3 none]
def wsL_law0_r16 : List Cond := [Cond.methodLink RX0 16 yX0_book, Cond.instanceMethod yX0_book, Cond.selects RX0 yX0_book yX0_book, Cond.code yX0_book cX0_book 2 none, Cond.methodLink RL 101 yX8_capture, Cond.instanceMethod yX8_capture, Cond.selects RX8 yX8_capture yX8_capture, Cond.code yX8_capture cX8_capture 5 (some .int), Cond.fieldLink RX8 123 "CardPortModel" "fees" "I", Cond.methodLink RX8 117 yX8_isPayment, Cond.instanceMethod yX8_isPayment, Cond.selects RX8 yX8_isPayment yX8_isPayment, Cond.code yX8_isPayment cX8_isPayment 2 (some .boolean), Cond.methodLink RX8 120 yX8_isOpen, Cond.instanceMethod yX8_isOpen, Cond.selects RX8 yX8_isOpen yX8_isOpen, Cond.code yX8_isOpen cX8_isOpen 2 (some .boolean), Cond.methodLink RX8 126 yX8_cardBank, Cond.instanceMethod yX8_cardBank, Cond.selects RX8 yX8_cardBank yX8_cardBank, Cond.code yX8_cardBank cX8_cardBank 2 (some .int), Cond.methodLink RX8 129 yX8_shopBank, Cond.instanceMethod yX8_shopBank, Cond.selects RX8 yX8_shopBank yX8_shopBank]
def wsL_law0_r17 : List Cond := [Cond.code yX8_shopBank cX8_shopBank 2 (some .int), Cond.methodLink RX8 132 yX8_pays, Cond.instanceMethod yX8_pays, Cond.selects RX8 yX8_pays yX8_pays, Cond.code yX8_pays cX8_pays 4 none, Cond.methodLink RL 102 yL_cancel, Cond.static yL_cancel, Cond.codeWith yL_cancel cL_cancel 4 (some .int) [(0, 9, 12, 13), (0, 9, 15, 24)], Cond.methodLink RL 29 yX7_cancel, Cond.instanceMethod yX7_cancel, Cond.selects RX7 yX7_cancel yX7_cancel, Cond.code yX7_cancel cX7_cancel 3 (some .int), Cond.fieldLink RX7 159 "CardPort$Payment" "isVoid" "Z", Cond.methodLink RL 105 yX8_cancel, Cond.instanceMethod yX8_cancel, Cond.selects RX8 yX8_cancel yX8_cancel, Cond.code yX8_cancel cX8_cancel 2 (some .int), Cond.methodLink RL 106 yL_refund, Cond.static yL_refund, Cond.codeWith yL_refund cL_refund 5 (some .int) [(0, 10, 13, 13), (0, 10, 17, 19), (0, 10, 21, 24)], Cond.methodLink RL 33 yX7_refund, Cond.instanceMethod yX7_refund, Cond.selects RX7 yX7_refund yX7_refund, Cond.code yX7_refund cX7_refund 4 (some .int)]
def wsL_law0_r18 : List Cond := [Cond.fieldLink RX7 171 "CardPort$Capture" "refunded" "I", Cond.methodLink RX7 163 yX7_captureAt, Cond.instanceMethod yX7_captureAt, Cond.selects RX7 yX7_captureAt yX7_captureAt, Cond.code yX7_captureAt cX7_captureAt 2 (some (.object "CardPort$Capture")), Cond.methodLink RX7 167 yX7_givenBackOf, Cond.instanceMethod yX7_givenBackOf, Cond.selects RX7 yX7_givenBackOf yX7_givenBackOf, Cond.code yX7_givenBackOf cX7_givenBackOf 5 (some .int), Cond.classLink RX7 174 "CardPort$Chargeback", Cond.fieldLink RX7 194 "CardPort$Chargeback" "capture" "LCardPort$Capture;", Cond.fieldLink RX7 184 "CardPort$Chargeback" "stage" "I", Cond.fieldLink RX7 198 "CardPort$Chargeback" "amount" "I", Cond.methodLink RL 108 yX8_refund, Cond.instanceMethod yX8_refund, Cond.selects RX8 yX8_refund yX8_refund, Cond.code yX8_refund cX8_refund 3 (some .int), Cond.methodLink RX8 139 yX8_isCapture, Cond.instanceMethod yX8_isCapture, Cond.selects RX8 yX8_isCapture yX8_isCapture, Cond.code yX8_isCapture cX8_isCapture 2 (some .boolean), Cond.methodLink RX8 145 yX8_canGive, Cond.instanceMethod yX8_canGive, Cond.selects RX8 yX8_canGive yX8_canGive]
def wsL_law0_r19 : List Cond := [Cond.code yX8_canGive cX8_canGive 3 (some .boolean), Cond.methodLink RX8 142 yX8_givenBack, Cond.instanceMethod yX8_givenBack, Cond.selects RX8 yX8_givenBack yX8_givenBack, Cond.code yX8_givenBack cX8_givenBack 4 (some .int), Cond.fieldLink RX8 136 "CardPortModel" "chargebacks" "I", Cond.methodLink RL 109 yL_dispute, Cond.static yL_dispute, Cond.codeWith yL_dispute cL_dispute 5 (some .int) [(0, 10, 13, 13), (0, 10, 17, 19), (0, 10, 21, 24)], Cond.methodLink RL 36 yX7_dispute, Cond.instanceMethod yX7_dispute, Cond.selects RX7 yX7_dispute yX7_dispute, Cond.code yX7_dispute cX7_dispute 5 (some .int), Cond.classLink RX7 174 RX3, Cond.instantiable RX3 5, Cond.initialized RX3, Cond.fieldLink RX7 179 "CardPort$Chargeback" "number" "I", Cond.methodLink RX7 176 yX3_init, Cond.instanceMethod yX3_init, Cond.code yX3_init cX3_init 5 none, Cond.methodLink RX3 3 objectInit, Cond.fieldLink RX3 9 "CardPort$Chargeback" "stage" "I", Cond.fieldLink RX3 15 "CardPort$Chargeback" "number" "I", Cond.fieldLink RX3 18 "CardPort$Chargeback" "capture" "LCardPort$Capture;"]
def wsL_law0_r20 : List Cond := [Cond.fieldLink RX3 22 "CardPort$Chargeback" "amount" "I", Cond.fieldLink RX3 25 "CardPort$Chargeback" "lastDay" "I", Cond.methodLink RL 111 yX8_dispute, Cond.instanceMethod yX8_dispute, Cond.selects RX8 yX8_dispute yX8_dispute, Cond.code yX8_dispute cX8_dispute 5 (some .int), Cond.methodLink RL 112 yL_answer, Cond.static yL_answer, Cond.codeWith yL_answer cL_answer 4 (some .int) [(0, 9, 12, 13), (0, 9, 15, 24)], Cond.methodLink RL 39 yX7_answer, Cond.instanceMethod yX7_answer, Cond.selects RX7 yX7_answer yX7_answer, Cond.code yX7_answer cX7_answer 3 (some .int), Cond.fieldLink RX7 187 "CardPort$Chargeback" "lastDay" "I", Cond.methodLink RX7 180 yX7_chargebackAt, Cond.instanceMethod yX7_chargebackAt, Cond.selects RX7 yX7_chargebackAt yX7_chargebackAt, Cond.code yX7_chargebackAt cX7_chargebackAt 2 (some (.object "CardPort$Chargeback")), Cond.methodLink RX7 190 yX7_payBackToShop, Cond.static yX7_payBackToShop, Cond.code yX7_payBackToShop cX7_payBackToShop 1 none, Cond.methodLink RL 114 yX8_answer, Cond.instanceMethod yX8_answer, Cond.selects RX8 yX8_answer yX8_answer]
def wsL_law0_r21 : List Cond := [Cond.code yX8_answer cX8_answer 2 (some .int), Cond.methodLink RX8 149 yX8_misses, Cond.instanceMethod yX8_misses, Cond.selects RX8 yX8_misses yX8_misses, Cond.code yX8_misses cX8_misses 3 (some .int), Cond.methodLink RX8 152 yX8_paysBack, Cond.instanceMethod yX8_paysBack, Cond.selects RX8 yX8_paysBack yX8_paysBack, Cond.code yX8_paysBack cX8_paysBack 2 none, Cond.methodLink RL 115 yL_press, Cond.static yL_press, Cond.codeWith yL_press cL_press 4 (some .int) [(0, 9, 12, 13), (0, 9, 15, 24)], Cond.methodLink RL 42 yX7_press, Cond.instanceMethod yX7_press, Cond.selects RX7 yX7_press yX7_press, Cond.code yX7_press cX7_press 3 (some .int), Cond.methodLink RX7 199 yX7_countPressed, Cond.instanceMethod yX7_countPressed, Cond.selects RX7 yX7_countPressed yX7_countPressed, Cond.code yX7_countPressed cX7_countPressed 3 (some .int), Cond.methodLink RL 117 yX8_press, Cond.instanceMethod yX8_press, Cond.selects RX8 yX8_press yX8_press, Cond.code yX8_press cX8_press 4 (some .int)]
def wsL_law0_r22 : List Cond := [Cond.methodLink RL 118 yL_rule, Cond.static yL_rule, Cond.codeWith yL_rule cL_rule 5 (some .int) [(0, 10, 13, 13), (0, 10, 17, 24)], Cond.methodLink RL 45 yX7_rule, Cond.instanceMethod yX7_rule, Cond.selects RX7 yX7_rule yX7_rule, Cond.code yX7_rule cX7_rule 4 (some .int), Cond.methodLink RL 121 yX8_rule, Cond.instanceMethod yX8_rule, Cond.selects RX8 yX8_rule yX8_rule, Cond.code yX8_rule cX8_rule 3 (some .int), Cond.methodLink RL 122 yL_pass, Cond.static yL_pass, Cond.codeWith yL_pass cL_pass 4 (some .int) [(0, 9, 12, 19)], Cond.methodLink RL 49 yX7_pass, Cond.instanceMethod yX7_pass, Cond.selects RX7 yX7_pass yX7_pass, Cond.code yX7_pass cX7_pass 3 (some .int), Cond.methodLink RX7 202 yX7_beginNextDay, Cond.instanceMethod yX7_beginNextDay, Cond.selects RX7 yX7_beginNextDay yX7_beginNextDay, Cond.code yX7_beginNextDay cX7_beginNextDay 2 none, Cond.fieldLink RX7 232 "CardPort$Bank" "netToday" "J", Cond.methodLink RX7 286 yX3_endIfLate]
def wsL_law0_r23 : List Cond := [Cond.instanceMethod yX3_endIfLate, Cond.selects RX3 yX3_endIfLate yX3_endIfLate, Cond.code yX3_endIfLate cX3_endIfLate 2 none, Cond.methodLink RX3 28 yX3_hasDeadline, Cond.instanceMethod yX3_hasDeadline, Cond.selects RX3 yX3_hasDeadline yX3_hasDeadline, Cond.code yX3_hasDeadline cX3_hasDeadline 1 (some .boolean), Cond.methodLink RL 124 yX8_pass, Cond.instanceMethod yX8_pass, Cond.selects RX8 yX8_pass yX8_pass, Cond.code yX8_pass cX8_pass 4 (some .int), Cond.methodLink RL 125 yL_paymentOf, Cond.static yL_paymentOf, Cond.codeWith yL_paymentOf cL_paymentOf 5 (some .int) [(0, 10, 13, 13), (0, 10, 17, 19)], Cond.methodLink RL 52 yX7_paymentOf, Cond.instanceMethod yX7_paymentOf, Cond.selects RX7 yX7_paymentOf yX7_paymentOf, Cond.code yX7_paymentOf cX7_paymentOf 4 (some .int), Cond.fieldLink RX7 209 "CardPort$Card" "number" "I", Cond.fieldLink RX7 210 "CardPort$Shop" "number" "I", Cond.fieldLink RX7 211 "CardPort$Payment" "amount" "I", Cond.fieldLink RX7 212 "CardPort$Payment" "lastDay" "I", Cond.methodLink RL 127 yX8_paymentOf, Cond.instanceMethod yX8_paymentOf]
def wsL_law0_r24 : List Cond := [Cond.selects RX8 yX8_paymentOf yX8_paymentOf, Cond.code yX8_paymentOf cX8_paymentOf 3 (some .int), Cond.methodLink RL 128 yL_captureOf, Cond.static yL_captureOf, Cond.codeWith yL_captureOf cL_captureOf 5 (some .int) [(0, 10, 13, 13), (0, 10, 17, 19)], Cond.methodLink RL 55 yX7_captureOf, Cond.instanceMethod yX7_captureOf, Cond.selects RX7 yX7_captureOf yX7_captureOf, Cond.code yX7_captureOf cX7_captureOf 4 (some .int), Cond.methodLink RL 130 yX8_captureOf, Cond.instanceMethod yX8_captureOf, Cond.selects RX8 yX8_captureOf yX8_captureOf, Cond.code yX8_captureOf cX8_captureOf 3 (some .int), Cond.methodLink RL 131 yL_chargebackOf, Cond.static yL_chargebackOf, Cond.codeWith yL_chargebackOf cL_chargebackOf 5 (some .int) [(0, 10, 13, 13), (0, 10, 17, 19)], Cond.methodLink RL 58 yX7_chargebackOf, Cond.instanceMethod yX7_chargebackOf, Cond.selects RX7 yX7_chargebackOf yX7_chargebackOf, Cond.code yX7_chargebackOf cX7_chargebackOf 4 (some .int), Cond.methodLink RL 133 yX8_chargebackOf, Cond.instanceMethod yX8_chargebackOf, Cond.selects RX8 yX8_chargebackOf yX8_chargebackOf, Cond.code yX8_chargebackOf cX8_chargebackOf 3 (some .int)]
def wsL_law0_r25 : List Cond := [Cond.methodLink RX8 156 yX8_isDue, Cond.instanceMethod yX8_isDue, Cond.selects RX8 yX8_isDue yX8_isDue, Cond.code yX8_isDue cX8_isDue 2 (some .boolean), Cond.methodLink RL 134 yL_limit, Cond.static yL_limit, Cond.codeWith yL_limit cL_limit 4 (some .int) [(0, 9, 12, 13)], Cond.methodLink RL 61 yX7_limit, Cond.instanceMethod yX7_limit, Cond.selects RX7 yX7_limit yX7_limit, Cond.code yX7_limit cX7_limit 2 (some .int), Cond.methodLink RL 136 yX8_limit, Cond.instanceMethod yX8_limit, Cond.selects RX8 yX8_limit yX8_limit, Cond.code yX8_limit cX8_limit 2 (some .int), Cond.methodLink RL 137 yL_net, Cond.static yL_net, Cond.codeWith yL_net cL_net 5 (some .int) [(0, 9, 12, 13)], Cond.methodLink RL 64 yX7_net, Cond.instanceMethod yX7_net, Cond.selects RX7 yX7_net yX7_net, Cond.code yX7_net cX7_net 4 (some .long), Cond.fieldLink RX7 228 "CardPort$Bank" "netInAll" "J", Cond.methodLink RX7 224 yX7_bankAt]
def wsL_law0_r26 : List Cond := [Cond.instanceMethod yX7_bankAt, Cond.selects RX7 yX7_bankAt yX7_bankAt, Cond.code yX7_bankAt cX7_bankAt 2 (some (.object "CardPort$Bank")), Cond.methodLink RL 139 yX8_net, Cond.instanceMethod yX8_net, Cond.selects RX8 yX8_net yX8_net, Cond.code yX8_net cX8_net 3 (some .long), Cond.methodLink RX8 159 yX8_isBank, Cond.static yX8_isBank, Cond.code yX8_isBank cX8_isBank 1 (some .boolean), Cond.methodLink RL 140 yL_netAnew, Cond.static yL_netAnew, Cond.codeWith yL_netAnew cL_netAnew 4 (some .int) [(0, 8, 11, 13)], Cond.methodLink RL 68 yX7_netAnew, Cond.instanceMethod yX7_netAnew, Cond.selects RX7 yX7_netAnew yX7_netAnew, Cond.code yX7_netAnew cX7_netAnew 7 (some .long), Cond.methodLink RX7 239 yX1_shareOf, Cond.instanceMethod yX1_shareOf, Cond.selects RX1 yX1_shareOf yX1_shareOf, Cond.code yX1_shareOf cX1_shareOf 4 (some .int), Cond.methodLink RX1 45 yX1_shopBank, Cond.methodLink RX1 49 yX1_cardBank, Cond.methodLink RX7 243 yX3_isWithCard]
def wsL_law0_r27 : List Cond := [Cond.instanceMethod yX3_isWithCard, Cond.selects RX3 yX3_isWithCard yX3_isWithCard, Cond.code yX3_isWithCard cX3_isWithCard 1 (some .boolean), Cond.methodLink RL 142 yX8_netAnew, Cond.instanceMethod yX8_netAnew, Cond.selects RX8 yX8_netAnew yX8_netAnew, Cond.code yX8_netAnew cX8_netAnew 2 (some .long), Cond.methodLink RL 143 yL_due, Cond.static yL_due, Cond.codeWith yL_due cL_due 4 (some .int) [(0, 9, 12, 13)], Cond.methodLink RL 72 yX7_due, Cond.instanceMethod yX7_due, Cond.selects RX7 yX7_due yX7_due, Cond.code yX7_due cX7_due 4 (some .int), Cond.methodLink RX7 252 yX7_nextDueBehind, Cond.instanceMethod yX7_nextDueBehind, Cond.selects RX7 yX7_nextDueBehind yX7_nextDueBehind, Cond.code yX7_nextDueBehind cX7_nextDueBehind 6 (some (.object "CardPort$Chargeback")), Cond.methodLink RX7 289 yX3_isDueBefore, Cond.instanceMethod yX3_isDueBefore, Cond.selects RX3 yX3_isDueBefore yX3_isDueBefore, Cond.code yX3_isDueBefore cX3_isDueBefore 2 (some .boolean), Cond.methodLink RX7 293 yX3_hasDeadline, Cond.methodLink RL 145 yX8_due]
def wsL_law0_r28 : List Cond := [Cond.instanceMethod yX8_due, Cond.selects RX8 yX8_due yX8_due, Cond.code yX8_due cX8_due 6 (some .int), Cond.methodLink RX8 162 yX8_isAhead, Cond.instanceMethod yX8_isAhead, Cond.selects RX8 yX8_isAhead yX8_isAhead, Cond.code yX8_isAhead cX8_isAhead 3 (some .boolean), Cond.methodLink RL 146 yL_count, Cond.static yL_count, Cond.codeWith yL_count cL_count 4 (some .int) [(0, 9, 12, 19)], Cond.methodLink RL 75 yX7_count, Cond.instanceMethod yX7_count, Cond.selects RX7 yX7_count yX7_count, Cond.code yX7_count cX7_count 2 (some .int), Cond.methodLink RX7 256 yX7_sumOfFees, Cond.instanceMethod yX7_sumOfFees, Cond.selects RX7 yX7_sumOfFees yX7_sumOfFees, Cond.code yX7_sumOfFees cX7_sumOfFees 3 (some .int), Cond.methodLink RL 148 yX8_count, Cond.instanceMethod yX8_count, Cond.selects RX8 yX8_count yX8_count, Cond.code yX8_count cX8_count 2 (some .int)]
def wsL_law0 : List Cond := (wsL_law0_r1 ++ (wsL_law0_r2 ++ (wsL_law0_r3 ++ (wsL_law0_r4 ++ (wsL_law0_r5 ++ (wsL_law0_r6 ++ (wsL_law0_r7 ++ (wsL_law0_r8 ++ (wsL_law0_r9 ++ (wsL_law0_r10 ++ (wsL_law0_r11 ++ (wsL_law0_r12 ++ (wsL_law0_r13 ++ (wsL_law0_r14 ++ (wsL_law0_r15 ++ (wsL_law0_r16 ++ (wsL_law0_r17 ++ (wsL_law0_r18 ++ (wsL_law0_r19 ++ (wsL_law0_r20 ++ (wsL_law0_r21 ++ (wsL_law0_r22 ++ (wsL_law0_r23 ++ (wsL_law0_r24 ++ (wsL_law0_r25 ++ (wsL_law0_r26 ++ (wsL_law0_r27 ++ wsL_law0_r28))))))))))))))))))))))))))) ++ wsX70 ++ wsX80 ++ wsJx4a65c0 ++ wsX00 ++ wsX40 ++ wsX60 ++ wsX20 ++ wsX50 ++ wsX10 ++ wsX30 ++ ([] : List Cond)
def wsL_law : List Cond := wsL_law0 ++ (vx_atS RX7 251 "java/lang/IndexOutOfBoundsException" ["java/lang/RuntimeException", "java/lang/Exception"]).filter goodWord ++ (vx_atS RX7 217 "java/lang/IllegalArgumentException" ["java/lang/RuntimeException", "java/lang/Exception"]).filter goodWord ++ (vx_atS RX7 279 "java/lang/IllegalStateException" ["java/lang/RuntimeException", "java/lang/Exception"]).filter goodWord
end
section
theorem dX0_init_0 : decode cX0_init 0 = .ok (.aload_n 0, 1) := by decide +kernel
theorem dX0_init_1 : decode cX0_init 1 = .ok (.invokespecial 1, 3) := by decide +kernel
theorem dX0_init_4 : decode cX0_init 4 = .ok (.aload_n 0, 1) := by decide +kernel
theorem dX0_init_5 : decode cX0_init 5 = .ok (.lconst 0, 1) := by decide +kernel
theorem dX0_init_6 : decode cX0_init 6 = .ok (.putfield 7, 3) := by decide +kernel
theorem dX0_init_9 : decode cX0_init 9 = .ok (.aload_n 0, 1) := by decide +kernel
theorem dX0_init_10 : decode cX0_init 10 = .ok (.lconst 0, 1) := by decide +kernel
theorem dX0_init_11 : decode cX0_init 11 = .ok (.putfield 13, 3) := by decide +kernel
theorem dX0_init_14 : decode cX0_init 14 = .ok (.return_, 1) := by decide +kernel
set_option maxRecDepth 20000 in
theorem ggX0_pay_X0_book : GoodIn wsX0_pay wsX0_book := goodIn_r _ [5, 6, 7, 8, 9] (by decide +kernel) (by decide +kernel)
set_option maxRecDepth 20000 in
theorem gX0_pay_X0_book : GoodIn wsX0_pay (wsV RX0 16 RX0 yX0_book wsX0_book) := goodIn_app (goodIn_of _ (by decide +kernel)) ggX0_pay_X0_book
theorem dX0_pay_0 : decode cX0_pay 0 = .ok (.aload_n 0, 1) := by decide +kernel
theorem dX0_pay_1 : decode cX0_pay 1 = .ok (.iload_n 2, 1) := by decide +kernel
theorem dX0_pay_2 : decode cX0_pay 2 = .ok (.ineg, 1) := by decide +kernel
theorem dX0_pay_3 : decode cX0_pay 3 = .ok (.invokevirtual 16, 3) := by decide +kernel
theorem dX0_pay_6 : decode cX0_pay 6 = .ok (.aload_n 1, 1) := by decide +kernel
theorem dX0_pay_7 : decode cX0_pay 7 = .ok (.iload_n 2, 1) := by decide +kernel
theorem dX0_pay_8 : decode cX0_pay 8 = .ok (.invokevirtual 16, 3) := by decide +kernel
theorem dX0_pay_11 : decode cX0_pay 11 = .ok (.return_, 1) := by decide +kernel
theorem dX0_book_0 : decode cX0_book 0 = .ok (.aload_n 0, 1) := by decide +kernel
theorem dX0_book_1 : decode cX0_book 1 = .ok (.dup, 1) := by decide +kernel
theorem dX0_book_2 : decode cX0_book 2 = .ok (.getfield 7, 3) := by decide +kernel
theorem dX0_book_5 : decode cX0_book 5 = .ok (.iload_n 1, 1) := by decide +kernel
theorem dX0_book_6 : decode cX0_book 6 = .ok (.i2l, 1) := by decide +kernel
theorem dX0_book_7 : decode cX0_book 7 = .ok (.ladd, 1) := by decide +kernel
theorem dX0_book_8 : decode cX0_book 8 = .ok (.putfield 7, 3) := by decide +kernel
theorem dX0_book_11 : decode cX0_book 11 = .ok (.aload_n 0, 1) := by decide +kernel
theorem dX0_book_12 : decode cX0_book 12 = .ok (.dup, 1) := by decide +kernel
theorem dX0_book_13 : decode cX0_book 13 = .ok (.getfield 13, 3) := by decide +kernel
theorem dX0_book_16 : decode cX0_book 16 = .ok (.iload_n 1, 1) := by decide +kernel
theorem dX0_book_17 : decode cX0_book 17 = .ok (.i2l, 1) := by decide +kernel
theorem dX0_book_18 : decode cX0_book 18 = .ok (.ladd, 1) := by decide +kernel
theorem dX0_book_19 : decode cX0_book 19 = .ok (.putfield 13, 3) := by decide +kernel
theorem dX0_book_22 : decode cX0_book 22 = .ok (.return_, 1) := by decide +kernel
theorem dX1_init_0 : decode cX1_init 0 = .ok (.aload_n 0, 1) := by decide +kernel
theorem dX1_init_1 : decode cX1_init 1 = .ok (.invokespecial 1, 3) := by decide +kernel
theorem dX1_init_4 : decode cX1_init 4 = .ok (.aload_n 0, 1) := by decide +kernel
theorem dX1_init_5 : decode cX1_init 5 = .ok (.iconst 0, 1) := by decide +kernel
theorem dX1_init_6 : decode cX1_init 6 = .ok (.putfield 7, 3) := by decide +kernel
theorem dX1_init_9 : decode cX1_init 9 = .ok (.aload_n 0, 1) := by decide +kernel
theorem dX1_init_10 : decode cX1_init 10 = .ok (.iload_n 1, 1) := by decide +kernel
theorem dX1_init_11 : decode cX1_init 11 = .ok (.putfield 13, 3) := by decide +kernel
theorem dX1_init_14 : decode cX1_init 14 = .ok (.aload_n 0, 1) := by decide +kernel
theorem dX1_init_15 : decode cX1_init 15 = .ok (.aload_n 2, 1) := by decide +kernel
theorem dX1_init_16 : decode cX1_init 16 = .ok (.putfield 16, 3) := by decide +kernel
theorem dX1_init_19 : decode cX1_init 19 = .ok (.aload_n 0, 1) := by decide +kernel
theorem dX1_init_20 : decode cX1_init 20 = .ok (.iload_n 3, 1) := by decide +kernel
theorem dX1_init_21 : decode cX1_init 21 = .ok (.putfield 20, 3) := by decide +kernel
theorem dX1_init_24 : decode cX1_init 24 = .ok (.aload_n 0, 1) := by decide +kernel
theorem dX1_init_25 : decode cX1_init 25 = .ok (.iload 4, 2) := by decide +kernel
theorem dX1_init_27 : decode cX1_init 27 = .ok (.putfield 23, 3) := by decide +kernel
theorem dX1_init_30 : decode cX1_init 30 = .ok (.return_, 1) := by decide +kernel
theorem dX1_cardBank_0 : decode cX1_cardBank 0 = .ok (.aload_n 0, 1) := by decide +kernel
theorem dX1_cardBank_1 : decode cX1_cardBank 1 = .ok (.getfield 16, 3) := by decide +kernel
theorem dX1_cardBank_4 : decode cX1_cardBank 4 = .ok (.getfield 26, 3) := by decide +kernel
theorem dX1_cardBank_7 : decode cX1_cardBank 7 = .ok (.getfield 32, 3) := by decide +kernel
theorem dX1_cardBank_10 : decode cX1_cardBank 10 = .ok (.areturn, 1) := by decide +kernel
theorem dX1_shopBank_0 : decode cX1_shopBank 0 = .ok (.aload_n 0, 1) := by decide +kernel
theorem dX1_shopBank_1 : decode cX1_shopBank 1 = .ok (.getfield 16, 3) := by decide +kernel
theorem dX1_shopBank_4 : decode cX1_shopBank 4 = .ok (.getfield 38, 3) := by decide +kernel
theorem dX1_shopBank_7 : decode cX1_shopBank 7 = .ok (.getfield 42, 3) := by decide +kernel
theorem dX1_shopBank_10 : decode cX1_shopBank 10 = .ok (.areturn, 1) := by decide +kernel
set_option maxRecDepth 20000 in
theorem ggX1_shareOf_X1_shopBank : GoodIn wsX1_shareOf wsX1_shopBank := goodIn_r _ [5, 6, 7, 8, 15, 16, 17, 18, 19, 20, 21, 22, 23, 24, 25, 26, 27, 28, 29] (by decide +kernel) (by decide +kernel)
set_option maxRecDepth 20000 in
theorem gX1_shareOf_X1_shopBank : GoodIn wsX1_shareOf (wsV RX1 45 RX1 yX1_shopBank wsX1_shopBank) := goodIn_app (goodIn_of _ (by decide +kernel)) ggX1_shareOf_X1_shopBank
set_option maxRecDepth 20000 in
theorem ggX1_shareOf_X1_cardBank : GoodIn wsX1_shareOf wsX1_cardBank := goodIn_r _ [12, 6, 13, 14, 15, 16, 17, 18, 19, 20, 21, 22, 23, 24, 25, 26, 30, 31] (by decide +kernel) (by decide +kernel)
set_option maxRecDepth 20000 in
theorem gX1_shareOf_X1_cardBank : GoodIn wsX1_shareOf (wsV RX1 49 RX1 yX1_cardBank wsX1_cardBank) := goodIn_app (goodIn_of _ (by decide +kernel)) ggX1_shareOf_X1_cardBank
theorem dX1_shareOf_0 : decode cX1_shareOf 0 = .ok (.iconst 0, 1) := by decide +kernel
theorem dX1_shareOf_1 : decode cX1_shareOf 1 = .ok (.istore_n 3, 1) := by decide +kernel
theorem dX1_shareOf_2 : decode cX1_shareOf 2 = .ok (.aload_n 0, 1) := by decide +kernel
theorem dX1_shareOf_3 : decode cX1_shareOf 3 = .ok (.invokevirtual 45, 3) := by decide +kernel
theorem dX1_shareOf_6 : decode cX1_shareOf 6 = .ok (.aload_n 1, 1) := by decide +kernel
theorem dX1_shareOf_7 : decode cX1_shareOf 7 = .ok (.if_acmp .ne 7, 3) := by decide +kernel
theorem dX1_shareOf_10 : decode cX1_shareOf 10 = .ok (.iload_n 3, 1) := by decide +kernel
theorem dX1_shareOf_11 : decode cX1_shareOf 11 = .ok (.iload_n 2, 1) := by decide +kernel
theorem dX1_shareOf_12 : decode cX1_shareOf 12 = .ok (.iadd, 1) := by decide +kernel
theorem dX1_shareOf_13 : decode cX1_shareOf 13 = .ok (.istore_n 3, 1) := by decide +kernel
theorem dX1_shareOf_14 : decode cX1_shareOf 14 = .ok (.aload_n 0, 1) := by decide +kernel
theorem dX1_shareOf_15 : decode cX1_shareOf 15 = .ok (.invokevirtual 49, 3) := by decide +kernel
theorem dX1_shareOf_18 : decode cX1_shareOf 18 = .ok (.aload_n 1, 1) := by decide +kernel
theorem dX1_shareOf_19 : decode cX1_shareOf 19 = .ok (.if_acmp .ne 7, 3) := by decide +kernel
theorem dX1_shareOf_22 : decode cX1_shareOf 22 = .ok (.iload_n 3, 1) := by decide +kernel
theorem dX1_shareOf_23 : decode cX1_shareOf 23 = .ok (.iload_n 2, 1) := by decide +kernel
theorem dX1_shareOf_24 : decode cX1_shareOf 24 = .ok (.isub, 1) := by decide +kernel
theorem dX1_shareOf_25 : decode cX1_shareOf 25 = .ok (.istore_n 3, 1) := by decide +kernel
theorem dX1_shareOf_26 : decode cX1_shareOf 26 = .ok (.iload_n 3, 1) := by decide +kernel
theorem dX1_shareOf_27 : decode cX1_shareOf 27 = .ok (.ireturn, 1) := by decide +kernel
theorem dX2_init_0 : decode cX2_init 0 = .ok (.aload_n 0, 1) := by decide +kernel
theorem dX2_init_1 : decode cX2_init 1 = .ok (.invokespecial 1, 3) := by decide +kernel
theorem dX2_init_4 : decode cX2_init 4 = .ok (.aload_n 0, 1) := by decide +kernel
theorem dX2_init_5 : decode cX2_init 5 = .ok (.iload_n 1, 1) := by decide +kernel
theorem dX2_init_6 : decode cX2_init 6 = .ok (.putfield 7, 3) := by decide +kernel
theorem dX2_init_9 : decode cX2_init 9 = .ok (.aload_n 0, 1) := by decide +kernel
theorem dX2_init_10 : decode cX2_init 10 = .ok (.aload_n 2, 1) := by decide +kernel
theorem dX2_init_11 : decode cX2_init 11 = .ok (.putfield 13, 3) := by decide +kernel
theorem dX2_init_14 : decode cX2_init 14 = .ok (.return_, 1) := by decide +kernel
theorem dX3_init_0 : decode cX3_init 0 = .ok (.aload_n 0, 1) := by decide +kernel
theorem dX3_init_1 : decode cX3_init 1 = .ok (.invokespecial 3, 3) := by decide +kernel
theorem dX3_init_4 : decode cX3_init 4 = .ok (.aload_n 0, 1) := by decide +kernel
theorem dX3_init_5 : decode cX3_init 5 = .ok (.iconst 0, 1) := by decide +kernel
theorem dX3_init_6 : decode cX3_init 6 = .ok (.putfield 9, 3) := by decide +kernel
theorem dX3_init_9 : decode cX3_init 9 = .ok (.aload_n 0, 1) := by decide +kernel
theorem dX3_init_10 : decode cX3_init 10 = .ok (.iload_n 1, 1) := by decide +kernel
theorem dX3_init_11 : decode cX3_init 11 = .ok (.putfield 15, 3) := by decide +kernel
theorem dX3_init_14 : decode cX3_init 14 = .ok (.aload_n 0, 1) := by decide +kernel
theorem dX3_init_15 : decode cX3_init 15 = .ok (.aload_n 2, 1) := by decide +kernel
theorem dX3_init_16 : decode cX3_init 16 = .ok (.putfield 18, 3) := by decide +kernel
theorem dX3_init_19 : decode cX3_init 19 = .ok (.aload_n 0, 1) := by decide +kernel
theorem dX3_init_20 : decode cX3_init 20 = .ok (.iload_n 3, 1) := by decide +kernel
theorem dX3_init_21 : decode cX3_init 21 = .ok (.putfield 22, 3) := by decide +kernel
theorem dX3_init_24 : decode cX3_init 24 = .ok (.aload_n 0, 1) := by decide +kernel
theorem dX3_init_25 : decode cX3_init 25 = .ok (.iload 4, 2) := by decide +kernel
theorem dX3_init_27 : decode cX3_init 27 = .ok (.putfield 25, 3) := by decide +kernel
theorem dX3_init_30 : decode cX3_init 30 = .ok (.return_, 1) := by decide +kernel
theorem dX3_hasDeadline_0 : decode cX3_hasDeadline 0 = .ok (.aload_n 0, 1) := by decide +kernel
theorem dX3_hasDeadline_1 : decode cX3_hasDeadline 1 = .ok (.getfield 9, 3) := by decide +kernel
theorem dX3_hasDeadline_4 : decode cX3_hasDeadline 4 = .ok (.ifCond .eq 11, 3) := by decide +kernel
theorem dX3_hasDeadline_7 : decode cX3_hasDeadline 7 = .ok (.aload_n 0, 1) := by decide +kernel
theorem dX3_hasDeadline_8 : decode cX3_hasDeadline 8 = .ok (.getfield 9, 3) := by decide +kernel
theorem dX3_hasDeadline_11 : decode cX3_hasDeadline 11 = .ok (.iconst 1, 1) := by decide +kernel
theorem dX3_hasDeadline_12 : decode cX3_hasDeadline 12 = .ok (.if_icmp .ne 7, 3) := by decide +kernel
theorem dX3_hasDeadline_15 : decode cX3_hasDeadline 15 = .ok (.iconst 1, 1) := by decide +kernel
theorem dX3_hasDeadline_16 : decode cX3_hasDeadline 16 = .ok (.goto 4, 3) := by decide +kernel
theorem dX3_hasDeadline_19 : decode cX3_hasDeadline 19 = .ok (.iconst 0, 1) := by decide +kernel
theorem dX3_hasDeadline_20 : decode cX3_hasDeadline 20 = .ok (.ireturn, 1) := by decide +kernel
theorem dX3_isWithCard_0 : decode cX3_isWithCard 0 = .ok (.aload_n 0, 1) := by decide +kernel
theorem dX3_isWithCard_1 : decode cX3_isWithCard 1 = .ok (.getfield 9, 3) := by decide +kernel
theorem dX3_isWithCard_4 : decode cX3_isWithCard 4 = .ok (.ifCond .eq 19, 3) := by decide +kernel
theorem dX3_isWithCard_7 : decode cX3_isWithCard 7 = .ok (.aload_n 0, 1) := by decide +kernel
theorem dX3_isWithCard_8 : decode cX3_isWithCard 8 = .ok (.getfield 9, 3) := by decide +kernel
theorem dX3_isWithCard_11 : decode cX3_isWithCard 11 = .ok (.iconst 2, 1) := by decide +kernel
theorem dX3_isWithCard_12 : decode cX3_isWithCard 12 = .ok (.if_icmp .eq 11, 3) := by decide +kernel
theorem dX3_isWithCard_15 : decode cX3_isWithCard 15 = .ok (.aload_n 0, 1) := by decide +kernel
theorem dX3_isWithCard_16 : decode cX3_isWithCard 16 = .ok (.getfield 9, 3) := by decide +kernel
theorem dX3_isWithCard_19 : decode cX3_isWithCard 19 = .ok (.iconst 3, 1) := by decide +kernel
theorem dX3_isWithCard_20 : decode cX3_isWithCard 20 = .ok (.if_icmp .ne 7, 3) := by decide +kernel
theorem dX3_isWithCard_23 : decode cX3_isWithCard 23 = .ok (.iconst 1, 1) := by decide +kernel
theorem dX3_isWithCard_24 : decode cX3_isWithCard 24 = .ok (.goto 4, 3) := by decide +kernel
theorem dX3_isWithCard_27 : decode cX3_isWithCard 27 = .ok (.iconst 0, 1) := by decide +kernel
theorem dX3_isWithCard_28 : decode cX3_isWithCard 28 = .ok (.ireturn, 1) := by decide +kernel
set_option maxRecDepth 20000 in
theorem ggX3_endIfLate_X3_hasDeadline : GoodIn wsX3_endIfLate wsX3_hasDeadline := goodIn_r _ [7, 2, 8, 9, 10, 11, 12] (by decide +kernel) (by decide +kernel)
set_option maxRecDepth 20000 in
theorem gX3_endIfLate_X3_hasDeadline : GoodIn wsX3_endIfLate (wsV RX3 28 RX3 yX3_hasDeadline wsX3_hasDeadline) := goodIn_app (goodIn_of _ (by decide +kernel)) ggX3_endIfLate_X3_hasDeadline
theorem dX3_endIfLate_0 : decode cX3_endIfLate 0 = .ok (.aload_n 0, 1) := by decide +kernel
theorem dX3_endIfLate_1 : decode cX3_endIfLate 1 = .ok (.invokevirtual 28, 3) := by decide +kernel
theorem dX3_endIfLate_4 : decode cX3_endIfLate 4 = .ok (.ifCond .eq 11, 3) := by decide +kernel
theorem dX3_endIfLate_7 : decode cX3_endIfLate 7 = .ok (.iload_n 1, 1) := by decide +kernel
theorem dX3_endIfLate_8 : decode cX3_endIfLate 8 = .ok (.aload_n 0, 1) := by decide +kernel
theorem dX3_endIfLate_9 : decode cX3_endIfLate 9 = .ok (.getfield 25, 3) := by decide +kernel
theorem dX3_endIfLate_12 : decode cX3_endIfLate 12 = .ok (.if_icmp .gt 4, 3) := by decide +kernel
theorem dX3_endIfLate_15 : decode cX3_endIfLate 15 = .ok (.return_, 1) := by decide +kernel
theorem dX3_endIfLate_16 : decode cX3_endIfLate 16 = .ok (.aload_n 0, 1) := by decide +kernel
theorem dX3_endIfLate_17 : decode cX3_endIfLate 17 = .ok (.aload_n 0, 1) := by decide +kernel
theorem dX3_endIfLate_18 : decode cX3_endIfLate 18 = .ok (.getfield 9, 3) := by decide +kernel
theorem dX3_endIfLate_21 : decode cX3_endIfLate 21 = .ok (.ifCond .ne 7, 3) := by decide +kernel
theorem dX3_endIfLate_24 : decode cX3_endIfLate 24 = .ok (.iconst 3, 1) := by decide +kernel
theorem dX3_endIfLate_25 : decode cX3_endIfLate 25 = .ok (.goto 4, 3) := by decide +kernel
theorem dX3_endIfLate_28 : decode cX3_endIfLate 28 = .ok (.iconst 4, 1) := by decide +kernel
theorem dX3_endIfLate_29 : decode cX3_endIfLate 29 = .ok (.putfield 9, 3) := by decide +kernel
theorem dX3_endIfLate_32 : decode cX3_endIfLate 32 = .ok (.aload_n 0, 1) := by decide +kernel
theorem dX3_endIfLate_33 : decode cX3_endIfLate 33 = .ok (.iconst (-1), 1) := by decide +kernel
theorem dX3_endIfLate_34 : decode cX3_endIfLate 34 = .ok (.putfield 25, 3) := by decide +kernel
theorem dX3_endIfLate_37 : decode cX3_endIfLate 37 = .ok (.return_, 1) := by decide +kernel
theorem dX3_isDueBefore_0 : decode cX3_isDueBefore 0 = .ok (.aload_n 0, 1) := by decide +kernel
theorem dX3_isDueBefore_1 : decode cX3_isDueBefore 1 = .ok (.getfield 25, 3) := by decide +kernel
theorem dX3_isDueBefore_4 : decode cX3_isDueBefore 4 = .ok (.aload_n 1, 1) := by decide +kernel
theorem dX3_isDueBefore_5 : decode cX3_isDueBefore 5 = .ok (.getfield 25, 3) := by decide +kernel
theorem dX3_isDueBefore_8 : decode cX3_isDueBefore 8 = .ok (.if_icmp .eq 20, 3) := by decide +kernel
theorem dX3_isDueBefore_11 : decode cX3_isDueBefore 11 = .ok (.aload_n 0, 1) := by decide +kernel
theorem dX3_isDueBefore_12 : decode cX3_isDueBefore 12 = .ok (.getfield 25, 3) := by decide +kernel
theorem dX3_isDueBefore_15 : decode cX3_isDueBefore 15 = .ok (.aload_n 1, 1) := by decide +kernel
theorem dX3_isDueBefore_16 : decode cX3_isDueBefore 16 = .ok (.getfield 25, 3) := by decide +kernel
theorem dX3_isDueBefore_19 : decode cX3_isDueBefore 19 = .ok (.if_icmp .ge 7, 3) := by decide +kernel
theorem dX3_isDueBefore_22 : decode cX3_isDueBefore 22 = .ok (.iconst 1, 1) := by decide +kernel
theorem dX3_isDueBefore_23 : decode cX3_isDueBefore 23 = .ok (.goto 4, 3) := by decide +kernel
theorem dX3_isDueBefore_26 : decode cX3_isDueBefore 26 = .ok (.iconst 0, 1) := by decide +kernel
theorem dX3_isDueBefore_27 : decode cX3_isDueBefore 27 = .ok (.ireturn, 1) := by decide +kernel
theorem dX3_isDueBefore_28 : decode cX3_isDueBefore 28 = .ok (.aload_n 0, 1) := by decide +kernel
theorem dX3_isDueBefore_29 : decode cX3_isDueBefore 29 = .ok (.getfield 22, 3) := by decide +kernel
theorem dX3_isDueBefore_32 : decode cX3_isDueBefore 32 = .ok (.aload_n 1, 1) := by decide +kernel
theorem dX3_isDueBefore_33 : decode cX3_isDueBefore 33 = .ok (.getfield 22, 3) := by decide +kernel
theorem dX3_isDueBefore_36 : decode cX3_isDueBefore 36 = .ok (.if_icmp .eq 20, 3) := by decide +kernel
theorem dX3_isDueBefore_39 : decode cX3_isDueBefore 39 = .ok (.aload_n 0, 1) := by decide +kernel
theorem dX3_isDueBefore_40 : decode cX3_isDueBefore 40 = .ok (.getfield 22, 3) := by decide +kernel
theorem dX3_isDueBefore_43 : decode cX3_isDueBefore 43 = .ok (.aload_n 1, 1) := by decide +kernel
theorem dX3_isDueBefore_44 : decode cX3_isDueBefore 44 = .ok (.getfield 22, 3) := by decide +kernel
theorem dX3_isDueBefore_47 : decode cX3_isDueBefore 47 = .ok (.if_icmp .le 7, 3) := by decide +kernel
theorem dX3_isDueBefore_50 : decode cX3_isDueBefore 50 = .ok (.iconst 1, 1) := by decide +kernel
theorem dX3_isDueBefore_51 : decode cX3_isDueBefore 51 = .ok (.goto 4, 3) := by decide +kernel
theorem dX3_isDueBefore_54 : decode cX3_isDueBefore 54 = .ok (.iconst 0, 1) := by decide +kernel
theorem dX3_isDueBefore_55 : decode cX3_isDueBefore 55 = .ok (.ireturn, 1) := by decide +kernel
theorem dX3_isDueBefore_56 : decode cX3_isDueBefore 56 = .ok (.aload_n 0, 1) := by decide +kernel
theorem dX3_isDueBefore_57 : decode cX3_isDueBefore 57 = .ok (.getfield 15, 3) := by decide +kernel
theorem dX3_isDueBefore_60 : decode cX3_isDueBefore 60 = .ok (.aload_n 1, 1) := by decide +kernel
theorem dX3_isDueBefore_61 : decode cX3_isDueBefore 61 = .ok (.getfield 15, 3) := by decide +kernel
theorem dX3_isDueBefore_64 : decode cX3_isDueBefore 64 = .ok (.if_icmp .ge 7, 3) := by decide +kernel
theorem dX3_isDueBefore_67 : decode cX3_isDueBefore 67 = .ok (.iconst 1, 1) := by decide +kernel
theorem dX3_isDueBefore_68 : decode cX3_isDueBefore 68 = .ok (.goto 4, 3) := by decide +kernel
theorem dX3_isDueBefore_71 : decode cX3_isDueBefore 71 = .ok (.iconst 0, 1) := by decide +kernel
theorem dX3_isDueBefore_72 : decode cX3_isDueBefore 72 = .ok (.ireturn, 1) := by decide +kernel
theorem dX4_init_0 : decode cX4_init 0 = .ok (.aload_n 0, 1) := by decide +kernel
theorem dX4_init_1 : decode cX4_init 1 = .ok (.invokespecial 3, 3) := by decide +kernel
theorem dX4_init_4 : decode cX4_init 4 = .ok (.aload_n 0, 1) := by decide +kernel
theorem dX4_init_5 : decode cX4_init 5 = .ok (.bipush 10, 2) := by decide +kernel
theorem dX4_init_7 : decode cX4_init 7 = .ok (.putfield 9, 3) := by decide +kernel
theorem dX4_init_10 : decode cX4_init 10 = .ok (.aload_n 0, 1) := by decide +kernel
theorem dX4_init_11 : decode cX4_init 11 = .ok (.sipush 500, 3) := by decide +kernel
theorem dX4_init_14 : decode cX4_init 14 = .ok (.putfield 15, 3) := by decide +kernel
theorem dX4_init_17 : decode cX4_init 17 = .ok (.aload_n 0, 1) := by decide +kernel
theorem dX4_init_18 : decode cX4_init 18 = .ok (.iload_n 1, 1) := by decide +kernel
theorem dX4_init_19 : decode cX4_init 19 = .ok (.putfield 18, 3) := by decide +kernel
theorem dX4_init_22 : decode cX4_init 22 = .ok (.return_, 1) := by decide +kernel
theorem dX4_feeOf_0 : decode cX4_feeOf 0 = .ok (.aload_n 0, 1) := by decide +kernel
theorem dX4_feeOf_1 : decode cX4_feeOf 1 = .ok (.getfield 15, 3) := by decide +kernel
theorem dX4_feeOf_4 : decode cX4_feeOf 4 = .ok (.iload_n 1, 1) := by decide +kernel
theorem dX4_feeOf_5 : decode cX4_feeOf 5 = .ok (.aload_n 0, 1) := by decide +kernel
theorem dX4_feeOf_6 : decode cX4_feeOf 6 = .ok (.getfield 9, 3) := by decide +kernel
theorem dX4_feeOf_9 : decode cX4_feeOf 9 = .ok (.imul, 1) := by decide +kernel
theorem dX4_feeOf_10 : decode cX4_feeOf 10 = .ok (.sipush 1000, 3) := by decide +kernel
theorem dX4_feeOf_13 : decode cX4_feeOf 13 = .ok (.idiv, 1) := by decide +kernel
theorem dX4_feeOf_14 : decode cX4_feeOf 14 = .ok (.invokestatic 21, 3) := by decide +kernel
theorem dX4_feeOf_17 : decode cX4_feeOf 17 = .ok (.ireturn, 1) := by decide +kernel
theorem dX5_init_0 : decode cX5_init 0 = .ok (.aload_n 0, 1) := by decide +kernel
theorem dX5_init_1 : decode cX5_init 1 = .ok (.invokespecial 1, 3) := by decide +kernel
theorem dX5_init_4 : decode cX5_init 4 = .ok (.aload_n 0, 1) := by decide +kernel
theorem dX5_init_5 : decode cX5_init 5 = .ok (.iconst 0, 1) := by decide +kernel
theorem dX5_init_6 : decode cX5_init 6 = .ok (.putfield 7, 3) := by decide +kernel
theorem dX5_init_9 : decode cX5_init 9 = .ok (.aload_n 0, 1) := by decide +kernel
theorem dX5_init_10 : decode cX5_init 10 = .ok (.iconst 0, 1) := by decide +kernel
theorem dX5_init_11 : decode cX5_init 11 = .ok (.putfield 13, 3) := by decide +kernel
theorem dX5_init_14 : decode cX5_init 14 = .ok (.aload_n 0, 1) := by decide +kernel
theorem dX5_init_15 : decode cX5_init 15 = .ok (.iload_n 1, 1) := by decide +kernel
theorem dX5_init_16 : decode cX5_init 16 = .ok (.putfield 17, 3) := by decide +kernel
theorem dX5_init_19 : decode cX5_init 19 = .ok (.aload_n 0, 1) := by decide +kernel
theorem dX5_init_20 : decode cX5_init 20 = .ok (.aload_n 2, 1) := by decide +kernel
theorem dX5_init_21 : decode cX5_init 21 = .ok (.putfield 20, 3) := by decide +kernel
theorem dX5_init_24 : decode cX5_init 24 = .ok (.aload_n 0, 1) := by decide +kernel
theorem dX5_init_25 : decode cX5_init 25 = .ok (.aload_n 3, 1) := by decide +kernel
theorem dX5_init_26 : decode cX5_init 26 = .ok (.putfield 24, 3) := by decide +kernel
theorem dX5_init_29 : decode cX5_init 29 = .ok (.aload_n 0, 1) := by decide +kernel
theorem dX5_init_30 : decode cX5_init 30 = .ok (.iload 4, 2) := by decide +kernel
theorem dX5_init_32 : decode cX5_init 32 = .ok (.putfield 28, 3) := by decide +kernel
theorem dX5_init_35 : decode cX5_init 35 = .ok (.aload_n 0, 1) := by decide +kernel
theorem dX5_init_36 : decode cX5_init 36 = .ok (.iload 5, 2) := by decide +kernel
theorem dX5_init_38 : decode cX5_init 38 = .ok (.putfield 31, 3) := by decide +kernel
theorem dX5_init_41 : decode cX5_init 41 = .ok (.return_, 1) := by decide +kernel
theorem dX5_isAlive_0 : decode cX5_isAlive 0 = .ok (.aload_n 0, 1) := by decide +kernel
theorem dX5_isAlive_1 : decode cX5_isAlive 1 = .ok (.getfield 13, 3) := by decide +kernel
theorem dX5_isAlive_4 : decode cX5_isAlive 4 = .ok (.ifCond .ne 15, 3) := by decide +kernel
theorem dX5_isAlive_7 : decode cX5_isAlive 7 = .ok (.iload_n 1, 1) := by decide +kernel
theorem dX5_isAlive_8 : decode cX5_isAlive 8 = .ok (.aload_n 0, 1) := by decide +kernel
theorem dX5_isAlive_9 : decode cX5_isAlive 9 = .ok (.getfield 31, 3) := by decide +kernel
theorem dX5_isAlive_12 : decode cX5_isAlive 12 = .ok (.if_icmp .gt 7, 3) := by decide +kernel
theorem dX5_isAlive_15 : decode cX5_isAlive 15 = .ok (.iconst 1, 1) := by decide +kernel
theorem dX5_isAlive_16 : decode cX5_isAlive 16 = .ok (.goto 4, 3) := by decide +kernel
theorem dX5_isAlive_19 : decode cX5_isAlive 19 = .ok (.iconst 0, 1) := by decide +kernel
theorem dX5_isAlive_20 : decode cX5_isAlive 20 = .ok (.ireturn, 1) := by decide +kernel
theorem dX5_left_0 : decode cX5_left 0 = .ok (.aload_n 0, 1) := by decide +kernel
theorem dX5_left_1 : decode cX5_left 1 = .ok (.getfield 28, 3) := by decide +kernel
theorem dX5_left_4 : decode cX5_left 4 = .ok (.aload_n 0, 1) := by decide +kernel
theorem dX5_left_5 : decode cX5_left 5 = .ok (.getfield 7, 3) := by decide +kernel
theorem dX5_left_8 : decode cX5_left 8 = .ok (.isub, 1) := by decide +kernel
theorem dX5_left_9 : decode cX5_left 9 = .ok (.ireturn, 1) := by decide +kernel
theorem dX6_init_0 : decode cX6_init 0 = .ok (.aload_n 0, 1) := by decide +kernel
theorem dX6_init_1 : decode cX6_init 1 = .ok (.invokespecial 1, 3) := by decide +kernel
theorem dX6_init_4 : decode cX6_init 4 = .ok (.aload_n 0, 1) := by decide +kernel
theorem dX6_init_5 : decode cX6_init 5 = .ok (.iload_n 1, 1) := by decide +kernel
theorem dX6_init_6 : decode cX6_init 6 = .ok (.putfield 7, 3) := by decide +kernel
theorem dX6_init_9 : decode cX6_init 9 = .ok (.aload_n 0, 1) := by decide +kernel
theorem dX6_init_10 : decode cX6_init 10 = .ok (.aload_n 2, 1) := by decide +kernel
theorem dX6_init_11 : decode cX6_init 11 = .ok (.putfield 13, 3) := by decide +kernel
theorem dX6_init_14 : decode cX6_init 14 = .ok (.aload_n 0, 1) := by decide +kernel
theorem dX6_init_15 : decode cX6_init 15 = .ok (.aload_n 3, 1) := by decide +kernel
theorem dX6_init_16 : decode cX6_init 16 = .ok (.putfield 17, 3) := by decide +kernel
theorem dX6_init_19 : decode cX6_init 19 = .ok (.return_, 1) := by decide +kernel
set_option maxRecDepth 20000 in
theorem ggX7_init_Jx4a65c_init_da8c8 : GoodIn wsX7_init wsJx4a65c_init_da8c8 := goodIn_r _ [29, 30, 31, 32, 33, 34, 35, 36, 37, 38, 39, 40, 41, 2, 3, 75, 76, 77] (by decide +kernel) (by decide +kernel)
set_option maxRecDepth 20000 in
theorem gX7_init_Jx4a65c_init_da8c8 : GoodIn wsX7_init (wsJx4a65c_init_da8c8) := ggX7_init_Jx4a65c_init_da8c8
set_option maxRecDepth 20000 in
theorem ggX7_init_X0_init : GoodIn wsX7_init wsX0_init := goodIn_r _ [43, 44, 2, 3, 45, 46, 78, 79] (by decide +kernel) (by decide +kernel)
set_option maxRecDepth 20000 in
theorem gX7_init_X0_init_n50 : GoodIn wsX7_init (wsX0_init) := ggX7_init_X0_init
set_option maxRecDepth 20000 in
theorem ggX7_init_X4_init : GoodIn wsX7_init wsX4_init := goodIn_r _ [49, 50, 2, 3, 51, 52, 53, 80, 81, 82] (by decide +kernel) (by decide +kernel)
set_option maxRecDepth 20000 in
theorem gX7_init_X4_init : GoodIn wsX7_init (wsX4_init) := ggX7_init_X4_init
set_option maxRecDepth 20000 in
theorem ggX7_init_X6_init : GoodIn wsX7_init wsX6_init := goodIn_r _ [56, 57, 2, 3, 58, 59, 60, 83, 84, 85] (by decide +kernel) (by decide +kernel)
set_option maxRecDepth 20000 in
theorem gX7_init_X6_init : GoodIn wsX7_init (wsX6_init) := ggX7_init_X6_init
set_option maxRecDepth 20000 in
theorem ggX7_init_X2_init : GoodIn wsX7_init wsX2_init := goodIn_r _ [63, 64, 2, 3, 65, 66, 86, 87] (by decide +kernel) (by decide +kernel)
set_option maxRecDepth 20000 in
theorem gX7_init_X2_init : GoodIn wsX7_init (wsX2_init) := ggX7_init_X2_init
theorem dX7_init_0 : decode cX7_init 0 = .ok (.aload_n 0, 1) := by decide +kernel
theorem dX7_init_1 : decode cX7_init 1 = .ok (.invokespecial 1, 3) := by decide +kernel
theorem dX7_init_4 : decode cX7_init 4 = .ok (.aload_n 0, 1) := by decide +kernel
theorem dX7_init_5 : decode cX7_init 5 = .ok (.iconst 4, 1) := by decide +kernel
theorem dX7_init_6 : decode cX7_init 6 = .ok (.anewarray 9, 3) := by decide +kernel
theorem dX7_init_9 : decode cX7_init 9 = .ok (.putfield 11, 3) := by decide +kernel
theorem dX7_init_12 : decode cX7_init 12 = .ok (.aload_n 0, 1) := by decide +kernel
theorem dX7_init_13 : decode cX7_init 13 = .ok (.iconst 3, 1) := by decide +kernel
theorem dX7_init_14 : decode cX7_init 14 = .ok (.anewarray 15, 3) := by decide +kernel
theorem dX7_init_17 : decode cX7_init 17 = .ok (.putfield 17, 3) := by decide +kernel
theorem dX7_init_20 : decode cX7_init 20 = .ok (.aload_n 0, 1) := by decide +kernel
theorem dX7_init_21 : decode cX7_init 21 = .ok (.bipush 8, 2) := by decide +kernel
theorem dX7_init_23 : decode cX7_init 23 = .ok (.anewarray 21, 3) := by decide +kernel
theorem dX7_init_26 : decode cX7_init 26 = .ok (.putfield 23, 3) := by decide +kernel
theorem dX7_init_29 : decode cX7_init 29 = .ok (.aload_n 0, 1) := by decide +kernel
theorem dX7_init_30 : decode cX7_init 30 = .ok (.bipush 12, 2) := by decide +kernel
theorem dX7_init_32 : decode cX7_init 32 = .ok (.anewarray 27, 3) := by decide +kernel
theorem dX7_init_35 : decode cX7_init 35 = .ok (.putfield 29, 3) := by decide +kernel
theorem dX7_init_38 : decode cX7_init 38 = .ok (.aload_n 0, 1) := by decide +kernel
theorem dX7_init_39 : decode cX7_init 39 = .ok (.new 33, 3) := by decide +kernel
theorem dX7_init_42 : decode cX7_init 42 = .ok (.dup, 1) := by decide +kernel
theorem dX7_init_43 : decode cX7_init 43 = .ok (.invokespecial 35, 3) := by decide +kernel
theorem dX7_init_46 : decode cX7_init 46 = .ok (.putfield 36, 3) := by decide +kernel
theorem dX7_init_49 : decode cX7_init 49 = .ok (.aload_n 0, 1) := by decide +kernel
theorem dX7_init_50 : decode cX7_init 50 = .ok (.new 33, 3) := by decide +kernel
theorem dX7_init_53 : decode cX7_init 53 = .ok (.dup, 1) := by decide +kernel
theorem dX7_init_54 : decode cX7_init 54 = .ok (.invokespecial 35, 3) := by decide +kernel
theorem dX7_init_57 : decode cX7_init 57 = .ok (.putfield 40, 3) := by decide +kernel
theorem dX7_init_60 : decode cX7_init 60 = .ok (.aload_n 0, 1) := by decide +kernel
theorem dX7_init_61 : decode cX7_init 61 = .ok (.new 33, 3) := by decide +kernel
theorem dX7_init_64 : decode cX7_init 64 = .ok (.dup, 1) := by decide +kernel
theorem dX7_init_65 : decode cX7_init 65 = .ok (.invokespecial 35, 3) := by decide +kernel
theorem dX7_init_68 : decode cX7_init 68 = .ok (.putfield 43, 3) := by decide +kernel
theorem dX7_init_71 : decode cX7_init 71 = .ok (.aload_n 0, 1) := by decide +kernel
theorem dX7_init_72 : decode cX7_init 72 = .ok (.iconst 0, 1) := by decide +kernel
theorem dX7_init_73 : decode cX7_init 73 = .ok (.putfield 46, 3) := by decide +kernel
theorem dX7_init_76 : decode cX7_init 76 = .ok (.iconst 0, 1) := by decide +kernel
theorem dX7_init_77 : decode cX7_init 77 = .ok (.istore_n 1, 1) := by decide +kernel
theorem dX7_init_78 : decode cX7_init 78 = .ok (.iload_n 1, 1) := by decide +kernel
theorem dX7_init_79 : decode cX7_init 79 = .ok (.iconst 4, 1) := by decide +kernel
theorem dX7_init_80 : decode cX7_init 80 = .ok (.if_icmp .ge 22, 3) := by decide +kernel
theorem dX7_init_83 : decode cX7_init 83 = .ok (.aload_n 0, 1) := by decide +kernel
theorem dX7_init_84 : decode cX7_init 84 = .ok (.getfield 11, 3) := by decide +kernel
theorem dX7_init_87 : decode cX7_init 87 = .ok (.iload_n 1, 1) := by decide +kernel
theorem dX7_init_88 : decode cX7_init 88 = .ok (.new 9, 3) := by decide +kernel
theorem dX7_init_91 : decode cX7_init 91 = .ok (.dup, 1) := by decide +kernel
theorem dX7_init_92 : decode cX7_init 92 = .ok (.invokespecial 50, 3) := by decide +kernel
theorem dX7_init_95 : decode cX7_init 95 = .ok (.aastore, 1) := by decide +kernel
theorem dX7_init_96 : decode cX7_init 96 = .ok (.iinc 1 1, 3) := by decide +kernel
theorem dX7_init_99 : decode cX7_init 99 = .ok (.goto (-21), 3) := by decide +kernel
theorem dX7_init_102 : decode cX7_init 102 = .ok (.iconst 0, 1) := by decide +kernel
theorem dX7_init_103 : decode cX7_init 103 = .ok (.istore_n 1, 1) := by decide +kernel
theorem dX7_init_104 : decode cX7_init 104 = .ok (.iload_n 1, 1) := by decide +kernel
theorem dX7_init_105 : decode cX7_init 105 = .ok (.iconst 3, 1) := by decide +kernel
theorem dX7_init_106 : decode cX7_init 106 = .ok (.if_icmp .ge 23, 3) := by decide +kernel
theorem dX7_init_109 : decode cX7_init 109 = .ok (.aload_n 0, 1) := by decide +kernel
theorem dX7_init_110 : decode cX7_init 110 = .ok (.getfield 17, 3) := by decide +kernel
theorem dX7_init_113 : decode cX7_init 113 = .ok (.iload_n 1, 1) := by decide +kernel
theorem dX7_init_114 : decode cX7_init 114 = .ok (.new 15, 3) := by decide +kernel
theorem dX7_init_117 : decode cX7_init 117 = .ok (.dup, 1) := by decide +kernel
theorem dX7_init_118 : decode cX7_init 118 = .ok (.iload_n 1, 1) := by decide +kernel
theorem dX7_init_119 : decode cX7_init 119 = .ok (.invokespecial 51, 3) := by decide +kernel
theorem dX7_init_122 : decode cX7_init 122 = .ok (.aastore, 1) := by decide +kernel
theorem dX7_init_123 : decode cX7_init 123 = .ok (.iinc 1 1, 3) := by decide +kernel
theorem dX7_init_126 : decode cX7_init 126 = .ok (.goto (-22), 3) := by decide +kernel
theorem dX7_init_129 : decode cX7_init 129 = .ok (.iconst 0, 1) := by decide +kernel
theorem dX7_init_130 : decode cX7_init 130 = .ok (.istore_n 1, 1) := by decide +kernel
theorem dX7_init_131 : decode cX7_init 131 = .ok (.iload_n 1, 1) := by decide +kernel
theorem dX7_init_132 : decode cX7_init 132 = .ok (.bipush 8, 2) := by decide +kernel
theorem dX7_init_134 : decode cX7_init 134 = .ok (.if_icmp .ge 37, 3) := by decide +kernel
theorem dX7_init_137 : decode cX7_init 137 = .ok (.aload_n 0, 1) := by decide +kernel
theorem dX7_init_138 : decode cX7_init 138 = .ok (.getfield 23, 3) := by decide +kernel
theorem dX7_init_141 : decode cX7_init 141 = .ok (.iload_n 1, 1) := by decide +kernel
theorem dX7_init_142 : decode cX7_init 142 = .ok (.new 21, 3) := by decide +kernel
theorem dX7_init_145 : decode cX7_init 145 = .ok (.dup, 1) := by decide +kernel
theorem dX7_init_146 : decode cX7_init 146 = .ok (.iload_n 1, 1) := by decide +kernel
theorem dX7_init_147 : decode cX7_init 147 = .ok (.aload_n 0, 1) := by decide +kernel
theorem dX7_init_148 : decode cX7_init 148 = .ok (.getfield 11, 3) := by decide +kernel
theorem dX7_init_151 : decode cX7_init 151 = .ok (.iload_n 1, 1) := by decide +kernel
theorem dX7_init_152 : decode cX7_init 152 = .ok (.iconst 4, 1) := by decide +kernel
theorem dX7_init_153 : decode cX7_init 153 = .ok (.irem, 1) := by decide +kernel
theorem dX7_init_154 : decode cX7_init 154 = .ok (.aaload, 1) := by decide +kernel
theorem dX7_init_155 : decode cX7_init 155 = .ok (.aload_n 0, 1) := by decide +kernel
theorem dX7_init_156 : decode cX7_init 156 = .ok (.getfield 17, 3) := by decide +kernel
theorem dX7_init_159 : decode cX7_init 159 = .ok (.iconst 0, 1) := by decide +kernel
theorem dX7_init_160 : decode cX7_init 160 = .ok (.aaload, 1) := by decide +kernel
theorem dX7_init_161 : decode cX7_init 161 = .ok (.invokespecial 54, 3) := by decide +kernel
theorem dX7_init_164 : decode cX7_init 164 = .ok (.aastore, 1) := by decide +kernel
theorem dX7_init_165 : decode cX7_init 165 = .ok (.iinc 1 1, 3) := by decide +kernel
theorem dX7_init_168 : decode cX7_init 168 = .ok (.goto (-37), 3) := by decide +kernel
theorem dX7_init_171 : decode cX7_init 171 = .ok (.iconst 0, 1) := by decide +kernel
theorem dX7_init_172 : decode cX7_init 172 = .ok (.istore_n 1, 1) := by decide +kernel
theorem dX7_init_173 : decode cX7_init 173 = .ok (.iload_n 1, 1) := by decide +kernel
theorem dX7_init_174 : decode cX7_init 174 = .ok (.bipush 12, 2) := by decide +kernel
theorem dX7_init_176 : decode cX7_init 176 = .ok (.if_icmp .ge 31, 3) := by decide +kernel
theorem dX7_init_179 : decode cX7_init 179 = .ok (.aload_n 0, 1) := by decide +kernel
theorem dX7_init_180 : decode cX7_init 180 = .ok (.getfield 29, 3) := by decide +kernel
theorem dX7_init_183 : decode cX7_init 183 = .ok (.iload_n 1, 1) := by decide +kernel
theorem dX7_init_184 : decode cX7_init 184 = .ok (.new 27, 3) := by decide +kernel
theorem dX7_init_187 : decode cX7_init 187 = .ok (.dup, 1) := by decide +kernel
theorem dX7_init_188 : decode cX7_init 188 = .ok (.iload_n 1, 1) := by decide +kernel
theorem dX7_init_189 : decode cX7_init 189 = .ok (.aload_n 0, 1) := by decide +kernel
theorem dX7_init_190 : decode cX7_init 190 = .ok (.getfield 11, 3) := by decide +kernel
theorem dX7_init_193 : decode cX7_init 193 = .ok (.iload_n 1, 1) := by decide +kernel
theorem dX7_init_194 : decode cX7_init 194 = .ok (.iconst 3, 1) := by decide +kernel
theorem dX7_init_195 : decode cX7_init 195 = .ok (.idiv, 1) := by decide +kernel
theorem dX7_init_196 : decode cX7_init 196 = .ok (.aaload, 1) := by decide +kernel
theorem dX7_init_197 : decode cX7_init 197 = .ok (.invokespecial 57, 3) := by decide +kernel
theorem dX7_init_200 : decode cX7_init 200 = .ok (.aastore, 1) := by decide +kernel
theorem dX7_init_201 : decode cX7_init 201 = .ok (.iinc 1 1, 3) := by decide +kernel
theorem dX7_init_204 : decode cX7_init 204 = .ok (.goto (-31), 3) := by decide +kernel
theorem dX7_init_207 : decode cX7_init 207 = .ok (.return_, 1) := by decide +kernel
set_option maxRecDepth 20000 in
theorem ggX7_shop_X7_shopAt : GoodIn wsX7_shop wsX7_shopAt := goodIn_ca (goodIn_r _ [7, 8, 9, 10, 22, 23, 24, 25, 26, 27, 28, 29] (by decide +kernel) (by decide +kernel)) (goodIn_sub (fun _ h => List.mem_cons_of_mem _ (List.mem_append_right _ h)) (by decide +kernel))
set_option maxRecDepth 20000 in
theorem gX7_shop_X7_shopAt : GoodIn wsX7_shop (wsV RX7 60 RX7 yX7_shopAt wsX7_shopAt) := goodIn_app (goodIn_of _ (by decide +kernel)) ggX7_shop_X7_shopAt
set_option maxRecDepth 20000 in
theorem ggX7_shop_X7_kindAt : GoodIn wsX7_shop wsX7_kindAt := goodIn_ca (goodIn_r _ [14, 8, 9, 15, 22, 23, 24, 25, 26, 27, 28, 29] (by decide +kernel) (by decide +kernel)) (goodIn_sub (fun _ h => List.mem_cons_of_mem _ (List.mem_append_right _ h)) (by decide +kernel))
set_option maxRecDepth 20000 in
theorem gX7_shop_X7_kindAt : GoodIn wsX7_shop (wsV RX7 64 RX7 yX7_kindAt wsX7_kindAt) := goodIn_app (goodIn_of _ (by decide +kernel)) ggX7_shop_X7_kindAt
theorem dX7_shop_0 : decode cX7_shop 0 = .ok (.aload_n 0, 1) := by decide +kernel
theorem dX7_shop_1 : decode cX7_shop 1 = .ok (.iload_n 1, 1) := by decide +kernel
theorem dX7_shop_2 : decode cX7_shop 2 = .ok (.invokevirtual 60, 3) := by decide +kernel
theorem dX7_shop_5 : decode cX7_shop 5 = .ok (.astore_n 3, 1) := by decide +kernel
theorem dX7_shop_6 : decode cX7_shop 6 = .ok (.aload_n 0, 1) := by decide +kernel
theorem dX7_shop_7 : decode cX7_shop 7 = .ok (.iload_n 2, 1) := by decide +kernel
theorem dX7_shop_8 : decode cX7_shop 8 = .ok (.invokevirtual 64, 3) := by decide +kernel
theorem dX7_shop_11 : decode cX7_shop 11 = .ok (.astore 4, 2) := by decide +kernel
theorem dX7_shop_13 : decode cX7_shop 13 = .ok (.aload_n 3, 1) := by decide +kernel
theorem dX7_shop_14 : decode cX7_shop 14 = .ok (.getfield 68, 3) := by decide +kernel
theorem dX7_shop_17 : decode cX7_shop 17 = .ok (.getfield 72, 3) := by decide +kernel
theorem dX7_shop_20 : decode cX7_shop 20 = .ok (.istore 5, 2) := by decide +kernel
theorem dX7_shop_22 : decode cX7_shop 22 = .ok (.aload_n 3, 1) := by decide +kernel
theorem dX7_shop_23 : decode cX7_shop 23 = .ok (.aload 4, 2) := by decide +kernel
theorem dX7_shop_25 : decode cX7_shop 25 = .ok (.putfield 68, 3) := by decide +kernel
theorem dX7_shop_28 : decode cX7_shop 28 = .ok (.iload 5, 2) := by decide +kernel
theorem dX7_shop_30 : decode cX7_shop 30 = .ok (.ireturn, 1) := by decide +kernel
set_option maxRecDepth 20000 in
theorem ggX7_kind_X7_kindAt : GoodIn wsX7_kind wsX7_kindAt := goodIn_ca (goodIn_r _ [7, 8, 9, 10, 30, 31, 32, 33, 34, 35, 36, 37] (by decide +kernel) (by decide +kernel)) (goodIn_sub (fun _ h => List.mem_cons_of_mem _ (List.mem_append_left _ (List.mem_append_right _ h))) (by decide +kernel))
set_option maxRecDepth 20000 in
theorem gX7_kind_X7_kindAt : GoodIn wsX7_kind (wsV RX7 64 RX7 yX7_kindAt wsX7_kindAt) := goodIn_app (goodIn_of _ (by decide +kernel)) ggX7_kind_X7_kindAt
set_option maxRecDepth 20000 in
theorem ggX7_kind_X7_requireRange : GoodIn wsX7_kind wsX7_requireRange := goodIn_ca (goodIn_r _ [13, 14, 15] (by decide +kernel) (by decide +kernel)) (goodIn_sub (fun _ h => List.mem_cons_of_mem _ (List.mem_append_right _ h)) (by decide +kernel))
set_option maxRecDepth 20000 in
theorem gX7_kind_X7_requireRange : GoodIn wsX7_kind (va_wsS RX7 75 yX7_requireRange wsX7_requireRange) := goodIn_app (goodIn_of _ (by decide +kernel)) ggX7_kind_X7_requireRange
set_option maxRecDepth 20000 in
theorem ggX7_kind_X4_feeOf : GoodIn wsX7_kind wsX4_feeOf := goodIn_r _ [20, 21, 22, 23, 24, 25, 26, 27, 28, 29] (by decide +kernel) (by decide +kernel)
set_option maxRecDepth 20000 in
theorem gX7_kind_X4_feeOf : GoodIn wsX7_kind (wsV RX7 85 RX4 yX4_feeOf wsX4_feeOf) := goodIn_app (goodIn_of _ (by decide +kernel)) ggX7_kind_X4_feeOf
theorem dX7_kind_0 : decode cX7_kind 0 = .ok (.aload_n 0, 1) := by decide +kernel
theorem dX7_kind_1 : decode cX7_kind 1 = .ok (.iload_n 1, 1) := by decide +kernel
theorem dX7_kind_2 : decode cX7_kind 2 = .ok (.invokevirtual 64, 3) := by decide +kernel
theorem dX7_kind_5 : decode cX7_kind 5 = .ok (.astore 4, 2) := by decide +kernel
theorem dX7_kind_7 : decode cX7_kind 7 = .ok (.iload_n 2, 1) := by decide +kernel
theorem dX7_kind_8 : decode cX7_kind 8 = .ok (.iconst 0, 1) := by decide +kernel
theorem dX7_kind_9 : decode cX7_kind 9 = .ok (.bipush 100, 2) := by decide +kernel
theorem dX7_kind_11 : decode cX7_kind 11 = .ok (.invokestatic 75, 3) := by decide +kernel
theorem dX7_kind_14 : decode cX7_kind 14 = .ok (.iload_n 3, 1) := by decide +kernel
theorem dX7_kind_15 : decode cX7_kind 15 = .ok (.iconst 0, 1) := by decide +kernel
theorem dX7_kind_16 : decode cX7_kind 16 = .ok (.sipush 9999, 3) := by decide +kernel
theorem dX7_kind_19 : decode cX7_kind 19 = .ok (.invokestatic 75, 3) := by decide +kernel
theorem dX7_kind_22 : decode cX7_kind 22 = .ok (.aload 4, 2) := by decide +kernel
theorem dX7_kind_24 : decode cX7_kind 24 = .ok (.iload_n 2, 1) := by decide +kernel
theorem dX7_kind_25 : decode cX7_kind 25 = .ok (.putfield 79, 3) := by decide +kernel
theorem dX7_kind_28 : decode cX7_kind 28 = .ok (.aload 4, 2) := by decide +kernel
theorem dX7_kind_30 : decode cX7_kind 30 = .ok (.iload_n 3, 1) := by decide +kernel
theorem dX7_kind_31 : decode cX7_kind 31 = .ok (.putfield 82, 3) := by decide +kernel
theorem dX7_kind_34 : decode cX7_kind 34 = .ok (.aload 4, 2) := by decide +kernel
theorem dX7_kind_36 : decode cX7_kind 36 = .ok (.sipush 10000, 3) := by decide +kernel
theorem dX7_kind_39 : decode cX7_kind 39 = .ok (.invokevirtual 85, 3) := by decide +kernel
theorem dX7_kind_42 : decode cX7_kind 42 = .ok (.ireturn, 1) := by decide +kernel
set_option maxRecDepth 20000 in
theorem ggX7_authorise_X7_cardAt : GoodIn wsX7_authorise wsX7_cardAt := goodIn_ca (goodIn_r _ [12, 13, 14, 15, 130, 131, 132, 133, 134, 135, 136, 137] (by decide +kernel) (by decide +kernel)) (goodIn_sub (fun _ h => List.mem_cons_of_mem _ (List.mem_append_left _ (List.mem_append_left _ (List.mem_append_right _ h)))) (by decide +kernel))
set_option maxRecDepth 20000 in
theorem gX7_authorise_X7_cardAt : GoodIn wsX7_authorise (wsV RX7 89 RX7 yX7_cardAt wsX7_cardAt) := goodIn_app (goodIn_of _ (by decide +kernel)) ggX7_authorise_X7_cardAt
set_option maxRecDepth 20000 in
theorem ggX7_authorise_X7_shopAt : GoodIn wsX7_authorise wsX7_shopAt := goodIn_ca (goodIn_r _ [19, 13, 14, 20, 130, 131, 132, 133, 134, 135, 136, 137] (by decide +kernel) (by decide +kernel)) (goodIn_sub (fun _ h => List.mem_cons_of_mem _ (List.mem_append_left _ (List.mem_append_left _ (List.mem_append_right _ h)))) (by decide +kernel))
set_option maxRecDepth 20000 in
theorem gX7_authorise_X7_shopAt : GoodIn wsX7_authorise (wsV RX7 60 RX7 yX7_shopAt wsX7_shopAt) := goodIn_app (goodIn_of _ (by decide +kernel)) ggX7_authorise_X7_shopAt
set_option maxRecDepth 20000 in
theorem ggX7_authorise_X7_requireRange : GoodIn wsX7_authorise wsX7_requireRange := goodIn_ca (goodIn_r _ [23, 24, 25] (by decide +kernel) (by decide +kernel)) (goodIn_sub (fun _ h => List.mem_cons_of_mem _ (List.mem_append_left _ (List.mem_append_right _ h))) (by decide +kernel))
set_option maxRecDepth 20000 in
theorem gX7_authorise_X7_requireRange : GoodIn wsX7_authorise (va_wsS RX7 75 yX7_requireRange wsX7_requireRange) := goodIn_app (goodIn_of _ (by decide +kernel)) ggX7_authorise_X7_requireRange
set_option maxRecDepth 20000 in
theorem ggX7_authorise_Jx4a65c_size_8abf5 : GoodIn wsX7_authorise wsJx4a65c_size_8abf5 := goodIn_r _ [30, 31, 145, 146, 147] (by decide +kernel) (by decide +kernel)
set_option maxRecDepth 20000 in
theorem gX7_authorise_Jx4a65c_size_8abf5_f94Jx4a65c : GoodIn wsX7_authorise (va_wsF RX7 94 RJx4a65c ⟨"java/util/List", "size", "()I"⟩ yJx4a65c_size_8abf5 wsJx4a65c_size_8abf5) := goodIn_app (goodIn_of _ (by decide +kernel)) ggX7_authorise_Jx4a65c_size_8abf5
set_option maxRecDepth 20000 in
theorem ggX7_authorise_X7_requirePossible : GoodIn wsX7_authorise wsX7_requirePossible := goodIn_ca (goodIn_r _ [34, 35, 36] (by decide +kernel) (by decide +kernel)) (goodIn_sub (fun _ h => List.mem_cons_of_mem _ (List.mem_append_right _ h)) (by decide +kernel))
set_option maxRecDepth 20000 in
theorem gX7_authorise_X7_requirePossible : GoodIn wsX7_authorise (va_wsS RX7 100 yX7_requirePossible wsX7_requirePossible) := goodIn_app (goodIn_of _ (by decide +kernel)) ggX7_authorise_X7_requirePossible
set_option maxRecDepth 20000 in
theorem ggX7_authorise_X7_limitOf : GoodIn wsX7_authorise wsX7_limitOf := goodIn_r _ [40, 41, 42, 43, 44, 45, 46, 47, 48, 49, 26, 27, 28, 29, 30, 31, 50, 51, 52, 53, 54, 55, 56, 57, 58, 59, 60, 61, 62, 63, 64, 65, 66, 130, 131, 132, 133, 134, 135, 136, 137, 148, 149, 150, 151, 152, 138, 139, 140, 141, 142, 143, 144, 145, 146, 147] (by decide +kernel) (by decide +kernel)
set_option maxRecDepth 20000 in
theorem gX7_authorise_X7_limitOf : GoodIn wsX7_authorise (wsV RX7 104 RX7 yX7_limitOf wsX7_limitOf) := goodIn_app (goodIn_of _ (by decide +kernel)) ggX7_authorise_X7_limitOf
set_option maxRecDepth 20000 in
theorem ggX7_authorise_X5_init : GoodIn wsX7_authorise wsX5_init := goodIn_r _ [69, 70, 71, 72, 73, 74, 75, 76, 77, 78, 79, 138, 139, 140, 141, 142, 143, 144] (by decide +kernel) (by decide +kernel)
set_option maxRecDepth 20000 in
theorem gX7_authorise_X5_init : GoodIn wsX7_authorise (wsX5_init) := ggX7_authorise_X5_init
set_option maxRecDepth 20000 in
theorem ggX7_authorise_Jx4a65c_add_9ea2d : GoodIn wsX7_authorise wsJx4a65c_add_9ea2d := goodIn_r _ [83, 84, 85, 66, 31, 86, 87, 88, 29, 89, 90, 91, 92, 93, 94, 95, 96, 97, 98, 99, 47, 48, 49, 100, 101, 102, 103, 104, 105, 106, 107, 108, 109, 110, 111, 112, 113, 114, 115, 116, 117, 118, 119, 120, 121, 122, 123, 124, 125, 126, 127, 128, 129, 145, 146, 147] (by decide +kernel) (by decide +kernel)
set_option maxRecDepth 20000 in
theorem gX7_authorise_Jx4a65c_add_9ea2d_f113Jx4a65c : GoodIn wsX7_authorise (va_wsF RX7 113 RJx4a65c ⟨"java/util/List", "add", "(Ljava/lang/Object;)Z"⟩ yJx4a65c_add_9ea2d wsJx4a65c_add_9ea2d) := goodIn_app (goodIn_of _ (by decide +kernel)) ggX7_authorise_Jx4a65c_add_9ea2d
theorem dX7_authorise_0 : decode cX7_authorise 0 = .ok (.aload_n 0, 1) := by decide +kernel
theorem dX7_authorise_1 : decode cX7_authorise 1 = .ok (.iload_n 1, 1) := by decide +kernel
theorem dX7_authorise_2 : decode cX7_authorise 2 = .ok (.invokevirtual 89, 3) := by decide +kernel
theorem dX7_authorise_5 : decode cX7_authorise 5 = .ok (.astore 4, 2) := by decide +kernel
theorem dX7_authorise_7 : decode cX7_authorise 7 = .ok (.aload_n 0, 1) := by decide +kernel
theorem dX7_authorise_8 : decode cX7_authorise 8 = .ok (.iload_n 2, 1) := by decide +kernel
theorem dX7_authorise_9 : decode cX7_authorise 9 = .ok (.invokevirtual 60, 3) := by decide +kernel
theorem dX7_authorise_12 : decode cX7_authorise 12 = .ok (.astore 5, 2) := by decide +kernel
theorem dX7_authorise_14 : decode cX7_authorise 14 = .ok (.iload_n 3, 1) := by decide +kernel
theorem dX7_authorise_15 : decode cX7_authorise 15 = .ok (.iconst 1, 1) := by decide +kernel
theorem dX7_authorise_16 : decode cX7_authorise 16 = .ok (.ldc 93, 2) := by decide +kernel
theorem dX7_authorise_18 : decode cX7_authorise 18 = .ok (.invokestatic 75, 3) := by decide +kernel
theorem dX7_authorise_21 : decode cX7_authorise 21 = .ok (.aload_n 0, 1) := by decide +kernel
theorem dX7_authorise_22 : decode cX7_authorise 22 = .ok (.getfield 36, 3) := by decide +kernel
theorem dX7_authorise_25 : decode cX7_authorise 25 = .ok (.invokeinterface 94 1, 5) := by decide +kernel
theorem dX7_authorise_30 : decode cX7_authorise 30 = .ok (.bipush 60, 2) := by decide +kernel
theorem dX7_authorise_32 : decode cX7_authorise 32 = .ok (.if_icmp .ge 7, 3) := by decide +kernel
theorem dX7_authorise_35 : decode cX7_authorise 35 = .ok (.iconst 1, 1) := by decide +kernel
theorem dX7_authorise_36 : decode cX7_authorise 36 = .ok (.goto 4, 3) := by decide +kernel
theorem dX7_authorise_39 : decode cX7_authorise 39 = .ok (.iconst 0, 1) := by decide +kernel
theorem dX7_authorise_40 : decode cX7_authorise 40 = .ok (.invokestatic 100, 3) := by decide +kernel
theorem dX7_authorise_43 : decode cX7_authorise 43 = .ok (.iload_n 3, 1) := by decide +kernel
theorem dX7_authorise_44 : decode cX7_authorise 44 = .ok (.aload_n 0, 1) := by decide +kernel
theorem dX7_authorise_45 : decode cX7_authorise 45 = .ok (.aload 4, 2) := by decide +kernel
theorem dX7_authorise_47 : decode cX7_authorise 47 = .ok (.invokevirtual 104, 3) := by decide +kernel
theorem dX7_authorise_50 : decode cX7_authorise 50 = .ok (.if_icmp .le 5, 3) := by decide +kernel
theorem dX7_authorise_53 : decode cX7_authorise 53 = .ok (.iconst (-1), 1) := by decide +kernel
theorem dX7_authorise_54 : decode cX7_authorise 54 = .ok (.ireturn, 1) := by decide +kernel
theorem dX7_authorise_55 : decode cX7_authorise 55 = .ok (.new 108, 3) := by decide +kernel
theorem dX7_authorise_58 : decode cX7_authorise 58 = .ok (.dup, 1) := by decide +kernel
theorem dX7_authorise_59 : decode cX7_authorise 59 = .ok (.aload_n 0, 1) := by decide +kernel
theorem dX7_authorise_60 : decode cX7_authorise 60 = .ok (.getfield 36, 3) := by decide +kernel
theorem dX7_authorise_63 : decode cX7_authorise 63 = .ok (.invokeinterface 94 1, 5) := by decide +kernel
theorem dX7_authorise_68 : decode cX7_authorise 68 = .ok (.aload 4, 2) := by decide +kernel
theorem dX7_authorise_70 : decode cX7_authorise 70 = .ok (.aload 5, 2) := by decide +kernel
theorem dX7_authorise_72 : decode cX7_authorise 72 = .ok (.iload_n 3, 1) := by decide +kernel
theorem dX7_authorise_73 : decode cX7_authorise 73 = .ok (.aload_n 0, 1) := by decide +kernel
theorem dX7_authorise_74 : decode cX7_authorise 74 = .ok (.getfield 46, 3) := by decide +kernel
theorem dX7_authorise_77 : decode cX7_authorise 77 = .ok (.bipush 7, 2) := by decide +kernel
theorem dX7_authorise_79 : decode cX7_authorise 79 = .ok (.iadd, 1) := by decide +kernel
theorem dX7_authorise_80 : decode cX7_authorise 80 = .ok (.invokespecial 110, 3) := by decide +kernel
theorem dX7_authorise_83 : decode cX7_authorise 83 = .ok (.astore 6, 2) := by decide +kernel
theorem dX7_authorise_85 : decode cX7_authorise 85 = .ok (.aload_n 0, 1) := by decide +kernel
theorem dX7_authorise_86 : decode cX7_authorise 86 = .ok (.getfield 36, 3) := by decide +kernel
theorem dX7_authorise_89 : decode cX7_authorise 89 = .ok (.aload 6, 2) := by decide +kernel
theorem dX7_authorise_91 : decode cX7_authorise 91 = .ok (.invokeinterface 113 2, 5) := by decide +kernel
theorem dX7_authorise_96 : decode cX7_authorise 96 = .ok (.pop, 1) := by decide +kernel
theorem dX7_authorise_97 : decode cX7_authorise 97 = .ok (.aload 6, 2) := by decide +kernel
theorem dX7_authorise_99 : decode cX7_authorise 99 = .ok (.getfield 117, 3) := by decide +kernel
theorem dX7_authorise_102 : decode cX7_authorise 102 = .ok (.ireturn, 1) := by decide +kernel
set_option maxRecDepth 20000 in
theorem ggX7_capture_X7_paymentAt : GoodIn wsX7_capture wsX7_paymentAt := goodIn_ca (goodIn_r _ [17, 18, 19, 20, 21, 22, 23, 24, 25, 26, 27, 28, 29, 30, 31, 32, 33, 34, 35, 36, 37, 38, 39, 40, 41, 42, 43, 44, 163, 164, 165, 166, 167, 168, 169, 170, 186, 187, 188] (by decide +kernel) (by decide +kernel)) (goodIn_sub (fun _ h => List.mem_cons_of_mem _ (List.mem_append_left _ (List.mem_append_left _ (List.mem_append_right _ h)))) (by decide +kernel))
set_option maxRecDepth 20000 in
theorem gX7_capture_X7_paymentAt : GoodIn wsX7_capture (wsV RX7 118 RX7 yX7_paymentAt wsX7_paymentAt) := goodIn_app (goodIn_of _ (by decide +kernel)) ggX7_capture_X7_paymentAt
set_option maxRecDepth 20000 in
theorem ggX7_capture_X7_requireRange : GoodIn wsX7_capture wsX7_requireRange := goodIn_ca (goodIn_r _ [47, 48, 49] (by decide +kernel) (by decide +kernel)) (goodIn_sub (fun _ h => List.mem_cons_of_mem _ (List.mem_append_left _ (List.mem_append_right _ h))) (by decide +kernel))
set_option maxRecDepth 20000 in
theorem gX7_capture_X7_requireRange : GoodIn wsX7_capture (va_wsS RX7 75 yX7_requireRange wsX7_requireRange) := goodIn_app (goodIn_of _ (by decide +kernel)) ggX7_capture_X7_requireRange
set_option maxRecDepth 20000 in
theorem ggX7_capture_Jx4a65c_size_8abf5 : GoodIn wsX7_capture wsJx4a65c_size_8abf5 := goodIn_r _ [26, 27, 186, 187, 188] (by decide +kernel) (by decide +kernel)
set_option maxRecDepth 20000 in
theorem gX7_capture_Jx4a65c_size_8abf5_f94Jx4a65c : GoodIn wsX7_capture (va_wsF RX7 94 RJx4a65c ⟨"java/util/List", "size", "()I"⟩ yJx4a65c_size_8abf5 wsJx4a65c_size_8abf5) := goodIn_app (goodIn_of _ (by decide +kernel)) ggX7_capture_Jx4a65c_size_8abf5
set_option maxRecDepth 20000 in
theorem ggX7_capture_X7_requirePossible : GoodIn wsX7_capture wsX7_requirePossible := goodIn_ca (goodIn_r _ [52, 53, 54] (by decide +kernel) (by decide +kernel)) (goodIn_sub (fun _ h => List.mem_cons_of_mem _ (List.mem_append_right _ h)) (by decide +kernel))
set_option maxRecDepth 20000 in
theorem gX7_capture_X7_requirePossible : GoodIn wsX7_capture (va_wsS RX7 100 yX7_requirePossible wsX7_requirePossible) := goodIn_app (goodIn_of _ (by decide +kernel)) ggX7_capture_X7_requirePossible
set_option maxRecDepth 20000 in
theorem ggX7_capture_X5_isAlive : GoodIn wsX7_capture wsX5_isAlive := goodIn_r _ [59, 60, 61, 176, 177, 178, 179, 180, 181, 182] (by decide +kernel) (by decide +kernel)
set_option maxRecDepth 20000 in
theorem gX7_capture_X5_isAlive : GoodIn wsX7_capture (wsV RX7 122 RX5 yX5_isAlive wsX5_isAlive) := goodIn_app (goodIn_of _ (by decide +kernel)) ggX7_capture_X5_isAlive
set_option maxRecDepth 20000 in
theorem ggX7_capture_X5_left : GoodIn wsX7_capture wsX5_left := goodIn_r _ [65, 66, 67, 176, 177, 178, 179, 180, 181, 182] (by decide +kernel) (by decide +kernel)
set_option maxRecDepth 20000 in
theorem gX7_capture_X5_left : GoodIn wsX7_capture (wsV RX7 126 RX5 yX5_left wsX5_left) := goodIn_app (goodIn_of _ (by decide +kernel)) ggX7_capture_X5_left
set_option maxRecDepth 20000 in
theorem ggX7_capture_X4_feeOf : GoodIn wsX7_capture wsX4_feeOf := goodIn_r _ [72, 73, 74, 75, 76, 77, 78, 189, 190, 191] (by decide +kernel) (by decide +kernel)
set_option maxRecDepth 20000 in
theorem gX7_capture_X4_feeOf : GoodIn wsX7_capture (wsV RX7 85 RX4 yX4_feeOf wsX4_feeOf) := goodIn_app (goodIn_of _ (by decide +kernel)) ggX7_capture_X4_feeOf
set_option maxRecDepth 20000 in
theorem ggX7_capture_X1_init : GoodIn wsX7_capture wsX1_init := goodIn_r _ [81, 82, 83, 84, 85, 86, 87, 88, 89, 171, 172, 173, 174, 175] (by decide +kernel) (by decide +kernel)
set_option maxRecDepth 20000 in
theorem gX7_capture_X1_init : GoodIn wsX7_capture (wsX1_init) := ggX7_capture_X1_init
set_option maxRecDepth 20000 in
theorem ggX7_capture_Jx4a65c_add_9ea2d : GoodIn wsX7_capture wsJx4a65c_add_9ea2d := goodIn_r _ [93, 94, 95, 44, 27, 96, 97, 98, 25, 99, 100, 101, 102, 103, 104, 105, 106, 107, 108, 109, 110, 77, 111, 112, 113, 114, 115, 116, 117, 118, 119, 120, 121, 122, 123, 124, 125, 126, 127, 128, 129, 130, 131, 132, 133, 134, 135, 76, 78, 136, 137, 138, 139, 186, 187, 188] (by decide +kernel) (by decide +kernel)
set_option maxRecDepth 20000 in
theorem gX7_capture_Jx4a65c_add_9ea2d_f113Jx4a65c : GoodIn wsX7_capture (va_wsF RX7 113 RJx4a65c ⟨"java/util/List", "add", "(Ljava/lang/Object;)Z"⟩ yJx4a65c_add_9ea2d wsJx4a65c_add_9ea2d) := goodIn_app (goodIn_of _ (by decide +kernel)) ggX7_capture_Jx4a65c_add_9ea2d
set_option maxRecDepth 20000 in
theorem ggX7_capture_X1_cardBank : GoodIn wsX7_capture wsX1_cardBank := goodIn_r _ [143, 87, 144, 145, 171, 172, 173, 174, 175, 176, 177, 178, 179, 180, 181, 182, 192, 193] (by decide +kernel) (by decide +kernel)
set_option maxRecDepth 20000 in
theorem gX7_capture_X1_cardBank : GoodIn wsX7_capture (wsV RX7 141 RX1 yX1_cardBank wsX1_cardBank) := goodIn_app (goodIn_of _ (by decide +kernel)) ggX7_capture_X1_cardBank
set_option maxRecDepth 20000 in
theorem ggX7_capture_X1_shopBank : GoodIn wsX7_capture wsX1_shopBank := goodIn_r _ [149, 87, 150, 151, 171, 172, 173, 174, 175, 176, 177, 178, 179, 180, 181, 182, 183, 184, 185] (by decide +kernel) (by decide +kernel)
set_option maxRecDepth 20000 in
theorem gX7_capture_X1_shopBank : GoodIn wsX7_capture (wsV RX7 145 RX1 yX1_shopBank wsX1_shopBank) := goodIn_app (goodIn_of _ (by decide +kernel)) ggX7_capture_X1_shopBank
set_option maxRecDepth 20000 in
theorem ggX7_capture_X0_pay : GoodIn wsX7_capture wsX0_pay := goodIn_r _ [156, 157, 158, 159, 155, 160, 161, 162, 194, 195] (by decide +kernel) (by decide +kernel)
set_option maxRecDepth 20000 in
theorem gX7_capture_X0_pay : GoodIn wsX7_capture (wsV RX7 154 RX0 yX0_pay wsX0_pay) := goodIn_app (goodIn_of _ (by decide +kernel)) ggX7_capture_X0_pay
theorem dX7_capture_0 : decode cX7_capture 0 = .ok (.aload_n 0, 1) := by decide +kernel
theorem dX7_capture_1 : decode cX7_capture 1 = .ok (.iload_n 1, 1) := by decide +kernel
theorem dX7_capture_2 : decode cX7_capture 2 = .ok (.invokevirtual 118, 3) := by decide +kernel
theorem dX7_capture_5 : decode cX7_capture 5 = .ok (.astore_n 3, 1) := by decide +kernel
theorem dX7_capture_6 : decode cX7_capture 6 = .ok (.iload_n 2, 1) := by decide +kernel
theorem dX7_capture_7 : decode cX7_capture 7 = .ok (.iconst 1, 1) := by decide +kernel
theorem dX7_capture_8 : decode cX7_capture 8 = .ok (.ldc 93, 2) := by decide +kernel
theorem dX7_capture_10 : decode cX7_capture 10 = .ok (.invokestatic 75, 3) := by decide +kernel
theorem dX7_capture_13 : decode cX7_capture 13 = .ok (.aload_n 0, 1) := by decide +kernel
theorem dX7_capture_14 : decode cX7_capture 14 = .ok (.getfield 40, 3) := by decide +kernel
theorem dX7_capture_17 : decode cX7_capture 17 = .ok (.invokeinterface 94 1, 5) := by decide +kernel
theorem dX7_capture_22 : decode cX7_capture 22 = .ok (.bipush 100, 2) := by decide +kernel
theorem dX7_capture_24 : decode cX7_capture 24 = .ok (.if_icmp .ge 7, 3) := by decide +kernel
theorem dX7_capture_27 : decode cX7_capture 27 = .ok (.iconst 1, 1) := by decide +kernel
theorem dX7_capture_28 : decode cX7_capture 28 = .ok (.goto 4, 3) := by decide +kernel
theorem dX7_capture_31 : decode cX7_capture 31 = .ok (.iconst 0, 1) := by decide +kernel
theorem dX7_capture_32 : decode cX7_capture 32 = .ok (.invokestatic 100, 3) := by decide +kernel
theorem dX7_capture_35 : decode cX7_capture 35 = .ok (.aload_n 3, 1) := by decide +kernel
theorem dX7_capture_36 : decode cX7_capture 36 = .ok (.aload_n 0, 1) := by decide +kernel
theorem dX7_capture_37 : decode cX7_capture 37 = .ok (.getfield 46, 3) := by decide +kernel
theorem dX7_capture_40 : decode cX7_capture 40 = .ok (.invokevirtual 122, 3) := by decide +kernel
theorem dX7_capture_43 : decode cX7_capture 43 = .ok (.ifCond .eq 15, 3) := by decide +kernel
theorem dX7_capture_46 : decode cX7_capture 46 = .ok (.iload_n 2, 1) := by decide +kernel
theorem dX7_capture_47 : decode cX7_capture 47 = .ok (.aload_n 3, 1) := by decide +kernel
theorem dX7_capture_48 : decode cX7_capture 48 = .ok (.invokevirtual 126, 3) := by decide +kernel
theorem dX7_capture_51 : decode cX7_capture 51 = .ok (.if_icmp .gt 7, 3) := by decide +kernel
theorem dX7_capture_54 : decode cX7_capture 54 = .ok (.iconst 1, 1) := by decide +kernel
theorem dX7_capture_55 : decode cX7_capture 55 = .ok (.goto 4, 3) := by decide +kernel
theorem dX7_capture_58 : decode cX7_capture 58 = .ok (.iconst 0, 1) := by decide +kernel
theorem dX7_capture_59 : decode cX7_capture 59 = .ok (.invokestatic 100, 3) := by decide +kernel
theorem dX7_capture_62 : decode cX7_capture 62 = .ok (.new 129, 3) := by decide +kernel
theorem dX7_capture_65 : decode cX7_capture 65 = .ok (.dup, 1) := by decide +kernel
theorem dX7_capture_66 : decode cX7_capture 66 = .ok (.aload_n 0, 1) := by decide +kernel
theorem dX7_capture_67 : decode cX7_capture 67 = .ok (.getfield 40, 3) := by decide +kernel
theorem dX7_capture_70 : decode cX7_capture 70 = .ok (.invokeinterface 94 1, 5) := by decide +kernel
theorem dX7_capture_75 : decode cX7_capture 75 = .ok (.aload_n 3, 1) := by decide +kernel
theorem dX7_capture_76 : decode cX7_capture 76 = .ok (.iload_n 2, 1) := by decide +kernel
theorem dX7_capture_77 : decode cX7_capture 77 = .ok (.aload_n 3, 1) := by decide +kernel
theorem dX7_capture_78 : decode cX7_capture 78 = .ok (.getfield 131, 3) := by decide +kernel
theorem dX7_capture_81 : decode cX7_capture 81 = .ok (.getfield 68, 3) := by decide +kernel
theorem dX7_capture_84 : decode cX7_capture 84 = .ok (.iload_n 2, 1) := by decide +kernel
theorem dX7_capture_85 : decode cX7_capture 85 = .ok (.invokevirtual 85, 3) := by decide +kernel
theorem dX7_capture_88 : decode cX7_capture 88 = .ok (.invokespecial 135, 3) := by decide +kernel
theorem dX7_capture_91 : decode cX7_capture 91 = .ok (.astore 4, 2) := by decide +kernel
theorem dX7_capture_93 : decode cX7_capture 93 = .ok (.aload_n 0, 1) := by decide +kernel
theorem dX7_capture_94 : decode cX7_capture 94 = .ok (.getfield 40, 3) := by decide +kernel
theorem dX7_capture_97 : decode cX7_capture 97 = .ok (.aload 4, 2) := by decide +kernel
theorem dX7_capture_99 : decode cX7_capture 99 = .ok (.invokeinterface 113 2, 5) := by decide +kernel
theorem dX7_capture_104 : decode cX7_capture 104 = .ok (.pop, 1) := by decide +kernel
theorem dX7_capture_105 : decode cX7_capture 105 = .ok (.aload_n 3, 1) := by decide +kernel
theorem dX7_capture_106 : decode cX7_capture 106 = .ok (.dup, 1) := by decide +kernel
theorem dX7_capture_107 : decode cX7_capture 107 = .ok (.getfield 138, 3) := by decide +kernel
theorem dX7_capture_110 : decode cX7_capture 110 = .ok (.iload_n 2, 1) := by decide +kernel
theorem dX7_capture_111 : decode cX7_capture 111 = .ok (.iadd, 1) := by decide +kernel
theorem dX7_capture_112 : decode cX7_capture 112 = .ok (.putfield 138, 3) := by decide +kernel
theorem dX7_capture_115 : decode cX7_capture 115 = .ok (.aload 4, 2) := by decide +kernel
theorem dX7_capture_117 : decode cX7_capture 117 = .ok (.invokevirtual 141, 3) := by decide +kernel
theorem dX7_capture_120 : decode cX7_capture 120 = .ok (.aload 4, 2) := by decide +kernel
theorem dX7_capture_122 : decode cX7_capture 122 = .ok (.invokevirtual 145, 3) := by decide +kernel
theorem dX7_capture_125 : decode cX7_capture 125 = .ok (.aload 4, 2) := by decide +kernel
theorem dX7_capture_127 : decode cX7_capture 127 = .ok (.getfield 148, 3) := by decide +kernel
theorem dX7_capture_130 : decode cX7_capture 130 = .ok (.aload 4, 2) := by decide +kernel
theorem dX7_capture_132 : decode cX7_capture 132 = .ok (.getfield 151, 3) := by decide +kernel
theorem dX7_capture_135 : decode cX7_capture 135 = .ok (.isub, 1) := by decide +kernel
theorem dX7_capture_136 : decode cX7_capture 136 = .ok (.invokevirtual 154, 3) := by decide +kernel
theorem dX7_capture_139 : decode cX7_capture 139 = .ok (.aload 4, 2) := by decide +kernel
theorem dX7_capture_141 : decode cX7_capture 141 = .ok (.getfield 158, 3) := by decide +kernel
theorem dX7_capture_144 : decode cX7_capture 144 = .ok (.ireturn, 1) := by decide +kernel
set_option maxRecDepth 20000 in
theorem ggX7_cancel_X7_paymentAt : GoodIn wsX7_cancel wsX7_paymentAt := goodIn_ca (goodIn_r _ [7, 8, 9, 10, 11, 12, 13, 14, 15, 16, 17, 18, 19, 20, 21, 22, 23, 24, 25, 26, 27, 28, 29, 30, 31, 32, 33, 34, 53, 54, 55, 56, 57, 58, 59, 60, 68, 69, 70] (by decide +kernel) (by decide +kernel)) (goodIn_sub (fun _ h => List.mem_cons_of_mem _ (List.mem_append_left _ (List.mem_append_right _ h))) (by decide +kernel))
set_option maxRecDepth 20000 in
theorem gX7_cancel_X7_paymentAt : GoodIn wsX7_cancel (wsV RX7 118 RX7 yX7_paymentAt wsX7_paymentAt) := goodIn_app (goodIn_of _ (by decide +kernel)) ggX7_cancel_X7_paymentAt
set_option maxRecDepth 20000 in
theorem ggX7_cancel_X5_isAlive : GoodIn wsX7_cancel wsX5_isAlive := goodIn_r _ [39, 40, 41, 61, 62, 63, 64, 65, 66, 67] (by decide +kernel) (by decide +kernel)
set_option maxRecDepth 20000 in
theorem gX7_cancel_X5_isAlive : GoodIn wsX7_cancel (wsV RX7 122 RX5 yX5_isAlive wsX5_isAlive) := goodIn_app (goodIn_of _ (by decide +kernel)) ggX7_cancel_X5_isAlive
set_option maxRecDepth 20000 in
theorem ggX7_cancel_X7_requirePossible : GoodIn wsX7_cancel wsX7_requirePossible := goodIn_ca (goodIn_r _ [44, 45, 46] (by decide +kernel) (by decide +kernel)) (goodIn_sub (fun _ h => List.mem_cons_of_mem _ (List.mem_append_right _ h)) (by decide +kernel))
set_option maxRecDepth 20000 in
theorem gX7_cancel_X7_requirePossible : GoodIn wsX7_cancel (va_wsS RX7 100 yX7_requirePossible wsX7_requirePossible) := goodIn_app (goodIn_of _ (by decide +kernel)) ggX7_cancel_X7_requirePossible
set_option maxRecDepth 20000 in
theorem ggX7_cancel_X5_left : GoodIn wsX7_cancel wsX5_left := goodIn_r _ [50, 51, 52, 61, 62, 63, 64, 65, 66, 67] (by decide +kernel) (by decide +kernel)
set_option maxRecDepth 20000 in
theorem gX7_cancel_X5_left : GoodIn wsX7_cancel (wsV RX7 126 RX5 yX5_left wsX5_left) := goodIn_app (goodIn_of _ (by decide +kernel)) ggX7_cancel_X5_left
theorem dX7_cancel_0 : decode cX7_cancel 0 = .ok (.aload_n 0, 1) := by decide +kernel
theorem dX7_cancel_1 : decode cX7_cancel 1 = .ok (.iload_n 1, 1) := by decide +kernel
theorem dX7_cancel_2 : decode cX7_cancel 2 = .ok (.invokevirtual 118, 3) := by decide +kernel
theorem dX7_cancel_5 : decode cX7_cancel 5 = .ok (.astore_n 2, 1) := by decide +kernel
theorem dX7_cancel_6 : decode cX7_cancel 6 = .ok (.aload_n 2, 1) := by decide +kernel
theorem dX7_cancel_7 : decode cX7_cancel 7 = .ok (.aload_n 0, 1) := by decide +kernel
theorem dX7_cancel_8 : decode cX7_cancel 8 = .ok (.getfield 46, 3) := by decide +kernel
theorem dX7_cancel_11 : decode cX7_cancel 11 = .ok (.invokevirtual 122, 3) := by decide +kernel
theorem dX7_cancel_14 : decode cX7_cancel 14 = .ok (.invokestatic 100, 3) := by decide +kernel
theorem dX7_cancel_17 : decode cX7_cancel 17 = .ok (.aload_n 2, 1) := by decide +kernel
theorem dX7_cancel_18 : decode cX7_cancel 18 = .ok (.iconst 1, 1) := by decide +kernel
theorem dX7_cancel_19 : decode cX7_cancel 19 = .ok (.putfield 159, 3) := by decide +kernel
theorem dX7_cancel_22 : decode cX7_cancel 22 = .ok (.aload_n 2, 1) := by decide +kernel
theorem dX7_cancel_23 : decode cX7_cancel 23 = .ok (.invokevirtual 126, 3) := by decide +kernel
theorem dX7_cancel_26 : decode cX7_cancel 26 = .ok (.ireturn, 1) := by decide +kernel
set_option maxRecDepth 20000 in
theorem ggX7_refund_X7_captureAt : GoodIn wsX7_refund wsX7_captureAt := goodIn_ca (goodIn_r _ [8, 9, 10, 11, 12, 13, 14, 15, 16, 17, 18, 19, 20, 21, 22, 23, 24, 25, 26, 27, 28, 29, 30, 31, 32, 33, 34, 35, 85, 86, 87, 88, 89, 90, 91, 92, 93, 94, 95] (by decide +kernel) (by decide +kernel)) (goodIn_sub (fun _ h => List.mem_cons_of_mem _ (List.mem_append_left _ (List.mem_append_left _ (List.mem_append_right _ h)))) (by decide +kernel))
set_option maxRecDepth 20000 in
theorem gX7_refund_X7_captureAt : GoodIn wsX7_refund (wsV RX7 163 RX7 yX7_captureAt wsX7_captureAt) := goodIn_app (goodIn_of _ (by decide +kernel)) ggX7_refund_X7_captureAt
set_option maxRecDepth 20000 in
theorem ggX7_refund_X7_requireRange : GoodIn wsX7_refund wsX7_requireRange := goodIn_ca (goodIn_r _ [38, 39, 40] (by decide +kernel) (by decide +kernel)) (goodIn_sub (fun _ h => List.mem_cons_of_mem _ (List.mem_append_left _ (List.mem_append_right _ h))) (by decide +kernel))
set_option maxRecDepth 20000 in
theorem gX7_refund_X7_requireRange : GoodIn wsX7_refund (va_wsS RX7 75 yX7_requireRange wsX7_requireRange) := goodIn_app (goodIn_of _ (by decide +kernel)) ggX7_refund_X7_requireRange
set_option maxRecDepth 20000 in
theorem ggX7_refund_X7_givenBackOf : GoodIn wsX7_refund wsX7_givenBackOf := goodIn_r _ [44, 3, 45, 46, 47, 48, 49, 13, 14, 15, 16, 17, 18, 19, 20, 21, 22, 23, 24, 25, 26, 27, 28, 29, 30, 31, 32, 33, 34, 35, 80, 81, 82, 83, 84, 85, 86, 87, 88, 89, 90, 91, 92, 96, 97, 98, 99, 100, 93, 94, 95] (by decide +kernel) (by decide +kernel)
set_option maxRecDepth 20000 in
theorem gX7_refund_X7_givenBackOf : GoodIn wsX7_refund (wsV RX7 167 RX7 yX7_givenBackOf wsX7_givenBackOf) := goodIn_app (goodIn_of _ (by decide +kernel)) ggX7_refund_X7_givenBackOf
set_option maxRecDepth 20000 in
theorem ggX7_refund_X7_requirePossible : GoodIn wsX7_refund wsX7_requirePossible := goodIn_ca (goodIn_r _ [52, 53, 54] (by decide +kernel) (by decide +kernel)) (goodIn_sub (fun _ h => List.mem_cons_of_mem _ (List.mem_append_right _ h)) (by decide +kernel))
set_option maxRecDepth 20000 in
theorem gX7_refund_X7_requirePossible : GoodIn wsX7_refund (va_wsS RX7 100 yX7_requirePossible wsX7_requirePossible) := goodIn_app (goodIn_of _ (by decide +kernel)) ggX7_refund_X7_requirePossible
set_option maxRecDepth 20000 in
theorem ggX7_refund_X1_shopBank : GoodIn wsX7_refund wsX1_shopBank := goodIn_r _ [59, 60, 61, 62, 80, 81, 82, 83, 84, 101, 102, 103, 104, 105, 106, 107, 108, 109, 110] (by decide +kernel) (by decide +kernel)
set_option maxRecDepth 20000 in
theorem gX7_refund_X1_shopBank : GoodIn wsX7_refund (wsV RX7 145 RX1 yX1_shopBank wsX1_shopBank) := goodIn_app (goodIn_of _ (by decide +kernel)) ggX7_refund_X1_shopBank
set_option maxRecDepth 20000 in
theorem ggX7_refund_X1_cardBank : GoodIn wsX7_refund wsX1_cardBank := goodIn_r _ [66, 60, 67, 68, 80, 81, 82, 83, 84, 101, 102, 103, 104, 105, 106, 107, 111, 112] (by decide +kernel) (by decide +kernel)
set_option maxRecDepth 20000 in
theorem gX7_refund_X1_cardBank : GoodIn wsX7_refund (wsV RX7 141 RX1 yX1_cardBank wsX1_cardBank) := goodIn_app (goodIn_of _ (by decide +kernel)) ggX7_refund_X1_cardBank
set_option maxRecDepth 20000 in
theorem ggX7_refund_X0_pay : GoodIn wsX7_refund wsX0_pay := goodIn_r _ [73, 74, 75, 76, 72, 77, 78, 79, 113, 114] (by decide +kernel) (by decide +kernel)
set_option maxRecDepth 20000 in
theorem gX7_refund_X0_pay : GoodIn wsX7_refund (wsV RX7 154 RX0 yX0_pay wsX0_pay) := goodIn_app (goodIn_of _ (by decide +kernel)) ggX7_refund_X0_pay
theorem dX7_refund_0 : decode cX7_refund 0 = .ok (.aload_n 0, 1) := by decide +kernel
theorem dX7_refund_1 : decode cX7_refund 1 = .ok (.iload_n 1, 1) := by decide +kernel
theorem dX7_refund_2 : decode cX7_refund 2 = .ok (.invokevirtual 163, 3) := by decide +kernel
theorem dX7_refund_5 : decode cX7_refund 5 = .ok (.astore_n 3, 1) := by decide +kernel
theorem dX7_refund_6 : decode cX7_refund 6 = .ok (.iload_n 2, 1) := by decide +kernel
theorem dX7_refund_7 : decode cX7_refund 7 = .ok (.iconst 1, 1) := by decide +kernel
theorem dX7_refund_8 : decode cX7_refund 8 = .ok (.ldc 93, 2) := by decide +kernel
theorem dX7_refund_10 : decode cX7_refund 10 = .ok (.invokestatic 75, 3) := by decide +kernel
theorem dX7_refund_13 : decode cX7_refund 13 = .ok (.iload_n 2, 1) := by decide +kernel
theorem dX7_refund_14 : decode cX7_refund 14 = .ok (.aload_n 3, 1) := by decide +kernel
theorem dX7_refund_15 : decode cX7_refund 15 = .ok (.getfield 148, 3) := by decide +kernel
theorem dX7_refund_18 : decode cX7_refund 18 = .ok (.aload_n 0, 1) := by decide +kernel
theorem dX7_refund_19 : decode cX7_refund 19 = .ok (.aload_n 3, 1) := by decide +kernel
theorem dX7_refund_20 : decode cX7_refund 20 = .ok (.invokevirtual 167, 3) := by decide +kernel
theorem dX7_refund_23 : decode cX7_refund 23 = .ok (.isub, 1) := by decide +kernel
theorem dX7_refund_24 : decode cX7_refund 24 = .ok (.if_icmp .gt 7, 3) := by decide +kernel
theorem dX7_refund_27 : decode cX7_refund 27 = .ok (.iconst 1, 1) := by decide +kernel
theorem dX7_refund_28 : decode cX7_refund 28 = .ok (.goto 4, 3) := by decide +kernel
theorem dX7_refund_31 : decode cX7_refund 31 = .ok (.iconst 0, 1) := by decide +kernel
theorem dX7_refund_32 : decode cX7_refund 32 = .ok (.invokestatic 100, 3) := by decide +kernel
theorem dX7_refund_35 : decode cX7_refund 35 = .ok (.aload_n 3, 1) := by decide +kernel
theorem dX7_refund_36 : decode cX7_refund 36 = .ok (.dup, 1) := by decide +kernel
theorem dX7_refund_37 : decode cX7_refund 37 = .ok (.getfield 171, 3) := by decide +kernel
theorem dX7_refund_40 : decode cX7_refund 40 = .ok (.iload_n 2, 1) := by decide +kernel
theorem dX7_refund_41 : decode cX7_refund 41 = .ok (.iadd, 1) := by decide +kernel
theorem dX7_refund_42 : decode cX7_refund 42 = .ok (.putfield 171, 3) := by decide +kernel
theorem dX7_refund_45 : decode cX7_refund 45 = .ok (.aload_n 3, 1) := by decide +kernel
theorem dX7_refund_46 : decode cX7_refund 46 = .ok (.invokevirtual 145, 3) := by decide +kernel
theorem dX7_refund_49 : decode cX7_refund 49 = .ok (.aload_n 3, 1) := by decide +kernel
theorem dX7_refund_50 : decode cX7_refund 50 = .ok (.invokevirtual 141, 3) := by decide +kernel
theorem dX7_refund_53 : decode cX7_refund 53 = .ok (.iload_n 2, 1) := by decide +kernel
theorem dX7_refund_54 : decode cX7_refund 54 = .ok (.invokevirtual 154, 3) := by decide +kernel
theorem dX7_refund_57 : decode cX7_refund 57 = .ok (.aload_n 0, 1) := by decide +kernel
theorem dX7_refund_58 : decode cX7_refund 58 = .ok (.aload_n 3, 1) := by decide +kernel
theorem dX7_refund_59 : decode cX7_refund 59 = .ok (.invokevirtual 167, 3) := by decide +kernel
theorem dX7_refund_62 : decode cX7_refund 62 = .ok (.ireturn, 1) := by decide +kernel
set_option maxRecDepth 20000 in
theorem ggX7_dispute_X7_captureAt : GoodIn wsX7_dispute wsX7_captureAt := goodIn_ca (goodIn_r _ [13, 14, 15, 16, 17, 18, 19, 20, 21, 22, 23, 24, 25, 26, 27, 28, 29, 30, 31, 32, 33, 34, 35, 36, 37, 38, 39, 40, 149, 150, 151, 152, 153, 154, 155, 156, 167, 168, 169] (by decide +kernel) (by decide +kernel)) (goodIn_sub (fun _ h => List.mem_cons_of_mem _ (List.mem_append_left _ (List.mem_append_left _ (List.mem_append_right _ h)))) (by decide +kernel))
set_option maxRecDepth 20000 in
theorem gX7_dispute_X7_captureAt : GoodIn wsX7_dispute (wsV RX7 163 RX7 yX7_captureAt wsX7_captureAt) := goodIn_app (goodIn_of _ (by decide +kernel)) ggX7_dispute_X7_captureAt
set_option maxRecDepth 20000 in
theorem ggX7_dispute_X7_requireRange : GoodIn wsX7_dispute wsX7_requireRange := goodIn_ca (goodIn_r _ [43, 44, 45] (by decide +kernel) (by decide +kernel)) (goodIn_sub (fun _ h => List.mem_cons_of_mem _ (List.mem_append_left _ (List.mem_append_right _ h))) (by decide +kernel))
set_option maxRecDepth 20000 in
theorem gX7_dispute_X7_requireRange : GoodIn wsX7_dispute (va_wsS RX7 75 yX7_requireRange wsX7_requireRange) := goodIn_app (goodIn_of _ (by decide +kernel)) ggX7_dispute_X7_requireRange
set_option maxRecDepth 20000 in
theorem ggX7_dispute_Jx4a65c_size_8abf5 : GoodIn wsX7_dispute wsJx4a65c_size_8abf5 := goodIn_r _ [22, 23, 167, 168, 169] (by decide +kernel) (by decide +kernel)
set_option maxRecDepth 20000 in
theorem gX7_dispute_Jx4a65c_size_8abf5_f94Jx4a65c : GoodIn wsX7_dispute (va_wsF RX7 94 RJx4a65c ⟨"java/util/List", "size", "()I"⟩ yJx4a65c_size_8abf5 wsJx4a65c_size_8abf5) := goodIn_app (goodIn_of _ (by decide +kernel)) ggX7_dispute_Jx4a65c_size_8abf5
set_option maxRecDepth 20000 in
theorem ggX7_dispute_X7_requirePossible : GoodIn wsX7_dispute wsX7_requirePossible := goodIn_ca (goodIn_r _ [48, 49, 50] (by decide +kernel) (by decide +kernel)) (goodIn_sub (fun _ h => List.mem_cons_of_mem _ (List.mem_append_right _ h)) (by decide +kernel))
set_option maxRecDepth 20000 in
theorem gX7_dispute_X7_requirePossible : GoodIn wsX7_dispute (va_wsS RX7 100 yX7_requirePossible wsX7_requirePossible) := goodIn_app (goodIn_of _ (by decide +kernel)) ggX7_dispute_X7_requirePossible
set_option maxRecDepth 20000 in
theorem ggX7_dispute_X7_givenBackOf : GoodIn wsX7_dispute wsX7_givenBackOf := goodIn_r _ [54, 55, 2, 56, 57, 58, 59, 18, 19, 20, 21, 22, 23, 24, 25, 26, 27, 28, 29, 30, 31, 32, 33, 34, 35, 36, 37, 38, 39, 40, 157, 158, 159, 160, 161, 149, 150, 151, 152, 153, 154, 155, 156, 162, 163, 164, 165, 166, 167, 168, 169] (by decide +kernel) (by decide +kernel)
set_option maxRecDepth 20000 in
theorem gX7_dispute_X7_givenBackOf : GoodIn wsX7_dispute (wsV RX7 167 RX7 yX7_givenBackOf wsX7_givenBackOf) := goodIn_app (goodIn_of _ (by decide +kernel)) ggX7_dispute_X7_givenBackOf
set_option maxRecDepth 20000 in
theorem ggX7_dispute_X3_init : GoodIn wsX7_dispute wsX3_init := goodIn_r _ [62, 63, 64, 65, 66, 67, 68, 69, 70, 162, 163, 164, 165, 166] (by decide +kernel) (by decide +kernel)
set_option maxRecDepth 20000 in
theorem gX7_dispute_X3_init : GoodIn wsX7_dispute (wsX3_init) := ggX7_dispute_X3_init
set_option maxRecDepth 20000 in
theorem ggX7_dispute_Jx4a65c_add_9ea2d : GoodIn wsX7_dispute wsJx4a65c_add_9ea2d := goodIn_r _ [74, 75, 76, 40, 23, 77, 78, 79, 21, 80, 81, 82, 83, 84, 85, 86, 87, 88, 89, 90, 91, 92, 93, 94, 95, 96, 97, 98, 99, 100, 101, 102, 103, 104, 105, 106, 107, 108, 109, 110, 111, 112, 113, 114, 115, 116, 117, 118, 119, 120, 121, 122, 123, 167, 168, 169] (by decide +kernel) (by decide +kernel)
set_option maxRecDepth 20000 in
theorem gX7_dispute_Jx4a65c_add_9ea2d_f113Jx4a65c : GoodIn wsX7_dispute (va_wsF RX7 113 RJx4a65c ⟨"java/util/List", "add", "(Ljava/lang/Object;)Z"⟩ yJx4a65c_add_9ea2d wsJx4a65c_add_9ea2d) := goodIn_app (goodIn_of _ (by decide +kernel)) ggX7_dispute_Jx4a65c_add_9ea2d
set_option maxRecDepth 20000 in
theorem ggX7_dispute_X1_shopBank : GoodIn wsX7_dispute wsX1_shopBank := goodIn_r _ [128, 129, 130, 131, 157, 158, 159, 160, 161, 170, 171, 172, 173, 174, 175, 176, 177, 178, 179] (by decide +kernel) (by decide +kernel)
set_option maxRecDepth 20000 in
theorem gX7_dispute_X1_shopBank : GoodIn wsX7_dispute (wsV RX7 145 RX1 yX1_shopBank wsX1_shopBank) := goodIn_app (goodIn_of _ (by decide +kernel)) ggX7_dispute_X1_shopBank
set_option maxRecDepth 20000 in
theorem ggX7_dispute_X1_cardBank : GoodIn wsX7_dispute wsX1_cardBank := goodIn_r _ [135, 129, 136, 137, 157, 158, 159, 160, 161, 170, 171, 172, 173, 174, 175, 176, 180, 181] (by decide +kernel) (by decide +kernel)
set_option maxRecDepth 20000 in
theorem gX7_dispute_X1_cardBank : GoodIn wsX7_dispute (wsV RX7 141 RX1 yX1_cardBank wsX1_cardBank) := goodIn_app (goodIn_of _ (by decide +kernel)) ggX7_dispute_X1_cardBank
set_option maxRecDepth 20000 in
theorem ggX7_dispute_X0_pay : GoodIn wsX7_dispute wsX0_pay := goodIn_r _ [142, 143, 144, 145, 141, 146, 147, 148, 182, 183] (by decide +kernel) (by decide +kernel)
set_option maxRecDepth 20000 in
theorem gX7_dispute_X0_pay : GoodIn wsX7_dispute (wsV RX7 154 RX0 yX0_pay wsX0_pay) := goodIn_app (goodIn_of _ (by decide +kernel)) ggX7_dispute_X0_pay
theorem dX7_dispute_0 : decode cX7_dispute 0 = .ok (.aload_n 0, 1) := by decide +kernel
theorem dX7_dispute_1 : decode cX7_dispute 1 = .ok (.iload_n 1, 1) := by decide +kernel
theorem dX7_dispute_2 : decode cX7_dispute 2 = .ok (.invokevirtual 163, 3) := by decide +kernel
theorem dX7_dispute_5 : decode cX7_dispute 5 = .ok (.astore_n 3, 1) := by decide +kernel
theorem dX7_dispute_6 : decode cX7_dispute 6 = .ok (.iload_n 2, 1) := by decide +kernel
theorem dX7_dispute_7 : decode cX7_dispute 7 = .ok (.iconst 1, 1) := by decide +kernel
theorem dX7_dispute_8 : decode cX7_dispute 8 = .ok (.ldc 93, 2) := by decide +kernel
theorem dX7_dispute_10 : decode cX7_dispute 10 = .ok (.invokestatic 75, 3) := by decide +kernel
theorem dX7_dispute_13 : decode cX7_dispute 13 = .ok (.aload_n 0, 1) := by decide +kernel
theorem dX7_dispute_14 : decode cX7_dispute 14 = .ok (.getfield 43, 3) := by decide +kernel
theorem dX7_dispute_17 : decode cX7_dispute 17 = .ok (.invokeinterface 94 1, 5) := by decide +kernel
theorem dX7_dispute_22 : decode cX7_dispute 22 = .ok (.bipush 60, 2) := by decide +kernel
theorem dX7_dispute_24 : decode cX7_dispute 24 = .ok (.if_icmp .ge 7, 3) := by decide +kernel
theorem dX7_dispute_27 : decode cX7_dispute 27 = .ok (.iconst 1, 1) := by decide +kernel
theorem dX7_dispute_28 : decode cX7_dispute 28 = .ok (.goto 4, 3) := by decide +kernel
theorem dX7_dispute_31 : decode cX7_dispute 31 = .ok (.iconst 0, 1) := by decide +kernel
theorem dX7_dispute_32 : decode cX7_dispute 32 = .ok (.invokestatic 100, 3) := by decide +kernel
theorem dX7_dispute_35 : decode cX7_dispute 35 = .ok (.iload_n 2, 1) := by decide +kernel
theorem dX7_dispute_36 : decode cX7_dispute 36 = .ok (.aload_n 3, 1) := by decide +kernel
theorem dX7_dispute_37 : decode cX7_dispute 37 = .ok (.getfield 148, 3) := by decide +kernel
theorem dX7_dispute_40 : decode cX7_dispute 40 = .ok (.aload_n 0, 1) := by decide +kernel
theorem dX7_dispute_41 : decode cX7_dispute 41 = .ok (.aload_n 3, 1) := by decide +kernel
theorem dX7_dispute_42 : decode cX7_dispute 42 = .ok (.invokevirtual 167, 3) := by decide +kernel
theorem dX7_dispute_45 : decode cX7_dispute 45 = .ok (.isub, 1) := by decide +kernel
theorem dX7_dispute_46 : decode cX7_dispute 46 = .ok (.if_icmp .gt 7, 3) := by decide +kernel
theorem dX7_dispute_49 : decode cX7_dispute 49 = .ok (.iconst 1, 1) := by decide +kernel
theorem dX7_dispute_50 : decode cX7_dispute 50 = .ok (.goto 4, 3) := by decide +kernel
theorem dX7_dispute_53 : decode cX7_dispute 53 = .ok (.iconst 0, 1) := by decide +kernel
theorem dX7_dispute_54 : decode cX7_dispute 54 = .ok (.invokestatic 100, 3) := by decide +kernel
theorem dX7_dispute_57 : decode cX7_dispute 57 = .ok (.new 174, 3) := by decide +kernel
theorem dX7_dispute_60 : decode cX7_dispute 60 = .ok (.dup, 1) := by decide +kernel
theorem dX7_dispute_61 : decode cX7_dispute 61 = .ok (.aload_n 0, 1) := by decide +kernel
theorem dX7_dispute_62 : decode cX7_dispute 62 = .ok (.getfield 43, 3) := by decide +kernel
theorem dX7_dispute_65 : decode cX7_dispute 65 = .ok (.invokeinterface 94 1, 5) := by decide +kernel
theorem dX7_dispute_70 : decode cX7_dispute 70 = .ok (.aload_n 3, 1) := by decide +kernel
theorem dX7_dispute_71 : decode cX7_dispute 71 = .ok (.iload_n 2, 1) := by decide +kernel
theorem dX7_dispute_72 : decode cX7_dispute 72 = .ok (.aload_n 0, 1) := by decide +kernel
theorem dX7_dispute_73 : decode cX7_dispute 73 = .ok (.getfield 46, 3) := by decide +kernel
theorem dX7_dispute_76 : decode cX7_dispute 76 = .ok (.bipush 10, 2) := by decide +kernel
theorem dX7_dispute_78 : decode cX7_dispute 78 = .ok (.iadd, 1) := by decide +kernel
theorem dX7_dispute_79 : decode cX7_dispute 79 = .ok (.invokespecial 176, 3) := by decide +kernel
theorem dX7_dispute_82 : decode cX7_dispute 82 = .ok (.astore 4, 2) := by decide +kernel
theorem dX7_dispute_84 : decode cX7_dispute 84 = .ok (.aload_n 0, 1) := by decide +kernel
theorem dX7_dispute_85 : decode cX7_dispute 85 = .ok (.getfield 43, 3) := by decide +kernel
theorem dX7_dispute_88 : decode cX7_dispute 88 = .ok (.aload 4, 2) := by decide +kernel
theorem dX7_dispute_90 : decode cX7_dispute 90 = .ok (.invokeinterface 113 2, 5) := by decide +kernel
theorem dX7_dispute_95 : decode cX7_dispute 95 = .ok (.pop, 1) := by decide +kernel
theorem dX7_dispute_96 : decode cX7_dispute 96 = .ok (.aload_n 3, 1) := by decide +kernel
theorem dX7_dispute_97 : decode cX7_dispute 97 = .ok (.invokevirtual 145, 3) := by decide +kernel
theorem dX7_dispute_100 : decode cX7_dispute 100 = .ok (.aload_n 3, 1) := by decide +kernel
theorem dX7_dispute_101 : decode cX7_dispute 101 = .ok (.invokevirtual 141, 3) := by decide +kernel
theorem dX7_dispute_104 : decode cX7_dispute 104 = .ok (.iload_n 2, 1) := by decide +kernel
theorem dX7_dispute_105 : decode cX7_dispute 105 = .ok (.invokevirtual 154, 3) := by decide +kernel
theorem dX7_dispute_108 : decode cX7_dispute 108 = .ok (.aload 4, 2) := by decide +kernel
theorem dX7_dispute_110 : decode cX7_dispute 110 = .ok (.getfield 179, 3) := by decide +kernel
theorem dX7_dispute_113 : decode cX7_dispute 113 = .ok (.ireturn, 1) := by decide +kernel
set_option maxRecDepth 20000 in
theorem ggX7_answer_X7_chargebackAt : GoodIn wsX7_answer wsX7_chargebackAt := goodIn_ca (goodIn_r _ [8, 9, 10, 11, 12, 13, 14, 15, 16, 17, 18, 19, 20, 21, 22, 23, 24, 25, 26, 27, 28, 29, 30, 31, 32, 33, 34, 35, 76, 77, 78, 79, 80, 81, 82, 83, 84, 85, 86] (by decide +kernel) (by decide +kernel)) (goodIn_sub (fun _ h => List.mem_cons_of_mem _ (List.mem_append_left _ (List.mem_append_right _ h))) (by decide +kernel))
set_option maxRecDepth 20000 in
theorem gX7_answer_X7_chargebackAt : GoodIn wsX7_answer (wsV RX7 180 RX7 yX7_chargebackAt wsX7_chargebackAt) := goodIn_app (goodIn_of _ (by decide +kernel)) ggX7_answer_X7_chargebackAt
set_option maxRecDepth 20000 in
theorem ggX7_answer_X7_requirePossible : GoodIn wsX7_answer wsX7_requirePossible := goodIn_ca (goodIn_r _ [38, 39, 40] (by decide +kernel) (by decide +kernel)) (goodIn_sub (fun _ h => List.mem_cons_of_mem _ (List.mem_append_right _ h)) (by decide +kernel))
set_option maxRecDepth 20000 in
theorem gX7_answer_X7_requirePossible : GoodIn wsX7_answer (va_wsS RX7 100 yX7_requirePossible wsX7_requirePossible) := goodIn_app (goodIn_of _ (by decide +kernel)) ggX7_answer_X7_requirePossible
set_option maxRecDepth 20000 in
theorem ggX7_answer_X7_payBackToShop : GoodIn wsX7_answer wsX7_payBackToShop := goodIn_r _ [43, 44, 45, 46, 47, 48, 49, 50, 51, 52, 53, 54, 55, 56, 57, 58, 59, 60, 61, 62, 63, 64, 65, 66, 67, 68, 69, 70, 71, 72, 73, 74, 75, 87, 88, 89, 90, 91, 92, 93, 94, 95, 96, 97, 98, 99, 100, 101, 102, 103, 104, 105] (by decide +kernel) (by decide +kernel)
set_option maxRecDepth 20000 in
theorem gX7_answer_X7_payBackToShop : GoodIn wsX7_answer (va_wsS RX7 190 yX7_payBackToShop wsX7_payBackToShop) := goodIn_app (goodIn_of _ (by decide +kernel)) ggX7_answer_X7_payBackToShop
theorem dX7_answer_0 : decode cX7_answer 0 = .ok (.aload_n 0, 1) := by decide +kernel
theorem dX7_answer_1 : decode cX7_answer 1 = .ok (.iload_n 1, 1) := by decide +kernel
theorem dX7_answer_2 : decode cX7_answer 2 = .ok (.invokevirtual 180, 3) := by decide +kernel
theorem dX7_answer_5 : decode cX7_answer 5 = .ok (.astore_n 2, 1) := by decide +kernel
theorem dX7_answer_6 : decode cX7_answer 6 = .ok (.aload_n 2, 1) := by decide +kernel
theorem dX7_answer_7 : decode cX7_answer 7 = .ok (.getfield 184, 3) := by decide +kernel
theorem dX7_answer_10 : decode cX7_answer 10 = .ok (.ifCond .ne 7, 3) := by decide +kernel
theorem dX7_answer_13 : decode cX7_answer 13 = .ok (.iconst 1, 1) := by decide +kernel
theorem dX7_answer_14 : decode cX7_answer 14 = .ok (.goto 4, 3) := by decide +kernel
theorem dX7_answer_17 : decode cX7_answer 17 = .ok (.iconst 0, 1) := by decide +kernel
theorem dX7_answer_18 : decode cX7_answer 18 = .ok (.invokestatic 100, 3) := by decide +kernel
theorem dX7_answer_21 : decode cX7_answer 21 = .ok (.aload_n 2, 1) := by decide +kernel
theorem dX7_answer_22 : decode cX7_answer 22 = .ok (.iconst 1, 1) := by decide +kernel
theorem dX7_answer_23 : decode cX7_answer 23 = .ok (.putfield 184, 3) := by decide +kernel
theorem dX7_answer_26 : decode cX7_answer 26 = .ok (.aload_n 2, 1) := by decide +kernel
theorem dX7_answer_27 : decode cX7_answer 27 = .ok (.aload_n 0, 1) := by decide +kernel
theorem dX7_answer_28 : decode cX7_answer 28 = .ok (.getfield 46, 3) := by decide +kernel
theorem dX7_answer_31 : decode cX7_answer 31 = .ok (.bipush 10, 2) := by decide +kernel
theorem dX7_answer_33 : decode cX7_answer 33 = .ok (.iadd, 1) := by decide +kernel
theorem dX7_answer_34 : decode cX7_answer 34 = .ok (.putfield 187, 3) := by decide +kernel
theorem dX7_answer_37 : decode cX7_answer 37 = .ok (.aload_n 2, 1) := by decide +kernel
theorem dX7_answer_38 : decode cX7_answer 38 = .ok (.invokestatic 190, 3) := by decide +kernel
theorem dX7_answer_41 : decode cX7_answer 41 = .ok (.aload_n 2, 1) := by decide +kernel
theorem dX7_answer_42 : decode cX7_answer 42 = .ok (.getfield 187, 3) := by decide +kernel
theorem dX7_answer_45 : decode cX7_answer 45 = .ok (.ireturn, 1) := by decide +kernel
set_option maxRecDepth 20000 in
theorem ggX7_press_X7_chargebackAt : GoodIn wsX7_press wsX7_chargebackAt := goodIn_ca (goodIn_r _ [9, 10, 11, 12, 13, 14, 15, 16, 17, 18, 19, 20, 21, 22, 23, 24, 25, 26, 27, 28, 29, 30, 31, 32, 33, 34, 35, 36, 76, 77, 78, 79, 80, 81, 82, 83, 84, 85, 86] (by decide +kernel) (by decide +kernel)) (goodIn_sub (fun _ h => List.mem_cons_of_mem _ (List.mem_append_left _ (List.mem_append_right _ h))) (by decide +kernel))
set_option maxRecDepth 20000 in
theorem gX7_press_X7_chargebackAt : GoodIn wsX7_press (wsV RX7 180 RX7 yX7_chargebackAt wsX7_chargebackAt) := goodIn_app (goodIn_of _ (by decide +kernel)) ggX7_press_X7_chargebackAt
set_option maxRecDepth 20000 in
theorem ggX7_press_X7_requirePossible : GoodIn wsX7_press wsX7_requirePossible := goodIn_ca (goodIn_r _ [39, 40, 41] (by decide +kernel) (by decide +kernel)) (goodIn_sub (fun _ h => List.mem_cons_of_mem _ (List.mem_append_right _ h)) (by decide +kernel))
set_option maxRecDepth 20000 in
theorem gX7_press_X7_requirePossible : GoodIn wsX7_press (va_wsS RX7 100 yX7_requirePossible wsX7_requirePossible) := goodIn_app (goodIn_of _ (by decide +kernel)) ggX7_press_X7_requirePossible
set_option maxRecDepth 20000 in
theorem ggX7_press_X1_shopBank : GoodIn wsX7_press wsX1_shopBank := goodIn_r _ [46, 47, 48, 49, 87, 88, 89, 90, 91, 92, 93, 94, 95, 96, 97, 98, 99, 100, 101] (by decide +kernel) (by decide +kernel)
set_option maxRecDepth 20000 in
theorem gX7_press_X1_shopBank : GoodIn wsX7_press (wsV RX7 145 RX1 yX1_shopBank wsX1_shopBank) := goodIn_app (goodIn_of _ (by decide +kernel)) ggX7_press_X1_shopBank
set_option maxRecDepth 20000 in
theorem ggX7_press_X1_cardBank : GoodIn wsX7_press wsX1_cardBank := goodIn_r _ [53, 47, 54, 55, 87, 88, 89, 90, 91, 92, 93, 94, 95, 96, 97, 98, 102, 103] (by decide +kernel) (by decide +kernel)
set_option maxRecDepth 20000 in
theorem gX7_press_X1_cardBank : GoodIn wsX7_press (wsV RX7 141 RX1 yX1_cardBank wsX1_cardBank) := goodIn_app (goodIn_of _ (by decide +kernel)) ggX7_press_X1_cardBank
set_option maxRecDepth 20000 in
theorem ggX7_press_X0_pay : GoodIn wsX7_press wsX0_pay := goodIn_r _ [60, 61, 62, 63, 59, 64, 65, 66, 104, 105] (by decide +kernel) (by decide +kernel)
set_option maxRecDepth 20000 in
theorem gX7_press_X0_pay : GoodIn wsX7_press (wsV RX7 154 RX0 yX0_pay wsX0_pay) := goodIn_app (goodIn_of _ (by decide +kernel)) ggX7_press_X0_pay
set_option maxRecDepth 20000 in
theorem ggX7_press_X7_countPressed : GoodIn wsX7_press wsX7_countPressed := goodIn_r _ [70, 12, 13, 1, 14, 15, 16, 17, 18, 19, 20, 21, 22, 23, 24, 25, 26, 27, 28, 29, 30, 31, 32, 33, 34, 35, 36, 76, 77, 78, 79, 80, 81, 82, 83, 71, 72, 73, 74, 75, 84, 85, 86] (by decide +kernel) (by decide +kernel)
set_option maxRecDepth 20000 in
theorem gX7_press_X7_countPressed : GoodIn wsX7_press (wsV RX7 199 RX7 yX7_countPressed wsX7_countPressed) := goodIn_app (goodIn_of _ (by decide +kernel)) ggX7_press_X7_countPressed
theorem dX7_press_0 : decode cX7_press 0 = .ok (.aload_n 0, 1) := by decide +kernel
theorem dX7_press_1 : decode cX7_press 1 = .ok (.iload_n 1, 1) := by decide +kernel
theorem dX7_press_2 : decode cX7_press 2 = .ok (.invokevirtual 180, 3) := by decide +kernel
theorem dX7_press_5 : decode cX7_press 5 = .ok (.astore_n 2, 1) := by decide +kernel
theorem dX7_press_6 : decode cX7_press 6 = .ok (.aload_n 2, 1) := by decide +kernel
theorem dX7_press_7 : decode cX7_press 7 = .ok (.getfield 184, 3) := by decide +kernel
theorem dX7_press_10 : decode cX7_press 10 = .ok (.iconst 1, 1) := by decide +kernel
theorem dX7_press_11 : decode cX7_press 11 = .ok (.if_icmp .ne 7, 3) := by decide +kernel
theorem dX7_press_14 : decode cX7_press 14 = .ok (.iconst 1, 1) := by decide +kernel
theorem dX7_press_15 : decode cX7_press 15 = .ok (.goto 4, 3) := by decide +kernel
theorem dX7_press_18 : decode cX7_press 18 = .ok (.iconst 0, 1) := by decide +kernel
theorem dX7_press_19 : decode cX7_press 19 = .ok (.invokestatic 100, 3) := by decide +kernel
theorem dX7_press_22 : decode cX7_press 22 = .ok (.aload_n 2, 1) := by decide +kernel
theorem dX7_press_23 : decode cX7_press 23 = .ok (.iconst 2, 1) := by decide +kernel
theorem dX7_press_24 : decode cX7_press 24 = .ok (.putfield 184, 3) := by decide +kernel
theorem dX7_press_27 : decode cX7_press 27 = .ok (.aload_n 2, 1) := by decide +kernel
theorem dX7_press_28 : decode cX7_press 28 = .ok (.iconst (-1), 1) := by decide +kernel
theorem dX7_press_29 : decode cX7_press 29 = .ok (.putfield 187, 3) := by decide +kernel
theorem dX7_press_32 : decode cX7_press 32 = .ok (.aload_n 2, 1) := by decide +kernel
theorem dX7_press_33 : decode cX7_press 33 = .ok (.getfield 194, 3) := by decide +kernel
theorem dX7_press_36 : decode cX7_press 36 = .ok (.invokevirtual 145, 3) := by decide +kernel
theorem dX7_press_39 : decode cX7_press 39 = .ok (.aload_n 2, 1) := by decide +kernel
theorem dX7_press_40 : decode cX7_press 40 = .ok (.getfield 194, 3) := by decide +kernel
theorem dX7_press_43 : decode cX7_press 43 = .ok (.invokevirtual 141, 3) := by decide +kernel
theorem dX7_press_46 : decode cX7_press 46 = .ok (.aload_n 2, 1) := by decide +kernel
theorem dX7_press_47 : decode cX7_press 47 = .ok (.getfield 198, 3) := by decide +kernel
theorem dX7_press_50 : decode cX7_press 50 = .ok (.invokevirtual 154, 3) := by decide +kernel
theorem dX7_press_53 : decode cX7_press 53 = .ok (.aload_n 0, 1) := by decide +kernel
theorem dX7_press_54 : decode cX7_press 54 = .ok (.invokevirtual 199, 3) := by decide +kernel
theorem dX7_press_57 : decode cX7_press 57 = .ok (.ireturn, 1) := by decide +kernel
set_option maxRecDepth 20000 in
theorem ggX7_rule_X7_chargebackAt : GoodIn wsX7_rule wsX7_chargebackAt := goodIn_ca (goodIn_r _ [6, 7, 8, 9, 10, 11, 12, 13, 14, 15, 16, 17, 18, 19, 20, 21, 22, 23, 24, 25, 26, 27, 28, 29, 30, 31, 32, 33, 74, 75, 76, 77, 78, 79, 80, 81, 82, 83, 84] (by decide +kernel) (by decide +kernel)) (goodIn_sub (fun _ h => List.mem_cons_of_mem _ (List.mem_append_left _ (List.mem_append_right _ h))) (by decide +kernel))
set_option maxRecDepth 20000 in
theorem gX7_rule_X7_chargebackAt : GoodIn wsX7_rule (wsV RX7 180 RX7 yX7_chargebackAt wsX7_chargebackAt) := goodIn_app (goodIn_of _ (by decide +kernel)) ggX7_rule_X7_chargebackAt
set_option maxRecDepth 20000 in
theorem ggX7_rule_X7_requirePossible : GoodIn wsX7_rule wsX7_requirePossible := goodIn_ca (goodIn_r _ [36, 37, 38] (by decide +kernel) (by decide +kernel)) (goodIn_sub (fun _ h => List.mem_cons_of_mem _ (List.mem_append_right _ h)) (by decide +kernel))
set_option maxRecDepth 20000 in
theorem gX7_rule_X7_requirePossible : GoodIn wsX7_rule (va_wsS RX7 100 yX7_requirePossible wsX7_requirePossible) := goodIn_app (goodIn_of _ (by decide +kernel)) ggX7_rule_X7_requirePossible
set_option maxRecDepth 20000 in
theorem ggX7_rule_X7_payBackToShop : GoodIn wsX7_rule wsX7_payBackToShop := goodIn_r _ [41, 42, 43, 44, 45, 46, 47, 48, 49, 50, 51, 52, 53, 54, 55, 56, 57, 58, 59, 60, 61, 62, 63, 64, 65, 66, 67, 68, 69, 70, 71, 72, 73, 85, 86, 87, 88, 89, 90, 91, 92, 93, 94, 95, 96, 97, 98, 99, 100, 101, 102, 103] (by decide +kernel) (by decide +kernel)
set_option maxRecDepth 20000 in
theorem gX7_rule_X7_payBackToShop : GoodIn wsX7_rule (va_wsS RX7 190 yX7_payBackToShop wsX7_payBackToShop) := goodIn_app (goodIn_of _ (by decide +kernel)) ggX7_rule_X7_payBackToShop
theorem dX7_rule_0 : decode cX7_rule 0 = .ok (.aload_n 0, 1) := by decide +kernel
theorem dX7_rule_1 : decode cX7_rule 1 = .ok (.iload_n 1, 1) := by decide +kernel
theorem dX7_rule_2 : decode cX7_rule 2 = .ok (.invokevirtual 180, 3) := by decide +kernel
theorem dX7_rule_5 : decode cX7_rule 5 = .ok (.astore_n 3, 1) := by decide +kernel
theorem dX7_rule_6 : decode cX7_rule 6 = .ok (.aload_n 3, 1) := by decide +kernel
theorem dX7_rule_7 : decode cX7_rule 7 = .ok (.getfield 184, 3) := by decide +kernel
theorem dX7_rule_10 : decode cX7_rule 10 = .ok (.iconst 2, 1) := by decide +kernel
theorem dX7_rule_11 : decode cX7_rule 11 = .ok (.if_icmp .ne 7, 3) := by decide +kernel
theorem dX7_rule_14 : decode cX7_rule 14 = .ok (.iconst 1, 1) := by decide +kernel
theorem dX7_rule_15 : decode cX7_rule 15 = .ok (.goto 4, 3) := by decide +kernel
theorem dX7_rule_18 : decode cX7_rule 18 = .ok (.iconst 0, 1) := by decide +kernel
theorem dX7_rule_19 : decode cX7_rule 19 = .ok (.invokestatic 100, 3) := by decide +kernel
theorem dX7_rule_22 : decode cX7_rule 22 = .ok (.iload_n 2, 1) := by decide +kernel
theorem dX7_rule_23 : decode cX7_rule 23 = .ok (.ifCond .eq 11, 3) := by decide +kernel
theorem dX7_rule_26 : decode cX7_rule 26 = .ok (.aload_n 3, 1) := by decide +kernel
theorem dX7_rule_27 : decode cX7_rule 27 = .ok (.iconst 3, 1) := by decide +kernel
theorem dX7_rule_28 : decode cX7_rule 28 = .ok (.putfield 184, 3) := by decide +kernel
theorem dX7_rule_31 : decode cX7_rule 31 = .ok (.goto 12, 3) := by decide +kernel
theorem dX7_rule_34 : decode cX7_rule 34 = .ok (.aload_n 3, 1) := by decide +kernel
theorem dX7_rule_35 : decode cX7_rule 35 = .ok (.iconst 4, 1) := by decide +kernel
theorem dX7_rule_36 : decode cX7_rule 36 = .ok (.putfield 184, 3) := by decide +kernel
theorem dX7_rule_39 : decode cX7_rule 39 = .ok (.aload_n 3, 1) := by decide +kernel
theorem dX7_rule_40 : decode cX7_rule 40 = .ok (.invokestatic 190, 3) := by decide +kernel
theorem dX7_rule_43 : decode cX7_rule 43 = .ok (.aload_n 3, 1) := by decide +kernel
theorem dX7_rule_44 : decode cX7_rule 44 = .ok (.getfield 184, 3) := by decide +kernel
theorem dX7_rule_47 : decode cX7_rule 47 = .ok (.ireturn, 1) := by decide +kernel
set_option maxRecDepth 20000 in
theorem ggX7_pass_X7_requireRange : GoodIn wsX7_pass wsX7_requireRange := goodIn_ca (goodIn_r _ [5, 6, 7] (by decide +kernel) (by decide +kernel)) (goodIn_sub (fun _ h => List.mem_cons_of_mem _ (List.mem_append_right _ h)) (by decide +kernel))
set_option maxRecDepth 20000 in
theorem gX7_pass_X7_requireRange : GoodIn wsX7_pass (va_wsS RX7 75 yX7_requireRange wsX7_requireRange) := goodIn_app (goodIn_of _ (by decide +kernel)) ggX7_pass_X7_requireRange
set_option maxRecDepth 20000 in
theorem ggX7_pass_X7_beginNextDay : GoodIn wsX7_pass wsX7_beginNextDay := goodIn_r _ [11, 1, 12, 13, 14, 15, 16, 17, 18, 19, 20, 21, 22, 23, 24, 25, 26, 27, 28, 29, 30, 31, 32, 33, 34, 35, 36, 37, 38, 39, 40, 41, 42, 43, 44, 45, 46, 47, 48, 49, 50, 51, 52, 53, 54, 55, 56, 57, 58, 59, 60, 61, 62, 63, 64, 65, 66, 67] (by decide +kernel) (by decide +kernel)
set_option maxRecDepth 20000 in
theorem gX7_pass_X7_beginNextDay : GoodIn wsX7_pass (wsV RX7 202 RX7 yX7_beginNextDay wsX7_beginNextDay) := goodIn_app (goodIn_of _ (by decide +kernel)) ggX7_pass_X7_beginNextDay
theorem dX7_pass_0 : decode cX7_pass 0 = .ok (.iload_n 1, 1) := by decide +kernel
theorem dX7_pass_1 : decode cX7_pass 1 = .ok (.iconst 1, 1) := by decide +kernel
theorem dX7_pass_2 : decode cX7_pass 2 = .ok (.bipush 100, 2) := by decide +kernel
theorem dX7_pass_4 : decode cX7_pass 4 = .ok (.invokestatic 75, 3) := by decide +kernel
theorem dX7_pass_7 : decode cX7_pass 7 = .ok (.iconst 0, 1) := by decide +kernel
theorem dX7_pass_8 : decode cX7_pass 8 = .ok (.istore_n 2, 1) := by decide +kernel
theorem dX7_pass_9 : decode cX7_pass 9 = .ok (.iload_n 2, 1) := by decide +kernel
theorem dX7_pass_10 : decode cX7_pass 10 = .ok (.iload_n 1, 1) := by decide +kernel
theorem dX7_pass_11 : decode cX7_pass 11 = .ok (.if_icmp .ge 13, 3) := by decide +kernel
theorem dX7_pass_14 : decode cX7_pass 14 = .ok (.aload_n 0, 1) := by decide +kernel
theorem dX7_pass_15 : decode cX7_pass 15 = .ok (.invokevirtual 202, 3) := by decide +kernel
theorem dX7_pass_18 : decode cX7_pass 18 = .ok (.iinc 2 1, 3) := by decide +kernel
theorem dX7_pass_21 : decode cX7_pass 21 = .ok (.goto (-12), 3) := by decide +kernel
theorem dX7_pass_24 : decode cX7_pass 24 = .ok (.aload_n 0, 1) := by decide +kernel
theorem dX7_pass_25 : decode cX7_pass 25 = .ok (.getfield 46, 3) := by decide +kernel
theorem dX7_pass_28 : decode cX7_pass 28 = .ok (.ireturn, 1) := by decide +kernel
set_option maxRecDepth 20000 in
theorem ggX7_paymentOf_X7_paymentAt : GoodIn wsX7_paymentOf wsX7_paymentAt := goodIn_ca (goodIn_r _ [15, 16, 17, 18, 19, 20, 21, 22, 23, 24, 25, 26, 27, 28, 29, 30, 31, 32, 33, 34, 35, 36, 37, 38, 39, 40, 41, 42, 68, 69, 70, 71, 72, 73, 74, 75, 76, 77, 78] (by decide +kernel) (by decide +kernel)) (goodIn_sub (fun _ h => List.mem_cons_of_mem _ (List.mem_append_right _ h)) (by decide +kernel))
set_option maxRecDepth 20000 in
theorem gX7_paymentOf_X7_paymentAt : GoodIn wsX7_paymentOf (wsV RX7 118 RX7 yX7_paymentAt wsX7_paymentAt) := goodIn_app (goodIn_of _ (by decide +kernel)) ggX7_paymentOf_X7_paymentAt
set_option maxRecDepth 20000 in
theorem ggX7_paymentOf_X5_isAlive : GoodIn wsX7_paymentOf wsX5_isAlive := goodIn_r _ [47, 48, 49, 56, 57, 58, 59, 60, 61, 62] (by decide +kernel) (by decide +kernel)
set_option maxRecDepth 20000 in
theorem gX7_paymentOf_X5_isAlive : GoodIn wsX7_paymentOf (wsV RX7 122 RX5 yX5_isAlive wsX5_isAlive) := goodIn_app (goodIn_of _ (by decide +kernel)) ggX7_paymentOf_X5_isAlive
set_option maxRecDepth 20000 in
theorem ggX7_paymentOf_X5_left : GoodIn wsX7_paymentOf wsX5_left := goodIn_r _ [53, 54, 55, 56, 57, 58, 59, 60, 61, 62] (by decide +kernel) (by decide +kernel)
set_option maxRecDepth 20000 in
theorem gX7_paymentOf_X5_left : GoodIn wsX7_paymentOf (wsV RX7 126 RX5 yX5_left wsX5_left) := goodIn_app (goodIn_of _ (by decide +kernel)) ggX7_paymentOf_X5_left
theorem dX7_paymentOf_0 : decode cX7_paymentOf 0 = .ok (.aload_n 0, 1) := by decide +kernel
theorem dX7_paymentOf_1 : decode cX7_paymentOf 1 = .ok (.iload_n 1, 1) := by decide +kernel
theorem dX7_paymentOf_2 : decode cX7_paymentOf 2 = .ok (.invokevirtual 118, 3) := by decide +kernel
theorem dX7_paymentOf_5 : decode cX7_paymentOf 5 = .ok (.astore_n 3, 1) := by decide +kernel
theorem dX7_paymentOf_6 : decode cX7_paymentOf 6 = .ok (.iload_n 2, 1) := by decide +kernel
theorem dX7_paymentOf_7 : decode cX7_paymentOf 7 = .ok (.tableswitch 92 0 5 #[37, 45, 53, 58, 63, 68], 37) := by decide +kernel
theorem dX7_paymentOf_44 : decode cX7_paymentOf 44 = .ok (.aload_n 3, 1) := by decide +kernel
theorem dX7_paymentOf_45 : decode cX7_paymentOf 45 = .ok (.getfield 205, 3) := by decide +kernel
theorem dX7_paymentOf_48 : decode cX7_paymentOf 48 = .ok (.getfield 209, 3) := by decide +kernel
theorem dX7_paymentOf_51 : decode cX7_paymentOf 51 = .ok (.ireturn, 1) := by decide +kernel
theorem dX7_paymentOf_52 : decode cX7_paymentOf 52 = .ok (.aload_n 3, 1) := by decide +kernel
theorem dX7_paymentOf_53 : decode cX7_paymentOf 53 = .ok (.getfield 131, 3) := by decide +kernel
theorem dX7_paymentOf_56 : decode cX7_paymentOf 56 = .ok (.getfield 210, 3) := by decide +kernel
theorem dX7_paymentOf_59 : decode cX7_paymentOf 59 = .ok (.ireturn, 1) := by decide +kernel
theorem dX7_paymentOf_60 : decode cX7_paymentOf 60 = .ok (.aload_n 3, 1) := by decide +kernel
theorem dX7_paymentOf_61 : decode cX7_paymentOf 61 = .ok (.getfield 211, 3) := by decide +kernel
theorem dX7_paymentOf_64 : decode cX7_paymentOf 64 = .ok (.ireturn, 1) := by decide +kernel
theorem dX7_paymentOf_65 : decode cX7_paymentOf 65 = .ok (.aload_n 3, 1) := by decide +kernel
theorem dX7_paymentOf_66 : decode cX7_paymentOf 66 = .ok (.getfield 138, 3) := by decide +kernel
theorem dX7_paymentOf_69 : decode cX7_paymentOf 69 = .ok (.ireturn, 1) := by decide +kernel
theorem dX7_paymentOf_70 : decode cX7_paymentOf 70 = .ok (.aload_n 3, 1) := by decide +kernel
theorem dX7_paymentOf_71 : decode cX7_paymentOf 71 = .ok (.getfield 212, 3) := by decide +kernel
theorem dX7_paymentOf_74 : decode cX7_paymentOf 74 = .ok (.ireturn, 1) := by decide +kernel
theorem dX7_paymentOf_75 : decode cX7_paymentOf 75 = .ok (.aload_n 3, 1) := by decide +kernel
theorem dX7_paymentOf_76 : decode cX7_paymentOf 76 = .ok (.aload_n 0, 1) := by decide +kernel
theorem dX7_paymentOf_77 : decode cX7_paymentOf 77 = .ok (.getfield 46, 3) := by decide +kernel
theorem dX7_paymentOf_80 : decode cX7_paymentOf 80 = .ok (.invokevirtual 122, 3) := by decide +kernel
theorem dX7_paymentOf_83 : decode cX7_paymentOf 83 = .ok (.ifCond .eq 14, 3) := by decide +kernel
theorem dX7_paymentOf_86 : decode cX7_paymentOf 86 = .ok (.aload_n 3, 1) := by decide +kernel
theorem dX7_paymentOf_87 : decode cX7_paymentOf 87 = .ok (.invokevirtual 126, 3) := by decide +kernel
theorem dX7_paymentOf_90 : decode cX7_paymentOf 90 = .ok (.ifCond .le 7, 3) := by decide +kernel
theorem dX7_paymentOf_93 : decode cX7_paymentOf 93 = .ok (.iconst 1, 1) := by decide +kernel
theorem dX7_paymentOf_94 : decode cX7_paymentOf 94 = .ok (.goto 4, 3) := by decide +kernel
theorem dX7_paymentOf_97 : decode cX7_paymentOf 97 = .ok (.iconst 0, 1) := by decide +kernel
theorem dX7_paymentOf_98 : decode cX7_paymentOf 98 = .ok (.ireturn, 1) := by decide +kernel
theorem dX7_paymentOf_99 : decode cX7_paymentOf 99 = .ok (.new 213, 3) := by decide +kernel
theorem dX7_paymentOf_102 : decode cX7_paymentOf 102 = .ok (.dup, 1) := by decide +kernel
theorem dX7_paymentOf_103 : decode cX7_paymentOf 103 = .ok (.ldc 215, 2) := by decide +kernel
theorem dX7_paymentOf_105 : decode cX7_paymentOf 105 = .ok (.invokespecial 217, 3) := by decide +kernel
theorem dX7_paymentOf_108 : decode cX7_paymentOf 108 = .ok (.athrow, 1) := by decide +kernel
set_option maxRecDepth 20000 in
theorem ggX7_captureOf_X7_captureAt : GoodIn wsX7_captureOf wsX7_captureAt := goodIn_ca (goodIn_r _ [12, 13, 14, 15, 16, 17, 18, 19, 20, 21, 22, 23, 24, 25, 26, 27, 28, 29, 30, 31, 32, 33, 34, 35, 36, 37, 38, 39, 61, 62, 63, 64, 65, 66, 67, 68, 69, 70, 71] (by decide +kernel) (by decide +kernel)) (goodIn_sub (fun _ h => List.mem_cons_of_mem _ (List.mem_append_right _ h)) (by decide +kernel))
set_option maxRecDepth 20000 in
theorem gX7_captureOf_X7_captureAt : GoodIn wsX7_captureOf (wsV RX7 163 RX7 yX7_captureAt wsX7_captureAt) := goodIn_app (goodIn_of _ (by decide +kernel)) ggX7_captureOf_X7_captureAt
set_option maxRecDepth 20000 in
theorem ggX7_captureOf_X7_givenBackOf : GoodIn wsX7_captureOf wsX7_givenBackOf := goodIn_r _ [43, 7, 44, 45, 46, 47, 48, 17, 18, 19, 20, 21, 22, 23, 24, 25, 26, 27, 28, 29, 30, 31, 32, 33, 34, 35, 36, 37, 38, 39, 49, 50, 51, 52, 53, 61, 62, 63, 64, 65, 66, 67, 68, 72, 73, 74, 75, 76, 69, 70, 71] (by decide +kernel) (by decide +kernel)
set_option maxRecDepth 20000 in
theorem gX7_captureOf_X7_givenBackOf : GoodIn wsX7_captureOf (wsV RX7 167 RX7 yX7_givenBackOf wsX7_givenBackOf) := goodIn_app (goodIn_of _ (by decide +kernel)) ggX7_captureOf_X7_givenBackOf
theorem dX7_captureOf_0 : decode cX7_captureOf 0 = .ok (.aload_n 0, 1) := by decide +kernel
theorem dX7_captureOf_1 : decode cX7_captureOf 1 = .ok (.iload_n 1, 1) := by decide +kernel
theorem dX7_captureOf_2 : decode cX7_captureOf 2 = .ok (.invokevirtual 163, 3) := by decide +kernel
theorem dX7_captureOf_5 : decode cX7_captureOf 5 = .ok (.astore_n 3, 1) := by decide +kernel
theorem dX7_captureOf_6 : decode cX7_captureOf 6 = .ok (.iload_n 2, 1) := by decide +kernel
theorem dX7_captureOf_7 : decode cX7_captureOf 7 = .ok (.tableswitch 62 0 4 #[33, 41, 46, 51, 56], 33) := by decide +kernel
theorem dX7_captureOf_40 : decode cX7_captureOf 40 = .ok (.aload_n 3, 1) := by decide +kernel
theorem dX7_captureOf_41 : decode cX7_captureOf 41 = .ok (.getfield 220, 3) := by decide +kernel
theorem dX7_captureOf_44 : decode cX7_captureOf 44 = .ok (.getfield 117, 3) := by decide +kernel
theorem dX7_captureOf_47 : decode cX7_captureOf 47 = .ok (.ireturn, 1) := by decide +kernel
theorem dX7_captureOf_48 : decode cX7_captureOf 48 = .ok (.aload_n 3, 1) := by decide +kernel
theorem dX7_captureOf_49 : decode cX7_captureOf 49 = .ok (.getfield 148, 3) := by decide +kernel
theorem dX7_captureOf_52 : decode cX7_captureOf 52 = .ok (.ireturn, 1) := by decide +kernel
theorem dX7_captureOf_53 : decode cX7_captureOf 53 = .ok (.aload_n 3, 1) := by decide +kernel
theorem dX7_captureOf_54 : decode cX7_captureOf 54 = .ok (.getfield 151, 3) := by decide +kernel
theorem dX7_captureOf_57 : decode cX7_captureOf 57 = .ok (.ireturn, 1) := by decide +kernel
theorem dX7_captureOf_58 : decode cX7_captureOf 58 = .ok (.aload_n 3, 1) := by decide +kernel
theorem dX7_captureOf_59 : decode cX7_captureOf 59 = .ok (.getfield 171, 3) := by decide +kernel
theorem dX7_captureOf_62 : decode cX7_captureOf 62 = .ok (.ireturn, 1) := by decide +kernel
theorem dX7_captureOf_63 : decode cX7_captureOf 63 = .ok (.aload_n 0, 1) := by decide +kernel
theorem dX7_captureOf_64 : decode cX7_captureOf 64 = .ok (.aload_n 3, 1) := by decide +kernel
theorem dX7_captureOf_65 : decode cX7_captureOf 65 = .ok (.invokevirtual 167, 3) := by decide +kernel
theorem dX7_captureOf_68 : decode cX7_captureOf 68 = .ok (.ireturn, 1) := by decide +kernel
theorem dX7_captureOf_69 : decode cX7_captureOf 69 = .ok (.new 213, 3) := by decide +kernel
theorem dX7_captureOf_72 : decode cX7_captureOf 72 = .ok (.dup, 1) := by decide +kernel
theorem dX7_captureOf_73 : decode cX7_captureOf 73 = .ok (.ldc 215, 2) := by decide +kernel
theorem dX7_captureOf_75 : decode cX7_captureOf 75 = .ok (.invokespecial 217, 3) := by decide +kernel
theorem dX7_captureOf_78 : decode cX7_captureOf 78 = .ok (.athrow, 1) := by decide +kernel
set_option maxRecDepth 20000 in
theorem ggX7_chargebackOf_X7_chargebackAt : GoodIn wsX7_chargebackOf wsX7_chargebackAt := goodIn_ca (goodIn_r _ [12, 13, 14, 15, 16, 17, 18, 19, 20, 21, 22, 23, 24, 25, 26, 27, 28, 29, 30, 31, 32, 33, 34, 35, 36, 37, 38, 39, 50, 51, 52, 53, 54, 55, 56, 57, 58, 59, 60] (by decide +kernel) (by decide +kernel)) (goodIn_sub (fun _ h => List.mem_cons_of_mem _ (List.mem_append_right _ h)) (by decide +kernel))
set_option maxRecDepth 20000 in
theorem gX7_chargebackOf_X7_chargebackAt : GoodIn wsX7_chargebackOf (wsV RX7 180 RX7 yX7_chargebackAt wsX7_chargebackAt) := goodIn_app (goodIn_of _ (by decide +kernel)) ggX7_chargebackOf_X7_chargebackAt
theorem dX7_chargebackOf_0 : decode cX7_chargebackOf 0 = .ok (.aload_n 0, 1) := by decide +kernel
theorem dX7_chargebackOf_1 : decode cX7_chargebackOf 1 = .ok (.iload_n 1, 1) := by decide +kernel
theorem dX7_chargebackOf_2 : decode cX7_chargebackOf 2 = .ok (.invokevirtual 180, 3) := by decide +kernel
theorem dX7_chargebackOf_5 : decode cX7_chargebackOf 5 = .ok (.astore_n 3, 1) := by decide +kernel
theorem dX7_chargebackOf_6 : decode cX7_chargebackOf 6 = .ok (.iload_n 2, 1) := by decide +kernel
theorem dX7_chargebackOf_7 : decode cX7_chargebackOf 7 = .ok (.tableswitch 52 0 3 #[29, 34, 42, 47], 29) := by decide +kernel
theorem dX7_chargebackOf_36 : decode cX7_chargebackOf 36 = .ok (.aload_n 3, 1) := by decide +kernel
theorem dX7_chargebackOf_37 : decode cX7_chargebackOf 37 = .ok (.getfield 184, 3) := by decide +kernel
theorem dX7_chargebackOf_40 : decode cX7_chargebackOf 40 = .ok (.ireturn, 1) := by decide +kernel
theorem dX7_chargebackOf_41 : decode cX7_chargebackOf 41 = .ok (.aload_n 3, 1) := by decide +kernel
theorem dX7_chargebackOf_42 : decode cX7_chargebackOf 42 = .ok (.getfield 194, 3) := by decide +kernel
theorem dX7_chargebackOf_45 : decode cX7_chargebackOf 45 = .ok (.getfield 158, 3) := by decide +kernel
theorem dX7_chargebackOf_48 : decode cX7_chargebackOf 48 = .ok (.ireturn, 1) := by decide +kernel
theorem dX7_chargebackOf_49 : decode cX7_chargebackOf 49 = .ok (.aload_n 3, 1) := by decide +kernel
theorem dX7_chargebackOf_50 : decode cX7_chargebackOf 50 = .ok (.getfield 198, 3) := by decide +kernel
theorem dX7_chargebackOf_53 : decode cX7_chargebackOf 53 = .ok (.ireturn, 1) := by decide +kernel
theorem dX7_chargebackOf_54 : decode cX7_chargebackOf 54 = .ok (.aload_n 3, 1) := by decide +kernel
theorem dX7_chargebackOf_55 : decode cX7_chargebackOf 55 = .ok (.getfield 187, 3) := by decide +kernel
theorem dX7_chargebackOf_58 : decode cX7_chargebackOf 58 = .ok (.ireturn, 1) := by decide +kernel
theorem dX7_chargebackOf_59 : decode cX7_chargebackOf 59 = .ok (.new 213, 3) := by decide +kernel
theorem dX7_chargebackOf_62 : decode cX7_chargebackOf 62 = .ok (.dup, 1) := by decide +kernel
theorem dX7_chargebackOf_63 : decode cX7_chargebackOf 63 = .ok (.ldc 215, 2) := by decide +kernel
theorem dX7_chargebackOf_65 : decode cX7_chargebackOf 65 = .ok (.invokespecial 217, 3) := by decide +kernel
theorem dX7_chargebackOf_68 : decode cX7_chargebackOf 68 = .ok (.athrow, 1) := by decide +kernel
set_option maxRecDepth 20000 in
theorem ggX7_limit_X7_cardAt : GoodIn wsX7_limit wsX7_cardAt := goodIn_ca (goodIn_r _ [5, 6, 7, 8, 45, 46, 47, 48, 49, 50, 51, 52] (by decide +kernel) (by decide +kernel)) (goodIn_sub (fun _ h => List.mem_cons_of_mem _ (List.mem_append_right _ h)) (by decide +kernel))
set_option maxRecDepth 20000 in
theorem gX7_limit_X7_cardAt : GoodIn wsX7_limit (wsV RX7 89 RX7 yX7_cardAt wsX7_cardAt) := goodIn_app (goodIn_of _ (by decide +kernel)) ggX7_limit_X7_cardAt
set_option maxRecDepth 20000 in
theorem ggX7_limit_X7_limitOf : GoodIn wsX7_limit wsX7_limitOf := goodIn_r _ [12, 13, 14, 15, 16, 17, 18, 19, 20, 21, 22, 23, 24, 25, 26, 27, 28, 29, 30, 31, 32, 33, 34, 35, 36, 37, 38, 39, 40, 41, 42, 43, 44, 45, 46, 47, 48, 49, 50, 51, 52, 53, 54, 55, 56, 57, 58, 59, 60, 61, 62, 63, 64, 65, 66, 67] (by decide +kernel) (by decide +kernel)
set_option maxRecDepth 20000 in
theorem gX7_limit_X7_limitOf : GoodIn wsX7_limit (wsV RX7 104 RX7 yX7_limitOf wsX7_limitOf) := goodIn_app (goodIn_of _ (by decide +kernel)) ggX7_limit_X7_limitOf
theorem dX7_limit_0 : decode cX7_limit 0 = .ok (.aload_n 0, 1) := by decide +kernel
theorem dX7_limit_1 : decode cX7_limit 1 = .ok (.aload_n 0, 1) := by decide +kernel
theorem dX7_limit_2 : decode cX7_limit 2 = .ok (.iload_n 1, 1) := by decide +kernel
theorem dX7_limit_3 : decode cX7_limit 3 = .ok (.invokevirtual 89, 3) := by decide +kernel
theorem dX7_limit_6 : decode cX7_limit 6 = .ok (.invokevirtual 104, 3) := by decide +kernel
theorem dX7_limit_9 : decode cX7_limit 9 = .ok (.ireturn, 1) := by decide +kernel
set_option maxRecDepth 20000 in
theorem ggX7_net_X7_bankAt : GoodIn wsX7_net wsX7_bankAt := goodIn_ca (goodIn_r _ [7, 8, 9, 10, 13, 14, 15, 16, 17, 18, 19, 20] (by decide +kernel) (by decide +kernel)) (goodIn_sub (fun _ h => List.mem_cons_of_mem _ (List.mem_append_right _ h)) (by decide +kernel))
set_option maxRecDepth 20000 in
theorem gX7_net_X7_bankAt : GoodIn wsX7_net (wsV RX7 224 RX7 yX7_bankAt wsX7_bankAt) := goodIn_app (goodIn_of _ (by decide +kernel)) ggX7_net_X7_bankAt
theorem dX7_net_0 : decode cX7_net 0 = .ok (.aload_n 0, 1) := by decide +kernel
theorem dX7_net_1 : decode cX7_net 1 = .ok (.iload_n 1, 1) := by decide +kernel
theorem dX7_net_2 : decode cX7_net 2 = .ok (.invokevirtual 224, 3) := by decide +kernel
theorem dX7_net_5 : decode cX7_net 5 = .ok (.astore_n 3, 1) := by decide +kernel
theorem dX7_net_6 : decode cX7_net 6 = .ok (.iload_n 2, 1) := by decide +kernel
theorem dX7_net_7 : decode cX7_net 7 = .ok (.ifCond .eq 10, 3) := by decide +kernel
theorem dX7_net_10 : decode cX7_net 10 = .ok (.aload_n 3, 1) := by decide +kernel
theorem dX7_net_11 : decode cX7_net 11 = .ok (.getfield 228, 3) := by decide +kernel
theorem dX7_net_14 : decode cX7_net 14 = .ok (.goto 7, 3) := by decide +kernel
theorem dX7_net_17 : decode cX7_net 17 = .ok (.aload_n 3, 1) := by decide +kernel
theorem dX7_net_18 : decode cX7_net 18 = .ok (.getfield 232, 3) := by decide +kernel
theorem dX7_net_21 : decode cX7_net 21 = .ok (.lreturn, 1) := by decide +kernel
set_option maxRecDepth 20000 in
theorem ggX7_netAnew_X7_bankAt : GoodIn wsX7_netAnew wsX7_bankAt := goodIn_ca (goodIn_r _ [14, 15, 16, 17, 65, 66, 67, 68, 69, 70, 71, 72] (by decide +kernel) (by decide +kernel)) (goodIn_sub (fun _ h => List.mem_cons_of_mem _ (List.mem_append_right _ h)) (by decide +kernel))
set_option maxRecDepth 20000 in
theorem gX7_netAnew_X7_bankAt : GoodIn wsX7_netAnew (wsV RX7 224 RX7 yX7_bankAt wsX7_bankAt) := goodIn_app (goodIn_of _ (by decide +kernel)) ggX7_netAnew_X7_bankAt
set_option maxRecDepth 20000 in
theorem ggX7_netAnew_Jx4a65c_size_8abf5 : GoodIn wsX7_netAnew wsJx4a65c_size_8abf5 := goodIn_r _ [22, 23, 83, 84, 85] (by decide +kernel) (by decide +kernel)
set_option maxRecDepth 20000 in
theorem gX7_netAnew_Jx4a65c_size_8abf5_f94Jx4a65c : GoodIn wsX7_netAnew (va_wsF RX7 94 RJx4a65c ⟨"java/util/List", "size", "()I"⟩ yJx4a65c_size_8abf5 wsJx4a65c_size_8abf5) := goodIn_app (goodIn_of _ (by decide +kernel)) ggX7_netAnew_Jx4a65c_size_8abf5
set_option maxRecDepth 20000 in
theorem ggX7_netAnew_Jx4a65c_get_915e3 : GoodIn wsX7_netAnew wsJx4a65c_get_915e3 := goodIn_r _ [27, 23, 28, 29, 30, 31, 32, 33, 34, 35, 36, 37, 38, 21, 39, 40, 83, 84, 85] (by decide +kernel) (by decide +kernel)
set_option maxRecDepth 20000 in
theorem gX7_netAnew_Jx4a65c_get_915e3_f235Jx4a65c : GoodIn wsX7_netAnew (va_wsF RX7 235 RJx4a65c ⟨"java/util/List", "get", "(I)Ljava/lang/Object;"⟩ yJx4a65c_get_915e3 wsJx4a65c_get_915e3) := goodIn_app (goodIn_of _ (by decide +kernel)) ggX7_netAnew_Jx4a65c_get_915e3
set_option maxRecDepth 20000 in
theorem ggX7_netAnew_X1_shareOf : GoodIn wsX7_netAnew wsX1_shareOf := goodIn_r _ [45, 46, 47, 48, 44, 49, 50, 51, 52, 53, 54, 55, 56, 57, 58, 73, 74, 75, 76, 77, 86, 87, 88, 89, 90, 91, 92, 93, 94, 95, 96, 97] (by decide +kernel) (by decide +kernel)
set_option maxRecDepth 20000 in
theorem gX7_netAnew_X1_shareOf : GoodIn wsX7_netAnew (wsV RX7 239 RX1 yX1_shareOf wsX1_shareOf) := goodIn_app (goodIn_of _ (by decide +kernel)) ggX7_netAnew_X1_shareOf
set_option maxRecDepth 20000 in
theorem ggX7_netAnew_X3_isWithCard : GoodIn wsX7_netAnew wsX3_isWithCard := goodIn_r _ [63, 64, 78, 79, 80, 81, 82] (by decide +kernel) (by decide +kernel)
set_option maxRecDepth 20000 in
theorem gX7_netAnew_X3_isWithCard : GoodIn wsX7_netAnew (wsV RX7 243 RX3 yX3_isWithCard wsX3_isWithCard) := goodIn_app (goodIn_of _ (by decide +kernel)) ggX7_netAnew_X3_isWithCard
theorem dX7_netAnew_0 : decode cX7_netAnew 0 = .ok (.aload_n 0, 1) := by decide +kernel
theorem dX7_netAnew_1 : decode cX7_netAnew 1 = .ok (.iload_n 1, 1) := by decide +kernel
theorem dX7_netAnew_2 : decode cX7_netAnew 2 = .ok (.invokevirtual 224, 3) := by decide +kernel
theorem dX7_netAnew_5 : decode cX7_netAnew 5 = .ok (.astore_n 2, 1) := by decide +kernel
theorem dX7_netAnew_6 : decode cX7_netAnew 6 = .ok (.lconst 0, 1) := by decide +kernel
theorem dX7_netAnew_7 : decode cX7_netAnew 7 = .ok (.lstore_n 3, 1) := by decide +kernel
theorem dX7_netAnew_8 : decode cX7_netAnew 8 = .ok (.iconst 0, 1) := by decide +kernel
theorem dX7_netAnew_9 : decode cX7_netAnew 9 = .ok (.istore 5, 2) := by decide +kernel
theorem dX7_netAnew_11 : decode cX7_netAnew 11 = .ok (.iload 5, 2) := by decide +kernel
theorem dX7_netAnew_13 : decode cX7_netAnew 13 = .ok (.aload_n 0, 1) := by decide +kernel
theorem dX7_netAnew_14 : decode cX7_netAnew 14 = .ok (.getfield 40, 3) := by decide +kernel
theorem dX7_netAnew_17 : decode cX7_netAnew 17 = .ok (.invokeinterface 94 1, 5) := by decide +kernel
theorem dX7_netAnew_22 : decode cX7_netAnew 22 = .ok (.if_icmp .ge 52, 3) := by decide +kernel
theorem dX7_netAnew_25 : decode cX7_netAnew 25 = .ok (.aload_n 0, 1) := by decide +kernel
theorem dX7_netAnew_26 : decode cX7_netAnew 26 = .ok (.getfield 40, 3) := by decide +kernel
theorem dX7_netAnew_29 : decode cX7_netAnew 29 = .ok (.iload 5, 2) := by decide +kernel
theorem dX7_netAnew_31 : decode cX7_netAnew 31 = .ok (.invokeinterface 235 2, 5) := by decide +kernel
theorem dX7_netAnew_36 : decode cX7_netAnew 36 = .ok (.checkcast 129, 3) := by decide +kernel
theorem dX7_netAnew_39 : decode cX7_netAnew 39 = .ok (.astore 6, 2) := by decide +kernel
theorem dX7_netAnew_41 : decode cX7_netAnew 41 = .ok (.lload_n 3, 1) := by decide +kernel
theorem dX7_netAnew_42 : decode cX7_netAnew 42 = .ok (.aload 6, 2) := by decide +kernel
theorem dX7_netAnew_44 : decode cX7_netAnew 44 = .ok (.aload_n 2, 1) := by decide +kernel
theorem dX7_netAnew_45 : decode cX7_netAnew 45 = .ok (.aload 6, 2) := by decide +kernel
theorem dX7_netAnew_47 : decode cX7_netAnew 47 = .ok (.getfield 148, 3) := by decide +kernel
theorem dX7_netAnew_50 : decode cX7_netAnew 50 = .ok (.aload 6, 2) := by decide +kernel
theorem dX7_netAnew_52 : decode cX7_netAnew 52 = .ok (.getfield 151, 3) := by decide +kernel
theorem dX7_netAnew_55 : decode cX7_netAnew 55 = .ok (.isub, 1) := by decide +kernel
theorem dX7_netAnew_56 : decode cX7_netAnew 56 = .ok (.aload 6, 2) := by decide +kernel
theorem dX7_netAnew_58 : decode cX7_netAnew 58 = .ok (.getfield 171, 3) := by decide +kernel
theorem dX7_netAnew_61 : decode cX7_netAnew 61 = .ok (.isub, 1) := by decide +kernel
theorem dX7_netAnew_62 : decode cX7_netAnew 62 = .ok (.invokevirtual 239, 3) := by decide +kernel
theorem dX7_netAnew_65 : decode cX7_netAnew 65 = .ok (.i2l, 1) := by decide +kernel
theorem dX7_netAnew_66 : decode cX7_netAnew 66 = .ok (.ladd, 1) := by decide +kernel
theorem dX7_netAnew_67 : decode cX7_netAnew 67 = .ok (.lstore_n 3, 1) := by decide +kernel
theorem dX7_netAnew_68 : decode cX7_netAnew 68 = .ok (.iinc 5 1, 3) := by decide +kernel
theorem dX7_netAnew_71 : decode cX7_netAnew 71 = .ok (.goto (-60), 3) := by decide +kernel
theorem dX7_netAnew_74 : decode cX7_netAnew 74 = .ok (.iconst 0, 1) := by decide +kernel
theorem dX7_netAnew_75 : decode cX7_netAnew 75 = .ok (.istore 5, 2) := by decide +kernel
theorem dX7_netAnew_77 : decode cX7_netAnew 77 = .ok (.iload 5, 2) := by decide +kernel
theorem dX7_netAnew_79 : decode cX7_netAnew 79 = .ok (.aload_n 0, 1) := by decide +kernel
theorem dX7_netAnew_80 : decode cX7_netAnew 80 = .ok (.getfield 43, 3) := by decide +kernel
theorem dX7_netAnew_83 : decode cX7_netAnew 83 = .ok (.invokeinterface 94 1, 5) := by decide +kernel
theorem dX7_netAnew_88 : decode cX7_netAnew 88 = .ok (.if_icmp .ge 51, 3) := by decide +kernel
theorem dX7_netAnew_91 : decode cX7_netAnew 91 = .ok (.aload_n 0, 1) := by decide +kernel
theorem dX7_netAnew_92 : decode cX7_netAnew 92 = .ok (.getfield 43, 3) := by decide +kernel
theorem dX7_netAnew_95 : decode cX7_netAnew 95 = .ok (.iload 5, 2) := by decide +kernel
theorem dX7_netAnew_97 : decode cX7_netAnew 97 = .ok (.invokeinterface 235 2, 5) := by decide +kernel
theorem dX7_netAnew_102 : decode cX7_netAnew 102 = .ok (.checkcast 174, 3) := by decide +kernel
theorem dX7_netAnew_105 : decode cX7_netAnew 105 = .ok (.astore 6, 2) := by decide +kernel
theorem dX7_netAnew_107 : decode cX7_netAnew 107 = .ok (.aload 6, 2) := by decide +kernel
theorem dX7_netAnew_109 : decode cX7_netAnew 109 = .ok (.invokevirtual 243, 3) := by decide +kernel
theorem dX7_netAnew_112 : decode cX7_netAnew 112 = .ok (.ifCond .eq 21, 3) := by decide +kernel
theorem dX7_netAnew_115 : decode cX7_netAnew 115 = .ok (.lload_n 3, 1) := by decide +kernel
theorem dX7_netAnew_116 : decode cX7_netAnew 116 = .ok (.aload 6, 2) := by decide +kernel
theorem dX7_netAnew_118 : decode cX7_netAnew 118 = .ok (.getfield 194, 3) := by decide +kernel
theorem dX7_netAnew_121 : decode cX7_netAnew 121 = .ok (.aload_n 2, 1) := by decide +kernel
theorem dX7_netAnew_122 : decode cX7_netAnew 122 = .ok (.aload 6, 2) := by decide +kernel
theorem dX7_netAnew_124 : decode cX7_netAnew 124 = .ok (.getfield 198, 3) := by decide +kernel
theorem dX7_netAnew_127 : decode cX7_netAnew 127 = .ok (.invokevirtual 239, 3) := by decide +kernel
theorem dX7_netAnew_130 : decode cX7_netAnew 130 = .ok (.i2l, 1) := by decide +kernel
theorem dX7_netAnew_131 : decode cX7_netAnew 131 = .ok (.lsub, 1) := by decide +kernel
theorem dX7_netAnew_132 : decode cX7_netAnew 132 = .ok (.lstore_n 3, 1) := by decide +kernel
theorem dX7_netAnew_133 : decode cX7_netAnew 133 = .ok (.iinc 5 1, 3) := by decide +kernel
theorem dX7_netAnew_136 : decode cX7_netAnew 136 = .ok (.goto (-59), 3) := by decide +kernel
theorem dX7_netAnew_139 : decode cX7_netAnew 139 = .ok (.lload_n 3, 1) := by decide +kernel
theorem dX7_netAnew_140 : decode cX7_netAnew 140 = .ok (.lreturn, 1) := by decide +kernel
set_option maxRecDepth 20000 in
theorem ggX7_due_Jx4a65c_size_8abf5 : GoodIn wsX7_due wsJx4a65c_size_8abf5 := goodIn_r _ [9, 10, 60, 61, 62] (by decide +kernel) (by decide +kernel)
set_option maxRecDepth 20000 in
theorem gX7_due_Jx4a65c_size_8abf5_f94Jx4a65c : GoodIn wsX7_due (va_wsF RX7 94 RJx4a65c ⟨"java/util/List", "size", "()I"⟩ yJx4a65c_size_8abf5 wsJx4a65c_size_8abf5) := goodIn_app (goodIn_of _ (by decide +kernel)) ggX7_due_Jx4a65c_size_8abf5
set_option maxRecDepth 20000 in
theorem ggX7_due_X7_nextDueBehind : GoodIn wsX7_due wsX7_nextDueBehind := goodIn_r _ [15, 3, 16, 5, 6, 7, 8, 9, 10, 17, 18, 19, 20, 21, 22, 23, 24, 25, 26, 27, 28, 29, 30, 31, 32, 33, 34, 35, 36, 37, 38, 39, 40, 41, 42, 43, 44, 45, 46, 47, 48, 49, 50, 51, 52, 53, 54, 60, 61, 62, 55, 56, 57, 58, 59] (by decide +kernel) (by decide +kernel)
set_option maxRecDepth 20000 in
theorem gX7_due_X7_nextDueBehind : GoodIn wsX7_due (wsV RX7 252 RX7 yX7_nextDueBehind wsX7_nextDueBehind) := goodIn_app (goodIn_of _ (by decide +kernel)) ggX7_due_X7_nextDueBehind
theorem dX7_due_0 : decode cX7_due 0 = .ok (.iload_n 1, 1) := by decide +kernel
theorem dX7_due_1 : decode cX7_due 1 = .ok (.ifCond .ge 13, 3) := by decide +kernel
theorem dX7_due_4 : decode cX7_due 4 = .ok (.new 247, 3) := by decide +kernel
theorem dX7_due_7 : decode cX7_due 7 = .ok (.dup, 1) := by decide +kernel
theorem dX7_due_8 : decode cX7_due 8 = .ok (.ldc 249, 2) := by decide +kernel
theorem dX7_due_10 : decode cX7_due 10 = .ok (.invokespecial 251, 3) := by decide +kernel
theorem dX7_due_13 : decode cX7_due 13 = .ok (.athrow, 1) := by decide +kernel
theorem dX7_due_14 : decode cX7_due 14 = .ok (.aconst_null, 1) := by decide +kernel
theorem dX7_due_15 : decode cX7_due 15 = .ok (.astore_n 2, 1) := by decide +kernel
theorem dX7_due_16 : decode cX7_due 16 = .ok (.iconst 0, 1) := by decide +kernel
theorem dX7_due_17 : decode cX7_due 17 = .ok (.istore_n 3, 1) := by decide +kernel
theorem dX7_due_18 : decode cX7_due 18 = .ok (.iload_n 3, 1) := by decide +kernel
theorem dX7_due_19 : decode cX7_due 19 = .ok (.aload_n 0, 1) := by decide +kernel
theorem dX7_due_20 : decode cX7_due 20 = .ok (.getfield 43, 3) := by decide +kernel
theorem dX7_due_23 : decode cX7_due 23 = .ok (.invokeinterface 94 1, 5) := by decide +kernel
theorem dX7_due_28 : decode cX7_due 28 = .ok (.if_icmp .ge 31, 3) := by decide +kernel
theorem dX7_due_31 : decode cX7_due 31 = .ok (.aload_n 0, 1) := by decide +kernel
theorem dX7_due_32 : decode cX7_due 32 = .ok (.aload_n 2, 1) := by decide +kernel
theorem dX7_due_33 : decode cX7_due 33 = .ok (.invokevirtual 252, 3) := by decide +kernel
theorem dX7_due_36 : decode cX7_due 36 = .ok (.astore_n 2, 1) := by decide +kernel
theorem dX7_due_37 : decode cX7_due 37 = .ok (.aload_n 2, 1) := by decide +kernel
theorem dX7_due_38 : decode cX7_due 38 = .ok (.ifnonnull 5, 3) := by decide +kernel
theorem dX7_due_41 : decode cX7_due 41 = .ok (.iconst (-1), 1) := by decide +kernel
theorem dX7_due_42 : decode cX7_due 42 = .ok (.ireturn, 1) := by decide +kernel
theorem dX7_due_43 : decode cX7_due 43 = .ok (.iload_n 3, 1) := by decide +kernel
theorem dX7_due_44 : decode cX7_due 44 = .ok (.iload_n 1, 1) := by decide +kernel
theorem dX7_due_45 : decode cX7_due 45 = .ok (.if_icmp .ne 8, 3) := by decide +kernel
theorem dX7_due_48 : decode cX7_due 48 = .ok (.aload_n 2, 1) := by decide +kernel
theorem dX7_due_49 : decode cX7_due 49 = .ok (.getfield 179, 3) := by decide +kernel
theorem dX7_due_52 : decode cX7_due 52 = .ok (.ireturn, 1) := by decide +kernel
theorem dX7_due_53 : decode cX7_due 53 = .ok (.iinc 3 1, 3) := by decide +kernel
theorem dX7_due_56 : decode cX7_due 56 = .ok (.goto (-38), 3) := by decide +kernel
theorem dX7_due_59 : decode cX7_due 59 = .ok (.iconst (-1), 1) := by decide +kernel
theorem dX7_due_60 : decode cX7_due 60 = .ok (.ireturn, 1) := by decide +kernel
set_option maxRecDepth 20000 in
theorem ggX7_count_Jx4a65c_size_8abf5 : GoodIn wsX7_count wsJx4a65c_size_8abf5 := goodIn_r _ [11, 12, 45, 46, 47] (by decide +kernel) (by decide +kernel)
set_option maxRecDepth 20000 in
theorem gX7_count_Jx4a65c_size_8abf5_f94Jx4a65c : GoodIn wsX7_count (va_wsF RX7 94 RJx4a65c ⟨"java/util/List", "size", "()I"⟩ yJx4a65c_size_8abf5 wsJx4a65c_size_8abf5) := goodIn_app (goodIn_of _ (by decide +kernel)) ggX7_count_Jx4a65c_size_8abf5
set_option maxRecDepth 20000 in
theorem ggX7_count_X7_sumOfFees : GoodIn wsX7_count wsX7_sumOfFees := goodIn_r _ [17, 4, 18, 19, 7, 8, 9, 10, 11, 12, 20, 21, 22, 23, 24, 25, 26, 27, 28, 29, 30, 31, 32, 33, 34, 35, 36, 37, 38, 39, 40, 41, 42, 43, 44, 48, 49, 50, 51, 52, 45, 46, 47] (by decide +kernel) (by decide +kernel)
set_option maxRecDepth 20000 in
theorem gX7_count_X7_sumOfFees : GoodIn wsX7_count (wsV RX7 256 RX7 yX7_sumOfFees wsX7_sumOfFees) := goodIn_app (goodIn_of _ (by decide +kernel)) ggX7_count_X7_sumOfFees
theorem dX7_count_0 : decode cX7_count 0 = .ok (.iload_n 1, 1) := by decide +kernel
theorem dX7_count_1 : decode cX7_count 1 = .ok (.tableswitch 75 0 4 #[35, 45, 55, 65, 70], 35) := by decide +kernel
theorem dX7_count_36 : decode cX7_count 36 = .ok (.aload_n 0, 1) := by decide +kernel
theorem dX7_count_37 : decode cX7_count 37 = .ok (.getfield 36, 3) := by decide +kernel
theorem dX7_count_40 : decode cX7_count 40 = .ok (.invokeinterface 94 1, 5) := by decide +kernel
theorem dX7_count_45 : decode cX7_count 45 = .ok (.ireturn, 1) := by decide +kernel
theorem dX7_count_46 : decode cX7_count 46 = .ok (.aload_n 0, 1) := by decide +kernel
theorem dX7_count_47 : decode cX7_count 47 = .ok (.getfield 40, 3) := by decide +kernel
theorem dX7_count_50 : decode cX7_count 50 = .ok (.invokeinterface 94 1, 5) := by decide +kernel
theorem dX7_count_55 : decode cX7_count 55 = .ok (.ireturn, 1) := by decide +kernel
theorem dX7_count_56 : decode cX7_count 56 = .ok (.aload_n 0, 1) := by decide +kernel
theorem dX7_count_57 : decode cX7_count 57 = .ok (.getfield 43, 3) := by decide +kernel
theorem dX7_count_60 : decode cX7_count 60 = .ok (.invokeinterface 94 1, 5) := by decide +kernel
theorem dX7_count_65 : decode cX7_count 65 = .ok (.ireturn, 1) := by decide +kernel
theorem dX7_count_66 : decode cX7_count 66 = .ok (.aload_n 0, 1) := by decide +kernel
theorem dX7_count_67 : decode cX7_count 67 = .ok (.invokevirtual 256, 3) := by decide +kernel
theorem dX7_count_70 : decode cX7_count 70 = .ok (.ireturn, 1) := by decide +kernel
theorem dX7_count_71 : decode cX7_count 71 = .ok (.aload_n 0, 1) := by decide +kernel
theorem dX7_count_72 : decode cX7_count 72 = .ok (.getfield 46, 3) := by decide +kernel
theorem dX7_count_75 : decode cX7_count 75 = .ok (.ireturn, 1) := by decide +kernel
theorem dX7_count_76 : decode cX7_count 76 = .ok (.new 213, 3) := by decide +kernel
theorem dX7_count_79 : decode cX7_count 79 = .ok (.dup, 1) := by decide +kernel
theorem dX7_count_80 : decode cX7_count 80 = .ok (.ldc 215, 2) := by decide +kernel
theorem dX7_count_82 : decode cX7_count 82 = .ok (.invokespecial 217, 3) := by decide +kernel
theorem dX7_count_85 : decode cX7_count 85 = .ok (.athrow, 1) := by decide +kernel
theorem dX7_bankAt_0 : decode cX7_bankAt 0 = .ok (.iload_n 1, 1) := by decide +kernel
theorem dX7_bankAt_1 : decode cX7_bankAt 1 = .ok (.ifCond .lt 8, 3) := by decide +kernel
theorem dX7_bankAt_4 : decode cX7_bankAt 4 = .ok (.iload_n 1, 1) := by decide +kernel
theorem dX7_bankAt_5 : decode cX7_bankAt 5 = .ok (.iconst 4, 1) := by decide +kernel
theorem dX7_bankAt_6 : decode cX7_bankAt 6 = .ok (.if_icmp .lt 14, 3) := by decide +kernel
theorem dX7_bankAt_9 : decode cX7_bankAt 9 = .ok (.new 247, 3) := by decide +kernel
theorem dX7_bankAt_12 : decode cX7_bankAt 12 = .ok (.dup, 1) := by decide +kernel
theorem dX7_bankAt_13 : decode cX7_bankAt 13 = .ok (.ldc_w 259, 3) := by decide +kernel
theorem dX7_bankAt_16 : decode cX7_bankAt 16 = .ok (.invokespecial 251, 3) := by decide +kernel
theorem dX7_bankAt_19 : decode cX7_bankAt 19 = .ok (.athrow, 1) := by decide +kernel
theorem dX7_bankAt_20 : decode cX7_bankAt 20 = .ok (.aload_n 0, 1) := by decide +kernel
end
section
theorem dX7_bankAt_21 : decode cX7_bankAt 21 = .ok (.getfield 11, 3) := by decide +kernel
theorem dX7_bankAt_24 : decode cX7_bankAt 24 = .ok (.iload_n 1, 1) := by decide +kernel
theorem dX7_bankAt_25 : decode cX7_bankAt 25 = .ok (.aaload, 1) := by decide +kernel
theorem dX7_bankAt_26 : decode cX7_bankAt 26 = .ok (.areturn, 1) := by decide +kernel
theorem dX7_kindAt_0 : decode cX7_kindAt 0 = .ok (.iload_n 1, 1) := by decide +kernel
theorem dX7_kindAt_1 : decode cX7_kindAt 1 = .ok (.ifCond .lt 8, 3) := by decide +kernel
theorem dX7_kindAt_4 : decode cX7_kindAt 4 = .ok (.iload_n 1, 1) := by decide +kernel
theorem dX7_kindAt_5 : decode cX7_kindAt 5 = .ok (.iconst 3, 1) := by decide +kernel
theorem dX7_kindAt_6 : decode cX7_kindAt 6 = .ok (.if_icmp .lt 14, 3) := by decide +kernel
theorem dX7_kindAt_9 : decode cX7_kindAt 9 = .ok (.new 247, 3) := by decide +kernel
theorem dX7_kindAt_12 : decode cX7_kindAt 12 = .ok (.dup, 1) := by decide +kernel
theorem dX7_kindAt_13 : decode cX7_kindAt 13 = .ok (.ldc_w 261, 3) := by decide +kernel
theorem dX7_kindAt_16 : decode cX7_kindAt 16 = .ok (.invokespecial 251, 3) := by decide +kernel
theorem dX7_kindAt_19 : decode cX7_kindAt 19 = .ok (.athrow, 1) := by decide +kernel
theorem dX7_kindAt_20 : decode cX7_kindAt 20 = .ok (.aload_n 0, 1) := by decide +kernel
theorem dX7_kindAt_21 : decode cX7_kindAt 21 = .ok (.getfield 17, 3) := by decide +kernel
theorem dX7_kindAt_24 : decode cX7_kindAt 24 = .ok (.iload_n 1, 1) := by decide +kernel
theorem dX7_kindAt_25 : decode cX7_kindAt 25 = .ok (.aaload, 1) := by decide +kernel
theorem dX7_kindAt_26 : decode cX7_kindAt 26 = .ok (.areturn, 1) := by decide +kernel
theorem dX7_shopAt_0 : decode cX7_shopAt 0 = .ok (.iload_n 1, 1) := by decide +kernel
theorem dX7_shopAt_1 : decode cX7_shopAt 1 = .ok (.ifCond .lt 9, 3) := by decide +kernel
theorem dX7_shopAt_4 : decode cX7_shopAt 4 = .ok (.iload_n 1, 1) := by decide +kernel
theorem dX7_shopAt_5 : decode cX7_shopAt 5 = .ok (.bipush 8, 2) := by decide +kernel
theorem dX7_shopAt_7 : decode cX7_shopAt 7 = .ok (.if_icmp .lt 14, 3) := by decide +kernel
theorem dX7_shopAt_10 : decode cX7_shopAt 10 = .ok (.new 247, 3) := by decide +kernel
theorem dX7_shopAt_13 : decode cX7_shopAt 13 = .ok (.dup, 1) := by decide +kernel
theorem dX7_shopAt_14 : decode cX7_shopAt 14 = .ok (.ldc_w 263, 3) := by decide +kernel
theorem dX7_shopAt_17 : decode cX7_shopAt 17 = .ok (.invokespecial 251, 3) := by decide +kernel
theorem dX7_shopAt_20 : decode cX7_shopAt 20 = .ok (.athrow, 1) := by decide +kernel
theorem dX7_shopAt_21 : decode cX7_shopAt 21 = .ok (.aload_n 0, 1) := by decide +kernel
theorem dX7_shopAt_22 : decode cX7_shopAt 22 = .ok (.getfield 23, 3) := by decide +kernel
theorem dX7_shopAt_25 : decode cX7_shopAt 25 = .ok (.iload_n 1, 1) := by decide +kernel
theorem dX7_shopAt_26 : decode cX7_shopAt 26 = .ok (.aaload, 1) := by decide +kernel
theorem dX7_shopAt_27 : decode cX7_shopAt 27 = .ok (.areturn, 1) := by decide +kernel
theorem dX7_cardAt_0 : decode cX7_cardAt 0 = .ok (.iload_n 1, 1) := by decide +kernel
theorem dX7_cardAt_1 : decode cX7_cardAt 1 = .ok (.ifCond .lt 9, 3) := by decide +kernel
theorem dX7_cardAt_4 : decode cX7_cardAt 4 = .ok (.iload_n 1, 1) := by decide +kernel
theorem dX7_cardAt_5 : decode cX7_cardAt 5 = .ok (.bipush 12, 2) := by decide +kernel
theorem dX7_cardAt_7 : decode cX7_cardAt 7 = .ok (.if_icmp .lt 14, 3) := by decide +kernel
theorem dX7_cardAt_10 : decode cX7_cardAt 10 = .ok (.new 247, 3) := by decide +kernel
theorem dX7_cardAt_13 : decode cX7_cardAt 13 = .ok (.dup, 1) := by decide +kernel
theorem dX7_cardAt_14 : decode cX7_cardAt 14 = .ok (.ldc_w 265, 3) := by decide +kernel
theorem dX7_cardAt_17 : decode cX7_cardAt 17 = .ok (.invokespecial 251, 3) := by decide +kernel
theorem dX7_cardAt_20 : decode cX7_cardAt 20 = .ok (.athrow, 1) := by decide +kernel
theorem dX7_cardAt_21 : decode cX7_cardAt 21 = .ok (.aload_n 0, 1) := by decide +kernel
theorem dX7_cardAt_22 : decode cX7_cardAt 22 = .ok (.getfield 29, 3) := by decide +kernel
theorem dX7_cardAt_25 : decode cX7_cardAt 25 = .ok (.iload_n 1, 1) := by decide +kernel
theorem dX7_cardAt_26 : decode cX7_cardAt 26 = .ok (.aaload, 1) := by decide +kernel
theorem dX7_cardAt_27 : decode cX7_cardAt 27 = .ok (.areturn, 1) := by decide +kernel
set_option maxRecDepth 20000 in
theorem ggX7_paymentAt_Jx4a65c_size_8abf5 : GoodIn wsX7_paymentAt wsJx4a65c_size_8abf5 := goodIn_r _ [9, 10, 36, 37, 38] (by decide +kernel) (by decide +kernel)
set_option maxRecDepth 20000 in
theorem gX7_paymentAt_Jx4a65c_size_8abf5_f94Jx4a65c : GoodIn wsX7_paymentAt (va_wsF RX7 94 RJx4a65c ⟨"java/util/List", "size", "()I"⟩ yJx4a65c_size_8abf5 wsJx4a65c_size_8abf5) := goodIn_app (goodIn_of _ (by decide +kernel)) ggX7_paymentAt_Jx4a65c_size_8abf5
set_option maxRecDepth 20000 in
theorem ggX7_paymentAt_Jx4a65c_get_915e3 : GoodIn wsX7_paymentAt wsJx4a65c_get_915e3 := goodIn_r _ [14, 10, 15, 16, 17, 18, 19, 20, 21, 22, 23, 24, 25, 8, 26, 27, 36, 37, 38] (by decide +kernel) (by decide +kernel)
set_option maxRecDepth 20000 in
theorem gX7_paymentAt_Jx4a65c_get_915e3_f235Jx4a65c : GoodIn wsX7_paymentAt (va_wsF RX7 235 RJx4a65c ⟨"java/util/List", "get", "(I)Ljava/lang/Object;"⟩ yJx4a65c_get_915e3 wsJx4a65c_get_915e3) := goodIn_app (goodIn_of _ (by decide +kernel)) ggX7_paymentAt_Jx4a65c_get_915e3
theorem dX7_paymentAt_0 : decode cX7_paymentAt 0 = .ok (.iload_n 1, 1) := by decide +kernel
theorem dX7_paymentAt_1 : decode cX7_paymentAt 1 = .ok (.ifCond .lt 16, 3) := by decide +kernel
theorem dX7_paymentAt_4 : decode cX7_paymentAt 4 = .ok (.iload_n 1, 1) := by decide +kernel
theorem dX7_paymentAt_5 : decode cX7_paymentAt 5 = .ok (.aload_n 0, 1) := by decide +kernel
theorem dX7_paymentAt_6 : decode cX7_paymentAt 6 = .ok (.getfield 36, 3) := by decide +kernel
theorem dX7_paymentAt_9 : decode cX7_paymentAt 9 = .ok (.invokeinterface 94 1, 5) := by decide +kernel
theorem dX7_paymentAt_14 : decode cX7_paymentAt 14 = .ok (.if_icmp .lt 14, 3) := by decide +kernel
theorem dX7_paymentAt_17 : decode cX7_paymentAt 17 = .ok (.new 247, 3) := by decide +kernel
theorem dX7_paymentAt_20 : decode cX7_paymentAt 20 = .ok (.dup, 1) := by decide +kernel
theorem dX7_paymentAt_21 : decode cX7_paymentAt 21 = .ok (.ldc_w 267, 3) := by decide +kernel
theorem dX7_paymentAt_24 : decode cX7_paymentAt 24 = .ok (.invokespecial 251, 3) := by decide +kernel
theorem dX7_paymentAt_27 : decode cX7_paymentAt 27 = .ok (.athrow, 1) := by decide +kernel
theorem dX7_paymentAt_28 : decode cX7_paymentAt 28 = .ok (.aload_n 0, 1) := by decide +kernel
theorem dX7_paymentAt_29 : decode cX7_paymentAt 29 = .ok (.getfield 36, 3) := by decide +kernel
theorem dX7_paymentAt_32 : decode cX7_paymentAt 32 = .ok (.iload_n 1, 1) := by decide +kernel
theorem dX7_paymentAt_33 : decode cX7_paymentAt 33 = .ok (.invokeinterface 235 2, 5) := by decide +kernel
theorem dX7_paymentAt_38 : decode cX7_paymentAt 38 = .ok (.checkcast 108, 3) := by decide +kernel
theorem dX7_paymentAt_41 : decode cX7_paymentAt 41 = .ok (.areturn, 1) := by decide +kernel
set_option maxRecDepth 20000 in
theorem ggX7_captureAt_Jx4a65c_size_8abf5 : GoodIn wsX7_captureAt wsJx4a65c_size_8abf5 := goodIn_r _ [9, 10, 36, 37, 38] (by decide +kernel) (by decide +kernel)
set_option maxRecDepth 20000 in
theorem gX7_captureAt_Jx4a65c_size_8abf5_f94Jx4a65c : GoodIn wsX7_captureAt (va_wsF RX7 94 RJx4a65c ⟨"java/util/List", "size", "()I"⟩ yJx4a65c_size_8abf5 wsJx4a65c_size_8abf5) := goodIn_app (goodIn_of _ (by decide +kernel)) ggX7_captureAt_Jx4a65c_size_8abf5
set_option maxRecDepth 20000 in
theorem ggX7_captureAt_Jx4a65c_get_915e3 : GoodIn wsX7_captureAt wsJx4a65c_get_915e3 := goodIn_r _ [14, 10, 15, 16, 17, 18, 19, 20, 21, 22, 23, 24, 25, 8, 26, 27, 36, 37, 38] (by decide +kernel) (by decide +kernel)
set_option maxRecDepth 20000 in
theorem gX7_captureAt_Jx4a65c_get_915e3_f235Jx4a65c : GoodIn wsX7_captureAt (va_wsF RX7 235 RJx4a65c ⟨"java/util/List", "get", "(I)Ljava/lang/Object;"⟩ yJx4a65c_get_915e3 wsJx4a65c_get_915e3) := goodIn_app (goodIn_of _ (by decide +kernel)) ggX7_captureAt_Jx4a65c_get_915e3
theorem dX7_captureAt_0 : decode cX7_captureAt 0 = .ok (.iload_n 1, 1) := by decide +kernel
theorem dX7_captureAt_1 : decode cX7_captureAt 1 = .ok (.ifCond .lt 16, 3) := by decide +kernel
theorem dX7_captureAt_4 : decode cX7_captureAt 4 = .ok (.iload_n 1, 1) := by decide +kernel
theorem dX7_captureAt_5 : decode cX7_captureAt 5 = .ok (.aload_n 0, 1) := by decide +kernel
theorem dX7_captureAt_6 : decode cX7_captureAt 6 = .ok (.getfield 40, 3) := by decide +kernel
theorem dX7_captureAt_9 : decode cX7_captureAt 9 = .ok (.invokeinterface 94 1, 5) := by decide +kernel
theorem dX7_captureAt_14 : decode cX7_captureAt 14 = .ok (.if_icmp .lt 14, 3) := by decide +kernel
theorem dX7_captureAt_17 : decode cX7_captureAt 17 = .ok (.new 247, 3) := by decide +kernel
theorem dX7_captureAt_20 : decode cX7_captureAt 20 = .ok (.dup, 1) := by decide +kernel
theorem dX7_captureAt_21 : decode cX7_captureAt 21 = .ok (.ldc_w 269, 3) := by decide +kernel
theorem dX7_captureAt_24 : decode cX7_captureAt 24 = .ok (.invokespecial 251, 3) := by decide +kernel
theorem dX7_captureAt_27 : decode cX7_captureAt 27 = .ok (.athrow, 1) := by decide +kernel
theorem dX7_captureAt_28 : decode cX7_captureAt 28 = .ok (.aload_n 0, 1) := by decide +kernel
theorem dX7_captureAt_29 : decode cX7_captureAt 29 = .ok (.getfield 40, 3) := by decide +kernel
theorem dX7_captureAt_32 : decode cX7_captureAt 32 = .ok (.iload_n 1, 1) := by decide +kernel
theorem dX7_captureAt_33 : decode cX7_captureAt 33 = .ok (.invokeinterface 235 2, 5) := by decide +kernel
theorem dX7_captureAt_38 : decode cX7_captureAt 38 = .ok (.checkcast 129, 3) := by decide +kernel
theorem dX7_captureAt_41 : decode cX7_captureAt 41 = .ok (.areturn, 1) := by decide +kernel
set_option maxRecDepth 20000 in
theorem ggX7_chargebackAt_Jx4a65c_size_8abf5 : GoodIn wsX7_chargebackAt wsJx4a65c_size_8abf5 := goodIn_r _ [9, 10, 36, 37, 38] (by decide +kernel) (by decide +kernel)
set_option maxRecDepth 20000 in
theorem gX7_chargebackAt_Jx4a65c_size_8abf5_f94Jx4a65c : GoodIn wsX7_chargebackAt (va_wsF RX7 94 RJx4a65c ⟨"java/util/List", "size", "()I"⟩ yJx4a65c_size_8abf5 wsJx4a65c_size_8abf5) := goodIn_app (goodIn_of _ (by decide +kernel)) ggX7_chargebackAt_Jx4a65c_size_8abf5
set_option maxRecDepth 20000 in
theorem ggX7_chargebackAt_Jx4a65c_get_915e3 : GoodIn wsX7_chargebackAt wsJx4a65c_get_915e3 := goodIn_r _ [14, 10, 15, 16, 17, 18, 19, 20, 21, 22, 23, 24, 25, 8, 26, 27, 36, 37, 38] (by decide +kernel) (by decide +kernel)
set_option maxRecDepth 20000 in
theorem gX7_chargebackAt_Jx4a65c_get_915e3_f235Jx4a65c : GoodIn wsX7_chargebackAt (va_wsF RX7 235 RJx4a65c ⟨"java/util/List", "get", "(I)Ljava/lang/Object;"⟩ yJx4a65c_get_915e3 wsJx4a65c_get_915e3) := goodIn_app (goodIn_of _ (by decide +kernel)) ggX7_chargebackAt_Jx4a65c_get_915e3
theorem dX7_chargebackAt_0 : decode cX7_chargebackAt 0 = .ok (.iload_n 1, 1) := by decide +kernel
theorem dX7_chargebackAt_1 : decode cX7_chargebackAt 1 = .ok (.ifCond .lt 16, 3) := by decide +kernel
theorem dX7_chargebackAt_4 : decode cX7_chargebackAt 4 = .ok (.iload_n 1, 1) := by decide +kernel
theorem dX7_chargebackAt_5 : decode cX7_chargebackAt 5 = .ok (.aload_n 0, 1) := by decide +kernel
theorem dX7_chargebackAt_6 : decode cX7_chargebackAt 6 = .ok (.getfield 43, 3) := by decide +kernel
theorem dX7_chargebackAt_9 : decode cX7_chargebackAt 9 = .ok (.invokeinterface 94 1, 5) := by decide +kernel
theorem dX7_chargebackAt_14 : decode cX7_chargebackAt 14 = .ok (.if_icmp .lt 14, 3) := by decide +kernel
theorem dX7_chargebackAt_17 : decode cX7_chargebackAt 17 = .ok (.new 247, 3) := by decide +kernel
theorem dX7_chargebackAt_20 : decode cX7_chargebackAt 20 = .ok (.dup, 1) := by decide +kernel
theorem dX7_chargebackAt_21 : decode cX7_chargebackAt 21 = .ok (.ldc_w 271, 3) := by decide +kernel
theorem dX7_chargebackAt_24 : decode cX7_chargebackAt 24 = .ok (.invokespecial 251, 3) := by decide +kernel
theorem dX7_chargebackAt_27 : decode cX7_chargebackAt 27 = .ok (.athrow, 1) := by decide +kernel
theorem dX7_chargebackAt_28 : decode cX7_chargebackAt 28 = .ok (.aload_n 0, 1) := by decide +kernel
theorem dX7_chargebackAt_29 : decode cX7_chargebackAt 29 = .ok (.getfield 43, 3) := by decide +kernel
theorem dX7_chargebackAt_32 : decode cX7_chargebackAt 32 = .ok (.iload_n 1, 1) := by decide +kernel
theorem dX7_chargebackAt_33 : decode cX7_chargebackAt 33 = .ok (.invokeinterface 235 2, 5) := by decide +kernel
theorem dX7_chargebackAt_38 : decode cX7_chargebackAt 38 = .ok (.checkcast 174, 3) := by decide +kernel
theorem dX7_chargebackAt_41 : decode cX7_chargebackAt 41 = .ok (.areturn, 1) := by decide +kernel
theorem dX7_requireRange_0 : decode cX7_requireRange 0 = .ok (.iload_n 0, 1) := by decide +kernel
theorem dX7_requireRange_1 : decode cX7_requireRange 1 = .ok (.iload_n 1, 1) := by decide +kernel
theorem dX7_requireRange_2 : decode cX7_requireRange 2 = .ok (.if_icmp .lt 8, 3) := by decide +kernel
theorem dX7_requireRange_5 : decode cX7_requireRange 5 = .ok (.iload_n 0, 1) := by decide +kernel
theorem dX7_requireRange_6 : decode cX7_requireRange 6 = .ok (.iload_n 2, 1) := by decide +kernel
theorem dX7_requireRange_7 : decode cX7_requireRange 7 = .ok (.if_icmp .le 14, 3) := by decide +kernel
theorem dX7_requireRange_10 : decode cX7_requireRange 10 = .ok (.new 213, 3) := by decide +kernel
theorem dX7_requireRange_13 : decode cX7_requireRange 13 = .ok (.dup, 1) := by decide +kernel
theorem dX7_requireRange_14 : decode cX7_requireRange 14 = .ok (.ldc_w 273, 3) := by decide +kernel
theorem dX7_requireRange_17 : decode cX7_requireRange 17 = .ok (.invokespecial 217, 3) := by decide +kernel
theorem dX7_requireRange_20 : decode cX7_requireRange 20 = .ok (.athrow, 1) := by decide +kernel
theorem dX7_requireRange_21 : decode cX7_requireRange 21 = .ok (.return_, 1) := by decide +kernel
theorem dX7_requirePossible_0 : decode cX7_requirePossible 0 = .ok (.iload_n 0, 1) := by decide +kernel
theorem dX7_requirePossible_1 : decode cX7_requirePossible 1 = .ok (.ifCond .ne 14, 3) := by decide +kernel
theorem dX7_requirePossible_4 : decode cX7_requirePossible 4 = .ok (.new 275, 3) := by decide +kernel
theorem dX7_requirePossible_7 : decode cX7_requirePossible 7 = .ok (.dup, 1) := by decide +kernel
theorem dX7_requirePossible_8 : decode cX7_requirePossible 8 = .ok (.ldc_w 277, 3) := by decide +kernel
theorem dX7_requirePossible_11 : decode cX7_requirePossible 11 = .ok (.invokespecial 279, 3) := by decide +kernel
theorem dX7_requirePossible_14 : decode cX7_requirePossible 14 = .ok (.athrow, 1) := by decide +kernel
theorem dX7_requirePossible_15 : decode cX7_requirePossible 15 = .ok (.return_, 1) := by decide +kernel
set_option maxRecDepth 20000 in
theorem ggX7_limitOf_Jx4a65c_size_8abf5 : GoodIn wsX7_limitOf wsJx4a65c_size_8abf5 := goodIn_r _ [14, 15, 53, 54, 55] (by decide +kernel) (by decide +kernel)
set_option maxRecDepth 20000 in
theorem gX7_limitOf_Jx4a65c_size_8abf5_f94Jx4a65c : GoodIn wsX7_limitOf (va_wsF RX7 94 RJx4a65c ⟨"java/util/List", "size", "()I"⟩ yJx4a65c_size_8abf5 wsJx4a65c_size_8abf5) := goodIn_app (goodIn_of _ (by decide +kernel)) ggX7_limitOf_Jx4a65c_size_8abf5
set_option maxRecDepth 20000 in
theorem ggX7_limitOf_Jx4a65c_get_915e3 : GoodIn wsX7_limitOf wsJx4a65c_get_915e3 := goodIn_r _ [19, 15, 20, 21, 22, 23, 24, 25, 26, 27, 28, 29, 30, 13, 31, 32, 53, 54, 55] (by decide +kernel) (by decide +kernel)
set_option maxRecDepth 20000 in
theorem gX7_limitOf_Jx4a65c_get_915e3_f235Jx4a65c : GoodIn wsX7_limitOf (va_wsF RX7 235 RJx4a65c ⟨"java/util/List", "get", "(I)Ljava/lang/Object;"⟩ yJx4a65c_get_915e3 wsJx4a65c_get_915e3) := goodIn_app (goodIn_of _ (by decide +kernel)) ggX7_limitOf_Jx4a65c_get_915e3
theorem dX7_limitOf_0 : decode cX7_limitOf 0 = .ok (.iconst 0, 1) := by decide +kernel
theorem dX7_limitOf_1 : decode cX7_limitOf 1 = .ok (.istore_n 2, 1) := by decide +kernel
theorem dX7_limitOf_2 : decode cX7_limitOf 2 = .ok (.iconst 0, 1) := by decide +kernel
theorem dX7_limitOf_3 : decode cX7_limitOf 3 = .ok (.istore_n 3, 1) := by decide +kernel
theorem dX7_limitOf_4 : decode cX7_limitOf 4 = .ok (.aload_n 0, 1) := by decide +kernel
theorem dX7_limitOf_5 : decode cX7_limitOf 5 = .ok (.getfield 40, 3) := by decide +kernel
theorem dX7_limitOf_8 : decode cX7_limitOf 8 = .ok (.invokeinterface 94 1, 5) := by decide +kernel
theorem dX7_limitOf_13 : decode cX7_limitOf 13 = .ok (.iconst 1, 1) := by decide +kernel
theorem dX7_limitOf_14 : decode cX7_limitOf 14 = .ok (.isub, 1) := by decide +kernel
theorem dX7_limitOf_15 : decode cX7_limitOf 15 = .ok (.istore 4, 2) := by decide +kernel
theorem dX7_limitOf_17 : decode cX7_limitOf 17 = .ok (.iload 4, 2) := by decide +kernel
theorem dX7_limitOf_19 : decode cX7_limitOf 19 = .ok (.ifCond .lt 53, 3) := by decide +kernel
theorem dX7_limitOf_22 : decode cX7_limitOf 22 = .ok (.iload_n 3, 1) := by decide +kernel
theorem dX7_limitOf_23 : decode cX7_limitOf 23 = .ok (.iconst 5, 1) := by decide +kernel
theorem dX7_limitOf_24 : decode cX7_limitOf 24 = .ok (.if_icmp .ge 48, 3) := by decide +kernel
theorem dX7_limitOf_27 : decode cX7_limitOf 27 = .ok (.aload_n 0, 1) := by decide +kernel
theorem dX7_limitOf_28 : decode cX7_limitOf 28 = .ok (.getfield 40, 3) := by decide +kernel
theorem dX7_limitOf_31 : decode cX7_limitOf 31 = .ok (.iload 4, 2) := by decide +kernel
theorem dX7_limitOf_33 : decode cX7_limitOf 33 = .ok (.invokeinterface 235 2, 5) := by decide +kernel
theorem dX7_limitOf_38 : decode cX7_limitOf 38 = .ok (.checkcast 129, 3) := by decide +kernel
theorem dX7_limitOf_41 : decode cX7_limitOf 41 = .ok (.astore 5, 2) := by decide +kernel
theorem dX7_limitOf_43 : decode cX7_limitOf 43 = .ok (.aload 5, 2) := by decide +kernel
theorem dX7_limitOf_45 : decode cX7_limitOf 45 = .ok (.getfield 220, 3) := by decide +kernel
theorem dX7_limitOf_48 : decode cX7_limitOf 48 = .ok (.getfield 205, 3) := by decide +kernel
theorem dX7_limitOf_51 : decode cX7_limitOf 51 = .ok (.aload_n 1, 1) := by decide +kernel
theorem dX7_limitOf_52 : decode cX7_limitOf 52 = .ok (.if_acmp .ne 14, 3) := by decide +kernel
theorem dX7_limitOf_55 : decode cX7_limitOf 55 = .ok (.iload_n 2, 1) := by decide +kernel
theorem dX7_limitOf_56 : decode cX7_limitOf 56 = .ok (.aload 5, 2) := by decide +kernel
theorem dX7_limitOf_58 : decode cX7_limitOf 58 = .ok (.getfield 148, 3) := by decide +kernel
theorem dX7_limitOf_61 : decode cX7_limitOf 61 = .ok (.iadd, 1) := by decide +kernel
theorem dX7_limitOf_62 : decode cX7_limitOf 62 = .ok (.istore_n 2, 1) := by decide +kernel
theorem dX7_limitOf_63 : decode cX7_limitOf 63 = .ok (.iinc 3 1, 3) := by decide +kernel
theorem dX7_limitOf_66 : decode cX7_limitOf 66 = .ok (.iinc 4 (-1), 3) := by decide +kernel
theorem dX7_limitOf_69 : decode cX7_limitOf 69 = .ok (.goto (-52), 3) := by decide +kernel
theorem dX7_limitOf_72 : decode cX7_limitOf 72 = .ok (.iload_n 3, 1) := by decide +kernel
theorem dX7_limitOf_73 : decode cX7_limitOf 73 = .ok (.ifCond .ne 7, 3) := by decide +kernel
theorem dX7_limitOf_76 : decode cX7_limitOf 76 = .ok (.sipush 10000, 3) := by decide +kernel
theorem dX7_limitOf_79 : decode cX7_limitOf 79 = .ok (.ireturn, 1) := by decide +kernel
theorem dX7_limitOf_80 : decode cX7_limitOf 80 = .ok (.sipush 500, 3) := by decide +kernel
theorem dX7_limitOf_83 : decode cX7_limitOf 83 = .ok (.iconst 3, 1) := by decide +kernel
theorem dX7_limitOf_84 : decode cX7_limitOf 84 = .ok (.iload_n 2, 1) := by decide +kernel
theorem dX7_limitOf_85 : decode cX7_limitOf 85 = .ok (.imul, 1) := by decide +kernel
theorem dX7_limitOf_86 : decode cX7_limitOf 86 = .ok (.iload_n 3, 1) := by decide +kernel
theorem dX7_limitOf_87 : decode cX7_limitOf 87 = .ok (.idiv, 1) := by decide +kernel
theorem dX7_limitOf_88 : decode cX7_limitOf 88 = .ok (.invokestatic 280, 3) := by decide +kernel
theorem dX7_limitOf_91 : decode cX7_limitOf 91 = .ok (.ireturn, 1) := by decide +kernel
set_option maxRecDepth 20000 in
theorem ggX7_givenBackOf_Jx4a65c_size_8abf5 : GoodIn wsX7_givenBackOf wsJx4a65c_size_8abf5 := goodIn_r _ [11, 12, 48, 49, 50] (by decide +kernel) (by decide +kernel)
set_option maxRecDepth 20000 in
theorem gX7_givenBackOf_Jx4a65c_size_8abf5_f94Jx4a65c : GoodIn wsX7_givenBackOf (va_wsF RX7 94 RJx4a65c ⟨"java/util/List", "size", "()I"⟩ yJx4a65c_size_8abf5 wsJx4a65c_size_8abf5) := goodIn_app (goodIn_of _ (by decide +kernel)) ggX7_givenBackOf_Jx4a65c_size_8abf5
set_option maxRecDepth 20000 in
theorem ggX7_givenBackOf_Jx4a65c_get_915e3 : GoodIn wsX7_givenBackOf wsJx4a65c_get_915e3 := goodIn_r _ [16, 12, 17, 18, 19, 20, 21, 22, 23, 24, 25, 26, 27, 10, 28, 29, 48, 49, 50] (by decide +kernel) (by decide +kernel)
set_option maxRecDepth 20000 in
theorem gX7_givenBackOf_Jx4a65c_get_915e3_f235Jx4a65c : GoodIn wsX7_givenBackOf (va_wsF RX7 235 RJx4a65c ⟨"java/util/List", "get", "(I)Ljava/lang/Object;"⟩ yJx4a65c_get_915e3 wsJx4a65c_get_915e3) := goodIn_app (goodIn_of _ (by decide +kernel)) ggX7_givenBackOf_Jx4a65c_get_915e3
theorem dX7_givenBackOf_0 : decode cX7_givenBackOf 0 = .ok (.aload_n 1, 1) := by decide +kernel
theorem dX7_givenBackOf_1 : decode cX7_givenBackOf 1 = .ok (.getfield 171, 3) := by decide +kernel
theorem dX7_givenBackOf_4 : decode cX7_givenBackOf 4 = .ok (.istore_n 2, 1) := by decide +kernel
theorem dX7_givenBackOf_5 : decode cX7_givenBackOf 5 = .ok (.iconst 0, 1) := by decide +kernel
theorem dX7_givenBackOf_6 : decode cX7_givenBackOf 6 = .ok (.istore_n 3, 1) := by decide +kernel
theorem dX7_givenBackOf_7 : decode cX7_givenBackOf 7 = .ok (.iload_n 3, 1) := by decide +kernel
theorem dX7_givenBackOf_8 : decode cX7_givenBackOf 8 = .ok (.aload_n 0, 1) := by decide +kernel
theorem dX7_givenBackOf_9 : decode cX7_givenBackOf 9 = .ok (.getfield 43, 3) := by decide +kernel
theorem dX7_givenBackOf_12 : decode cX7_givenBackOf 12 = .ok (.invokeinterface 94 1, 5) := by decide +kernel
theorem dX7_givenBackOf_17 : decode cX7_givenBackOf 17 = .ok (.if_icmp .ge 50, 3) := by decide +kernel
theorem dX7_givenBackOf_20 : decode cX7_givenBackOf 20 = .ok (.aload_n 0, 1) := by decide +kernel
theorem dX7_givenBackOf_21 : decode cX7_givenBackOf 21 = .ok (.getfield 43, 3) := by decide +kernel
theorem dX7_givenBackOf_24 : decode cX7_givenBackOf 24 = .ok (.iload_n 3, 1) := by decide +kernel
theorem dX7_givenBackOf_25 : decode cX7_givenBackOf 25 = .ok (.invokeinterface 235 2, 5) := by decide +kernel
theorem dX7_givenBackOf_30 : decode cX7_givenBackOf 30 = .ok (.checkcast 174, 3) := by decide +kernel
theorem dX7_givenBackOf_33 : decode cX7_givenBackOf 33 = .ok (.astore 4, 2) := by decide +kernel
theorem dX7_givenBackOf_35 : decode cX7_givenBackOf 35 = .ok (.aload 4, 2) := by decide +kernel
theorem dX7_givenBackOf_37 : decode cX7_givenBackOf 37 = .ok (.getfield 194, 3) := by decide +kernel
theorem dX7_givenBackOf_40 : decode cX7_givenBackOf 40 = .ok (.aload_n 1, 1) := by decide +kernel
theorem dX7_givenBackOf_41 : decode cX7_givenBackOf 41 = .ok (.if_acmp .ne 20, 3) := by decide +kernel
theorem dX7_givenBackOf_44 : decode cX7_givenBackOf 44 = .ok (.aload 4, 2) := by decide +kernel
theorem dX7_givenBackOf_46 : decode cX7_givenBackOf 46 = .ok (.getfield 184, 3) := by decide +kernel
theorem dX7_givenBackOf_49 : decode cX7_givenBackOf 49 = .ok (.iconst 4, 1) := by decide +kernel
theorem dX7_givenBackOf_50 : decode cX7_givenBackOf 50 = .ok (.if_icmp .eq 11, 3) := by decide +kernel
theorem dX7_givenBackOf_53 : decode cX7_givenBackOf 53 = .ok (.iload_n 2, 1) := by decide +kernel
theorem dX7_givenBackOf_54 : decode cX7_givenBackOf 54 = .ok (.aload 4, 2) := by decide +kernel
theorem dX7_givenBackOf_56 : decode cX7_givenBackOf 56 = .ok (.getfield 198, 3) := by decide +kernel
theorem dX7_givenBackOf_59 : decode cX7_givenBackOf 59 = .ok (.iadd, 1) := by decide +kernel
theorem dX7_givenBackOf_60 : decode cX7_givenBackOf 60 = .ok (.istore_n 2, 1) := by decide +kernel
theorem dX7_givenBackOf_61 : decode cX7_givenBackOf 61 = .ok (.iinc 3 1, 3) := by decide +kernel
theorem dX7_givenBackOf_64 : decode cX7_givenBackOf 64 = .ok (.goto (-57), 3) := by decide +kernel
theorem dX7_givenBackOf_67 : decode cX7_givenBackOf 67 = .ok (.iload_n 2, 1) := by decide +kernel
theorem dX7_givenBackOf_68 : decode cX7_givenBackOf 68 = .ok (.ireturn, 1) := by decide +kernel
set_option maxRecDepth 20000 in
theorem ggX7_payBackToShop_X1_cardBank : GoodIn wsX7_payBackToShop wsX1_cardBank := goodIn_r _ [7, 8, 9, 10, 33, 34, 35, 36, 37, 38, 39, 40, 41, 42, 43, 44, 45, 46] (by decide +kernel) (by decide +kernel)
set_option maxRecDepth 20000 in
theorem gX7_payBackToShop_X1_cardBank : GoodIn wsX7_payBackToShop (wsV RX7 141 RX1 yX1_cardBank wsX1_cardBank) := goodIn_app (goodIn_of _ (by decide +kernel)) ggX7_payBackToShop_X1_cardBank
set_option maxRecDepth 20000 in
theorem ggX7_payBackToShop_X1_shopBank : GoodIn wsX7_payBackToShop wsX1_shopBank := goodIn_r _ [14, 8, 15, 16, 33, 34, 35, 36, 37, 38, 39, 40, 41, 42, 43, 44, 47, 48, 49] (by decide +kernel) (by decide +kernel)
set_option maxRecDepth 20000 in
theorem gX7_payBackToShop_X1_shopBank : GoodIn wsX7_payBackToShop (wsV RX7 145 RX1 yX1_shopBank wsX1_shopBank) := goodIn_app (goodIn_of _ (by decide +kernel)) ggX7_payBackToShop_X1_shopBank
set_option maxRecDepth 20000 in
theorem ggX7_payBackToShop_X0_pay : GoodIn wsX7_payBackToShop wsX0_pay := goodIn_r _ [21, 22, 23, 24, 20, 25, 26, 27, 50, 51] (by decide +kernel) (by decide +kernel)
set_option maxRecDepth 20000 in
theorem gX7_payBackToShop_X0_pay : GoodIn wsX7_payBackToShop (wsV RX7 154 RX0 yX0_pay wsX0_pay) := goodIn_app (goodIn_of _ (by decide +kernel)) ggX7_payBackToShop_X0_pay
theorem dX7_payBackToShop_0 : decode cX7_payBackToShop 0 = .ok (.aload_n 0, 1) := by decide +kernel
theorem dX7_payBackToShop_1 : decode cX7_payBackToShop 1 = .ok (.getfield 194, 3) := by decide +kernel
theorem dX7_payBackToShop_4 : decode cX7_payBackToShop 4 = .ok (.invokevirtual 141, 3) := by decide +kernel
theorem dX7_payBackToShop_7 : decode cX7_payBackToShop 7 = .ok (.aload_n 0, 1) := by decide +kernel
theorem dX7_payBackToShop_8 : decode cX7_payBackToShop 8 = .ok (.getfield 194, 3) := by decide +kernel
theorem dX7_payBackToShop_11 : decode cX7_payBackToShop 11 = .ok (.invokevirtual 145, 3) := by decide +kernel
theorem dX7_payBackToShop_14 : decode cX7_payBackToShop 14 = .ok (.aload_n 0, 1) := by decide +kernel
theorem dX7_payBackToShop_15 : decode cX7_payBackToShop 15 = .ok (.getfield 198, 3) := by decide +kernel
theorem dX7_payBackToShop_18 : decode cX7_payBackToShop 18 = .ok (.invokevirtual 154, 3) := by decide +kernel
theorem dX7_payBackToShop_21 : decode cX7_payBackToShop 21 = .ok (.return_, 1) := by decide +kernel
set_option maxRecDepth 20000 in
theorem ggX7_countPressed_Jx4a65c_size_8abf5 : GoodIn wsX7_countPressed wsJx4a65c_size_8abf5 := goodIn_r _ [8, 9, 40, 41, 42] (by decide +kernel) (by decide +kernel)
set_option maxRecDepth 20000 in
theorem gX7_countPressed_Jx4a65c_size_8abf5_f94Jx4a65c : GoodIn wsX7_countPressed (va_wsF RX7 94 RJx4a65c ⟨"java/util/List", "size", "()I"⟩ yJx4a65c_size_8abf5 wsJx4a65c_size_8abf5) := goodIn_app (goodIn_of _ (by decide +kernel)) ggX7_countPressed_Jx4a65c_size_8abf5
set_option maxRecDepth 20000 in
theorem ggX7_countPressed_Jx4a65c_get_915e3 : GoodIn wsX7_countPressed wsJx4a65c_get_915e3 := goodIn_r _ [13, 9, 14, 15, 16, 17, 18, 19, 20, 21, 22, 23, 24, 7, 25, 26, 40, 41, 42] (by decide +kernel) (by decide +kernel)
set_option maxRecDepth 20000 in
theorem gX7_countPressed_Jx4a65c_get_915e3_f235Jx4a65c : GoodIn wsX7_countPressed (va_wsF RX7 235 RJx4a65c ⟨"java/util/List", "get", "(I)Ljava/lang/Object;"⟩ yJx4a65c_get_915e3 wsJx4a65c_get_915e3) := goodIn_app (goodIn_of _ (by decide +kernel)) ggX7_countPressed_Jx4a65c_get_915e3
theorem dX7_countPressed_0 : decode cX7_countPressed 0 = .ok (.iconst 0, 1) := by decide +kernel
theorem dX7_countPressed_1 : decode cX7_countPressed 1 = .ok (.istore_n 1, 1) := by decide +kernel
theorem dX7_countPressed_2 : decode cX7_countPressed 2 = .ok (.iconst 0, 1) := by decide +kernel
theorem dX7_countPressed_3 : decode cX7_countPressed 3 = .ok (.istore_n 2, 1) := by decide +kernel
theorem dX7_countPressed_4 : decode cX7_countPressed 4 = .ok (.iload_n 2, 1) := by decide +kernel
theorem dX7_countPressed_5 : decode cX7_countPressed 5 = .ok (.aload_n 0, 1) := by decide +kernel
theorem dX7_countPressed_6 : decode cX7_countPressed 6 = .ok (.getfield 43, 3) := by decide +kernel
theorem dX7_countPressed_9 : decode cX7_countPressed 9 = .ok (.invokeinterface 94 1, 5) := by decide +kernel
theorem dX7_countPressed_14 : decode cX7_countPressed 14 = .ok (.if_icmp .ge 32, 3) := by decide +kernel
theorem dX7_countPressed_17 : decode cX7_countPressed 17 = .ok (.aload_n 0, 1) := by decide +kernel
theorem dX7_countPressed_18 : decode cX7_countPressed 18 = .ok (.getfield 43, 3) := by decide +kernel
theorem dX7_countPressed_21 : decode cX7_countPressed 21 = .ok (.iload_n 2, 1) := by decide +kernel
theorem dX7_countPressed_22 : decode cX7_countPressed 22 = .ok (.invokeinterface 235 2, 5) := by decide +kernel
theorem dX7_countPressed_27 : decode cX7_countPressed 27 = .ok (.checkcast 174, 3) := by decide +kernel
theorem dX7_countPressed_30 : decode cX7_countPressed 30 = .ok (.getfield 184, 3) := by decide +kernel
theorem dX7_countPressed_33 : decode cX7_countPressed 33 = .ok (.iconst 2, 1) := by decide +kernel
theorem dX7_countPressed_34 : decode cX7_countPressed 34 = .ok (.if_icmp .ne 6, 3) := by decide +kernel
theorem dX7_countPressed_37 : decode cX7_countPressed 37 = .ok (.iinc 1 1, 3) := by decide +kernel
theorem dX7_countPressed_40 : decode cX7_countPressed 40 = .ok (.iinc 2 1, 3) := by decide +kernel
theorem dX7_countPressed_43 : decode cX7_countPressed 43 = .ok (.goto (-39), 3) := by decide +kernel
theorem dX7_countPressed_46 : decode cX7_countPressed 46 = .ok (.iload_n 1, 1) := by decide +kernel
theorem dX7_countPressed_47 : decode cX7_countPressed 47 = .ok (.ireturn, 1) := by decide +kernel
set_option maxRecDepth 20000 in
theorem ggX7_sumOfFees_Jx4a65c_size_8abf5 : GoodIn wsX7_sumOfFees wsJx4a65c_size_8abf5 := goodIn_r _ [8, 9, 40, 41, 42] (by decide +kernel) (by decide +kernel)
set_option maxRecDepth 20000 in
theorem gX7_sumOfFees_Jx4a65c_size_8abf5_f94Jx4a65c : GoodIn wsX7_sumOfFees (va_wsF RX7 94 RJx4a65c ⟨"java/util/List", "size", "()I"⟩ yJx4a65c_size_8abf5 wsJx4a65c_size_8abf5) := goodIn_app (goodIn_of _ (by decide +kernel)) ggX7_sumOfFees_Jx4a65c_size_8abf5
set_option maxRecDepth 20000 in
theorem ggX7_sumOfFees_Jx4a65c_get_915e3 : GoodIn wsX7_sumOfFees wsJx4a65c_get_915e3 := goodIn_r _ [13, 9, 14, 15, 16, 17, 18, 19, 20, 21, 22, 23, 24, 7, 25, 26, 40, 41, 42] (by decide +kernel) (by decide +kernel)
set_option maxRecDepth 20000 in
theorem gX7_sumOfFees_Jx4a65c_get_915e3_f235Jx4a65c : GoodIn wsX7_sumOfFees (va_wsF RX7 235 RJx4a65c ⟨"java/util/List", "get", "(I)Ljava/lang/Object;"⟩ yJx4a65c_get_915e3 wsJx4a65c_get_915e3) := goodIn_app (goodIn_of _ (by decide +kernel)) ggX7_sumOfFees_Jx4a65c_get_915e3
theorem dX7_sumOfFees_0 : decode cX7_sumOfFees 0 = .ok (.iconst 0, 1) := by decide +kernel
theorem dX7_sumOfFees_1 : decode cX7_sumOfFees 1 = .ok (.istore_n 1, 1) := by decide +kernel
theorem dX7_sumOfFees_2 : decode cX7_sumOfFees 2 = .ok (.iconst 0, 1) := by decide +kernel
theorem dX7_sumOfFees_3 : decode cX7_sumOfFees 3 = .ok (.istore_n 2, 1) := by decide +kernel
theorem dX7_sumOfFees_4 : decode cX7_sumOfFees 4 = .ok (.iload_n 2, 1) := by decide +kernel
theorem dX7_sumOfFees_5 : decode cX7_sumOfFees 5 = .ok (.aload_n 0, 1) := by decide +kernel
theorem dX7_sumOfFees_6 : decode cX7_sumOfFees 6 = .ok (.getfield 40, 3) := by decide +kernel
theorem dX7_sumOfFees_9 : decode cX7_sumOfFees 9 = .ok (.invokeinterface 94 1, 5) := by decide +kernel
theorem dX7_sumOfFees_14 : decode cX7_sumOfFees 14 = .ok (.if_icmp .ge 28, 3) := by decide +kernel
theorem dX7_sumOfFees_17 : decode cX7_sumOfFees 17 = .ok (.iload_n 1, 1) := by decide +kernel
theorem dX7_sumOfFees_18 : decode cX7_sumOfFees 18 = .ok (.aload_n 0, 1) := by decide +kernel
theorem dX7_sumOfFees_19 : decode cX7_sumOfFees 19 = .ok (.getfield 40, 3) := by decide +kernel
theorem dX7_sumOfFees_22 : decode cX7_sumOfFees 22 = .ok (.iload_n 2, 1) := by decide +kernel
theorem dX7_sumOfFees_23 : decode cX7_sumOfFees 23 = .ok (.invokeinterface 235 2, 5) := by decide +kernel
theorem dX7_sumOfFees_28 : decode cX7_sumOfFees 28 = .ok (.checkcast 129, 3) := by decide +kernel
theorem dX7_sumOfFees_31 : decode cX7_sumOfFees 31 = .ok (.getfield 151, 3) := by decide +kernel
theorem dX7_sumOfFees_34 : decode cX7_sumOfFees 34 = .ok (.iadd, 1) := by decide +kernel
theorem dX7_sumOfFees_35 : decode cX7_sumOfFees 35 = .ok (.istore_n 1, 1) := by decide +kernel
theorem dX7_sumOfFees_36 : decode cX7_sumOfFees 36 = .ok (.iinc 2 1, 3) := by decide +kernel
theorem dX7_sumOfFees_39 : decode cX7_sumOfFees 39 = .ok (.goto (-35), 3) := by decide +kernel
theorem dX7_sumOfFees_42 : decode cX7_sumOfFees 42 = .ok (.iload_n 1, 1) := by decide +kernel
theorem dX7_sumOfFees_43 : decode cX7_sumOfFees 43 = .ok (.ireturn, 1) := by decide +kernel
set_option maxRecDepth 20000 in
theorem ggX7_beginNextDay_Jx4a65c_size_8abf5 : GoodIn wsX7_beginNextDay wsJx4a65c_size_8abf5 := goodIn_r _ [10, 11, 50, 51, 52] (by decide +kernel) (by decide +kernel)
set_option maxRecDepth 20000 in
theorem gX7_beginNextDay_Jx4a65c_size_8abf5_f94Jx4a65c : GoodIn wsX7_beginNextDay (va_wsF RX7 94 RJx4a65c ⟨"java/util/List", "size", "()I"⟩ yJx4a65c_size_8abf5 wsJx4a65c_size_8abf5) := goodIn_app (goodIn_of _ (by decide +kernel)) ggX7_beginNextDay_Jx4a65c_size_8abf5
set_option maxRecDepth 20000 in
theorem ggX7_beginNextDay_Jx4a65c_get_915e3 : GoodIn wsX7_beginNextDay wsJx4a65c_get_915e3 := goodIn_r _ [15, 11, 16, 17, 18, 19, 20, 21, 22, 23, 24, 25, 26, 9, 27, 28, 50, 51, 52] (by decide +kernel) (by decide +kernel)
set_option maxRecDepth 20000 in
theorem gX7_beginNextDay_Jx4a65c_get_915e3_f235Jx4a65c : GoodIn wsX7_beginNextDay (va_wsF RX7 235 RJx4a65c ⟨"java/util/List", "get", "(I)Ljava/lang/Object;"⟩ yJx4a65c_get_915e3 wsJx4a65c_get_915e3) := goodIn_app (goodIn_of _ (by decide +kernel)) ggX7_beginNextDay_Jx4a65c_get_915e3
set_option maxRecDepth 20000 in
theorem ggX7_beginNextDay_X3_endIfLate : GoodIn wsX7_beginNextDay wsX3_endIfLate := goodIn_r _ [33, 34, 35, 36, 37, 38, 32, 39, 53, 54, 55, 56, 57] (by decide +kernel) (by decide +kernel)
set_option maxRecDepth 20000 in
theorem gX7_beginNextDay_X3_endIfLate : GoodIn wsX7_beginNextDay (wsV RX7 286 RX3 yX3_endIfLate wsX3_endIfLate) := goodIn_app (goodIn_of _ (by decide +kernel)) ggX7_beginNextDay_X3_endIfLate
theorem dX7_beginNextDay_0 : decode cX7_beginNextDay 0 = .ok (.aload_n 0, 1) := by decide +kernel
theorem dX7_beginNextDay_1 : decode cX7_beginNextDay 1 = .ok (.dup, 1) := by decide +kernel
theorem dX7_beginNextDay_2 : decode cX7_beginNextDay 2 = .ok (.getfield 46, 3) := by decide +kernel
theorem dX7_beginNextDay_5 : decode cX7_beginNextDay 5 = .ok (.iconst 1, 1) := by decide +kernel
theorem dX7_beginNextDay_6 : decode cX7_beginNextDay 6 = .ok (.iadd, 1) := by decide +kernel
theorem dX7_beginNextDay_7 : decode cX7_beginNextDay 7 = .ok (.putfield 46, 3) := by decide +kernel
theorem dX7_beginNextDay_10 : decode cX7_beginNextDay 10 = .ok (.iconst 0, 1) := by decide +kernel
theorem dX7_beginNextDay_11 : decode cX7_beginNextDay 11 = .ok (.istore_n 1, 1) := by decide +kernel
theorem dX7_beginNextDay_12 : decode cX7_beginNextDay 12 = .ok (.iload_n 1, 1) := by decide +kernel
theorem dX7_beginNextDay_13 : decode cX7_beginNextDay 13 = .ok (.iconst 4, 1) := by decide +kernel
theorem dX7_beginNextDay_14 : decode cX7_beginNextDay 14 = .ok (.if_icmp .ge 19, 3) := by decide +kernel
theorem dX7_beginNextDay_17 : decode cX7_beginNextDay 17 = .ok (.aload_n 0, 1) := by decide +kernel
theorem dX7_beginNextDay_18 : decode cX7_beginNextDay 18 = .ok (.getfield 11, 3) := by decide +kernel
theorem dX7_beginNextDay_21 : decode cX7_beginNextDay 21 = .ok (.iload_n 1, 1) := by decide +kernel
theorem dX7_beginNextDay_22 : decode cX7_beginNextDay 22 = .ok (.aaload, 1) := by decide +kernel
theorem dX7_beginNextDay_23 : decode cX7_beginNextDay 23 = .ok (.lconst 0, 1) := by decide +kernel
theorem dX7_beginNextDay_24 : decode cX7_beginNextDay 24 = .ok (.putfield 232, 3) := by decide +kernel
theorem dX7_beginNextDay_27 : decode cX7_beginNextDay 27 = .ok (.iinc 1 1, 3) := by decide +kernel
theorem dX7_beginNextDay_30 : decode cX7_beginNextDay 30 = .ok (.goto (-18), 3) := by decide +kernel
theorem dX7_beginNextDay_33 : decode cX7_beginNextDay 33 = .ok (.iconst 0, 1) := by decide +kernel
theorem dX7_beginNextDay_34 : decode cX7_beginNextDay 34 = .ok (.istore_n 1, 1) := by decide +kernel
theorem dX7_beginNextDay_35 : decode cX7_beginNextDay 35 = .ok (.iload_n 1, 1) := by decide +kernel
theorem dX7_beginNextDay_36 : decode cX7_beginNextDay 36 = .ok (.aload_n 0, 1) := by decide +kernel
theorem dX7_beginNextDay_37 : decode cX7_beginNextDay 37 = .ok (.getfield 43, 3) := by decide +kernel
theorem dX7_beginNextDay_40 : decode cX7_beginNextDay 40 = .ok (.invokeinterface 94 1, 5) := by decide +kernel
theorem dX7_beginNextDay_45 : decode cX7_beginNextDay 45 = .ok (.if_icmp .ge 29, 3) := by decide +kernel
theorem dX7_beginNextDay_48 : decode cX7_beginNextDay 48 = .ok (.aload_n 0, 1) := by decide +kernel
theorem dX7_beginNextDay_49 : decode cX7_beginNextDay 49 = .ok (.getfield 43, 3) := by decide +kernel
theorem dX7_beginNextDay_52 : decode cX7_beginNextDay 52 = .ok (.iload_n 1, 1) := by decide +kernel
theorem dX7_beginNextDay_53 : decode cX7_beginNextDay 53 = .ok (.invokeinterface 235 2, 5) := by decide +kernel
theorem dX7_beginNextDay_58 : decode cX7_beginNextDay 58 = .ok (.checkcast 174, 3) := by decide +kernel
theorem dX7_beginNextDay_61 : decode cX7_beginNextDay 61 = .ok (.aload_n 0, 1) := by decide +kernel
theorem dX7_beginNextDay_62 : decode cX7_beginNextDay 62 = .ok (.getfield 46, 3) := by decide +kernel
theorem dX7_beginNextDay_65 : decode cX7_beginNextDay 65 = .ok (.invokevirtual 286, 3) := by decide +kernel
theorem dX7_beginNextDay_68 : decode cX7_beginNextDay 68 = .ok (.iinc 1 1, 3) := by decide +kernel
theorem dX7_beginNextDay_71 : decode cX7_beginNextDay 71 = .ok (.goto (-36), 3) := by decide +kernel
theorem dX7_beginNextDay_74 : decode cX7_beginNextDay 74 = .ok (.return_, 1) := by decide +kernel
set_option maxRecDepth 20000 in
theorem ggX7_nextDueBehind_Jx4a65c_size_8abf5 : GoodIn wsX7_nextDueBehind wsJx4a65c_size_8abf5 := goodIn_r _ [7, 8, 47, 48, 49] (by decide +kernel) (by decide +kernel)
set_option maxRecDepth 20000 in
theorem gX7_nextDueBehind_Jx4a65c_size_8abf5_f94Jx4a65c : GoodIn wsX7_nextDueBehind (va_wsF RX7 94 RJx4a65c ⟨"java/util/List", "size", "()I"⟩ yJx4a65c_size_8abf5 wsJx4a65c_size_8abf5) := goodIn_app (goodIn_of _ (by decide +kernel)) ggX7_nextDueBehind_Jx4a65c_size_8abf5
set_option maxRecDepth 20000 in
theorem ggX7_nextDueBehind_Jx4a65c_get_915e3 : GoodIn wsX7_nextDueBehind wsJx4a65c_get_915e3 := goodIn_r _ [12, 8, 13, 14, 15, 16, 17, 18, 19, 20, 21, 22, 23, 6, 24, 25, 47, 48, 49] (by decide +kernel) (by decide +kernel)
set_option maxRecDepth 20000 in
theorem gX7_nextDueBehind_Jx4a65c_get_915e3_f235Jx4a65c : GoodIn wsX7_nextDueBehind (va_wsF RX7 235 RJx4a65c ⟨"java/util/List", "get", "(I)Ljava/lang/Object;"⟩ yJx4a65c_get_915e3 wsJx4a65c_get_915e3) := goodIn_app (goodIn_of _ (by decide +kernel)) ggX7_nextDueBehind_Jx4a65c_get_915e3
set_option maxRecDepth 20000 in
theorem ggX7_nextDueBehind_X3_isDueBefore : GoodIn wsX7_nextDueBehind wsX3_isDueBefore := goodIn_r _ [30, 31, 32, 33, 50, 51, 52, 53, 54] (by decide +kernel) (by decide +kernel)
set_option maxRecDepth 20000 in
theorem gX7_nextDueBehind_X3_isDueBefore : GoodIn wsX7_nextDueBehind (wsV RX7 289 RX3 yX3_isDueBefore wsX3_isDueBefore) := goodIn_app (goodIn_of _ (by decide +kernel)) ggX7_nextDueBehind_X3_isDueBefore
set_option maxRecDepth 20000 in
theorem ggX7_nextDueBehind_X3_hasDeadline : GoodIn wsX7_nextDueBehind wsX3_hasDeadline := goodIn_r _ [37, 38, 50, 51, 52, 53, 54] (by decide +kernel) (by decide +kernel)
set_option maxRecDepth 20000 in
theorem gX7_nextDueBehind_X3_hasDeadline : GoodIn wsX7_nextDueBehind (wsV RX7 293 RX3 yX3_hasDeadline wsX3_hasDeadline) := goodIn_app (goodIn_of _ (by decide +kernel)) ggX7_nextDueBehind_X3_hasDeadline
theorem dX7_nextDueBehind_0 : decode cX7_nextDueBehind 0 = .ok (.aconst_null, 1) := by decide +kernel
theorem dX7_nextDueBehind_1 : decode cX7_nextDueBehind 1 = .ok (.astore_n 2, 1) := by decide +kernel
theorem dX7_nextDueBehind_2 : decode cX7_nextDueBehind 2 = .ok (.iconst 0, 1) := by decide +kernel
theorem dX7_nextDueBehind_3 : decode cX7_nextDueBehind 3 = .ok (.istore_n 3, 1) := by decide +kernel
theorem dX7_nextDueBehind_4 : decode cX7_nextDueBehind 4 = .ok (.iload_n 3, 1) := by decide +kernel
theorem dX7_nextDueBehind_5 : decode cX7_nextDueBehind 5 = .ok (.aload_n 0, 1) := by decide +kernel
theorem dX7_nextDueBehind_6 : decode cX7_nextDueBehind 6 = .ok (.getfield 43, 3) := by decide +kernel
theorem dX7_nextDueBehind_9 : decode cX7_nextDueBehind 9 = .ok (.invokeinterface 94 1, 5) := by decide +kernel
theorem dX7_nextDueBehind_14 : decode cX7_nextDueBehind 14 = .ok (.if_icmp .ge 73, 3) := by decide +kernel
theorem dX7_nextDueBehind_17 : decode cX7_nextDueBehind 17 = .ok (.aload_n 0, 1) := by decide +kernel
theorem dX7_nextDueBehind_18 : decode cX7_nextDueBehind 18 = .ok (.getfield 43, 3) := by decide +kernel
theorem dX7_nextDueBehind_21 : decode cX7_nextDueBehind 21 = .ok (.iload_n 3, 1) := by decide +kernel
theorem dX7_nextDueBehind_22 : decode cX7_nextDueBehind 22 = .ok (.invokeinterface 235 2, 5) := by decide +kernel
theorem dX7_nextDueBehind_27 : decode cX7_nextDueBehind 27 = .ok (.checkcast 174, 3) := by decide +kernel
theorem dX7_nextDueBehind_30 : decode cX7_nextDueBehind 30 = .ok (.astore 4, 2) := by decide +kernel
theorem dX7_nextDueBehind_32 : decode cX7_nextDueBehind 32 = .ok (.aload_n 1, 1) := by decide +kernel
theorem dX7_nextDueBehind_33 : decode cX7_nextDueBehind 33 = .ok (.ifnull 12, 3) := by decide +kernel
theorem dX7_nextDueBehind_36 : decode cX7_nextDueBehind 36 = .ok (.aload_n 1, 1) := by decide +kernel
theorem dX7_nextDueBehind_37 : decode cX7_nextDueBehind 37 = .ok (.aload 4, 2) := by decide +kernel
theorem dX7_nextDueBehind_39 : decode cX7_nextDueBehind 39 = .ok (.invokevirtual 289, 3) := by decide +kernel
theorem dX7_nextDueBehind_42 : decode cX7_nextDueBehind 42 = .ok (.ifCond .eq 7, 3) := by decide +kernel
theorem dX7_nextDueBehind_45 : decode cX7_nextDueBehind 45 = .ok (.iconst 1, 1) := by decide +kernel
theorem dX7_nextDueBehind_46 : decode cX7_nextDueBehind 46 = .ok (.goto 4, 3) := by decide +kernel
theorem dX7_nextDueBehind_49 : decode cX7_nextDueBehind 49 = .ok (.iconst 0, 1) := by decide +kernel
theorem dX7_nextDueBehind_50 : decode cX7_nextDueBehind 50 = .ok (.istore 5, 2) := by decide +kernel
theorem dX7_nextDueBehind_52 : decode cX7_nextDueBehind 52 = .ok (.aload 4, 2) := by decide +kernel
theorem dX7_nextDueBehind_54 : decode cX7_nextDueBehind 54 = .ok (.invokevirtual 293, 3) := by decide +kernel
theorem dX7_nextDueBehind_57 : decode cX7_nextDueBehind 57 = .ok (.ifCond .eq 24, 3) := by decide +kernel
theorem dX7_nextDueBehind_60 : decode cX7_nextDueBehind 60 = .ok (.iload 5, 2) := by decide +kernel
theorem dX7_nextDueBehind_62 : decode cX7_nextDueBehind 62 = .ok (.ifCond .eq 19, 3) := by decide +kernel
theorem dX7_nextDueBehind_65 : decode cX7_nextDueBehind 65 = .ok (.aload_n 2, 1) := by decide +kernel
theorem dX7_nextDueBehind_66 : decode cX7_nextDueBehind 66 = .ok (.ifnull 12, 3) := by decide +kernel
theorem dX7_nextDueBehind_69 : decode cX7_nextDueBehind 69 = .ok (.aload 4, 2) := by decide +kernel
theorem dX7_nextDueBehind_71 : decode cX7_nextDueBehind 71 = .ok (.aload_n 2, 1) := by decide +kernel
theorem dX7_nextDueBehind_72 : decode cX7_nextDueBehind 72 = .ok (.invokevirtual 289, 3) := by decide +kernel
theorem dX7_nextDueBehind_75 : decode cX7_nextDueBehind 75 = .ok (.ifCond .eq 6, 3) := by decide +kernel
theorem dX7_nextDueBehind_78 : decode cX7_nextDueBehind 78 = .ok (.aload 4, 2) := by decide +kernel
theorem dX7_nextDueBehind_80 : decode cX7_nextDueBehind 80 = .ok (.astore_n 2, 1) := by decide +kernel
theorem dX7_nextDueBehind_81 : decode cX7_nextDueBehind 81 = .ok (.iinc 3 1, 3) := by decide +kernel
theorem dX7_nextDueBehind_84 : decode cX7_nextDueBehind 84 = .ok (.goto (-80), 3) := by decide +kernel
theorem dX7_nextDueBehind_87 : decode cX7_nextDueBehind 87 = .ok (.aload_n 2, 1) := by decide +kernel
theorem dX7_nextDueBehind_88 : decode cX7_nextDueBehind 88 = .ok (.areturn, 1) := by decide +kernel
theorem dX8_init_0 : decode cX8_init 0 = .ok (.aload_n 0, 1) := by decide +kernel
theorem dX8_init_1 : decode cX8_init 1 = .ok (.invokespecial 1, 3) := by decide +kernel
theorem dX8_init_4 : decode cX8_init 4 = .ok (.aload_n 0, 1) := by decide +kernel
theorem dX8_init_5 : decode cX8_init 5 = .ok (.bipush 8, 2) := by decide +kernel
theorem dX8_init_7 : decode cX8_init 7 = .ok (.newarray .int, 2) := by decide +kernel
theorem dX8_init_9 : decode cX8_init 9 = .ok (.putfield 7, 3) := by decide +kernel
theorem dX8_init_12 : decode cX8_init 12 = .ok (.aload_n 0, 1) := by decide +kernel
theorem dX8_init_13 : decode cX8_init 13 = .ok (.iconst 3, 1) := by decide +kernel
theorem dX8_init_14 : decode cX8_init 14 = .ok (.newarray .int, 2) := by decide +kernel
theorem dX8_init_16 : decode cX8_init 16 = .ok (.putfield 13, 3) := by decide +kernel
theorem dX8_init_19 : decode cX8_init 19 = .ok (.aload_n 0, 1) := by decide +kernel
theorem dX8_init_20 : decode cX8_init 20 = .ok (.iconst 3, 1) := by decide +kernel
theorem dX8_init_21 : decode cX8_init 21 = .ok (.newarray .int, 2) := by decide +kernel
theorem dX8_init_23 : decode cX8_init 23 = .ok (.putfield 16, 3) := by decide +kernel
theorem dX8_init_26 : decode cX8_init 26 = .ok (.aload_n 0, 1) := by decide +kernel
theorem dX8_init_27 : decode cX8_init 27 = .ok (.bipush 60, 2) := by decide +kernel
theorem dX8_init_29 : decode cX8_init 29 = .ok (.newarray .int, 2) := by decide +kernel
theorem dX8_init_31 : decode cX8_init 31 = .ok (.putfield 19, 3) := by decide +kernel
theorem dX8_init_34 : decode cX8_init 34 = .ok (.aload_n 0, 1) := by decide +kernel
theorem dX8_init_35 : decode cX8_init 35 = .ok (.bipush 60, 2) := by decide +kernel
theorem dX8_init_37 : decode cX8_init 37 = .ok (.newarray .int, 2) := by decide +kernel
theorem dX8_init_39 : decode cX8_init 39 = .ok (.putfield 22, 3) := by decide +kernel
theorem dX8_init_42 : decode cX8_init 42 = .ok (.aload_n 0, 1) := by decide +kernel
theorem dX8_init_43 : decode cX8_init 43 = .ok (.bipush 60, 2) := by decide +kernel
theorem dX8_init_45 : decode cX8_init 45 = .ok (.newarray .int, 2) := by decide +kernel
theorem dX8_init_47 : decode cX8_init 47 = .ok (.putfield 25, 3) := by decide +kernel
theorem dX8_init_50 : decode cX8_init 50 = .ok (.aload_n 0, 1) := by decide +kernel
theorem dX8_init_51 : decode cX8_init 51 = .ok (.bipush 60, 2) := by decide +kernel
theorem dX8_init_53 : decode cX8_init 53 = .ok (.newarray .int, 2) := by decide +kernel
theorem dX8_init_55 : decode cX8_init 55 = .ok (.putfield 28, 3) := by decide +kernel
theorem dX8_init_58 : decode cX8_init 58 = .ok (.aload_n 0, 1) := by decide +kernel
theorem dX8_init_59 : decode cX8_init 59 = .ok (.bipush 60, 2) := by decide +kernel
theorem dX8_init_61 : decode cX8_init 61 = .ok (.newarray .int, 2) := by decide +kernel
theorem dX8_init_63 : decode cX8_init 63 = .ok (.putfield 31, 3) := by decide +kernel
theorem dX8_init_66 : decode cX8_init 66 = .ok (.aload_n 0, 1) := by decide +kernel
theorem dX8_init_67 : decode cX8_init 67 = .ok (.bipush 60, 2) := by decide +kernel
theorem dX8_init_69 : decode cX8_init 69 = .ok (.newarray .boolean, 2) := by decide +kernel
theorem dX8_init_71 : decode cX8_init 71 = .ok (.putfield 34, 3) := by decide +kernel
theorem dX8_init_74 : decode cX8_init 74 = .ok (.aload_n 0, 1) := by decide +kernel
theorem dX8_init_75 : decode cX8_init 75 = .ok (.bipush 100, 2) := by decide +kernel
theorem dX8_init_77 : decode cX8_init 77 = .ok (.newarray .int, 2) := by decide +kernel
theorem dX8_init_79 : decode cX8_init 79 = .ok (.putfield 38, 3) := by decide +kernel
theorem dX8_init_82 : decode cX8_init 82 = .ok (.aload_n 0, 1) := by decide +kernel
theorem dX8_init_83 : decode cX8_init 83 = .ok (.bipush 100, 2) := by decide +kernel
theorem dX8_init_85 : decode cX8_init 85 = .ok (.newarray .int, 2) := by decide +kernel
theorem dX8_init_87 : decode cX8_init 87 = .ok (.putfield 41, 3) := by decide +kernel
theorem dX8_init_90 : decode cX8_init 90 = .ok (.aload_n 0, 1) := by decide +kernel
theorem dX8_init_91 : decode cX8_init 91 = .ok (.bipush 100, 2) := by decide +kernel
theorem dX8_init_93 : decode cX8_init 93 = .ok (.newarray .int, 2) := by decide +kernel
theorem dX8_init_95 : decode cX8_init 95 = .ok (.putfield 44, 3) := by decide +kernel
theorem dX8_init_98 : decode cX8_init 98 = .ok (.aload_n 0, 1) := by decide +kernel
theorem dX8_init_99 : decode cX8_init 99 = .ok (.bipush 100, 2) := by decide +kernel
theorem dX8_init_101 : decode cX8_init 101 = .ok (.newarray .int, 2) := by decide +kernel
theorem dX8_init_103 : decode cX8_init 103 = .ok (.putfield 47, 3) := by decide +kernel
theorem dX8_init_106 : decode cX8_init 106 = .ok (.aload_n 0, 1) := by decide +kernel
theorem dX8_init_107 : decode cX8_init 107 = .ok (.bipush 60, 2) := by decide +kernel
theorem dX8_init_109 : decode cX8_init 109 = .ok (.newarray .int, 2) := by decide +kernel
theorem dX8_init_111 : decode cX8_init 111 = .ok (.putfield 50, 3) := by decide +kernel
theorem dX8_init_114 : decode cX8_init 114 = .ok (.aload_n 0, 1) := by decide +kernel
theorem dX8_init_115 : decode cX8_init 115 = .ok (.bipush 60, 2) := by decide +kernel
theorem dX8_init_117 : decode cX8_init 117 = .ok (.newarray .int, 2) := by decide +kernel
theorem dX8_init_119 : decode cX8_init 119 = .ok (.putfield 53, 3) := by decide +kernel
theorem dX8_init_122 : decode cX8_init 122 = .ok (.aload_n 0, 1) := by decide +kernel
theorem dX8_init_123 : decode cX8_init 123 = .ok (.bipush 60, 2) := by decide +kernel
theorem dX8_init_125 : decode cX8_init 125 = .ok (.newarray .int, 2) := by decide +kernel
theorem dX8_init_127 : decode cX8_init 127 = .ok (.putfield 56, 3) := by decide +kernel
theorem dX8_init_130 : decode cX8_init 130 = .ok (.aload_n 0, 1) := by decide +kernel
theorem dX8_init_131 : decode cX8_init 131 = .ok (.bipush 60, 2) := by decide +kernel
theorem dX8_init_133 : decode cX8_init 133 = .ok (.newarray .int, 2) := by decide +kernel
theorem dX8_init_135 : decode cX8_init 135 = .ok (.putfield 59, 3) := by decide +kernel
theorem dX8_init_138 : decode cX8_init 138 = .ok (.aload_n 0, 1) := by decide +kernel
theorem dX8_init_139 : decode cX8_init 139 = .ok (.iconst 4, 1) := by decide +kernel
theorem dX8_init_140 : decode cX8_init 140 = .ok (.newarray .long, 2) := by decide +kernel
theorem dX8_init_142 : decode cX8_init 142 = .ok (.putfield 62, 3) := by decide +kernel
theorem dX8_init_145 : decode cX8_init 145 = .ok (.aload_n 0, 1) := by decide +kernel
theorem dX8_init_146 : decode cX8_init 146 = .ok (.iconst 4, 1) := by decide +kernel
theorem dX8_init_147 : decode cX8_init 147 = .ok (.newarray .long, 2) := by decide +kernel
theorem dX8_init_149 : decode cX8_init 149 = .ok (.putfield 66, 3) := by decide +kernel
theorem dX8_init_152 : decode cX8_init 152 = .ok (.iconst 0, 1) := by decide +kernel
theorem dX8_init_153 : decode cX8_init 153 = .ok (.istore_n 1, 1) := by decide +kernel
theorem dX8_init_154 : decode cX8_init 154 = .ok (.iload_n 1, 1) := by decide +kernel
theorem dX8_init_155 : decode cX8_init 155 = .ok (.iconst 3, 1) := by decide +kernel
theorem dX8_init_156 : decode cX8_init 156 = .ok (.if_icmp .ge 26, 3) := by decide +kernel
theorem dX8_init_159 : decode cX8_init 159 = .ok (.aload_n 0, 1) := by decide +kernel
theorem dX8_init_160 : decode cX8_init 160 = .ok (.getfield 13, 3) := by decide +kernel
theorem dX8_init_163 : decode cX8_init 163 = .ok (.iload_n 1, 1) := by decide +kernel
theorem dX8_init_164 : decode cX8_init 164 = .ok (.bipush 10, 2) := by decide +kernel
theorem dX8_init_166 : decode cX8_init 166 = .ok (.iastore, 1) := by decide +kernel
theorem dX8_init_167 : decode cX8_init 167 = .ok (.aload_n 0, 1) := by decide +kernel
theorem dX8_init_168 : decode cX8_init 168 = .ok (.getfield 16, 3) := by decide +kernel
theorem dX8_init_171 : decode cX8_init 171 = .ok (.iload_n 1, 1) := by decide +kernel
theorem dX8_init_172 : decode cX8_init 172 = .ok (.sipush 500, 3) := by decide +kernel
theorem dX8_init_175 : decode cX8_init 175 = .ok (.iastore, 1) := by decide +kernel
theorem dX8_init_176 : decode cX8_init 176 = .ok (.iinc 1 1, 3) := by decide +kernel
theorem dX8_init_179 : decode cX8_init 179 = .ok (.goto (-25), 3) := by decide +kernel
theorem dX8_init_182 : decode cX8_init 182 = .ok (.return_, 1) := by decide +kernel
theorem dX8_thrown_0 : decode cX8_thrown 0 = .ok (.aload_n 0, 1) := by decide +kernel
theorem dX8_thrown_1 : decode cX8_thrown 1 = .ok (.getfield 69, 3) := by decide +kernel
theorem dX8_thrown_4 : decode cX8_thrown 4 = .ok (.ireturn, 1) := by decide +kernel
theorem dX8_fails_0 : decode cX8_fails 0 = .ok (.aload_n 0, 1) := by decide +kernel
theorem dX8_fails_1 : decode cX8_fails 1 = .ok (.iload_n 1, 1) := by decide +kernel
theorem dX8_fails_2 : decode cX8_fails 2 = .ok (.putfield 69, 3) := by decide +kernel
theorem dX8_fails_5 : decode cX8_fails 5 = .ok (.iload_n 1, 1) := by decide +kernel
theorem dX8_fails_6 : decode cX8_fails 6 = .ok (.ifCond .le 7, 3) := by decide +kernel
theorem dX8_fails_9 : decode cX8_fails 9 = .ok (.iconst 1, 1) := by decide +kernel
theorem dX8_fails_10 : decode cX8_fails 10 = .ok (.goto 4, 3) := by decide +kernel
theorem dX8_fails_13 : decode cX8_fails 13 = .ok (.iconst 0, 1) := by decide +kernel
theorem dX8_fails_14 : decode cX8_fails 14 = .ok (.ireturn, 1) := by decide +kernel
theorem dX8_isIn_0 : decode cX8_isIn 0 = .ok (.iload_n 0, 1) := by decide +kernel
theorem dX8_isIn_1 : decode cX8_isIn 1 = .ok (.iload_n 1, 1) := by decide +kernel
theorem dX8_isIn_2 : decode cX8_isIn 2 = .ok (.if_icmp .lt 12, 3) := by decide +kernel
theorem dX8_isIn_5 : decode cX8_isIn 5 = .ok (.iload_n 0, 1) := by decide +kernel
theorem dX8_isIn_6 : decode cX8_isIn 6 = .ok (.iload_n 2, 1) := by decide +kernel
theorem dX8_isIn_7 : decode cX8_isIn 7 = .ok (.if_icmp .gt 7, 3) := by decide +kernel
theorem dX8_isIn_10 : decode cX8_isIn 10 = .ok (.iconst 1, 1) := by decide +kernel
theorem dX8_isIn_11 : decode cX8_isIn 11 = .ok (.goto 4, 3) := by decide +kernel
theorem dX8_isIn_14 : decode cX8_isIn 14 = .ok (.iconst 0, 1) := by decide +kernel
theorem dX8_isIn_15 : decode cX8_isIn 15 = .ok (.ireturn, 1) := by decide +kernel
set_option maxRecDepth 20000 in
theorem ggX8_isAmount_X8_isIn : GoodIn wsX8_isAmount wsX8_isIn := goodIn_r _ [5] (by decide +kernel) (by decide +kernel)
set_option maxRecDepth 20000 in
theorem gX8_isAmount_X8_isIn : GoodIn wsX8_isAmount (va_wsS RX8 74 yX8_isIn wsX8_isIn) := goodIn_app (goodIn_of _ (by decide +kernel)) ggX8_isAmount_X8_isIn
theorem dX8_isAmount_0 : decode cX8_isAmount 0 = .ok (.iload_n 0, 1) := by decide +kernel
theorem dX8_isAmount_1 : decode cX8_isAmount 1 = .ok (.iconst 1, 1) := by decide +kernel
theorem dX8_isAmount_2 : decode cX8_isAmount 2 = .ok (.ldc 73, 2) := by decide +kernel
theorem dX8_isAmount_4 : decode cX8_isAmount 4 = .ok (.invokestatic 74, 3) := by decide +kernel
theorem dX8_isAmount_7 : decode cX8_isAmount 7 = .ok (.ireturn, 1) := by decide +kernel
set_option maxRecDepth 20000 in
theorem ggX8_isShop_X8_isIn : GoodIn wsX8_isShop wsX8_isIn := goodIn_r _ [4] (by decide +kernel) (by decide +kernel)
set_option maxRecDepth 20000 in
theorem gX8_isShop_X8_isIn : GoodIn wsX8_isShop (va_wsS RX8 74 yX8_isIn wsX8_isIn) := goodIn_app (goodIn_of _ (by decide +kernel)) ggX8_isShop_X8_isIn
theorem dX8_isShop_0 : decode cX8_isShop 0 = .ok (.iload_n 0, 1) := by decide +kernel
theorem dX8_isShop_1 : decode cX8_isShop 1 = .ok (.iconst 0, 1) := by decide +kernel
theorem dX8_isShop_2 : decode cX8_isShop 2 = .ok (.bipush 7, 2) := by decide +kernel
theorem dX8_isShop_4 : decode cX8_isShop 4 = .ok (.invokestatic 74, 3) := by decide +kernel
theorem dX8_isShop_7 : decode cX8_isShop 7 = .ok (.ireturn, 1) := by decide +kernel
set_option maxRecDepth 20000 in
theorem ggX8_isKind_X8_isIn : GoodIn wsX8_isKind wsX8_isIn := goodIn_r _ [4] (by decide +kernel) (by decide +kernel)
set_option maxRecDepth 20000 in
theorem gX8_isKind_X8_isIn : GoodIn wsX8_isKind (va_wsS RX8 74 yX8_isIn wsX8_isIn) := goodIn_app (goodIn_of _ (by decide +kernel)) ggX8_isKind_X8_isIn
theorem dX8_isKind_0 : decode cX8_isKind 0 = .ok (.iload_n 0, 1) := by decide +kernel
theorem dX8_isKind_1 : decode cX8_isKind 1 = .ok (.iconst 0, 1) := by decide +kernel
theorem dX8_isKind_2 : decode cX8_isKind 2 = .ok (.iconst 2, 1) := by decide +kernel
theorem dX8_isKind_3 : decode cX8_isKind 3 = .ok (.invokestatic 74, 3) := by decide +kernel
theorem dX8_isKind_6 : decode cX8_isKind 6 = .ok (.ireturn, 1) := by decide +kernel
set_option maxRecDepth 20000 in
theorem ggX8_isCard_X8_isIn : GoodIn wsX8_isCard wsX8_isIn := goodIn_r _ [4] (by decide +kernel) (by decide +kernel)
set_option maxRecDepth 20000 in
theorem gX8_isCard_X8_isIn : GoodIn wsX8_isCard (va_wsS RX8 74 yX8_isIn wsX8_isIn) := goodIn_app (goodIn_of _ (by decide +kernel)) ggX8_isCard_X8_isIn
theorem dX8_isCard_0 : decode cX8_isCard 0 = .ok (.iload_n 0, 1) := by decide +kernel
theorem dX8_isCard_1 : decode cX8_isCard 1 = .ok (.iconst 0, 1) := by decide +kernel
theorem dX8_isCard_2 : decode cX8_isCard 2 = .ok (.bipush 11, 2) := by decide +kernel
theorem dX8_isCard_4 : decode cX8_isCard 4 = .ok (.invokestatic 74, 3) := by decide +kernel
theorem dX8_isCard_7 : decode cX8_isCard 7 = .ok (.ireturn, 1) := by decide +kernel
set_option maxRecDepth 20000 in
theorem ggX8_shop_X8_isShop : GoodIn wsX8_shop wsX8_isShop := goodIn_r _ [5, 6, 7, 4, 8] (by decide +kernel) (by decide +kernel)
set_option maxRecDepth 20000 in
theorem gX8_shop_X8_isShop : GoodIn wsX8_shop (va_wsS RX8 78 yX8_isShop wsX8_isShop) := goodIn_app (goodIn_of _ (by decide +kernel)) ggX8_shop_X8_isShop
set_option maxRecDepth 20000 in
theorem ggX8_shop_X8_isKind : GoodIn wsX8_shop wsX8_isKind := goodIn_r _ [11, 6, 7, 4, 8] (by decide +kernel) (by decide +kernel)
set_option maxRecDepth 20000 in
theorem gX8_shop_X8_isKind : GoodIn wsX8_shop (va_wsS RX8 82 yX8_isKind wsX8_isKind) := goodIn_app (goodIn_of _ (by decide +kernel)) ggX8_shop_X8_isKind
set_option maxRecDepth 20000 in
theorem ggX8_shop_X8_fails : GoodIn wsX8_shop wsX8_fails := goodIn_r _ [15, 16, 17, 18, 19, 20, 21, 22, 23, 24, 25, 26, 27, 28, 29, 30, 31, 32, 33, 34, 35, 36, 37, 38, 39, 40, 41] (by decide +kernel) (by decide +kernel)
set_option maxRecDepth 20000 in
theorem gX8_shop_X8_fails : GoodIn wsX8_shop (wsV RX8 85 RX8 yX8_fails wsX8_fails) := goodIn_app (goodIn_of _ (by decide +kernel)) ggX8_shop_X8_fails
theorem dX8_shop_0 : decode cX8_shop 0 = .ok (.aload_n 0, 1) := by decide +kernel
theorem dX8_shop_1 : decode cX8_shop 1 = .ok (.iload_n 1, 1) := by decide +kernel
theorem dX8_shop_2 : decode cX8_shop 2 = .ok (.invokestatic 78, 3) := by decide +kernel
theorem dX8_shop_5 : decode cX8_shop 5 = .ok (.ifCond .eq 14, 3) := by decide +kernel
theorem dX8_shop_8 : decode cX8_shop 8 = .ok (.iload_n 2, 1) := by decide +kernel
theorem dX8_shop_9 : decode cX8_shop 9 = .ok (.invokestatic 82, 3) := by decide +kernel
theorem dX8_shop_12 : decode cX8_shop 12 = .ok (.ifCond .eq 7, 3) := by decide +kernel
theorem dX8_shop_15 : decode cX8_shop 15 = .ok (.iconst 0, 1) := by decide +kernel
theorem dX8_shop_16 : decode cX8_shop 16 = .ok (.goto 4, 3) := by decide +kernel
theorem dX8_shop_19 : decode cX8_shop 19 = .ok (.iconst 1, 1) := by decide +kernel
theorem dX8_shop_20 : decode cX8_shop 20 = .ok (.invokevirtual 85, 3) := by decide +kernel
theorem dX8_shop_23 : decode cX8_shop 23 = .ok (.ifCond .eq 5, 3) := by decide +kernel
theorem dX8_shop_26 : decode cX8_shop 26 = .ok (.iconst 0, 1) := by decide +kernel
theorem dX8_shop_27 : decode cX8_shop 27 = .ok (.ireturn, 1) := by decide +kernel
theorem dX8_shop_28 : decode cX8_shop 28 = .ok (.aload_n 0, 1) := by decide +kernel
theorem dX8_shop_29 : decode cX8_shop 29 = .ok (.getfield 7, 3) := by decide +kernel
theorem dX8_shop_32 : decode cX8_shop 32 = .ok (.iload_n 1, 1) := by decide +kernel
theorem dX8_shop_33 : decode cX8_shop 33 = .ok (.iaload, 1) := by decide +kernel
theorem dX8_shop_34 : decode cX8_shop 34 = .ok (.istore_n 3, 1) := by decide +kernel
theorem dX8_shop_35 : decode cX8_shop 35 = .ok (.aload_n 0, 1) := by decide +kernel
theorem dX8_shop_36 : decode cX8_shop 36 = .ok (.getfield 7, 3) := by decide +kernel
theorem dX8_shop_39 : decode cX8_shop 39 = .ok (.iload_n 1, 1) := by decide +kernel
theorem dX8_shop_40 : decode cX8_shop 40 = .ok (.iload_n 2, 1) := by decide +kernel
theorem dX8_shop_41 : decode cX8_shop 41 = .ok (.iastore, 1) := by decide +kernel
theorem dX8_shop_42 : decode cX8_shop 42 = .ok (.iload_n 3, 1) := by decide +kernel
theorem dX8_shop_43 : decode cX8_shop 43 = .ok (.ireturn, 1) := by decide +kernel
theorem dX8_feeOf_0 : decode cX8_feeOf 0 = .ok (.iload_n 2, 1) := by decide +kernel
theorem dX8_feeOf_1 : decode cX8_feeOf 1 = .ok (.i2l, 1) := by decide +kernel
theorem dX8_feeOf_2 : decode cX8_feeOf 2 = .ok (.aload_n 0, 1) := by decide +kernel
theorem dX8_feeOf_3 : decode cX8_feeOf 3 = .ok (.getfield 13, 3) := by decide +kernel
theorem dX8_feeOf_6 : decode cX8_feeOf 6 = .ok (.iload_n 1, 1) := by decide +kernel
theorem dX8_feeOf_7 : decode cX8_feeOf 7 = .ok (.iaload, 1) := by decide +kernel
theorem dX8_feeOf_8 : decode cX8_feeOf 8 = .ok (.i2l, 1) := by decide +kernel
theorem dX8_feeOf_9 : decode cX8_feeOf 9 = .ok (.lmul, 1) := by decide +kernel
theorem dX8_feeOf_10 : decode cX8_feeOf 10 = .ok (.ldc2_w 88, 3) := by decide +kernel
theorem dX8_feeOf_13 : decode cX8_feeOf 13 = .ok (.ldiv, 1) := by decide +kernel
theorem dX8_feeOf_14 : decode cX8_feeOf 14 = .ok (.lstore_n 3, 1) := by decide +kernel
theorem dX8_feeOf_15 : decode cX8_feeOf 15 = .ok (.lload_n 3, 1) := by decide +kernel
theorem dX8_feeOf_16 : decode cX8_feeOf 16 = .ok (.aload_n 0, 1) := by decide +kernel
theorem dX8_feeOf_17 : decode cX8_feeOf 17 = .ok (.getfield 16, 3) := by decide +kernel
theorem dX8_feeOf_20 : decode cX8_feeOf 20 = .ok (.iload_n 1, 1) := by decide +kernel
theorem dX8_feeOf_21 : decode cX8_feeOf 21 = .ok (.iaload, 1) := by decide +kernel
theorem dX8_feeOf_22 : decode cX8_feeOf 22 = .ok (.i2l, 1) := by decide +kernel
theorem dX8_feeOf_23 : decode cX8_feeOf 23 = .ok (.lcmp, 1) := by decide +kernel
theorem dX8_feeOf_24 : decode cX8_feeOf 24 = .ok (.ifCond .le 12, 3) := by decide +kernel
theorem dX8_feeOf_27 : decode cX8_feeOf 27 = .ok (.aload_n 0, 1) := by decide +kernel
theorem dX8_feeOf_28 : decode cX8_feeOf 28 = .ok (.getfield 16, 3) := by decide +kernel
theorem dX8_feeOf_31 : decode cX8_feeOf 31 = .ok (.iload_n 1, 1) := by decide +kernel
theorem dX8_feeOf_32 : decode cX8_feeOf 32 = .ok (.iaload, 1) := by decide +kernel
theorem dX8_feeOf_33 : decode cX8_feeOf 33 = .ok (.goto 5, 3) := by decide +kernel
theorem dX8_feeOf_36 : decode cX8_feeOf 36 = .ok (.lload_n 3, 1) := by decide +kernel
theorem dX8_feeOf_37 : decode cX8_feeOf 37 = .ok (.l2i, 1) := by decide +kernel
theorem dX8_feeOf_38 : decode cX8_feeOf 38 = .ok (.ireturn, 1) := by decide +kernel
set_option maxRecDepth 20000 in
theorem ggX8_kind_X8_isIn : GoodIn wsX8_kind wsX8_isIn := goodIn_r _ [6] (by decide +kernel) (by decide +kernel)
set_option maxRecDepth 20000 in
theorem gX8_kind_X8_isIn : GoodIn wsX8_kind (va_wsS RX8 74 yX8_isIn wsX8_isIn) := goodIn_app (goodIn_of _ (by decide +kernel)) ggX8_kind_X8_isIn
set_option maxRecDepth 20000 in
theorem ggX8_kind_X8_isKind : GoodIn wsX8_kind wsX8_isKind := goodIn_r _ [9, 3, 4, 5, 6] (by decide +kernel) (by decide +kernel)
set_option maxRecDepth 20000 in
theorem gX8_kind_X8_isKind : GoodIn wsX8_kind (va_wsS RX8 82 yX8_isKind wsX8_isKind) := goodIn_app (goodIn_of _ (by decide +kernel)) ggX8_kind_X8_isKind
set_option maxRecDepth 20000 in
theorem ggX8_kind_X8_fails : GoodIn wsX8_kind wsX8_fails := goodIn_r _ [13, 14, 20, 21, 22, 23, 24, 25, 26, 27, 28, 29, 30, 31, 32, 33, 34, 35, 36, 37, 38, 39, 40, 41, 42, 43, 44] (by decide +kernel) (by decide +kernel)
set_option maxRecDepth 20000 in
theorem gX8_kind_X8_fails : GoodIn wsX8_kind (wsV RX8 85 RX8 yX8_fails wsX8_fails) := goodIn_app (goodIn_of _ (by decide +kernel)) ggX8_kind_X8_fails
set_option maxRecDepth 20000 in
theorem ggX8_kind_X8_feeOf : GoodIn wsX8_kind wsX8_feeOf := goodIn_r _ [18, 1, 19, 2, 20, 21, 22, 23, 24, 25, 26, 27, 28, 29, 30, 31, 32, 33, 34, 35, 36, 37, 38, 39, 40, 41, 42, 43, 44] (by decide +kernel) (by decide +kernel)
set_option maxRecDepth 20000 in
theorem gX8_kind_X8_feeOf : GoodIn wsX8_kind (wsV RX8 90 RX8 yX8_feeOf wsX8_feeOf) := goodIn_app (goodIn_of _ (by decide +kernel)) ggX8_kind_X8_feeOf
theorem dX8_kind_0 : decode cX8_kind 0 = .ok (.iload_n 2, 1) := by decide +kernel
theorem dX8_kind_1 : decode cX8_kind 1 = .ok (.iconst 0, 1) := by decide +kernel
theorem dX8_kind_2 : decode cX8_kind 2 = .ok (.bipush 100, 2) := by decide +kernel
theorem dX8_kind_4 : decode cX8_kind 4 = .ok (.invokestatic 74, 3) := by decide +kernel
theorem dX8_kind_7 : decode cX8_kind 7 = .ok (.ifCond .eq 18, 3) := by decide +kernel
theorem dX8_kind_10 : decode cX8_kind 10 = .ok (.iload_n 3, 1) := by decide +kernel
theorem dX8_kind_11 : decode cX8_kind 11 = .ok (.iconst 0, 1) := by decide +kernel
theorem dX8_kind_12 : decode cX8_kind 12 = .ok (.sipush 9999, 3) := by decide +kernel
theorem dX8_kind_15 : decode cX8_kind 15 = .ok (.invokestatic 74, 3) := by decide +kernel
theorem dX8_kind_18 : decode cX8_kind 18 = .ok (.ifCond .eq 7, 3) := by decide +kernel
theorem dX8_kind_21 : decode cX8_kind 21 = .ok (.iconst 1, 1) := by decide +kernel
theorem dX8_kind_22 : decode cX8_kind 22 = .ok (.goto 4, 3) := by decide +kernel
theorem dX8_kind_25 : decode cX8_kind 25 = .ok (.iconst 0, 1) := by decide +kernel
theorem dX8_kind_26 : decode cX8_kind 26 = .ok (.istore 4, 2) := by decide +kernel
theorem dX8_kind_28 : decode cX8_kind 28 = .ok (.aload_n 0, 1) := by decide +kernel
theorem dX8_kind_29 : decode cX8_kind 29 = .ok (.iload_n 1, 1) := by decide +kernel
theorem dX8_kind_30 : decode cX8_kind 30 = .ok (.invokestatic 82, 3) := by decide +kernel
theorem dX8_kind_33 : decode cX8_kind 33 = .ok (.ifCond .ne 7, 3) := by decide +kernel
theorem dX8_kind_36 : decode cX8_kind 36 = .ok (.iconst 1, 1) := by decide +kernel
theorem dX8_kind_37 : decode cX8_kind 37 = .ok (.goto 13, 3) := by decide +kernel
theorem dX8_kind_40 : decode cX8_kind 40 = .ok (.iload 4, 2) := by decide +kernel
theorem dX8_kind_42 : decode cX8_kind 42 = .ok (.ifCond .eq 7, 3) := by decide +kernel
theorem dX8_kind_45 : decode cX8_kind 45 = .ok (.iconst 0, 1) := by decide +kernel
theorem dX8_kind_46 : decode cX8_kind 46 = .ok (.goto 4, 3) := by decide +kernel
theorem dX8_kind_49 : decode cX8_kind 49 = .ok (.iconst 2, 1) := by decide +kernel
theorem dX8_kind_50 : decode cX8_kind 50 = .ok (.invokevirtual 85, 3) := by decide +kernel
theorem dX8_kind_53 : decode cX8_kind 53 = .ok (.ifCond .eq 5, 3) := by decide +kernel
theorem dX8_kind_56 : decode cX8_kind 56 = .ok (.iconst 0, 1) := by decide +kernel
theorem dX8_kind_57 : decode cX8_kind 57 = .ok (.ireturn, 1) := by decide +kernel
theorem dX8_kind_58 : decode cX8_kind 58 = .ok (.aload_n 0, 1) := by decide +kernel
theorem dX8_kind_59 : decode cX8_kind 59 = .ok (.getfield 13, 3) := by decide +kernel
theorem dX8_kind_62 : decode cX8_kind 62 = .ok (.iload_n 1, 1) := by decide +kernel
theorem dX8_kind_63 : decode cX8_kind 63 = .ok (.iload_n 2, 1) := by decide +kernel
theorem dX8_kind_64 : decode cX8_kind 64 = .ok (.iastore, 1) := by decide +kernel
theorem dX8_kind_65 : decode cX8_kind 65 = .ok (.aload_n 0, 1) := by decide +kernel
theorem dX8_kind_66 : decode cX8_kind 66 = .ok (.getfield 16, 3) := by decide +kernel
theorem dX8_kind_69 : decode cX8_kind 69 = .ok (.iload_n 1, 1) := by decide +kernel
theorem dX8_kind_70 : decode cX8_kind 70 = .ok (.iload_n 3, 1) := by decide +kernel
theorem dX8_kind_71 : decode cX8_kind 71 = .ok (.iastore, 1) := by decide +kernel
theorem dX8_kind_72 : decode cX8_kind 72 = .ok (.aload_n 0, 1) := by decide +kernel
theorem dX8_kind_73 : decode cX8_kind 73 = .ok (.iload_n 1, 1) := by decide +kernel
theorem dX8_kind_74 : decode cX8_kind 74 = .ok (.sipush 10000, 3) := by decide +kernel
theorem dX8_kind_77 : decode cX8_kind 77 = .ok (.invokevirtual 90, 3) := by decide +kernel
theorem dX8_kind_80 : decode cX8_kind 80 = .ok (.ireturn, 1) := by decide +kernel
theorem dX8_limitOf_0 : decode cX8_limitOf 0 = .ok (.iconst 0, 1) := by decide +kernel
theorem dX8_limitOf_1 : decode cX8_limitOf 1 = .ok (.istore_n 2, 1) := by decide +kernel
theorem dX8_limitOf_2 : decode cX8_limitOf 2 = .ok (.lconst 0, 1) := by decide +kernel
theorem dX8_limitOf_3 : decode cX8_limitOf 3 = .ok (.lstore_n 3, 1) := by decide +kernel
theorem dX8_limitOf_4 : decode cX8_limitOf 4 = .ok (.aload_n 0, 1) := by decide +kernel
theorem dX8_limitOf_5 : decode cX8_limitOf 5 = .ok (.getfield 94, 3) := by decide +kernel
theorem dX8_limitOf_8 : decode cX8_limitOf 8 = .ok (.iconst 1, 1) := by decide +kernel
theorem dX8_limitOf_9 : decode cX8_limitOf 9 = .ok (.isub, 1) := by decide +kernel
theorem dX8_limitOf_10 : decode cX8_limitOf 10 = .ok (.istore 5, 2) := by decide +kernel
theorem dX8_limitOf_12 : decode cX8_limitOf 12 = .ok (.iload 5, 2) := by decide +kernel
theorem dX8_limitOf_14 : decode cX8_limitOf 14 = .ok (.ifCond .lt 44, 3) := by decide +kernel
theorem dX8_limitOf_17 : decode cX8_limitOf 17 = .ok (.iload_n 2, 1) := by decide +kernel
theorem dX8_limitOf_18 : decode cX8_limitOf 18 = .ok (.iconst 5, 1) := by decide +kernel
theorem dX8_limitOf_19 : decode cX8_limitOf 19 = .ok (.if_icmp .ge 39, 3) := by decide +kernel
theorem dX8_limitOf_22 : decode cX8_limitOf 22 = .ok (.aload_n 0, 1) := by decide +kernel
theorem dX8_limitOf_23 : decode cX8_limitOf 23 = .ok (.getfield 19, 3) := by decide +kernel
theorem dX8_limitOf_26 : decode cX8_limitOf 26 = .ok (.aload_n 0, 1) := by decide +kernel
theorem dX8_limitOf_27 : decode cX8_limitOf 27 = .ok (.getfield 38, 3) := by decide +kernel
theorem dX8_limitOf_30 : decode cX8_limitOf 30 = .ok (.iload 5, 2) := by decide +kernel
theorem dX8_limitOf_32 : decode cX8_limitOf 32 = .ok (.iaload, 1) := by decide +kernel
theorem dX8_limitOf_33 : decode cX8_limitOf 33 = .ok (.iaload, 1) := by decide +kernel
theorem dX8_limitOf_34 : decode cX8_limitOf 34 = .ok (.iload_n 1, 1) := by decide +kernel
theorem dX8_limitOf_35 : decode cX8_limitOf 35 = .ok (.if_icmp .ne 17, 3) := by decide +kernel
theorem dX8_limitOf_38 : decode cX8_limitOf 38 = .ok (.lload_n 3, 1) := by decide +kernel
theorem dX8_limitOf_39 : decode cX8_limitOf 39 = .ok (.aload_n 0, 1) := by decide +kernel
theorem dX8_limitOf_40 : decode cX8_limitOf 40 = .ok (.getfield 41, 3) := by decide +kernel
theorem dX8_limitOf_43 : decode cX8_limitOf 43 = .ok (.iload 5, 2) := by decide +kernel
theorem dX8_limitOf_45 : decode cX8_limitOf 45 = .ok (.iaload, 1) := by decide +kernel
theorem dX8_limitOf_46 : decode cX8_limitOf 46 = .ok (.i2l, 1) := by decide +kernel
theorem dX8_limitOf_47 : decode cX8_limitOf 47 = .ok (.ladd, 1) := by decide +kernel
theorem dX8_limitOf_48 : decode cX8_limitOf 48 = .ok (.lstore_n 3, 1) := by decide +kernel
theorem dX8_limitOf_49 : decode cX8_limitOf 49 = .ok (.iinc 2 1, 3) := by decide +kernel
theorem dX8_limitOf_52 : decode cX8_limitOf 52 = .ok (.iinc 5 (-1), 3) := by decide +kernel
theorem dX8_limitOf_55 : decode cX8_limitOf 55 = .ok (.goto (-43), 3) := by decide +kernel
theorem dX8_limitOf_58 : decode cX8_limitOf 58 = .ok (.iload_n 2, 1) := by decide +kernel
theorem dX8_limitOf_59 : decode cX8_limitOf 59 = .ok (.ifCond .ne 7, 3) := by decide +kernel
theorem dX8_limitOf_62 : decode cX8_limitOf 62 = .ok (.sipush 10000, 3) := by decide +kernel
theorem dX8_limitOf_65 : decode cX8_limitOf 65 = .ok (.ireturn, 1) := by decide +kernel
theorem dX8_limitOf_66 : decode cX8_limitOf 66 = .ok (.ldc2_w 97, 3) := by decide +kernel
theorem dX8_limitOf_69 : decode cX8_limitOf 69 = .ok (.lload_n 3, 1) := by decide +kernel
theorem dX8_limitOf_70 : decode cX8_limitOf 70 = .ok (.lmul, 1) := by decide +kernel
theorem dX8_limitOf_71 : decode cX8_limitOf 71 = .ok (.iload_n 2, 1) := by decide +kernel
theorem dX8_limitOf_72 : decode cX8_limitOf 72 = .ok (.i2l, 1) := by decide +kernel
theorem dX8_limitOf_73 : decode cX8_limitOf 73 = .ok (.ldiv, 1) := by decide +kernel
theorem dX8_limitOf_74 : decode cX8_limitOf 74 = .ok (.lstore 5, 2) := by decide +kernel
theorem dX8_limitOf_76 : decode cX8_limitOf 76 = .ok (.lload 5, 2) := by decide +kernel
theorem dX8_limitOf_78 : decode cX8_limitOf 78 = .ok (.ldc2_w 99, 3) := by decide +kernel
theorem dX8_limitOf_81 : decode cX8_limitOf 81 = .ok (.lcmp, 1) := by decide +kernel
theorem dX8_limitOf_82 : decode cX8_limitOf 82 = .ok (.ifCond .ge 9, 3) := by decide +kernel
theorem dX8_limitOf_85 : decode cX8_limitOf 85 = .ok (.sipush 500, 3) := by decide +kernel
theorem dX8_limitOf_88 : decode cX8_limitOf 88 = .ok (.goto 6, 3) := by decide +kernel
theorem dX8_limitOf_91 : decode cX8_limitOf 91 = .ok (.lload 5, 2) := by decide +kernel
theorem dX8_limitOf_93 : decode cX8_limitOf 93 = .ok (.l2i, 1) := by decide +kernel
theorem dX8_limitOf_94 : decode cX8_limitOf 94 = .ok (.ireturn, 1) := by decide +kernel
set_option maxRecDepth 20000 in
theorem ggX8_authorise_X8_isCard : GoodIn wsX8_authorise wsX8_isCard := goodIn_r _ [10, 11, 12, 9, 13] (by decide +kernel) (by decide +kernel)
set_option maxRecDepth 20000 in
theorem gX8_authorise_X8_isCard : GoodIn wsX8_authorise (va_wsS RX8 101 yX8_isCard wsX8_isCard) := goodIn_app (goodIn_of _ (by decide +kernel)) ggX8_authorise_X8_isCard
set_option maxRecDepth 20000 in
theorem ggX8_authorise_X8_isShop : GoodIn wsX8_authorise wsX8_isShop := goodIn_r _ [16, 11, 12, 9, 13] (by decide +kernel) (by decide +kernel)
set_option maxRecDepth 20000 in
theorem gX8_authorise_X8_isShop : GoodIn wsX8_authorise (va_wsS RX8 78 yX8_isShop wsX8_isShop) := goodIn_app (goodIn_of _ (by decide +kernel)) ggX8_authorise_X8_isShop
set_option maxRecDepth 20000 in
theorem ggX8_authorise_X8_isAmount : GoodIn wsX8_authorise wsX8_isAmount := goodIn_r _ [19, 20, 11, 12, 9, 13] (by decide +kernel) (by decide +kernel)
set_option maxRecDepth 20000 in
theorem gX8_authorise_X8_isAmount : GoodIn wsX8_authorise (va_wsS RX8 104 yX8_isAmount wsX8_isAmount) := goodIn_app (goodIn_of _ (by decide +kernel)) ggX8_authorise_X8_isAmount
set_option maxRecDepth 20000 in
theorem ggX8_authorise_X8_fails : GoodIn wsX8_authorise wsX8_fails := goodIn_r _ [24, 25, 35, 36, 37, 38, 39, 40, 41, 42, 43, 44, 45, 46, 47, 48, 49, 50, 51, 52, 53, 54, 55, 56, 57, 58, 59] (by decide +kernel) (by decide +kernel)
set_option maxRecDepth 20000 in
theorem gX8_authorise_X8_fails : GoodIn wsX8_authorise (wsV RX8 85 RX8 yX8_fails wsX8_fails) := goodIn_app (goodIn_of _ (by decide +kernel)) ggX8_authorise_X8_fails
set_option maxRecDepth 20000 in
theorem ggX8_authorise_X8_limitOf : GoodIn wsX8_authorise wsX8_limitOf := goodIn_r _ [29, 30, 2, 31, 32, 33, 34, 35, 36, 37, 38, 39, 40, 41, 42, 43, 44, 45, 46, 47, 48, 49, 50, 51, 52, 53, 54, 55, 56, 57, 58, 59] (by decide +kernel) (by decide +kernel)
set_option maxRecDepth 20000 in
theorem gX8_authorise_X8_limitOf : GoodIn wsX8_authorise (wsV RX8 110 RX8 yX8_limitOf wsX8_limitOf) := goodIn_app (goodIn_of _ (by decide +kernel)) ggX8_authorise_X8_limitOf
theorem dX8_authorise_0 : decode cX8_authorise 0 = .ok (.iload_n 1, 1) := by decide +kernel
theorem dX8_authorise_1 : decode cX8_authorise 1 = .ok (.invokestatic 101, 3) := by decide +kernel
theorem dX8_authorise_4 : decode cX8_authorise 4 = .ok (.ifCond .eq 14, 3) := by decide +kernel
theorem dX8_authorise_7 : decode cX8_authorise 7 = .ok (.iload_n 2, 1) := by decide +kernel
theorem dX8_authorise_8 : decode cX8_authorise 8 = .ok (.invokestatic 78, 3) := by decide +kernel
theorem dX8_authorise_11 : decode cX8_authorise 11 = .ok (.ifCond .eq 7, 3) := by decide +kernel
theorem dX8_authorise_14 : decode cX8_authorise 14 = .ok (.iconst 1, 1) := by decide +kernel
theorem dX8_authorise_15 : decode cX8_authorise 15 = .ok (.goto 4, 3) := by decide +kernel
theorem dX8_authorise_18 : decode cX8_authorise 18 = .ok (.iconst 0, 1) := by decide +kernel
theorem dX8_authorise_19 : decode cX8_authorise 19 = .ok (.istore 4, 2) := by decide +kernel
theorem dX8_authorise_21 : decode cX8_authorise 21 = .ok (.aload_n 0, 1) := by decide +kernel
theorem dX8_authorise_22 : decode cX8_authorise 22 = .ok (.iload 4, 2) := by decide +kernel
theorem dX8_authorise_24 : decode cX8_authorise 24 = .ok (.ifCond .ne 7, 3) := by decide +kernel
theorem dX8_authorise_27 : decode cX8_authorise 27 = .ok (.iconst 1, 1) := by decide +kernel
theorem dX8_authorise_28 : decode cX8_authorise 28 = .ok (.goto 28, 3) := by decide +kernel
theorem dX8_authorise_31 : decode cX8_authorise 31 = .ok (.iload_n 3, 1) := by decide +kernel
theorem dX8_authorise_32 : decode cX8_authorise 32 = .ok (.invokestatic 104, 3) := by decide +kernel
theorem dX8_authorise_35 : decode cX8_authorise 35 = .ok (.ifCond .ne 7, 3) := by decide +kernel
theorem dX8_authorise_38 : decode cX8_authorise 38 = .ok (.iconst 2, 1) := by decide +kernel
theorem dX8_authorise_39 : decode cX8_authorise 39 = .ok (.goto 17, 3) := by decide +kernel
theorem dX8_authorise_42 : decode cX8_authorise 42 = .ok (.aload_n 0, 1) := by decide +kernel
theorem dX8_authorise_43 : decode cX8_authorise 43 = .ok (.getfield 107, 3) := by decide +kernel
theorem dX8_authorise_46 : decode cX8_authorise 46 = .ok (.bipush 60, 2) := by decide +kernel
theorem dX8_authorise_48 : decode cX8_authorise 48 = .ok (.if_icmp .ne 7, 3) := by decide +kernel
theorem dX8_authorise_51 : decode cX8_authorise 51 = .ok (.iconst 3, 1) := by decide +kernel
theorem dX8_authorise_52 : decode cX8_authorise 52 = .ok (.goto 4, 3) := by decide +kernel
theorem dX8_authorise_55 : decode cX8_authorise 55 = .ok (.iconst 0, 1) := by decide +kernel
theorem dX8_authorise_56 : decode cX8_authorise 56 = .ok (.invokevirtual 85, 3) := by decide +kernel
theorem dX8_authorise_59 : decode cX8_authorise 59 = .ok (.ifCond .eq 5, 3) := by decide +kernel
theorem dX8_authorise_62 : decode cX8_authorise 62 = .ok (.iconst 0, 1) := by decide +kernel
theorem dX8_authorise_63 : decode cX8_authorise 63 = .ok (.ireturn, 1) := by decide +kernel
theorem dX8_authorise_64 : decode cX8_authorise 64 = .ok (.iload_n 3, 1) := by decide +kernel
theorem dX8_authorise_65 : decode cX8_authorise 65 = .ok (.aload_n 0, 1) := by decide +kernel
theorem dX8_authorise_66 : decode cX8_authorise 66 = .ok (.iload_n 1, 1) := by decide +kernel
theorem dX8_authorise_67 : decode cX8_authorise 67 = .ok (.invokevirtual 110, 3) := by decide +kernel
theorem dX8_authorise_70 : decode cX8_authorise 70 = .ok (.if_icmp .le 5, 3) := by decide +kernel
theorem dX8_authorise_73 : decode cX8_authorise 73 = .ok (.iconst (-1), 1) := by decide +kernel
theorem dX8_authorise_74 : decode cX8_authorise 74 = .ok (.ireturn, 1) := by decide +kernel
theorem dX8_authorise_75 : decode cX8_authorise 75 = .ok (.aload_n 0, 1) := by decide +kernel
theorem dX8_authorise_76 : decode cX8_authorise 76 = .ok (.getfield 19, 3) := by decide +kernel
theorem dX8_authorise_79 : decode cX8_authorise 79 = .ok (.aload_n 0, 1) := by decide +kernel
theorem dX8_authorise_80 : decode cX8_authorise 80 = .ok (.getfield 107, 3) := by decide +kernel
theorem dX8_authorise_83 : decode cX8_authorise 83 = .ok (.iload_n 1, 1) := by decide +kernel
theorem dX8_authorise_84 : decode cX8_authorise 84 = .ok (.iastore, 1) := by decide +kernel
theorem dX8_authorise_85 : decode cX8_authorise 85 = .ok (.aload_n 0, 1) := by decide +kernel
theorem dX8_authorise_86 : decode cX8_authorise 86 = .ok (.getfield 22, 3) := by decide +kernel
theorem dX8_authorise_89 : decode cX8_authorise 89 = .ok (.aload_n 0, 1) := by decide +kernel
theorem dX8_authorise_90 : decode cX8_authorise 90 = .ok (.getfield 107, 3) := by decide +kernel
theorem dX8_authorise_93 : decode cX8_authorise 93 = .ok (.iload_n 2, 1) := by decide +kernel
theorem dX8_authorise_94 : decode cX8_authorise 94 = .ok (.iastore, 1) := by decide +kernel
theorem dX8_authorise_95 : decode cX8_authorise 95 = .ok (.aload_n 0, 1) := by decide +kernel
theorem dX8_authorise_96 : decode cX8_authorise 96 = .ok (.getfield 25, 3) := by decide +kernel
theorem dX8_authorise_99 : decode cX8_authorise 99 = .ok (.aload_n 0, 1) := by decide +kernel
theorem dX8_authorise_100 : decode cX8_authorise 100 = .ok (.getfield 107, 3) := by decide +kernel
theorem dX8_authorise_103 : decode cX8_authorise 103 = .ok (.iload_n 3, 1) := by decide +kernel
theorem dX8_authorise_104 : decode cX8_authorise 104 = .ok (.iastore, 1) := by decide +kernel
theorem dX8_authorise_105 : decode cX8_authorise 105 = .ok (.aload_n 0, 1) := by decide +kernel
theorem dX8_authorise_106 : decode cX8_authorise 106 = .ok (.getfield 31, 3) := by decide +kernel
theorem dX8_authorise_109 : decode cX8_authorise 109 = .ok (.aload_n 0, 1) := by decide +kernel
theorem dX8_authorise_110 : decode cX8_authorise 110 = .ok (.getfield 107, 3) := by decide +kernel
theorem dX8_authorise_113 : decode cX8_authorise 113 = .ok (.aload_n 0, 1) := by decide +kernel
theorem dX8_authorise_114 : decode cX8_authorise 114 = .ok (.getfield 114, 3) := by decide +kernel
theorem dX8_authorise_117 : decode cX8_authorise 117 = .ok (.bipush 7, 2) := by decide +kernel
theorem dX8_authorise_119 : decode cX8_authorise 119 = .ok (.iadd, 1) := by decide +kernel
theorem dX8_authorise_120 : decode cX8_authorise 120 = .ok (.iastore, 1) := by decide +kernel
theorem dX8_authorise_121 : decode cX8_authorise 121 = .ok (.aload_n 0, 1) := by decide +kernel
theorem dX8_authorise_122 : decode cX8_authorise 122 = .ok (.dup, 1) := by decide +kernel
theorem dX8_authorise_123 : decode cX8_authorise 123 = .ok (.getfield 107, 3) := by decide +kernel
theorem dX8_authorise_126 : decode cX8_authorise 126 = .ok (.iconst 1, 1) := by decide +kernel
theorem dX8_authorise_127 : decode cX8_authorise 127 = .ok (.iadd, 1) := by decide +kernel
theorem dX8_authorise_128 : decode cX8_authorise 128 = .ok (.putfield 107, 3) := by decide +kernel
theorem dX8_authorise_131 : decode cX8_authorise 131 = .ok (.aload_n 0, 1) := by decide +kernel
theorem dX8_authorise_132 : decode cX8_authorise 132 = .ok (.getfield 107, 3) := by decide +kernel
theorem dX8_authorise_135 : decode cX8_authorise 135 = .ok (.iconst 1, 1) := by decide +kernel
theorem dX8_authorise_136 : decode cX8_authorise 136 = .ok (.isub, 1) := by decide +kernel
theorem dX8_authorise_137 : decode cX8_authorise 137 = .ok (.ireturn, 1) := by decide +kernel
set_option maxRecDepth 20000 in
theorem ggX8_isPayment_X8_isIn : GoodIn wsX8_isPayment wsX8_isIn := goodIn_r _ [5] (by decide +kernel) (by decide +kernel)
set_option maxRecDepth 20000 in
theorem gX8_isPayment_X8_isIn : GoodIn wsX8_isPayment (va_wsS RX8 74 yX8_isIn wsX8_isIn) := goodIn_app (goodIn_of _ (by decide +kernel)) ggX8_isPayment_X8_isIn
theorem dX8_isPayment_0 : decode cX8_isPayment 0 = .ok (.iload_n 1, 1) := by decide +kernel
theorem dX8_isPayment_1 : decode cX8_isPayment 1 = .ok (.iconst 0, 1) := by decide +kernel
theorem dX8_isPayment_2 : decode cX8_isPayment 2 = .ok (.aload_n 0, 1) := by decide +kernel
theorem dX8_isPayment_3 : decode cX8_isPayment 3 = .ok (.getfield 107, 3) := by decide +kernel
theorem dX8_isPayment_6 : decode cX8_isPayment 6 = .ok (.iconst 1, 1) := by decide +kernel
theorem dX8_isPayment_7 : decode cX8_isPayment 7 = .ok (.isub, 1) := by decide +kernel
theorem dX8_isPayment_8 : decode cX8_isPayment 8 = .ok (.invokestatic 74, 3) := by decide +kernel
theorem dX8_isPayment_11 : decode cX8_isPayment 11 = .ok (.ireturn, 1) := by decide +kernel
theorem dX8_isOpen_0 : decode cX8_isOpen 0 = .ok (.aload_n 0, 1) := by decide +kernel
theorem dX8_isOpen_1 : decode cX8_isOpen 1 = .ok (.getfield 34, 3) := by decide +kernel
theorem dX8_isOpen_4 : decode cX8_isOpen 4 = .ok (.iload_n 1, 1) := by decide +kernel
theorem dX8_isOpen_5 : decode cX8_isOpen 5 = .ok (.baload, 1) := by decide +kernel
theorem dX8_isOpen_6 : decode cX8_isOpen 6 = .ok (.ifCond .ne 20, 3) := by decide +kernel
theorem dX8_isOpen_9 : decode cX8_isOpen 9 = .ok (.aload_n 0, 1) := by decide +kernel
theorem dX8_isOpen_10 : decode cX8_isOpen 10 = .ok (.getfield 114, 3) := by decide +kernel
theorem dX8_isOpen_13 : decode cX8_isOpen 13 = .ok (.aload_n 0, 1) := by decide +kernel
theorem dX8_isOpen_14 : decode cX8_isOpen 14 = .ok (.getfield 31, 3) := by decide +kernel
theorem dX8_isOpen_17 : decode cX8_isOpen 17 = .ok (.iload_n 1, 1) := by decide +kernel
theorem dX8_isOpen_18 : decode cX8_isOpen 18 = .ok (.iaload, 1) := by decide +kernel
theorem dX8_isOpen_19 : decode cX8_isOpen 19 = .ok (.if_icmp .gt 7, 3) := by decide +kernel
theorem dX8_isOpen_22 : decode cX8_isOpen 22 = .ok (.iconst 1, 1) := by decide +kernel
theorem dX8_isOpen_23 : decode cX8_isOpen 23 = .ok (.goto 4, 3) := by decide +kernel
theorem dX8_isOpen_26 : decode cX8_isOpen 26 = .ok (.iconst 0, 1) := by decide +kernel
theorem dX8_isOpen_27 : decode cX8_isOpen 27 = .ok (.ireturn, 1) := by decide +kernel
theorem dX8_pays_0 : decode cX8_pays 0 = .ok (.aload_n 0, 1) := by decide +kernel
theorem dX8_pays_1 : decode cX8_pays 1 = .ok (.getfield 62, 3) := by decide +kernel
theorem dX8_pays_4 : decode cX8_pays 4 = .ok (.iload_n 1, 1) := by decide +kernel
theorem dX8_pays_5 : decode cX8_pays 5 = .ok (.dup2, 1) := by decide +kernel
theorem dX8_pays_6 : decode cX8_pays 6 = .ok (.laload, 1) := by decide +kernel
theorem dX8_pays_7 : decode cX8_pays 7 = .ok (.iload_n 3, 1) := by decide +kernel
theorem dX8_pays_8 : decode cX8_pays 8 = .ok (.i2l, 1) := by decide +kernel
theorem dX8_pays_9 : decode cX8_pays 9 = .ok (.lsub, 1) := by decide +kernel
theorem dX8_pays_10 : decode cX8_pays 10 = .ok (.lastore, 1) := by decide +kernel
theorem dX8_pays_11 : decode cX8_pays 11 = .ok (.aload_n 0, 1) := by decide +kernel
theorem dX8_pays_12 : decode cX8_pays 12 = .ok (.getfield 62, 3) := by decide +kernel
theorem dX8_pays_15 : decode cX8_pays 15 = .ok (.iload_n 2, 1) := by decide +kernel
theorem dX8_pays_16 : decode cX8_pays 16 = .ok (.dup2, 1) := by decide +kernel
theorem dX8_pays_17 : decode cX8_pays 17 = .ok (.laload, 1) := by decide +kernel
theorem dX8_pays_18 : decode cX8_pays 18 = .ok (.iload_n 3, 1) := by decide +kernel
theorem dX8_pays_19 : decode cX8_pays 19 = .ok (.i2l, 1) := by decide +kernel
theorem dX8_pays_20 : decode cX8_pays 20 = .ok (.ladd, 1) := by decide +kernel
theorem dX8_pays_21 : decode cX8_pays 21 = .ok (.lastore, 1) := by decide +kernel
theorem dX8_pays_22 : decode cX8_pays 22 = .ok (.aload_n 0, 1) := by decide +kernel
theorem dX8_pays_23 : decode cX8_pays 23 = .ok (.getfield 66, 3) := by decide +kernel
theorem dX8_pays_26 : decode cX8_pays 26 = .ok (.iload_n 1, 1) := by decide +kernel
theorem dX8_pays_27 : decode cX8_pays 27 = .ok (.dup2, 1) := by decide +kernel
theorem dX8_pays_28 : decode cX8_pays 28 = .ok (.laload, 1) := by decide +kernel
theorem dX8_pays_29 : decode cX8_pays 29 = .ok (.iload_n 3, 1) := by decide +kernel
theorem dX8_pays_30 : decode cX8_pays 30 = .ok (.i2l, 1) := by decide +kernel
theorem dX8_pays_31 : decode cX8_pays 31 = .ok (.lsub, 1) := by decide +kernel
theorem dX8_pays_32 : decode cX8_pays 32 = .ok (.lastore, 1) := by decide +kernel
theorem dX8_pays_33 : decode cX8_pays 33 = .ok (.aload_n 0, 1) := by decide +kernel
theorem dX8_pays_34 : decode cX8_pays 34 = .ok (.getfield 66, 3) := by decide +kernel
theorem dX8_pays_37 : decode cX8_pays 37 = .ok (.iload_n 2, 1) := by decide +kernel
theorem dX8_pays_38 : decode cX8_pays 38 = .ok (.dup2, 1) := by decide +kernel
theorem dX8_pays_39 : decode cX8_pays 39 = .ok (.laload, 1) := by decide +kernel
theorem dX8_pays_40 : decode cX8_pays 40 = .ok (.iload_n 3, 1) := by decide +kernel
theorem dX8_pays_41 : decode cX8_pays 41 = .ok (.i2l, 1) := by decide +kernel
theorem dX8_pays_42 : decode cX8_pays 42 = .ok (.ladd, 1) := by decide +kernel
theorem dX8_pays_43 : decode cX8_pays 43 = .ok (.lastore, 1) := by decide +kernel
theorem dX8_pays_44 : decode cX8_pays 44 = .ok (.return_, 1) := by decide +kernel
theorem dX8_cardBank_0 : decode cX8_cardBank 0 = .ok (.aload_n 0, 1) := by decide +kernel
theorem dX8_cardBank_1 : decode cX8_cardBank 1 = .ok (.getfield 19, 3) := by decide +kernel
theorem dX8_cardBank_4 : decode cX8_cardBank 4 = .ok (.aload_n 0, 1) := by decide +kernel
theorem dX8_cardBank_5 : decode cX8_cardBank 5 = .ok (.getfield 38, 3) := by decide +kernel
theorem dX8_cardBank_8 : decode cX8_cardBank 8 = .ok (.iload_n 1, 1) := by decide +kernel
theorem dX8_cardBank_9 : decode cX8_cardBank 9 = .ok (.iaload, 1) := by decide +kernel
theorem dX8_cardBank_10 : decode cX8_cardBank 10 = .ok (.iaload, 1) := by decide +kernel
theorem dX8_cardBank_11 : decode cX8_cardBank 11 = .ok (.iconst 3, 1) := by decide +kernel
theorem dX8_cardBank_12 : decode cX8_cardBank 12 = .ok (.idiv, 1) := by decide +kernel
theorem dX8_cardBank_13 : decode cX8_cardBank 13 = .ok (.ireturn, 1) := by decide +kernel
theorem dX8_shopBank_0 : decode cX8_shopBank 0 = .ok (.aload_n 0, 1) := by decide +kernel
theorem dX8_shopBank_1 : decode cX8_shopBank 1 = .ok (.getfield 22, 3) := by decide +kernel
theorem dX8_shopBank_4 : decode cX8_shopBank 4 = .ok (.aload_n 0, 1) := by decide +kernel
theorem dX8_shopBank_5 : decode cX8_shopBank 5 = .ok (.getfield 38, 3) := by decide +kernel
theorem dX8_shopBank_8 : decode cX8_shopBank 8 = .ok (.iload_n 1, 1) := by decide +kernel
theorem dX8_shopBank_9 : decode cX8_shopBank 9 = .ok (.iaload, 1) := by decide +kernel
theorem dX8_shopBank_10 : decode cX8_shopBank 10 = .ok (.iaload, 1) := by decide +kernel
theorem dX8_shopBank_11 : decode cX8_shopBank 11 = .ok (.iconst 4, 1) := by decide +kernel
theorem dX8_shopBank_12 : decode cX8_shopBank 12 = .ok (.irem, 1) := by decide +kernel
theorem dX8_shopBank_13 : decode cX8_shopBank 13 = .ok (.ireturn, 1) := by decide +kernel
set_option maxRecDepth 20000 in
theorem ggX8_capture_X8_isPayment : GoodIn wsX8_capture wsX8_isPayment := goodIn_r _ [14, 15, 16, 17, 13, 18, 57, 58, 59, 60, 61, 62, 63, 64, 65, 66, 67, 68, 69, 70, 71, 72, 73, 74, 75, 76, 77, 78, 79, 80, 81] (by decide +kernel) (by decide +kernel)
set_option maxRecDepth 20000 in
theorem gX8_capture_X8_isPayment : GoodIn wsX8_capture (wsV RX8 117 RX8 yX8_isPayment wsX8_isPayment) := goodIn_app (goodIn_of _ (by decide +kernel)) ggX8_capture_X8_isPayment
set_option maxRecDepth 20000 in
theorem ggX8_capture_X8_isOpen : GoodIn wsX8_capture wsX8_isOpen := goodIn_r _ [22, 23, 24, 25, 57, 58, 59, 60, 61, 62, 63, 64, 65, 66, 67, 68, 69, 70, 71, 72, 73, 74, 75, 76, 77, 78, 79, 80, 81] (by decide +kernel) (by decide +kernel)
set_option maxRecDepth 20000 in
theorem gX8_capture_X8_isOpen : GoodIn wsX8_capture (wsV RX8 120 RX8 yX8_isOpen wsX8_isOpen) := goodIn_app (goodIn_of _ (by decide +kernel)) ggX8_capture_X8_isOpen
set_option maxRecDepth 20000 in
theorem ggX8_capture_X8_isAmount : GoodIn wsX8_capture wsX8_isAmount := goodIn_r _ [28, 29, 16, 17, 13, 18] (by decide +kernel) (by decide +kernel)
set_option maxRecDepth 20000 in
theorem gX8_capture_X8_isAmount : GoodIn wsX8_capture (va_wsS RX8 104 yX8_isAmount wsX8_isAmount) := goodIn_app (goodIn_of _ (by decide +kernel)) ggX8_capture_X8_isAmount
set_option maxRecDepth 20000 in
theorem ggX8_capture_X8_fails : GoodIn wsX8_capture wsX8_fails := goodIn_r _ [33, 34, 57, 58, 59, 60, 61, 62, 63, 64, 65, 66, 67, 68, 69, 70, 71, 72, 73, 74, 75, 76, 77, 78, 79, 80, 81] (by decide +kernel) (by decide +kernel)
set_option maxRecDepth 20000 in
theorem gX8_capture_X8_fails : GoodIn wsX8_capture (wsV RX8 85 RX8 yX8_fails wsX8_fails) := goodIn_app (goodIn_of _ (by decide +kernel)) ggX8_capture_X8_fails
set_option maxRecDepth 20000 in
theorem ggX8_capture_X8_feeOf : GoodIn wsX8_capture wsX8_feeOf := goodIn_r _ [38, 39, 40, 41, 57, 58, 59, 60, 61, 62, 63, 64, 65, 66, 67, 68, 69, 70, 71, 72, 73, 74, 75, 76, 77, 78, 79, 80, 81] (by decide +kernel) (by decide +kernel)
set_option maxRecDepth 20000 in
theorem gX8_capture_X8_feeOf : GoodIn wsX8_capture (wsV RX8 90 RX8 yX8_feeOf wsX8_feeOf) := goodIn_app (goodIn_of _ (by decide +kernel)) ggX8_capture_X8_feeOf
set_option maxRecDepth 20000 in
theorem ggX8_capture_X8_cardBank : GoodIn wsX8_capture wsX8_cardBank := goodIn_r _ [45, 46, 4, 57, 58, 59, 60, 61, 62, 63, 64, 65, 66, 67, 68, 69, 70, 71, 72, 73, 74, 75, 76, 77, 78, 79, 80, 81] (by decide +kernel) (by decide +kernel)
set_option maxRecDepth 20000 in
theorem gX8_capture_X8_cardBank : GoodIn wsX8_capture (wsV RX8 126 RX8 yX8_cardBank wsX8_cardBank) := goodIn_app (goodIn_of _ (by decide +kernel)) ggX8_capture_X8_cardBank
set_option maxRecDepth 20000 in
theorem ggX8_capture_X8_shopBank : GoodIn wsX8_capture wsX8_shopBank := goodIn_r _ [50, 8, 4, 57, 58, 59, 60, 61, 62, 63, 64, 65, 66, 67, 68, 69, 70, 71, 72, 73, 74, 75, 76, 77, 78, 79, 80, 81] (by decide +kernel) (by decide +kernel)
set_option maxRecDepth 20000 in
theorem gX8_capture_X8_shopBank : GoodIn wsX8_capture (wsV RX8 129 RX8 yX8_shopBank wsX8_shopBank) := goodIn_app (goodIn_of _ (by decide +kernel)) ggX8_capture_X8_shopBank
set_option maxRecDepth 20000 in
theorem ggX8_capture_X8_pays : GoodIn wsX8_capture wsX8_pays := goodIn_r _ [54, 55, 56, 57, 58, 59, 60, 61, 62, 63, 64, 65, 66, 67, 68, 69, 70, 71, 72, 73, 74, 75, 76, 77, 78, 79, 80, 81] (by decide +kernel) (by decide +kernel)
set_option maxRecDepth 20000 in
theorem gX8_capture_X8_pays : GoodIn wsX8_capture (wsV RX8 132 RX8 yX8_pays wsX8_pays) := goodIn_app (goodIn_of _ (by decide +kernel)) ggX8_capture_X8_pays
theorem dX8_capture_0 : decode cX8_capture 0 = .ok (.aload_n 0, 1) := by decide +kernel
theorem dX8_capture_1 : decode cX8_capture 1 = .ok (.iload_n 1, 1) := by decide +kernel
theorem dX8_capture_2 : decode cX8_capture 2 = .ok (.invokevirtual 117, 3) := by decide +kernel
theorem dX8_capture_5 : decode cX8_capture 5 = .ok (.ifCond .eq 41, 3) := by decide +kernel
theorem dX8_capture_8 : decode cX8_capture 8 = .ok (.aload_n 0, 1) := by decide +kernel
theorem dX8_capture_9 : decode cX8_capture 9 = .ok (.iload_n 1, 1) := by decide +kernel
theorem dX8_capture_10 : decode cX8_capture 10 = .ok (.invokevirtual 120, 3) := by decide +kernel
theorem dX8_capture_13 : decode cX8_capture 13 = .ok (.ifCond .eq 33, 3) := by decide +kernel
theorem dX8_capture_16 : decode cX8_capture 16 = .ok (.iload_n 2, 1) := by decide +kernel
theorem dX8_capture_17 : decode cX8_capture 17 = .ok (.aload_n 0, 1) := by decide +kernel
theorem dX8_capture_18 : decode cX8_capture 18 = .ok (.getfield 25, 3) := by decide +kernel
theorem dX8_capture_21 : decode cX8_capture 21 = .ok (.iload_n 1, 1) := by decide +kernel
theorem dX8_capture_22 : decode cX8_capture 22 = .ok (.iaload, 1) := by decide +kernel
theorem dX8_capture_23 : decode cX8_capture 23 = .ok (.aload_n 0, 1) := by decide +kernel
theorem dX8_capture_24 : decode cX8_capture 24 = .ok (.getfield 28, 3) := by decide +kernel
theorem dX8_capture_27 : decode cX8_capture 27 = .ok (.iload_n 1, 1) := by decide +kernel
theorem dX8_capture_28 : decode cX8_capture 28 = .ok (.iaload, 1) := by decide +kernel
theorem dX8_capture_29 : decode cX8_capture 29 = .ok (.isub, 1) := by decide +kernel
theorem dX8_capture_30 : decode cX8_capture 30 = .ok (.if_icmp .gt 16, 3) := by decide +kernel
theorem dX8_capture_33 : decode cX8_capture 33 = .ok (.aload_n 0, 1) := by decide +kernel
theorem dX8_capture_34 : decode cX8_capture 34 = .ok (.getfield 94, 3) := by decide +kernel
theorem dX8_capture_37 : decode cX8_capture 37 = .ok (.bipush 100, 2) := by decide +kernel
theorem dX8_capture_39 : decode cX8_capture 39 = .ok (.if_icmp .ge 7, 3) := by decide +kernel
theorem dX8_capture_42 : decode cX8_capture 42 = .ok (.iconst 1, 1) := by decide +kernel
theorem dX8_capture_43 : decode cX8_capture 43 = .ok (.goto 4, 3) := by decide +kernel
theorem dX8_capture_46 : decode cX8_capture 46 = .ok (.iconst 0, 1) := by decide +kernel
theorem dX8_capture_47 : decode cX8_capture 47 = .ok (.istore_n 3, 1) := by decide +kernel
theorem dX8_capture_48 : decode cX8_capture 48 = .ok (.aload_n 0, 1) := by decide +kernel
theorem dX8_capture_49 : decode cX8_capture 49 = .ok (.aload_n 0, 1) := by decide +kernel
theorem dX8_capture_50 : decode cX8_capture 50 = .ok (.iload_n 1, 1) := by decide +kernel
theorem dX8_capture_51 : decode cX8_capture 51 = .ok (.invokevirtual 117, 3) := by decide +kernel
theorem dX8_capture_54 : decode cX8_capture 54 = .ok (.ifCond .ne 7, 3) := by decide +kernel
theorem dX8_capture_57 : decode cX8_capture 57 = .ok (.iconst 1, 1) := by decide +kernel
theorem dX8_capture_58 : decode cX8_capture 58 = .ok (.goto 23, 3) := by decide +kernel
theorem dX8_capture_61 : decode cX8_capture 61 = .ok (.iload_n 2, 1) := by decide +kernel
theorem dX8_capture_62 : decode cX8_capture 62 = .ok (.invokestatic 104, 3) := by decide +kernel
theorem dX8_capture_65 : decode cX8_capture 65 = .ok (.ifCond .ne 7, 3) := by decide +kernel
theorem dX8_capture_68 : decode cX8_capture 68 = .ok (.iconst 2, 1) := by decide +kernel
theorem dX8_capture_69 : decode cX8_capture 69 = .ok (.goto 12, 3) := by decide +kernel
theorem dX8_capture_72 : decode cX8_capture 72 = .ok (.iload_n 3, 1) := by decide +kernel
theorem dX8_capture_73 : decode cX8_capture 73 = .ok (.ifCond .eq 7, 3) := by decide +kernel
theorem dX8_capture_76 : decode cX8_capture 76 = .ok (.iconst 0, 1) := by decide +kernel
theorem dX8_capture_77 : decode cX8_capture 77 = .ok (.goto 4, 3) := by decide +kernel
theorem dX8_capture_80 : decode cX8_capture 80 = .ok (.iconst 3, 1) := by decide +kernel
theorem dX8_capture_81 : decode cX8_capture 81 = .ok (.invokevirtual 85, 3) := by decide +kernel
theorem dX8_capture_84 : decode cX8_capture 84 = .ok (.ifCond .eq 5, 3) := by decide +kernel
theorem dX8_capture_87 : decode cX8_capture 87 = .ok (.iconst 0, 1) := by decide +kernel
theorem dX8_capture_88 : decode cX8_capture 88 = .ok (.ireturn, 1) := by decide +kernel
theorem dX8_capture_89 : decode cX8_capture 89 = .ok (.aload_n 0, 1) := by decide +kernel
theorem dX8_capture_90 : decode cX8_capture 90 = .ok (.getfield 94, 3) := by decide +kernel
theorem dX8_capture_93 : decode cX8_capture 93 = .ok (.istore 4, 2) := by decide +kernel
theorem dX8_capture_95 : decode cX8_capture 95 = .ok (.aload_n 0, 1) := by decide +kernel
theorem dX8_capture_96 : decode cX8_capture 96 = .ok (.getfield 38, 3) := by decide +kernel
theorem dX8_capture_99 : decode cX8_capture 99 = .ok (.iload 4, 2) := by decide +kernel
theorem dX8_capture_101 : decode cX8_capture 101 = .ok (.iload_n 1, 1) := by decide +kernel
theorem dX8_capture_102 : decode cX8_capture 102 = .ok (.iastore, 1) := by decide +kernel
theorem dX8_capture_103 : decode cX8_capture 103 = .ok (.aload_n 0, 1) := by decide +kernel
theorem dX8_capture_104 : decode cX8_capture 104 = .ok (.getfield 41, 3) := by decide +kernel
theorem dX8_capture_107 : decode cX8_capture 107 = .ok (.iload 4, 2) := by decide +kernel
theorem dX8_capture_109 : decode cX8_capture 109 = .ok (.iload_n 2, 1) := by decide +kernel
theorem dX8_capture_110 : decode cX8_capture 110 = .ok (.iastore, 1) := by decide +kernel
theorem dX8_capture_111 : decode cX8_capture 111 = .ok (.aload_n 0, 1) := by decide +kernel
theorem dX8_capture_112 : decode cX8_capture 112 = .ok (.getfield 44, 3) := by decide +kernel
theorem dX8_capture_115 : decode cX8_capture 115 = .ok (.iload 4, 2) := by decide +kernel
theorem dX8_capture_117 : decode cX8_capture 117 = .ok (.aload_n 0, 1) := by decide +kernel
theorem dX8_capture_118 : decode cX8_capture 118 = .ok (.aload_n 0, 1) := by decide +kernel
theorem dX8_capture_119 : decode cX8_capture 119 = .ok (.getfield 7, 3) := by decide +kernel
theorem dX8_capture_122 : decode cX8_capture 122 = .ok (.aload_n 0, 1) := by decide +kernel
theorem dX8_capture_123 : decode cX8_capture 123 = .ok (.getfield 22, 3) := by decide +kernel
theorem dX8_capture_126 : decode cX8_capture 126 = .ok (.iload_n 1, 1) := by decide +kernel
theorem dX8_capture_127 : decode cX8_capture 127 = .ok (.iaload, 1) := by decide +kernel
theorem dX8_capture_128 : decode cX8_capture 128 = .ok (.iaload, 1) := by decide +kernel
theorem dX8_capture_129 : decode cX8_capture 129 = .ok (.iload_n 2, 1) := by decide +kernel
theorem dX8_capture_130 : decode cX8_capture 130 = .ok (.invokevirtual 90, 3) := by decide +kernel
theorem dX8_capture_133 : decode cX8_capture 133 = .ok (.iastore, 1) := by decide +kernel
theorem dX8_capture_134 : decode cX8_capture 134 = .ok (.aload_n 0, 1) := by decide +kernel
theorem dX8_capture_135 : decode cX8_capture 135 = .ok (.getfield 28, 3) := by decide +kernel
theorem dX8_capture_138 : decode cX8_capture 138 = .ok (.iload_n 1, 1) := by decide +kernel
theorem dX8_capture_139 : decode cX8_capture 139 = .ok (.dup2, 1) := by decide +kernel
theorem dX8_capture_140 : decode cX8_capture 140 = .ok (.iaload, 1) := by decide +kernel
theorem dX8_capture_141 : decode cX8_capture 141 = .ok (.iload_n 2, 1) := by decide +kernel
theorem dX8_capture_142 : decode cX8_capture 142 = .ok (.iadd, 1) := by decide +kernel
theorem dX8_capture_143 : decode cX8_capture 143 = .ok (.iastore, 1) := by decide +kernel
theorem dX8_capture_144 : decode cX8_capture 144 = .ok (.aload_n 0, 1) := by decide +kernel
theorem dX8_capture_145 : decode cX8_capture 145 = .ok (.dup, 1) := by decide +kernel
theorem dX8_capture_146 : decode cX8_capture 146 = .ok (.getfield 94, 3) := by decide +kernel
theorem dX8_capture_149 : decode cX8_capture 149 = .ok (.iconst 1, 1) := by decide +kernel
theorem dX8_capture_150 : decode cX8_capture 150 = .ok (.iadd, 1) := by decide +kernel
theorem dX8_capture_151 : decode cX8_capture 151 = .ok (.putfield 94, 3) := by decide +kernel
theorem dX8_capture_154 : decode cX8_capture 154 = .ok (.aload_n 0, 1) := by decide +kernel
theorem dX8_capture_155 : decode cX8_capture 155 = .ok (.dup, 1) := by decide +kernel
theorem dX8_capture_156 : decode cX8_capture 156 = .ok (.getfield 123, 3) := by decide +kernel
theorem dX8_capture_159 : decode cX8_capture 159 = .ok (.aload_n 0, 1) := by decide +kernel
theorem dX8_capture_160 : decode cX8_capture 160 = .ok (.getfield 44, 3) := by decide +kernel
theorem dX8_capture_163 : decode cX8_capture 163 = .ok (.iload 4, 2) := by decide +kernel
theorem dX8_capture_165 : decode cX8_capture 165 = .ok (.iaload, 1) := by decide +kernel
theorem dX8_capture_166 : decode cX8_capture 166 = .ok (.iadd, 1) := by decide +kernel
theorem dX8_capture_167 : decode cX8_capture 167 = .ok (.putfield 123, 3) := by decide +kernel
theorem dX8_capture_170 : decode cX8_capture 170 = .ok (.aload_n 0, 1) := by decide +kernel
theorem dX8_capture_171 : decode cX8_capture 171 = .ok (.aload_n 0, 1) := by decide +kernel
theorem dX8_capture_172 : decode cX8_capture 172 = .ok (.iload 4, 2) := by decide +kernel
theorem dX8_capture_174 : decode cX8_capture 174 = .ok (.invokevirtual 126, 3) := by decide +kernel
theorem dX8_capture_177 : decode cX8_capture 177 = .ok (.aload_n 0, 1) := by decide +kernel
theorem dX8_capture_178 : decode cX8_capture 178 = .ok (.iload 4, 2) := by decide +kernel
theorem dX8_capture_180 : decode cX8_capture 180 = .ok (.invokevirtual 129, 3) := by decide +kernel
theorem dX8_capture_183 : decode cX8_capture 183 = .ok (.iload_n 2, 1) := by decide +kernel
theorem dX8_capture_184 : decode cX8_capture 184 = .ok (.aload_n 0, 1) := by decide +kernel
theorem dX8_capture_185 : decode cX8_capture 185 = .ok (.getfield 44, 3) := by decide +kernel
theorem dX8_capture_188 : decode cX8_capture 188 = .ok (.iload 4, 2) := by decide +kernel
theorem dX8_capture_190 : decode cX8_capture 190 = .ok (.iaload, 1) := by decide +kernel
theorem dX8_capture_191 : decode cX8_capture 191 = .ok (.isub, 1) := by decide +kernel
theorem dX8_capture_192 : decode cX8_capture 192 = .ok (.invokevirtual 132, 3) := by decide +kernel
theorem dX8_capture_195 : decode cX8_capture 195 = .ok (.iload 4, 2) := by decide +kernel
theorem dX8_capture_197 : decode cX8_capture 197 = .ok (.ireturn, 1) := by decide +kernel
set_option maxRecDepth 20000 in
theorem ggX8_cancel_X8_isPayment : GoodIn wsX8_cancel wsX8_isPayment := goodIn_r _ [8, 9, 10, 11, 7, 12, 24, 25, 26, 27, 28, 29, 30, 31, 32, 33, 34, 35, 36, 37, 38, 39, 40, 41, 42, 43, 44, 45, 46, 47, 48] (by decide +kernel) (by decide +kernel)
set_option maxRecDepth 20000 in
theorem gX8_cancel_X8_isPayment : GoodIn wsX8_cancel (wsV RX8 117 RX8 yX8_isPayment wsX8_isPayment) := goodIn_app (goodIn_of _ (by decide +kernel)) ggX8_cancel_X8_isPayment
set_option maxRecDepth 20000 in
theorem ggX8_cancel_X8_isOpen : GoodIn wsX8_cancel wsX8_isOpen := goodIn_r _ [16, 1, 17, 18, 24, 25, 26, 27, 28, 29, 30, 31, 32, 33, 34, 35, 36, 37, 38, 39, 40, 41, 42, 43, 44, 45, 46, 47, 48] (by decide +kernel) (by decide +kernel)
set_option maxRecDepth 20000 in
theorem gX8_cancel_X8_isOpen : GoodIn wsX8_cancel (wsV RX8 120 RX8 yX8_isOpen wsX8_isOpen) := goodIn_app (goodIn_of _ (by decide +kernel)) ggX8_cancel_X8_isOpen
set_option maxRecDepth 20000 in
theorem ggX8_cancel_X8_fails : GoodIn wsX8_cancel wsX8_fails := goodIn_r _ [22, 23, 24, 25, 26, 27, 28, 29, 30, 31, 32, 33, 34, 35, 36, 37, 38, 39, 40, 41, 42, 43, 44, 45, 46, 47, 48] (by decide +kernel) (by decide +kernel)
set_option maxRecDepth 20000 in
theorem gX8_cancel_X8_fails : GoodIn wsX8_cancel (wsV RX8 85 RX8 yX8_fails wsX8_fails) := goodIn_app (goodIn_of _ (by decide +kernel)) ggX8_cancel_X8_fails
theorem dX8_cancel_0 : decode cX8_cancel 0 = .ok (.aload_n 0, 1) := by decide +kernel
theorem dX8_cancel_1 : decode cX8_cancel 1 = .ok (.aload_n 0, 1) := by decide +kernel
theorem dX8_cancel_2 : decode cX8_cancel 2 = .ok (.iload_n 1, 1) := by decide +kernel
theorem dX8_cancel_3 : decode cX8_cancel 3 = .ok (.invokevirtual 117, 3) := by decide +kernel
theorem dX8_cancel_6 : decode cX8_cancel 6 = .ok (.ifCond .ne 7, 3) := by decide +kernel
theorem dX8_cancel_9 : decode cX8_cancel 9 = .ok (.iconst 1, 1) := by decide +kernel
theorem dX8_cancel_10 : decode cX8_cancel 10 = .ok (.goto 16, 3) := by decide +kernel
theorem dX8_cancel_13 : decode cX8_cancel 13 = .ok (.aload_n 0, 1) := by decide +kernel
theorem dX8_cancel_14 : decode cX8_cancel 14 = .ok (.iload_n 1, 1) := by decide +kernel
theorem dX8_cancel_15 : decode cX8_cancel 15 = .ok (.invokevirtual 120, 3) := by decide +kernel
theorem dX8_cancel_18 : decode cX8_cancel 18 = .ok (.ifCond .eq 7, 3) := by decide +kernel
theorem dX8_cancel_21 : decode cX8_cancel 21 = .ok (.iconst 0, 1) := by decide +kernel
theorem dX8_cancel_22 : decode cX8_cancel 22 = .ok (.goto 4, 3) := by decide +kernel
theorem dX8_cancel_25 : decode cX8_cancel 25 = .ok (.iconst 2, 1) := by decide +kernel
theorem dX8_cancel_26 : decode cX8_cancel 26 = .ok (.invokevirtual 85, 3) := by decide +kernel
theorem dX8_cancel_29 : decode cX8_cancel 29 = .ok (.ifCond .eq 5, 3) := by decide +kernel
theorem dX8_cancel_32 : decode cX8_cancel 32 = .ok (.iconst 0, 1) := by decide +kernel
theorem dX8_cancel_33 : decode cX8_cancel 33 = .ok (.ireturn, 1) := by decide +kernel
theorem dX8_cancel_34 : decode cX8_cancel 34 = .ok (.aload_n 0, 1) := by decide +kernel
theorem dX8_cancel_35 : decode cX8_cancel 35 = .ok (.getfield 34, 3) := by decide +kernel
theorem dX8_cancel_38 : decode cX8_cancel 38 = .ok (.iload_n 1, 1) := by decide +kernel
theorem dX8_cancel_39 : decode cX8_cancel 39 = .ok (.iconst 1, 1) := by decide +kernel
theorem dX8_cancel_40 : decode cX8_cancel 40 = .ok (.bastore, 1) := by decide +kernel
theorem dX8_cancel_41 : decode cX8_cancel 41 = .ok (.aload_n 0, 1) := by decide +kernel
theorem dX8_cancel_42 : decode cX8_cancel 42 = .ok (.getfield 25, 3) := by decide +kernel
theorem dX8_cancel_45 : decode cX8_cancel 45 = .ok (.iload_n 1, 1) := by decide +kernel
theorem dX8_cancel_46 : decode cX8_cancel 46 = .ok (.iaload, 1) := by decide +kernel
theorem dX8_cancel_47 : decode cX8_cancel 47 = .ok (.aload_n 0, 1) := by decide +kernel
theorem dX8_cancel_48 : decode cX8_cancel 48 = .ok (.getfield 28, 3) := by decide +kernel
theorem dX8_cancel_51 : decode cX8_cancel 51 = .ok (.iload_n 1, 1) := by decide +kernel
theorem dX8_cancel_52 : decode cX8_cancel 52 = .ok (.iaload, 1) := by decide +kernel
theorem dX8_cancel_53 : decode cX8_cancel 53 = .ok (.isub, 1) := by decide +kernel
theorem dX8_cancel_54 : decode cX8_cancel 54 = .ok (.ireturn, 1) := by decide +kernel
set_option maxRecDepth 20000 in
theorem ggX8_isCapture_X8_isIn : GoodIn wsX8_isCapture wsX8_isIn := goodIn_r _ [5] (by decide +kernel) (by decide +kernel)
set_option maxRecDepth 20000 in
theorem gX8_isCapture_X8_isIn : GoodIn wsX8_isCapture (va_wsS RX8 74 yX8_isIn wsX8_isIn) := goodIn_app (goodIn_of _ (by decide +kernel)) ggX8_isCapture_X8_isIn
theorem dX8_isCapture_0 : decode cX8_isCapture 0 = .ok (.iload_n 1, 1) := by decide +kernel
theorem dX8_isCapture_1 : decode cX8_isCapture 1 = .ok (.iconst 0, 1) := by decide +kernel
theorem dX8_isCapture_2 : decode cX8_isCapture 2 = .ok (.aload_n 0, 1) := by decide +kernel
theorem dX8_isCapture_3 : decode cX8_isCapture 3 = .ok (.getfield 94, 3) := by decide +kernel
theorem dX8_isCapture_6 : decode cX8_isCapture 6 = .ok (.iconst 1, 1) := by decide +kernel
theorem dX8_isCapture_7 : decode cX8_isCapture 7 = .ok (.isub, 1) := by decide +kernel
theorem dX8_isCapture_8 : decode cX8_isCapture 8 = .ok (.invokestatic 74, 3) := by decide +kernel
theorem dX8_isCapture_11 : decode cX8_isCapture 11 = .ok (.ireturn, 1) := by decide +kernel
theorem dX8_givenBack_0 : decode cX8_givenBack 0 = .ok (.aload_n 0, 1) := by decide +kernel
theorem dX8_givenBack_1 : decode cX8_givenBack 1 = .ok (.getfield 47, 3) := by decide +kernel
theorem dX8_givenBack_4 : decode cX8_givenBack 4 = .ok (.iload_n 1, 1) := by decide +kernel
theorem dX8_givenBack_5 : decode cX8_givenBack 5 = .ok (.iaload, 1) := by decide +kernel
theorem dX8_givenBack_6 : decode cX8_givenBack 6 = .ok (.istore_n 2, 1) := by decide +kernel
theorem dX8_givenBack_7 : decode cX8_givenBack 7 = .ok (.iconst 0, 1) := by decide +kernel
theorem dX8_givenBack_8 : decode cX8_givenBack 8 = .ok (.istore_n 3, 1) := by decide +kernel
theorem dX8_givenBack_9 : decode cX8_givenBack 9 = .ok (.iload_n 3, 1) := by decide +kernel
theorem dX8_givenBack_10 : decode cX8_givenBack 10 = .ok (.aload_n 0, 1) := by decide +kernel
theorem dX8_givenBack_11 : decode cX8_givenBack 11 = .ok (.getfield 136, 3) := by decide +kernel
theorem dX8_givenBack_14 : decode cX8_givenBack 14 = .ok (.if_icmp .ge 42, 3) := by decide +kernel
theorem dX8_givenBack_17 : decode cX8_givenBack 17 = .ok (.iload_n 2, 1) := by decide +kernel
theorem dX8_givenBack_18 : decode cX8_givenBack 18 = .ok (.aload_n 0, 1) := by decide +kernel
theorem dX8_givenBack_19 : decode cX8_givenBack 19 = .ok (.getfield 53, 3) := by decide +kernel
theorem dX8_givenBack_22 : decode cX8_givenBack 22 = .ok (.iload_n 3, 1) := by decide +kernel
theorem dX8_givenBack_23 : decode cX8_givenBack 23 = .ok (.iaload, 1) := by decide +kernel
theorem dX8_givenBack_24 : decode cX8_givenBack 24 = .ok (.iload_n 1, 1) := by decide +kernel
theorem dX8_givenBack_25 : decode cX8_givenBack 25 = .ok (.if_icmp .ne 22, 3) := by decide +kernel
theorem dX8_givenBack_28 : decode cX8_givenBack 28 = .ok (.aload_n 0, 1) := by decide +kernel
theorem dX8_givenBack_29 : decode cX8_givenBack 29 = .ok (.getfield 50, 3) := by decide +kernel
theorem dX8_givenBack_32 : decode cX8_givenBack 32 = .ok (.iload_n 3, 1) := by decide +kernel
theorem dX8_givenBack_33 : decode cX8_givenBack 33 = .ok (.iaload, 1) := by decide +kernel
theorem dX8_givenBack_34 : decode cX8_givenBack 34 = .ok (.iconst 4, 1) := by decide +kernel
theorem dX8_givenBack_35 : decode cX8_givenBack 35 = .ok (.if_icmp .eq 12, 3) := by decide +kernel
theorem dX8_givenBack_38 : decode cX8_givenBack 38 = .ok (.aload_n 0, 1) := by decide +kernel
theorem dX8_givenBack_39 : decode cX8_givenBack 39 = .ok (.getfield 56, 3) := by decide +kernel
theorem dX8_givenBack_42 : decode cX8_givenBack 42 = .ok (.iload_n 3, 1) := by decide +kernel
theorem dX8_givenBack_43 : decode cX8_givenBack 43 = .ok (.iaload, 1) := by decide +kernel
theorem dX8_givenBack_44 : decode cX8_givenBack 44 = .ok (.goto 4, 3) := by decide +kernel
theorem dX8_givenBack_47 : decode cX8_givenBack 47 = .ok (.iconst 0, 1) := by decide +kernel
theorem dX8_givenBack_48 : decode cX8_givenBack 48 = .ok (.iadd, 1) := by decide +kernel
theorem dX8_givenBack_49 : decode cX8_givenBack 49 = .ok (.istore_n 2, 1) := by decide +kernel
theorem dX8_givenBack_50 : decode cX8_givenBack 50 = .ok (.iinc 3 1, 3) := by decide +kernel
theorem dX8_givenBack_53 : decode cX8_givenBack 53 = .ok (.goto (-44), 3) := by decide +kernel
theorem dX8_givenBack_56 : decode cX8_givenBack 56 = .ok (.iload_n 2, 1) := by decide +kernel
theorem dX8_givenBack_57 : decode cX8_givenBack 57 = .ok (.ireturn, 1) := by decide +kernel
set_option maxRecDepth 20000 in
theorem ggX8_canGive_X8_isCapture : GoodIn wsX8_canGive wsX8_isCapture := goodIn_r _ [6, 7, 8, 9, 5, 10, 20, 21, 22, 23, 24, 25, 26, 27, 28, 29, 30, 31, 32, 33, 34, 35, 36, 37, 38, 39, 40, 41, 42, 43, 44] (by decide +kernel) (by decide +kernel)
set_option maxRecDepth 20000 in
theorem gX8_canGive_X8_isCapture : GoodIn wsX8_canGive (wsV RX8 139 RX8 yX8_isCapture wsX8_isCapture) := goodIn_app (goodIn_of _ (by decide +kernel)) ggX8_canGive_X8_isCapture
set_option maxRecDepth 20000 in
theorem ggX8_canGive_X8_givenBack : GoodIn wsX8_canGive wsX8_givenBack := goodIn_r _ [14, 15, 16, 17, 18, 19, 20, 21, 22, 23, 24, 25, 26, 27, 28, 29, 30, 31, 32, 33, 34, 35, 36, 37, 38, 39, 40, 41, 42, 43, 44] (by decide +kernel) (by decide +kernel)
set_option maxRecDepth 20000 in
theorem gX8_canGive_X8_givenBack : GoodIn wsX8_canGive (wsV RX8 142 RX8 yX8_givenBack wsX8_givenBack) := goodIn_app (goodIn_of _ (by decide +kernel)) ggX8_canGive_X8_givenBack
theorem dX8_canGive_0 : decode cX8_canGive 0 = .ok (.aload_n 0, 1) := by decide +kernel
theorem dX8_canGive_1 : decode cX8_canGive 1 = .ok (.iload_n 1, 1) := by decide +kernel
theorem dX8_canGive_2 : decode cX8_canGive 2 = .ok (.invokevirtual 139, 3) := by decide +kernel
theorem dX8_canGive_5 : decode cX8_canGive 5 = .ok (.ifCond .eq 23, 3) := by decide +kernel
theorem dX8_canGive_8 : decode cX8_canGive 8 = .ok (.iload_n 2, 1) := by decide +kernel
theorem dX8_canGive_9 : decode cX8_canGive 9 = .ok (.aload_n 0, 1) := by decide +kernel
theorem dX8_canGive_10 : decode cX8_canGive 10 = .ok (.getfield 41, 3) := by decide +kernel
theorem dX8_canGive_13 : decode cX8_canGive 13 = .ok (.iload_n 1, 1) := by decide +kernel
theorem dX8_canGive_14 : decode cX8_canGive 14 = .ok (.iaload, 1) := by decide +kernel
theorem dX8_canGive_15 : decode cX8_canGive 15 = .ok (.aload_n 0, 1) := by decide +kernel
theorem dX8_canGive_16 : decode cX8_canGive 16 = .ok (.iload_n 1, 1) := by decide +kernel
theorem dX8_canGive_17 : decode cX8_canGive 17 = .ok (.invokevirtual 142, 3) := by decide +kernel
theorem dX8_canGive_20 : decode cX8_canGive 20 = .ok (.isub, 1) := by decide +kernel
theorem dX8_canGive_21 : decode cX8_canGive 21 = .ok (.if_icmp .gt 7, 3) := by decide +kernel
theorem dX8_canGive_24 : decode cX8_canGive 24 = .ok (.iconst 1, 1) := by decide +kernel
theorem dX8_canGive_25 : decode cX8_canGive 25 = .ok (.goto 4, 3) := by decide +kernel
theorem dX8_canGive_28 : decode cX8_canGive 28 = .ok (.iconst 0, 1) := by decide +kernel
theorem dX8_canGive_29 : decode cX8_canGive 29 = .ok (.ireturn, 1) := by decide +kernel
set_option maxRecDepth 20000 in
theorem ggX8_refund_X8_isCapture : GoodIn wsX8_refund wsX8_isCapture := goodIn_r _ [6, 7, 8, 9, 5, 10, 50, 51, 52, 53, 54, 55, 56, 57, 58, 59, 60, 61, 62, 63, 64, 65, 66, 67, 68, 69, 70, 71, 72, 73, 74] (by decide +kernel) (by decide +kernel)
set_option maxRecDepth 20000 in
theorem gX8_refund_X8_isCapture : GoodIn wsX8_refund (wsV RX8 139 RX8 yX8_isCapture wsX8_isCapture) := goodIn_app (goodIn_of _ (by decide +kernel)) ggX8_refund_X8_isCapture
set_option maxRecDepth 20000 in
theorem ggX8_refund_X8_isAmount : GoodIn wsX8_refund wsX8_isAmount := goodIn_r _ [13, 14, 8, 9, 5, 10] (by decide +kernel) (by decide +kernel)
set_option maxRecDepth 20000 in
theorem gX8_refund_X8_isAmount : GoodIn wsX8_refund (va_wsS RX8 104 yX8_isAmount wsX8_isAmount) := goodIn_app (goodIn_of _ (by decide +kernel)) ggX8_refund_X8_isAmount
set_option maxRecDepth 20000 in
theorem ggX8_refund_X8_canGive : GoodIn wsX8_refund wsX8_canGive := goodIn_r _ [18, 19, 2, 3, 4, 5, 6, 7, 8, 9, 10, 20, 21, 22, 23, 1, 24, 25, 26, 27, 50, 51, 52, 53, 54, 55, 56, 57, 58, 59, 60, 61, 62, 63, 64, 65, 66, 67, 68, 69, 70, 71, 72, 73, 74] (by decide +kernel) (by decide +kernel)
set_option maxRecDepth 20000 in
theorem gX8_refund_X8_canGive : GoodIn wsX8_refund (wsV RX8 145 RX8 yX8_canGive wsX8_canGive) := goodIn_app (goodIn_of _ (by decide +kernel)) ggX8_refund_X8_canGive
set_option maxRecDepth 20000 in
theorem ggX8_refund_X8_fails : GoodIn wsX8_refund wsX8_fails := goodIn_r _ [31, 32, 50, 51, 52, 53, 54, 55, 56, 57, 58, 59, 60, 61, 62, 63, 64, 65, 66, 67, 68, 69, 70, 71, 72, 73, 74] (by decide +kernel) (by decide +kernel)
set_option maxRecDepth 20000 in
theorem gX8_refund_X8_fails : GoodIn wsX8_refund (wsV RX8 85 RX8 yX8_fails wsX8_fails) := goodIn_app (goodIn_of _ (by decide +kernel)) ggX8_refund_X8_fails
set_option maxRecDepth 20000 in
theorem ggX8_refund_X8_shopBank : GoodIn wsX8_refund wsX8_shopBank := goodIn_r _ [36, 37, 38, 50, 51, 52, 53, 54, 55, 56, 57, 58, 59, 60, 61, 62, 63, 64, 65, 66, 67, 68, 69, 70, 71, 72, 73, 74] (by decide +kernel) (by decide +kernel)
set_option maxRecDepth 20000 in
theorem gX8_refund_X8_shopBank : GoodIn wsX8_refund (wsV RX8 129 RX8 yX8_shopBank wsX8_shopBank) := goodIn_app (goodIn_of _ (by decide +kernel)) ggX8_refund_X8_shopBank
set_option maxRecDepth 20000 in
theorem ggX8_refund_X8_cardBank : GoodIn wsX8_refund wsX8_cardBank := goodIn_r _ [42, 43, 38, 50, 51, 52, 53, 54, 55, 56, 57, 58, 59, 60, 61, 62, 63, 64, 65, 66, 67, 68, 69, 70, 71, 72, 73, 74] (by decide +kernel) (by decide +kernel)
set_option maxRecDepth 20000 in
theorem gX8_refund_X8_cardBank : GoodIn wsX8_refund (wsV RX8 126 RX8 yX8_cardBank wsX8_cardBank) := goodIn_app (goodIn_of _ (by decide +kernel)) ggX8_refund_X8_cardBank
set_option maxRecDepth 20000 in
theorem ggX8_refund_X8_pays : GoodIn wsX8_refund wsX8_pays := goodIn_r _ [47, 48, 49, 50, 51, 52, 53, 54, 55, 56, 57, 58, 59, 60, 61, 62, 63, 64, 65, 66, 67, 68, 69, 70, 71, 72, 73, 74] (by decide +kernel) (by decide +kernel)
set_option maxRecDepth 20000 in
theorem gX8_refund_X8_pays : GoodIn wsX8_refund (wsV RX8 132 RX8 yX8_pays wsX8_pays) := goodIn_app (goodIn_of _ (by decide +kernel)) ggX8_refund_X8_pays
set_option maxRecDepth 20000 in
theorem ggX8_refund_X8_givenBack : GoodIn wsX8_refund wsX8_givenBack := goodIn_r _ [23, 1, 24, 25, 26, 27, 50, 51, 52, 53, 54, 55, 56, 57, 58, 59, 60, 61, 62, 63, 64, 65, 66, 67, 68, 69, 70, 71, 72, 73, 74] (by decide +kernel) (by decide +kernel)
set_option maxRecDepth 20000 in
theorem gX8_refund_X8_givenBack : GoodIn wsX8_refund (wsV RX8 142 RX8 yX8_givenBack wsX8_givenBack) := goodIn_app (goodIn_of _ (by decide +kernel)) ggX8_refund_X8_givenBack
theorem dX8_refund_0 : decode cX8_refund 0 = .ok (.aload_n 0, 1) := by decide +kernel
theorem dX8_refund_1 : decode cX8_refund 1 = .ok (.aload_n 0, 1) := by decide +kernel
theorem dX8_refund_2 : decode cX8_refund 2 = .ok (.iload_n 1, 1) := by decide +kernel
theorem dX8_refund_3 : decode cX8_refund 3 = .ok (.invokevirtual 139, 3) := by decide +kernel
theorem dX8_refund_6 : decode cX8_refund 6 = .ok (.ifCond .ne 7, 3) := by decide +kernel
theorem dX8_refund_9 : decode cX8_refund 9 = .ok (.iconst 1, 1) := by decide +kernel
theorem dX8_refund_10 : decode cX8_refund 10 = .ok (.goto 28, 3) := by decide +kernel
theorem dX8_refund_13 : decode cX8_refund 13 = .ok (.iload_n 2, 1) := by decide +kernel
theorem dX8_refund_14 : decode cX8_refund 14 = .ok (.invokestatic 104, 3) := by decide +kernel
theorem dX8_refund_17 : decode cX8_refund 17 = .ok (.ifCond .ne 7, 3) := by decide +kernel
theorem dX8_refund_20 : decode cX8_refund 20 = .ok (.iconst 2, 1) := by decide +kernel
theorem dX8_refund_21 : decode cX8_refund 21 = .ok (.goto 17, 3) := by decide +kernel
theorem dX8_refund_24 : decode cX8_refund 24 = .ok (.aload_n 0, 1) := by decide +kernel
theorem dX8_refund_25 : decode cX8_refund 25 = .ok (.iload_n 1, 1) := by decide +kernel
theorem dX8_refund_26 : decode cX8_refund 26 = .ok (.iload_n 2, 1) := by decide +kernel
theorem dX8_refund_27 : decode cX8_refund 27 = .ok (.invokevirtual 145, 3) := by decide +kernel
theorem dX8_refund_30 : decode cX8_refund 30 = .ok (.ifCond .eq 7, 3) := by decide +kernel
theorem dX8_refund_33 : decode cX8_refund 33 = .ok (.iconst 0, 1) := by decide +kernel
theorem dX8_refund_34 : decode cX8_refund 34 = .ok (.goto 4, 3) := by decide +kernel
theorem dX8_refund_37 : decode cX8_refund 37 = .ok (.iconst 3, 1) := by decide +kernel
theorem dX8_refund_38 : decode cX8_refund 38 = .ok (.invokevirtual 85, 3) := by decide +kernel
theorem dX8_refund_41 : decode cX8_refund 41 = .ok (.ifCond .eq 5, 3) := by decide +kernel
theorem dX8_refund_44 : decode cX8_refund 44 = .ok (.iconst 0, 1) := by decide +kernel
theorem dX8_refund_45 : decode cX8_refund 45 = .ok (.ireturn, 1) := by decide +kernel
theorem dX8_refund_46 : decode cX8_refund 46 = .ok (.aload_n 0, 1) := by decide +kernel
theorem dX8_refund_47 : decode cX8_refund 47 = .ok (.getfield 47, 3) := by decide +kernel
theorem dX8_refund_50 : decode cX8_refund 50 = .ok (.iload_n 1, 1) := by decide +kernel
theorem dX8_refund_51 : decode cX8_refund 51 = .ok (.dup2, 1) := by decide +kernel
theorem dX8_refund_52 : decode cX8_refund 52 = .ok (.iaload, 1) := by decide +kernel
theorem dX8_refund_53 : decode cX8_refund 53 = .ok (.iload_n 2, 1) := by decide +kernel
theorem dX8_refund_54 : decode cX8_refund 54 = .ok (.iadd, 1) := by decide +kernel
theorem dX8_refund_55 : decode cX8_refund 55 = .ok (.iastore, 1) := by decide +kernel
theorem dX8_refund_56 : decode cX8_refund 56 = .ok (.aload_n 0, 1) := by decide +kernel
theorem dX8_refund_57 : decode cX8_refund 57 = .ok (.aload_n 0, 1) := by decide +kernel
theorem dX8_refund_58 : decode cX8_refund 58 = .ok (.iload_n 1, 1) := by decide +kernel
theorem dX8_refund_59 : decode cX8_refund 59 = .ok (.invokevirtual 129, 3) := by decide +kernel
theorem dX8_refund_62 : decode cX8_refund 62 = .ok (.aload_n 0, 1) := by decide +kernel
theorem dX8_refund_63 : decode cX8_refund 63 = .ok (.iload_n 1, 1) := by decide +kernel
theorem dX8_refund_64 : decode cX8_refund 64 = .ok (.invokevirtual 126, 3) := by decide +kernel
theorem dX8_refund_67 : decode cX8_refund 67 = .ok (.iload_n 2, 1) := by decide +kernel
theorem dX8_refund_68 : decode cX8_refund 68 = .ok (.invokevirtual 132, 3) := by decide +kernel
theorem dX8_refund_71 : decode cX8_refund 71 = .ok (.aload_n 0, 1) := by decide +kernel
theorem dX8_refund_72 : decode cX8_refund 72 = .ok (.iload_n 1, 1) := by decide +kernel
theorem dX8_refund_73 : decode cX8_refund 73 = .ok (.invokevirtual 142, 3) := by decide +kernel
theorem dX8_refund_76 : decode cX8_refund 76 = .ok (.ireturn, 1) := by decide +kernel
set_option maxRecDepth 20000 in
theorem ggX8_dispute_X8_canGive : GoodIn wsX8_dispute wsX8_canGive := goodIn_r _ [11, 12, 13, 14, 15, 10, 16, 17, 18, 19, 20, 21, 22, 23, 24, 25, 1, 3, 2, 4, 52, 53, 54, 55, 56, 57, 58, 59, 60, 61, 62, 63, 64, 65, 66, 67, 68, 69, 70, 71, 72, 73, 74, 75, 76] (by decide +kernel) (by decide +kernel)
set_option maxRecDepth 20000 in
theorem gX8_dispute_X8_canGive : GoodIn wsX8_dispute (wsV RX8 145 RX8 yX8_canGive wsX8_canGive) := goodIn_app (goodIn_of _ (by decide +kernel)) ggX8_dispute_X8_canGive
set_option maxRecDepth 20000 in
theorem ggX8_dispute_X8_isCapture : GoodIn wsX8_dispute wsX8_isCapture := goodIn_r _ [16, 17, 18, 19, 10, 20, 52, 53, 54, 55, 56, 57, 58, 59, 60, 61, 62, 63, 64, 65, 66, 67, 68, 69, 70, 71, 72, 73, 74, 75, 76] (by decide +kernel) (by decide +kernel)
set_option maxRecDepth 20000 in
theorem gX8_dispute_X8_isCapture : GoodIn wsX8_dispute (wsV RX8 139 RX8 yX8_isCapture wsX8_isCapture) := goodIn_app (goodIn_of _ (by decide +kernel)) ggX8_dispute_X8_isCapture
set_option maxRecDepth 20000 in
theorem ggX8_dispute_X8_isAmount : GoodIn wsX8_dispute wsX8_isAmount := goodIn_r _ [28, 29, 18, 19, 10, 20] (by decide +kernel) (by decide +kernel)
set_option maxRecDepth 20000 in
theorem gX8_dispute_X8_isAmount : GoodIn wsX8_dispute (va_wsS RX8 104 yX8_isAmount wsX8_isAmount) := goodIn_app (goodIn_of _ (by decide +kernel)) ggX8_dispute_X8_isAmount
set_option maxRecDepth 20000 in
theorem ggX8_dispute_X8_fails : GoodIn wsX8_dispute wsX8_fails := goodIn_r _ [33, 34, 52, 53, 54, 55, 56, 57, 58, 59, 60, 61, 62, 63, 64, 65, 66, 67, 68, 69, 70, 71, 72, 73, 74, 75, 76] (by decide +kernel) (by decide +kernel)
set_option maxRecDepth 20000 in
theorem gX8_dispute_X8_fails : GoodIn wsX8_dispute (wsV RX8 85 RX8 yX8_fails wsX8_fails) := goodIn_app (goodIn_of _ (by decide +kernel)) ggX8_dispute_X8_fails
set_option maxRecDepth 20000 in
theorem ggX8_dispute_X8_shopBank : GoodIn wsX8_dispute wsX8_shopBank := goodIn_r _ [38, 39, 40, 52, 53, 54, 55, 56, 57, 58, 59, 60, 61, 62, 63, 64, 65, 66, 67, 68, 69, 70, 71, 72, 73, 74, 75, 76] (by decide +kernel) (by decide +kernel)
set_option maxRecDepth 20000 in
theorem gX8_dispute_X8_shopBank : GoodIn wsX8_dispute (wsV RX8 129 RX8 yX8_shopBank wsX8_shopBank) := goodIn_app (goodIn_of _ (by decide +kernel)) ggX8_dispute_X8_shopBank
set_option maxRecDepth 20000 in
theorem ggX8_dispute_X8_cardBank : GoodIn wsX8_dispute wsX8_cardBank := goodIn_r _ [44, 45, 40, 52, 53, 54, 55, 56, 57, 58, 59, 60, 61, 62, 63, 64, 65, 66, 67, 68, 69, 70, 71, 72, 73, 74, 75, 76] (by decide +kernel) (by decide +kernel)
set_option maxRecDepth 20000 in
theorem gX8_dispute_X8_cardBank : GoodIn wsX8_dispute (wsV RX8 126 RX8 yX8_cardBank wsX8_cardBank) := goodIn_app (goodIn_of _ (by decide +kernel)) ggX8_dispute_X8_cardBank
set_option maxRecDepth 20000 in
theorem ggX8_dispute_X8_pays : GoodIn wsX8_dispute wsX8_pays := goodIn_r _ [49, 50, 51, 52, 53, 54, 55, 56, 57, 58, 59, 60, 61, 62, 63, 64, 65, 66, 67, 68, 69, 70, 71, 72, 73, 74, 75, 76] (by decide +kernel) (by decide +kernel)
set_option maxRecDepth 20000 in
theorem gX8_dispute_X8_pays : GoodIn wsX8_dispute (wsV RX8 132 RX8 yX8_pays wsX8_pays) := goodIn_app (goodIn_of _ (by decide +kernel)) ggX8_dispute_X8_pays
theorem dX8_dispute_0 : decode cX8_dispute 0 = .ok (.aload_n 0, 1) := by decide +kernel
theorem dX8_dispute_1 : decode cX8_dispute 1 = .ok (.iload_n 1, 1) := by decide +kernel
theorem dX8_dispute_2 : decode cX8_dispute 2 = .ok (.iload_n 2, 1) := by decide +kernel
theorem dX8_dispute_3 : decode cX8_dispute 3 = .ok (.invokevirtual 145, 3) := by decide +kernel
theorem dX8_dispute_6 : decode cX8_dispute 6 = .ok (.ifCond .eq 16, 3) := by decide +kernel
theorem dX8_dispute_9 : decode cX8_dispute 9 = .ok (.aload_n 0, 1) := by decide +kernel
theorem dX8_dispute_10 : decode cX8_dispute 10 = .ok (.getfield 136, 3) := by decide +kernel
theorem dX8_dispute_13 : decode cX8_dispute 13 = .ok (.bipush 60, 2) := by decide +kernel
theorem dX8_dispute_15 : decode cX8_dispute 15 = .ok (.if_icmp .ge 7, 3) := by decide +kernel
theorem dX8_dispute_18 : decode cX8_dispute 18 = .ok (.iconst 1, 1) := by decide +kernel
theorem dX8_dispute_19 : decode cX8_dispute 19 = .ok (.goto 4, 3) := by decide +kernel
theorem dX8_dispute_22 : decode cX8_dispute 22 = .ok (.iconst 0, 1) := by decide +kernel
theorem dX8_dispute_23 : decode cX8_dispute 23 = .ok (.istore_n 3, 1) := by decide +kernel
theorem dX8_dispute_24 : decode cX8_dispute 24 = .ok (.aload_n 0, 1) := by decide +kernel
theorem dX8_dispute_25 : decode cX8_dispute 25 = .ok (.aload_n 0, 1) := by decide +kernel
theorem dX8_dispute_26 : decode cX8_dispute 26 = .ok (.iload_n 1, 1) := by decide +kernel
theorem dX8_dispute_27 : decode cX8_dispute 27 = .ok (.invokevirtual 139, 3) := by decide +kernel
theorem dX8_dispute_30 : decode cX8_dispute 30 = .ok (.ifCond .ne 7, 3) := by decide +kernel
theorem dX8_dispute_33 : decode cX8_dispute 33 = .ok (.iconst 1, 1) := by decide +kernel
theorem dX8_dispute_34 : decode cX8_dispute 34 = .ok (.goto 23, 3) := by decide +kernel
theorem dX8_dispute_37 : decode cX8_dispute 37 = .ok (.iload_n 2, 1) := by decide +kernel
theorem dX8_dispute_38 : decode cX8_dispute 38 = .ok (.invokestatic 104, 3) := by decide +kernel
theorem dX8_dispute_41 : decode cX8_dispute 41 = .ok (.ifCond .ne 7, 3) := by decide +kernel
theorem dX8_dispute_44 : decode cX8_dispute 44 = .ok (.iconst 2, 1) := by decide +kernel
theorem dX8_dispute_45 : decode cX8_dispute 45 = .ok (.goto 12, 3) := by decide +kernel
theorem dX8_dispute_48 : decode cX8_dispute 48 = .ok (.iload_n 3, 1) := by decide +kernel
theorem dX8_dispute_49 : decode cX8_dispute 49 = .ok (.ifCond .eq 7, 3) := by decide +kernel
theorem dX8_dispute_52 : decode cX8_dispute 52 = .ok (.iconst 0, 1) := by decide +kernel
theorem dX8_dispute_53 : decode cX8_dispute 53 = .ok (.goto 4, 3) := by decide +kernel
theorem dX8_dispute_56 : decode cX8_dispute 56 = .ok (.iconst 3, 1) := by decide +kernel
theorem dX8_dispute_57 : decode cX8_dispute 57 = .ok (.invokevirtual 85, 3) := by decide +kernel
theorem dX8_dispute_60 : decode cX8_dispute 60 = .ok (.ifCond .eq 5, 3) := by decide +kernel
theorem dX8_dispute_63 : decode cX8_dispute 63 = .ok (.iconst 0, 1) := by decide +kernel
theorem dX8_dispute_64 : decode cX8_dispute 64 = .ok (.ireturn, 1) := by decide +kernel
theorem dX8_dispute_65 : decode cX8_dispute 65 = .ok (.aload_n 0, 1) := by decide +kernel
theorem dX8_dispute_66 : decode cX8_dispute 66 = .ok (.getfield 136, 3) := by decide +kernel
theorem dX8_dispute_69 : decode cX8_dispute 69 = .ok (.istore 4, 2) := by decide +kernel
theorem dX8_dispute_71 : decode cX8_dispute 71 = .ok (.aload_n 0, 1) := by decide +kernel
theorem dX8_dispute_72 : decode cX8_dispute 72 = .ok (.getfield 50, 3) := by decide +kernel
theorem dX8_dispute_75 : decode cX8_dispute 75 = .ok (.iload 4, 2) := by decide +kernel
theorem dX8_dispute_77 : decode cX8_dispute 77 = .ok (.iconst 0, 1) := by decide +kernel
theorem dX8_dispute_78 : decode cX8_dispute 78 = .ok (.iastore, 1) := by decide +kernel
theorem dX8_dispute_79 : decode cX8_dispute 79 = .ok (.aload_n 0, 1) := by decide +kernel
theorem dX8_dispute_80 : decode cX8_dispute 80 = .ok (.getfield 53, 3) := by decide +kernel
theorem dX8_dispute_83 : decode cX8_dispute 83 = .ok (.iload 4, 2) := by decide +kernel
theorem dX8_dispute_85 : decode cX8_dispute 85 = .ok (.iload_n 1, 1) := by decide +kernel
theorem dX8_dispute_86 : decode cX8_dispute 86 = .ok (.iastore, 1) := by decide +kernel
theorem dX8_dispute_87 : decode cX8_dispute 87 = .ok (.aload_n 0, 1) := by decide +kernel
theorem dX8_dispute_88 : decode cX8_dispute 88 = .ok (.getfield 56, 3) := by decide +kernel
theorem dX8_dispute_91 : decode cX8_dispute 91 = .ok (.iload 4, 2) := by decide +kernel
theorem dX8_dispute_93 : decode cX8_dispute 93 = .ok (.iload_n 2, 1) := by decide +kernel
theorem dX8_dispute_94 : decode cX8_dispute 94 = .ok (.iastore, 1) := by decide +kernel
theorem dX8_dispute_95 : decode cX8_dispute 95 = .ok (.aload_n 0, 1) := by decide +kernel
theorem dX8_dispute_96 : decode cX8_dispute 96 = .ok (.getfield 59, 3) := by decide +kernel
theorem dX8_dispute_99 : decode cX8_dispute 99 = .ok (.iload 4, 2) := by decide +kernel
theorem dX8_dispute_101 : decode cX8_dispute 101 = .ok (.aload_n 0, 1) := by decide +kernel
theorem dX8_dispute_102 : decode cX8_dispute 102 = .ok (.getfield 114, 3) := by decide +kernel
theorem dX8_dispute_105 : decode cX8_dispute 105 = .ok (.bipush 10, 2) := by decide +kernel
theorem dX8_dispute_107 : decode cX8_dispute 107 = .ok (.iadd, 1) := by decide +kernel
theorem dX8_dispute_108 : decode cX8_dispute 108 = .ok (.iastore, 1) := by decide +kernel
theorem dX8_dispute_109 : decode cX8_dispute 109 = .ok (.aload_n 0, 1) := by decide +kernel
theorem dX8_dispute_110 : decode cX8_dispute 110 = .ok (.dup, 1) := by decide +kernel
theorem dX8_dispute_111 : decode cX8_dispute 111 = .ok (.getfield 136, 3) := by decide +kernel
theorem dX8_dispute_114 : decode cX8_dispute 114 = .ok (.iconst 1, 1) := by decide +kernel
theorem dX8_dispute_115 : decode cX8_dispute 115 = .ok (.iadd, 1) := by decide +kernel
theorem dX8_dispute_116 : decode cX8_dispute 116 = .ok (.putfield 136, 3) := by decide +kernel
theorem dX8_dispute_119 : decode cX8_dispute 119 = .ok (.aload_n 0, 1) := by decide +kernel
theorem dX8_dispute_120 : decode cX8_dispute 120 = .ok (.aload_n 0, 1) := by decide +kernel
theorem dX8_dispute_121 : decode cX8_dispute 121 = .ok (.iload_n 1, 1) := by decide +kernel
theorem dX8_dispute_122 : decode cX8_dispute 122 = .ok (.invokevirtual 129, 3) := by decide +kernel
theorem dX8_dispute_125 : decode cX8_dispute 125 = .ok (.aload_n 0, 1) := by decide +kernel
theorem dX8_dispute_126 : decode cX8_dispute 126 = .ok (.iload_n 1, 1) := by decide +kernel
theorem dX8_dispute_127 : decode cX8_dispute 127 = .ok (.invokevirtual 126, 3) := by decide +kernel
theorem dX8_dispute_130 : decode cX8_dispute 130 = .ok (.iload_n 2, 1) := by decide +kernel
theorem dX8_dispute_131 : decode cX8_dispute 131 = .ok (.invokevirtual 132, 3) := by decide +kernel
theorem dX8_dispute_134 : decode cX8_dispute 134 = .ok (.iload 4, 2) := by decide +kernel
theorem dX8_dispute_136 : decode cX8_dispute 136 = .ok (.ireturn, 1) := by decide +kernel
set_option maxRecDepth 20000 in
theorem ggX8_misses_X8_isIn : GoodIn wsX8_misses wsX8_isIn := goodIn_r _ [6] (by decide +kernel) (by decide +kernel)
set_option maxRecDepth 20000 in
theorem gX8_misses_X8_isIn : GoodIn wsX8_misses (va_wsS RX8 74 yX8_isIn wsX8_isIn) := goodIn_app (goodIn_of _ (by decide +kernel)) ggX8_misses_X8_isIn
theorem dX8_misses_0 : decode cX8_misses 0 = .ok (.iload_n 1, 1) := by decide +kernel
theorem dX8_misses_1 : decode cX8_misses 1 = .ok (.iconst 0, 1) := by decide +kernel
theorem dX8_misses_2 : decode cX8_misses 2 = .ok (.aload_n 0, 1) := by decide +kernel
theorem dX8_misses_3 : decode cX8_misses 3 = .ok (.getfield 136, 3) := by decide +kernel
end
section
theorem dX8_misses_6 : decode cX8_misses 6 = .ok (.iconst 1, 1) := by decide +kernel
theorem dX8_misses_7 : decode cX8_misses 7 = .ok (.isub, 1) := by decide +kernel
theorem dX8_misses_8 : decode cX8_misses 8 = .ok (.invokestatic 74, 3) := by decide +kernel
theorem dX8_misses_11 : decode cX8_misses 11 = .ok (.ifCond .ne 7, 3) := by decide +kernel
theorem dX8_misses_14 : decode cX8_misses 14 = .ok (.iconst 1, 1) := by decide +kernel
theorem dX8_misses_15 : decode cX8_misses 15 = .ok (.goto 18, 3) := by decide +kernel
theorem dX8_misses_18 : decode cX8_misses 18 = .ok (.aload_n 0, 1) := by decide +kernel
theorem dX8_misses_19 : decode cX8_misses 19 = .ok (.getfield 50, 3) := by decide +kernel
theorem dX8_misses_22 : decode cX8_misses 22 = .ok (.iload_n 1, 1) := by decide +kernel
theorem dX8_misses_23 : decode cX8_misses 23 = .ok (.iaload, 1) := by decide +kernel
theorem dX8_misses_24 : decode cX8_misses 24 = .ok (.iload_n 2, 1) := by decide +kernel
theorem dX8_misses_25 : decode cX8_misses 25 = .ok (.if_icmp .eq 7, 3) := by decide +kernel
theorem dX8_misses_28 : decode cX8_misses 28 = .ok (.iconst 2, 1) := by decide +kernel
theorem dX8_misses_29 : decode cX8_misses 29 = .ok (.goto 4, 3) := by decide +kernel
theorem dX8_misses_32 : decode cX8_misses 32 = .ok (.iconst 0, 1) := by decide +kernel
theorem dX8_misses_33 : decode cX8_misses 33 = .ok (.ireturn, 1) := by decide +kernel
set_option maxRecDepth 20000 in
theorem ggX8_paysBack_X8_cardBank : GoodIn wsX8_paysBack wsX8_cardBank := goodIn_r _ [7, 8, 9, 21, 22, 23, 24, 25, 26, 27, 28, 29, 30, 31, 32, 33, 34, 35, 36, 37, 38, 39, 40, 41, 42, 43, 44, 45] (by decide +kernel) (by decide +kernel)
set_option maxRecDepth 20000 in
theorem gX8_paysBack_X8_cardBank : GoodIn wsX8_paysBack (wsV RX8 126 RX8 yX8_cardBank wsX8_cardBank) := goodIn_app (goodIn_of _ (by decide +kernel)) ggX8_paysBack_X8_cardBank
set_option maxRecDepth 20000 in
theorem ggX8_paysBack_X8_shopBank : GoodIn wsX8_paysBack wsX8_shopBank := goodIn_r _ [13, 14, 9, 21, 22, 23, 24, 25, 26, 27, 28, 29, 30, 31, 32, 33, 34, 35, 36, 37, 38, 39, 40, 41, 42, 43, 44, 45] (by decide +kernel) (by decide +kernel)
set_option maxRecDepth 20000 in
theorem gX8_paysBack_X8_shopBank : GoodIn wsX8_paysBack (wsV RX8 129 RX8 yX8_shopBank wsX8_shopBank) := goodIn_app (goodIn_of _ (by decide +kernel)) ggX8_paysBack_X8_shopBank
set_option maxRecDepth 20000 in
theorem ggX8_paysBack_X8_pays : GoodIn wsX8_paysBack wsX8_pays := goodIn_r _ [18, 19, 20, 21, 22, 23, 24, 25, 26, 27, 28, 29, 30, 31, 32, 33, 34, 35, 36, 37, 38, 39, 40, 41, 42, 43, 44, 45] (by decide +kernel) (by decide +kernel)
set_option maxRecDepth 20000 in
theorem gX8_paysBack_X8_pays : GoodIn wsX8_paysBack (wsV RX8 132 RX8 yX8_pays wsX8_pays) := goodIn_app (goodIn_of _ (by decide +kernel)) ggX8_paysBack_X8_pays
theorem dX8_paysBack_0 : decode cX8_paysBack 0 = .ok (.aload_n 0, 1) := by decide +kernel
theorem dX8_paysBack_1 : decode cX8_paysBack 1 = .ok (.aload_n 0, 1) := by decide +kernel
theorem dX8_paysBack_2 : decode cX8_paysBack 2 = .ok (.aload_n 0, 1) := by decide +kernel
theorem dX8_paysBack_3 : decode cX8_paysBack 3 = .ok (.getfield 53, 3) := by decide +kernel
theorem dX8_paysBack_6 : decode cX8_paysBack 6 = .ok (.iload_n 1, 1) := by decide +kernel
theorem dX8_paysBack_7 : decode cX8_paysBack 7 = .ok (.iaload, 1) := by decide +kernel
theorem dX8_paysBack_8 : decode cX8_paysBack 8 = .ok (.invokevirtual 126, 3) := by decide +kernel
theorem dX8_paysBack_11 : decode cX8_paysBack 11 = .ok (.aload_n 0, 1) := by decide +kernel
theorem dX8_paysBack_12 : decode cX8_paysBack 12 = .ok (.aload_n 0, 1) := by decide +kernel
theorem dX8_paysBack_13 : decode cX8_paysBack 13 = .ok (.getfield 53, 3) := by decide +kernel
theorem dX8_paysBack_16 : decode cX8_paysBack 16 = .ok (.iload_n 1, 1) := by decide +kernel
theorem dX8_paysBack_17 : decode cX8_paysBack 17 = .ok (.iaload, 1) := by decide +kernel
theorem dX8_paysBack_18 : decode cX8_paysBack 18 = .ok (.invokevirtual 129, 3) := by decide +kernel
theorem dX8_paysBack_21 : decode cX8_paysBack 21 = .ok (.aload_n 0, 1) := by decide +kernel
theorem dX8_paysBack_22 : decode cX8_paysBack 22 = .ok (.getfield 56, 3) := by decide +kernel
theorem dX8_paysBack_25 : decode cX8_paysBack 25 = .ok (.iload_n 1, 1) := by decide +kernel
theorem dX8_paysBack_26 : decode cX8_paysBack 26 = .ok (.iaload, 1) := by decide +kernel
theorem dX8_paysBack_27 : decode cX8_paysBack 27 = .ok (.invokevirtual 132, 3) := by decide +kernel
theorem dX8_paysBack_30 : decode cX8_paysBack 30 = .ok (.return_, 1) := by decide +kernel
set_option maxRecDepth 20000 in
theorem ggX8_answer_X8_misses : GoodIn wsX8_answer wsX8_misses := goodIn_r _ [8, 9, 1, 10, 11, 7, 12, 41, 42, 43, 44, 45, 46, 47, 48, 49, 50, 51, 52, 53, 54, 55, 56, 57, 58, 59, 60, 61, 62, 63, 64, 65] (by decide +kernel) (by decide +kernel)
set_option maxRecDepth 20000 in
theorem gX8_answer_X8_misses : GoodIn wsX8_answer (wsV RX8 149 RX8 yX8_misses wsX8_misses) := goodIn_app (goodIn_of _ (by decide +kernel)) ggX8_answer_X8_misses
set_option maxRecDepth 20000 in
theorem ggX8_answer_X8_fails : GoodIn wsX8_answer wsX8_fails := goodIn_r _ [16, 17, 41, 42, 43, 44, 45, 46, 47, 48, 49, 50, 51, 52, 53, 54, 55, 56, 57, 58, 59, 60, 61, 62, 63, 64, 65] (by decide +kernel) (by decide +kernel)
set_option maxRecDepth 20000 in
theorem gX8_answer_X8_fails : GoodIn wsX8_answer (wsV RX8 85 RX8 yX8_fails wsX8_fails) := goodIn_app (goodIn_of _ (by decide +kernel)) ggX8_answer_X8_fails
set_option maxRecDepth 20000 in
theorem ggX8_answer_X8_paysBack : GoodIn wsX8_answer wsX8_paysBack := goodIn_r _ [21, 22, 23, 24, 25, 26, 7, 27, 28, 29, 30, 31, 32, 33, 34, 35, 36, 37, 38, 39, 40, 41, 42, 43, 44, 45, 46, 47, 48, 49, 50, 51, 52, 53, 54, 55, 56, 57, 58, 59, 60, 61, 62, 63, 64, 65] (by decide +kernel) (by decide +kernel)
set_option maxRecDepth 20000 in
theorem gX8_answer_X8_paysBack : GoodIn wsX8_answer (wsV RX8 152 RX8 yX8_paysBack wsX8_paysBack) := goodIn_app (goodIn_of _ (by decide +kernel)) ggX8_answer_X8_paysBack
theorem dX8_answer_0 : decode cX8_answer 0 = .ok (.aload_n 0, 1) := by decide +kernel
theorem dX8_answer_1 : decode cX8_answer 1 = .ok (.aload_n 0, 1) := by decide +kernel
theorem dX8_answer_2 : decode cX8_answer 2 = .ok (.iload_n 1, 1) := by decide +kernel
theorem dX8_answer_3 : decode cX8_answer 3 = .ok (.iconst 0, 1) := by decide +kernel
theorem dX8_answer_4 : decode cX8_answer 4 = .ok (.invokevirtual 149, 3) := by decide +kernel
theorem dX8_answer_7 : decode cX8_answer 7 = .ok (.invokevirtual 85, 3) := by decide +kernel
theorem dX8_answer_10 : decode cX8_answer 10 = .ok (.ifCond .eq 5, 3) := by decide +kernel
theorem dX8_answer_13 : decode cX8_answer 13 = .ok (.iconst 0, 1) := by decide +kernel
theorem dX8_answer_14 : decode cX8_answer 14 = .ok (.ireturn, 1) := by decide +kernel
theorem dX8_answer_15 : decode cX8_answer 15 = .ok (.aload_n 0, 1) := by decide +kernel
theorem dX8_answer_16 : decode cX8_answer 16 = .ok (.getfield 50, 3) := by decide +kernel
theorem dX8_answer_19 : decode cX8_answer 19 = .ok (.iload_n 1, 1) := by decide +kernel
theorem dX8_answer_20 : decode cX8_answer 20 = .ok (.iconst 1, 1) := by decide +kernel
theorem dX8_answer_21 : decode cX8_answer 21 = .ok (.iastore, 1) := by decide +kernel
theorem dX8_answer_22 : decode cX8_answer 22 = .ok (.aload_n 0, 1) := by decide +kernel
theorem dX8_answer_23 : decode cX8_answer 23 = .ok (.getfield 59, 3) := by decide +kernel
theorem dX8_answer_26 : decode cX8_answer 26 = .ok (.iload_n 1, 1) := by decide +kernel
theorem dX8_answer_27 : decode cX8_answer 27 = .ok (.aload_n 0, 1) := by decide +kernel
theorem dX8_answer_28 : decode cX8_answer 28 = .ok (.getfield 114, 3) := by decide +kernel
theorem dX8_answer_31 : decode cX8_answer 31 = .ok (.bipush 10, 2) := by decide +kernel
theorem dX8_answer_33 : decode cX8_answer 33 = .ok (.iadd, 1) := by decide +kernel
theorem dX8_answer_34 : decode cX8_answer 34 = .ok (.iastore, 1) := by decide +kernel
theorem dX8_answer_35 : decode cX8_answer 35 = .ok (.aload_n 0, 1) := by decide +kernel
theorem dX8_answer_36 : decode cX8_answer 36 = .ok (.iload_n 1, 1) := by decide +kernel
theorem dX8_answer_37 : decode cX8_answer 37 = .ok (.invokevirtual 152, 3) := by decide +kernel
theorem dX8_answer_40 : decode cX8_answer 40 = .ok (.aload_n 0, 1) := by decide +kernel
theorem dX8_answer_41 : decode cX8_answer 41 = .ok (.getfield 59, 3) := by decide +kernel
theorem dX8_answer_44 : decode cX8_answer 44 = .ok (.iload_n 1, 1) := by decide +kernel
theorem dX8_answer_45 : decode cX8_answer 45 = .ok (.iaload, 1) := by decide +kernel
theorem dX8_answer_46 : decode cX8_answer 46 = .ok (.ireturn, 1) := by decide +kernel
set_option maxRecDepth 20000 in
theorem ggX8_press_X8_misses : GoodIn wsX8_press wsX8_misses := goodIn_r _ [9, 4, 1, 10, 11, 8, 12, 35, 36, 37, 38, 39, 40, 41, 42, 43, 44, 45, 46, 47, 48, 49, 50, 51, 52, 53, 54, 55, 56, 57, 58, 59] (by decide +kernel) (by decide +kernel)
set_option maxRecDepth 20000 in
theorem gX8_press_X8_misses : GoodIn wsX8_press (wsV RX8 149 RX8 yX8_misses wsX8_misses) := goodIn_app (goodIn_of _ (by decide +kernel)) ggX8_press_X8_misses
set_option maxRecDepth 20000 in
theorem ggX8_press_X8_fails : GoodIn wsX8_press wsX8_fails := goodIn_r _ [16, 17, 35, 36, 37, 38, 39, 40, 41, 42, 43, 44, 45, 46, 47, 48, 49, 50, 51, 52, 53, 54, 55, 56, 57, 58, 59] (by decide +kernel) (by decide +kernel)
set_option maxRecDepth 20000 in
theorem gX8_press_X8_fails : GoodIn wsX8_press (wsV RX8 85 RX8 yX8_fails wsX8_fails) := goodIn_app (goodIn_of _ (by decide +kernel)) ggX8_press_X8_fails
set_option maxRecDepth 20000 in
theorem ggX8_press_X8_shopBank : GoodIn wsX8_press wsX8_shopBank := goodIn_r _ [21, 22, 23, 35, 36, 37, 38, 39, 40, 41, 42, 43, 44, 45, 46, 47, 48, 49, 50, 51, 52, 53, 54, 55, 56, 57, 58, 59] (by decide +kernel) (by decide +kernel)
set_option maxRecDepth 20000 in
theorem gX8_press_X8_shopBank : GoodIn wsX8_press (wsV RX8 129 RX8 yX8_shopBank wsX8_shopBank) := goodIn_app (goodIn_of _ (by decide +kernel)) ggX8_press_X8_shopBank
set_option maxRecDepth 20000 in
theorem ggX8_press_X8_cardBank : GoodIn wsX8_press wsX8_cardBank := goodIn_r _ [27, 28, 23, 35, 36, 37, 38, 39, 40, 41, 42, 43, 44, 45, 46, 47, 48, 49, 50, 51, 52, 53, 54, 55, 56, 57, 58, 59] (by decide +kernel) (by decide +kernel)
set_option maxRecDepth 20000 in
theorem gX8_press_X8_cardBank : GoodIn wsX8_press (wsV RX8 126 RX8 yX8_cardBank wsX8_cardBank) := goodIn_app (goodIn_of _ (by decide +kernel)) ggX8_press_X8_cardBank
set_option maxRecDepth 20000 in
theorem ggX8_press_X8_pays : GoodIn wsX8_press wsX8_pays := goodIn_r _ [32, 33, 34, 35, 36, 37, 38, 39, 40, 41, 42, 43, 44, 45, 46, 47, 48, 49, 50, 51, 52, 53, 54, 55, 56, 57, 58, 59] (by decide +kernel) (by decide +kernel)
set_option maxRecDepth 20000 in
theorem gX8_press_X8_pays : GoodIn wsX8_press (wsV RX8 132 RX8 yX8_pays wsX8_pays) := goodIn_app (goodIn_of _ (by decide +kernel)) ggX8_press_X8_pays
theorem dX8_press_0 : decode cX8_press 0 = .ok (.aload_n 0, 1) := by decide +kernel
theorem dX8_press_1 : decode cX8_press 1 = .ok (.aload_n 0, 1) := by decide +kernel
theorem dX8_press_2 : decode cX8_press 2 = .ok (.iload_n 1, 1) := by decide +kernel
theorem dX8_press_3 : decode cX8_press 3 = .ok (.iconst 1, 1) := by decide +kernel
theorem dX8_press_4 : decode cX8_press 4 = .ok (.invokevirtual 149, 3) := by decide +kernel
theorem dX8_press_7 : decode cX8_press 7 = .ok (.invokevirtual 85, 3) := by decide +kernel
theorem dX8_press_10 : decode cX8_press 10 = .ok (.ifCond .eq 5, 3) := by decide +kernel
theorem dX8_press_13 : decode cX8_press 13 = .ok (.iconst 0, 1) := by decide +kernel
theorem dX8_press_14 : decode cX8_press 14 = .ok (.ireturn, 1) := by decide +kernel
theorem dX8_press_15 : decode cX8_press 15 = .ok (.aload_n 0, 1) := by decide +kernel
theorem dX8_press_16 : decode cX8_press 16 = .ok (.getfield 50, 3) := by decide +kernel
theorem dX8_press_19 : decode cX8_press 19 = .ok (.iload_n 1, 1) := by decide +kernel
theorem dX8_press_20 : decode cX8_press 20 = .ok (.iconst 2, 1) := by decide +kernel
theorem dX8_press_21 : decode cX8_press 21 = .ok (.iastore, 1) := by decide +kernel
theorem dX8_press_22 : decode cX8_press 22 = .ok (.aload_n 0, 1) := by decide +kernel
theorem dX8_press_23 : decode cX8_press 23 = .ok (.aload_n 0, 1) := by decide +kernel
theorem dX8_press_24 : decode cX8_press 24 = .ok (.aload_n 0, 1) := by decide +kernel
theorem dX8_press_25 : decode cX8_press 25 = .ok (.getfield 53, 3) := by decide +kernel
theorem dX8_press_28 : decode cX8_press 28 = .ok (.iload_n 1, 1) := by decide +kernel
theorem dX8_press_29 : decode cX8_press 29 = .ok (.iaload, 1) := by decide +kernel
theorem dX8_press_30 : decode cX8_press 30 = .ok (.invokevirtual 129, 3) := by decide +kernel
theorem dX8_press_33 : decode cX8_press 33 = .ok (.aload_n 0, 1) := by decide +kernel
theorem dX8_press_34 : decode cX8_press 34 = .ok (.aload_n 0, 1) := by decide +kernel
theorem dX8_press_35 : decode cX8_press 35 = .ok (.getfield 53, 3) := by decide +kernel
theorem dX8_press_38 : decode cX8_press 38 = .ok (.iload_n 1, 1) := by decide +kernel
theorem dX8_press_39 : decode cX8_press 39 = .ok (.iaload, 1) := by decide +kernel
theorem dX8_press_40 : decode cX8_press 40 = .ok (.invokevirtual 126, 3) := by decide +kernel
theorem dX8_press_43 : decode cX8_press 43 = .ok (.aload_n 0, 1) := by decide +kernel
theorem dX8_press_44 : decode cX8_press 44 = .ok (.getfield 56, 3) := by decide +kernel
theorem dX8_press_47 : decode cX8_press 47 = .ok (.iload_n 1, 1) := by decide +kernel
theorem dX8_press_48 : decode cX8_press 48 = .ok (.iaload, 1) := by decide +kernel
theorem dX8_press_49 : decode cX8_press 49 = .ok (.invokevirtual 132, 3) := by decide +kernel
theorem dX8_press_52 : decode cX8_press 52 = .ok (.iconst 0, 1) := by decide +kernel
theorem dX8_press_53 : decode cX8_press 53 = .ok (.istore_n 2, 1) := by decide +kernel
theorem dX8_press_54 : decode cX8_press 54 = .ok (.iconst 0, 1) := by decide +kernel
theorem dX8_press_55 : decode cX8_press 55 = .ok (.istore_n 3, 1) := by decide +kernel
theorem dX8_press_56 : decode cX8_press 56 = .ok (.iload_n 3, 1) := by decide +kernel
theorem dX8_press_57 : decode cX8_press 57 = .ok (.aload_n 0, 1) := by decide +kernel
theorem dX8_press_58 : decode cX8_press 58 = .ok (.getfield 136, 3) := by decide +kernel
theorem dX8_press_61 : decode cX8_press 61 = .ok (.if_icmp .ge 27, 3) := by decide +kernel
theorem dX8_press_64 : decode cX8_press 64 = .ok (.iload_n 2, 1) := by decide +kernel
theorem dX8_press_65 : decode cX8_press 65 = .ok (.aload_n 0, 1) := by decide +kernel
theorem dX8_press_66 : decode cX8_press 66 = .ok (.getfield 50, 3) := by decide +kernel
theorem dX8_press_69 : decode cX8_press 69 = .ok (.iload_n 3, 1) := by decide +kernel
theorem dX8_press_70 : decode cX8_press 70 = .ok (.iaload, 1) := by decide +kernel
theorem dX8_press_71 : decode cX8_press 71 = .ok (.iconst 2, 1) := by decide +kernel
theorem dX8_press_72 : decode cX8_press 72 = .ok (.if_icmp .ne 7, 3) := by decide +kernel
theorem dX8_press_75 : decode cX8_press 75 = .ok (.iconst 1, 1) := by decide +kernel
theorem dX8_press_76 : decode cX8_press 76 = .ok (.goto 4, 3) := by decide +kernel
theorem dX8_press_79 : decode cX8_press 79 = .ok (.iconst 0, 1) := by decide +kernel
theorem dX8_press_80 : decode cX8_press 80 = .ok (.iadd, 1) := by decide +kernel
theorem dX8_press_81 : decode cX8_press 81 = .ok (.istore_n 2, 1) := by decide +kernel
theorem dX8_press_82 : decode cX8_press 82 = .ok (.iinc 3 1, 3) := by decide +kernel
theorem dX8_press_85 : decode cX8_press 85 = .ok (.goto (-29), 3) := by decide +kernel
theorem dX8_press_88 : decode cX8_press 88 = .ok (.iload_n 2, 1) := by decide +kernel
theorem dX8_press_89 : decode cX8_press 89 = .ok (.ireturn, 1) := by decide +kernel
set_option maxRecDepth 20000 in
theorem ggX8_rule_X8_misses : GoodIn wsX8_rule wsX8_misses := goodIn_r _ [6, 7, 1, 8, 9, 5, 10, 39, 40, 41, 42, 43, 44, 45, 46, 47, 48, 49, 50, 51, 52, 53, 54, 55, 56, 57, 58, 59, 60, 61, 62, 63] (by decide +kernel) (by decide +kernel)
set_option maxRecDepth 20000 in
theorem gX8_rule_X8_misses : GoodIn wsX8_rule (wsV RX8 149 RX8 yX8_misses wsX8_misses) := goodIn_app (goodIn_of _ (by decide +kernel)) ggX8_rule_X8_misses
set_option maxRecDepth 20000 in
theorem ggX8_rule_X8_fails : GoodIn wsX8_rule wsX8_fails := goodIn_r _ [14, 15, 39, 40, 41, 42, 43, 44, 45, 46, 47, 48, 49, 50, 51, 52, 53, 54, 55, 56, 57, 58, 59, 60, 61, 62, 63] (by decide +kernel) (by decide +kernel)
set_option maxRecDepth 20000 in
theorem gX8_rule_X8_fails : GoodIn wsX8_rule (wsV RX8 85 RX8 yX8_fails wsX8_fails) := goodIn_app (goodIn_of _ (by decide +kernel)) ggX8_rule_X8_fails
set_option maxRecDepth 20000 in
theorem ggX8_rule_X8_paysBack : GoodIn wsX8_rule wsX8_paysBack := goodIn_r _ [19, 20, 21, 22, 23, 24, 5, 25, 26, 27, 28, 29, 30, 31, 32, 33, 34, 35, 36, 37, 38, 39, 40, 41, 42, 43, 44, 45, 46, 47, 48, 49, 50, 51, 52, 53, 54, 55, 56, 57, 58, 59, 60, 61, 62, 63] (by decide +kernel) (by decide +kernel)
set_option maxRecDepth 20000 in
theorem gX8_rule_X8_paysBack : GoodIn wsX8_rule (wsV RX8 152 RX8 yX8_paysBack wsX8_paysBack) := goodIn_app (goodIn_of _ (by decide +kernel)) ggX8_rule_X8_paysBack
theorem dX8_rule_0 : decode cX8_rule 0 = .ok (.aload_n 0, 1) := by decide +kernel
theorem dX8_rule_1 : decode cX8_rule 1 = .ok (.aload_n 0, 1) := by decide +kernel
theorem dX8_rule_2 : decode cX8_rule 2 = .ok (.iload_n 1, 1) := by decide +kernel
theorem dX8_rule_3 : decode cX8_rule 3 = .ok (.iconst 2, 1) := by decide +kernel
theorem dX8_rule_4 : decode cX8_rule 4 = .ok (.invokevirtual 149, 3) := by decide +kernel
theorem dX8_rule_7 : decode cX8_rule 7 = .ok (.invokevirtual 85, 3) := by decide +kernel
theorem dX8_rule_10 : decode cX8_rule 10 = .ok (.ifCond .eq 5, 3) := by decide +kernel
theorem dX8_rule_13 : decode cX8_rule 13 = .ok (.iconst 0, 1) := by decide +kernel
theorem dX8_rule_14 : decode cX8_rule 14 = .ok (.ireturn, 1) := by decide +kernel
theorem dX8_rule_15 : decode cX8_rule 15 = .ok (.aload_n 0, 1) := by decide +kernel
theorem dX8_rule_16 : decode cX8_rule 16 = .ok (.getfield 50, 3) := by decide +kernel
theorem dX8_rule_19 : decode cX8_rule 19 = .ok (.iload_n 1, 1) := by decide +kernel
theorem dX8_rule_20 : decode cX8_rule 20 = .ok (.iload_n 2, 1) := by decide +kernel
theorem dX8_rule_21 : decode cX8_rule 21 = .ok (.ifCond .eq 7, 3) := by decide +kernel
theorem dX8_rule_24 : decode cX8_rule 24 = .ok (.iconst 3, 1) := by decide +kernel
theorem dX8_rule_25 : decode cX8_rule 25 = .ok (.goto 4, 3) := by decide +kernel
theorem dX8_rule_28 : decode cX8_rule 28 = .ok (.iconst 4, 1) := by decide +kernel
theorem dX8_rule_29 : decode cX8_rule 29 = .ok (.iastore, 1) := by decide +kernel
theorem dX8_rule_30 : decode cX8_rule 30 = .ok (.iload_n 2, 1) := by decide +kernel
theorem dX8_rule_31 : decode cX8_rule 31 = .ok (.ifCond .ne 8, 3) := by decide +kernel
theorem dX8_rule_34 : decode cX8_rule 34 = .ok (.aload_n 0, 1) := by decide +kernel
theorem dX8_rule_35 : decode cX8_rule 35 = .ok (.iload_n 1, 1) := by decide +kernel
theorem dX8_rule_36 : decode cX8_rule 36 = .ok (.invokevirtual 152, 3) := by decide +kernel
theorem dX8_rule_39 : decode cX8_rule 39 = .ok (.aload_n 0, 1) := by decide +kernel
theorem dX8_rule_40 : decode cX8_rule 40 = .ok (.getfield 50, 3) := by decide +kernel
theorem dX8_rule_43 : decode cX8_rule 43 = .ok (.iload_n 1, 1) := by decide +kernel
theorem dX8_rule_44 : decode cX8_rule 44 = .ok (.iaload, 1) := by decide +kernel
theorem dX8_rule_45 : decode cX8_rule 45 = .ok (.ireturn, 1) := by decide +kernel
set_option maxRecDepth 20000 in
theorem ggX8_pass_X8_isIn : GoodIn wsX8_pass wsX8_isIn := goodIn_r _ [9] (by decide +kernel) (by decide +kernel)
set_option maxRecDepth 20000 in
theorem gX8_pass_X8_isIn : GoodIn wsX8_pass (va_wsS RX8 74 yX8_isIn wsX8_isIn) := goodIn_app (goodIn_of _ (by decide +kernel)) ggX8_pass_X8_isIn
set_option maxRecDepth 20000 in
theorem ggX8_pass_X8_fails : GoodIn wsX8_pass wsX8_fails := goodIn_r _ [13, 14, 15, 16, 17, 18, 19, 20, 21, 22, 23, 24, 25, 26, 27, 28, 29, 30, 31, 32, 33, 34, 35, 36, 37, 38, 39] (by decide +kernel) (by decide +kernel)
set_option maxRecDepth 20000 in
theorem gX8_pass_X8_fails : GoodIn wsX8_pass (wsV RX8 85 RX8 yX8_fails wsX8_fails) := goodIn_app (goodIn_of _ (by decide +kernel)) ggX8_pass_X8_fails
theorem dX8_pass_0 : decode cX8_pass 0 = .ok (.aload_n 0, 1) := by decide +kernel
theorem dX8_pass_1 : decode cX8_pass 1 = .ok (.iload_n 1, 1) := by decide +kernel
theorem dX8_pass_2 : decode cX8_pass 2 = .ok (.iconst 1, 1) := by decide +kernel
theorem dX8_pass_3 : decode cX8_pass 3 = .ok (.bipush 100, 2) := by decide +kernel
theorem dX8_pass_5 : decode cX8_pass 5 = .ok (.invokestatic 74, 3) := by decide +kernel
theorem dX8_pass_8 : decode cX8_pass 8 = .ok (.ifCond .eq 7, 3) := by decide +kernel
theorem dX8_pass_11 : decode cX8_pass 11 = .ok (.iconst 0, 1) := by decide +kernel
theorem dX8_pass_12 : decode cX8_pass 12 = .ok (.goto 4, 3) := by decide +kernel
theorem dX8_pass_15 : decode cX8_pass 15 = .ok (.iconst 1, 1) := by decide +kernel
theorem dX8_pass_16 : decode cX8_pass 16 = .ok (.invokevirtual 85, 3) := by decide +kernel
theorem dX8_pass_19 : decode cX8_pass 19 = .ok (.ifCond .eq 5, 3) := by decide +kernel
theorem dX8_pass_22 : decode cX8_pass 22 = .ok (.iconst 0, 1) := by decide +kernel
theorem dX8_pass_23 : decode cX8_pass 23 = .ok (.ireturn, 1) := by decide +kernel
theorem dX8_pass_24 : decode cX8_pass 24 = .ok (.aload_n 0, 1) := by decide +kernel
theorem dX8_pass_25 : decode cX8_pass 25 = .ok (.dup, 1) := by decide +kernel
theorem dX8_pass_26 : decode cX8_pass 26 = .ok (.getfield 114, 3) := by decide +kernel
theorem dX8_pass_29 : decode cX8_pass 29 = .ok (.iload_n 1, 1) := by decide +kernel
theorem dX8_pass_30 : decode cX8_pass 30 = .ok (.iadd, 1) := by decide +kernel
theorem dX8_pass_31 : decode cX8_pass 31 = .ok (.putfield 114, 3) := by decide +kernel
theorem dX8_pass_34 : decode cX8_pass 34 = .ok (.iconst 0, 1) := by decide +kernel
theorem dX8_pass_35 : decode cX8_pass 35 = .ok (.istore_n 2, 1) := by decide +kernel
theorem dX8_pass_36 : decode cX8_pass 36 = .ok (.iload_n 2, 1) := by decide +kernel
theorem dX8_pass_37 : decode cX8_pass 37 = .ok (.iconst 4, 1) := by decide +kernel
theorem dX8_pass_38 : decode cX8_pass 38 = .ok (.if_icmp .ge 16, 3) := by decide +kernel
theorem dX8_pass_41 : decode cX8_pass 41 = .ok (.aload_n 0, 1) := by decide +kernel
theorem dX8_pass_42 : decode cX8_pass 42 = .ok (.getfield 66, 3) := by decide +kernel
theorem dX8_pass_45 : decode cX8_pass 45 = .ok (.iload_n 2, 1) := by decide +kernel
theorem dX8_pass_46 : decode cX8_pass 46 = .ok (.lconst 0, 1) := by decide +kernel
theorem dX8_pass_47 : decode cX8_pass 47 = .ok (.lastore, 1) := by decide +kernel
theorem dX8_pass_48 : decode cX8_pass 48 = .ok (.iinc 2 1, 3) := by decide +kernel
theorem dX8_pass_51 : decode cX8_pass 51 = .ok (.goto (-15), 3) := by decide +kernel
theorem dX8_pass_54 : decode cX8_pass 54 = .ok (.iconst 0, 1) := by decide +kernel
theorem dX8_pass_55 : decode cX8_pass 55 = .ok (.istore_n 2, 1) := by decide +kernel
theorem dX8_pass_56 : decode cX8_pass 56 = .ok (.iload_n 2, 1) := by decide +kernel
theorem dX8_pass_57 : decode cX8_pass 57 = .ok (.aload_n 0, 1) := by decide +kernel
theorem dX8_pass_58 : decode cX8_pass 58 = .ok (.getfield 136, 3) := by decide +kernel
theorem dX8_pass_61 : decode cX8_pass 61 = .ok (.if_icmp .ge 75, 3) := by decide +kernel
theorem dX8_pass_64 : decode cX8_pass 64 = .ok (.aload_n 0, 1) := by decide +kernel
theorem dX8_pass_65 : decode cX8_pass 65 = .ok (.getfield 59, 3) := by decide +kernel
theorem dX8_pass_68 : decode cX8_pass 68 = .ok (.iload_n 2, 1) := by decide +kernel
theorem dX8_pass_69 : decode cX8_pass 69 = .ok (.iaload, 1) := by decide +kernel
theorem dX8_pass_70 : decode cX8_pass 70 = .ok (.aload_n 0, 1) := by decide +kernel
theorem dX8_pass_71 : decode cX8_pass 71 = .ok (.getfield 114, 3) := by decide +kernel
theorem dX8_pass_74 : decode cX8_pass 74 = .ok (.if_icmp .ge 7, 3) := by decide +kernel
theorem dX8_pass_77 : decode cX8_pass 77 = .ok (.iconst 1, 1) := by decide +kernel
theorem dX8_pass_78 : decode cX8_pass 78 = .ok (.goto 4, 3) := by decide +kernel
theorem dX8_pass_81 : decode cX8_pass 81 = .ok (.iconst 0, 1) := by decide +kernel
theorem dX8_pass_82 : decode cX8_pass 82 = .ok (.istore_n 3, 1) := by decide +kernel
theorem dX8_pass_83 : decode cX8_pass 83 = .ok (.aload_n 0, 1) := by decide +kernel
theorem dX8_pass_84 : decode cX8_pass 84 = .ok (.getfield 50, 3) := by decide +kernel
theorem dX8_pass_87 : decode cX8_pass 87 = .ok (.iload_n 2, 1) := by decide +kernel
theorem dX8_pass_88 : decode cX8_pass 88 = .ok (.iload_n 3, 1) := by decide +kernel
theorem dX8_pass_89 : decode cX8_pass 89 = .ok (.ifCond .eq 16, 3) := by decide +kernel
theorem dX8_pass_92 : decode cX8_pass 92 = .ok (.aload_n 0, 1) := by decide +kernel
theorem dX8_pass_93 : decode cX8_pass 93 = .ok (.getfield 50, 3) := by decide +kernel
theorem dX8_pass_96 : decode cX8_pass 96 = .ok (.iload_n 2, 1) := by decide +kernel
theorem dX8_pass_97 : decode cX8_pass 97 = .ok (.iaload, 1) := by decide +kernel
theorem dX8_pass_98 : decode cX8_pass 98 = .ok (.ifCond .ne 7, 3) := by decide +kernel
theorem dX8_pass_101 : decode cX8_pass 101 = .ok (.iconst 3, 1) := by decide +kernel
theorem dX8_pass_102 : decode cX8_pass 102 = .ok (.goto 27, 3) := by decide +kernel
theorem dX8_pass_105 : decode cX8_pass 105 = .ok (.iload_n 3, 1) := by decide +kernel
theorem dX8_pass_106 : decode cX8_pass 106 = .ok (.ifCond .eq 17, 3) := by decide +kernel
theorem dX8_pass_109 : decode cX8_pass 109 = .ok (.aload_n 0, 1) := by decide +kernel
theorem dX8_pass_110 : decode cX8_pass 110 = .ok (.getfield 50, 3) := by decide +kernel
theorem dX8_pass_113 : decode cX8_pass 113 = .ok (.iload_n 2, 1) := by decide +kernel
theorem dX8_pass_114 : decode cX8_pass 114 = .ok (.iaload, 1) := by decide +kernel
theorem dX8_pass_115 : decode cX8_pass 115 = .ok (.iconst 1, 1) := by decide +kernel
theorem dX8_pass_116 : decode cX8_pass 116 = .ok (.if_icmp .ne 7, 3) := by decide +kernel
theorem dX8_pass_119 : decode cX8_pass 119 = .ok (.iconst 4, 1) := by decide +kernel
theorem dX8_pass_120 : decode cX8_pass 120 = .ok (.goto 9, 3) := by decide +kernel
theorem dX8_pass_123 : decode cX8_pass 123 = .ok (.aload_n 0, 1) := by decide +kernel
theorem dX8_pass_124 : decode cX8_pass 124 = .ok (.getfield 50, 3) := by decide +kernel
theorem dX8_pass_127 : decode cX8_pass 127 = .ok (.iload_n 2, 1) := by decide +kernel
theorem dX8_pass_128 : decode cX8_pass 128 = .ok (.iaload, 1) := by decide +kernel
theorem dX8_pass_129 : decode cX8_pass 129 = .ok (.iastore, 1) := by decide +kernel
theorem dX8_pass_130 : decode cX8_pass 130 = .ok (.iinc 2 1, 3) := by decide +kernel
theorem dX8_pass_133 : decode cX8_pass 133 = .ok (.goto (-77), 3) := by decide +kernel
theorem dX8_pass_136 : decode cX8_pass 136 = .ok (.aload_n 0, 1) := by decide +kernel
theorem dX8_pass_137 : decode cX8_pass 137 = .ok (.getfield 114, 3) := by decide +kernel
theorem dX8_pass_140 : decode cX8_pass 140 = .ok (.ireturn, 1) := by decide +kernel
set_option maxRecDepth 20000 in
theorem ggX8_paymentOf_X8_isPayment : GoodIn wsX8_paymentOf wsX8_isPayment := goodIn_r _ [10, 11, 12, 13, 9, 14, 26, 27, 28, 29, 30, 31, 32, 33, 34, 35, 36, 37, 38, 39, 40, 41, 42, 43, 44, 45, 46, 47, 48, 49, 50] (by decide +kernel) (by decide +kernel)
set_option maxRecDepth 20000 in
theorem gX8_paymentOf_X8_isPayment : GoodIn wsX8_paymentOf (wsV RX8 117 RX8 yX8_isPayment wsX8_isPayment) := goodIn_app (goodIn_of _ (by decide +kernel)) ggX8_paymentOf_X8_isPayment
set_option maxRecDepth 20000 in
theorem ggX8_paymentOf_X8_isIn : GoodIn wsX8_paymentOf wsX8_isIn := goodIn_r _ [14] (by decide +kernel) (by decide +kernel)
set_option maxRecDepth 20000 in
theorem gX8_paymentOf_X8_isIn : GoodIn wsX8_paymentOf (va_wsS RX8 74 yX8_isIn wsX8_isIn) := goodIn_app (goodIn_of _ (by decide +kernel)) ggX8_paymentOf_X8_isIn
set_option maxRecDepth 20000 in
theorem ggX8_paymentOf_X8_fails : GoodIn wsX8_paymentOf wsX8_fails := goodIn_r _ [18, 19, 26, 27, 28, 29, 30, 31, 32, 33, 34, 35, 36, 37, 38, 39, 40, 41, 42, 43, 44, 45, 46, 47, 48, 49, 50] (by decide +kernel) (by decide +kernel)
set_option maxRecDepth 20000 in
theorem gX8_paymentOf_X8_fails : GoodIn wsX8_paymentOf (wsV RX8 85 RX8 yX8_fails wsX8_fails) := goodIn_app (goodIn_of _ (by decide +kernel)) ggX8_paymentOf_X8_fails
set_option maxRecDepth 20000 in
theorem ggX8_paymentOf_X8_isOpen : GoodIn wsX8_paymentOf wsX8_isOpen := goodIn_r _ [23, 24, 25, 5, 26, 27, 28, 29, 30, 31, 32, 33, 34, 35, 36, 37, 38, 39, 40, 41, 42, 43, 44, 45, 46, 47, 48, 49, 50] (by decide +kernel) (by decide +kernel)
set_option maxRecDepth 20000 in
theorem gX8_paymentOf_X8_isOpen : GoodIn wsX8_paymentOf (wsV RX8 120 RX8 yX8_isOpen wsX8_isOpen) := goodIn_app (goodIn_of _ (by decide +kernel)) ggX8_paymentOf_X8_isOpen
theorem dX8_paymentOf_0 : decode cX8_paymentOf 0 = .ok (.aload_n 0, 1) := by decide +kernel
theorem dX8_paymentOf_1 : decode cX8_paymentOf 1 = .ok (.aload_n 0, 1) := by decide +kernel
theorem dX8_paymentOf_2 : decode cX8_paymentOf 2 = .ok (.iload_n 1, 1) := by decide +kernel
theorem dX8_paymentOf_3 : decode cX8_paymentOf 3 = .ok (.invokevirtual 117, 3) := by decide +kernel
theorem dX8_paymentOf_6 : decode cX8_paymentOf 6 = .ok (.ifCond .ne 7, 3) := by decide +kernel
theorem dX8_paymentOf_9 : decode cX8_paymentOf 9 = .ok (.iconst 1, 1) := by decide +kernel
theorem dX8_paymentOf_10 : decode cX8_paymentOf 10 = .ok (.goto 17, 3) := by decide +kernel
theorem dX8_paymentOf_13 : decode cX8_paymentOf 13 = .ok (.iload_n 2, 1) := by decide +kernel
theorem dX8_paymentOf_14 : decode cX8_paymentOf 14 = .ok (.iconst 0, 1) := by decide +kernel
theorem dX8_paymentOf_15 : decode cX8_paymentOf 15 = .ok (.iconst 5, 1) := by decide +kernel
theorem dX8_paymentOf_16 : decode cX8_paymentOf 16 = .ok (.invokestatic 74, 3) := by decide +kernel
theorem dX8_paymentOf_19 : decode cX8_paymentOf 19 = .ok (.ifCond .eq 7, 3) := by decide +kernel
theorem dX8_paymentOf_22 : decode cX8_paymentOf 22 = .ok (.iconst 0, 1) := by decide +kernel
theorem dX8_paymentOf_23 : decode cX8_paymentOf 23 = .ok (.goto 4, 3) := by decide +kernel
theorem dX8_paymentOf_26 : decode cX8_paymentOf 26 = .ok (.iconst 2, 1) := by decide +kernel
theorem dX8_paymentOf_27 : decode cX8_paymentOf 27 = .ok (.invokevirtual 85, 3) := by decide +kernel
theorem dX8_paymentOf_30 : decode cX8_paymentOf 30 = .ok (.ifCond .eq 5, 3) := by decide +kernel
theorem dX8_paymentOf_33 : decode cX8_paymentOf 33 = .ok (.iconst 0, 1) := by decide +kernel
theorem dX8_paymentOf_34 : decode cX8_paymentOf 34 = .ok (.ireturn, 1) := by decide +kernel
theorem dX8_paymentOf_35 : decode cX8_paymentOf 35 = .ok (.iload_n 2, 1) := by decide +kernel
theorem dX8_paymentOf_36 : decode cX8_paymentOf 36 = .ok (.tableswitch 71 0 4 #[36, 43, 50, 57, 64], 36) := by decide +kernel
theorem dX8_paymentOf_72 : decode cX8_paymentOf 72 = .ok (.aload_n 0, 1) := by decide +kernel
theorem dX8_paymentOf_73 : decode cX8_paymentOf 73 = .ok (.getfield 19, 3) := by decide +kernel
theorem dX8_paymentOf_76 : decode cX8_paymentOf 76 = .ok (.iload_n 1, 1) := by decide +kernel
theorem dX8_paymentOf_77 : decode cX8_paymentOf 77 = .ok (.iaload, 1) := by decide +kernel
theorem dX8_paymentOf_78 : decode cX8_paymentOf 78 = .ok (.ireturn, 1) := by decide +kernel
theorem dX8_paymentOf_79 : decode cX8_paymentOf 79 = .ok (.aload_n 0, 1) := by decide +kernel
theorem dX8_paymentOf_80 : decode cX8_paymentOf 80 = .ok (.getfield 22, 3) := by decide +kernel
theorem dX8_paymentOf_83 : decode cX8_paymentOf 83 = .ok (.iload_n 1, 1) := by decide +kernel
theorem dX8_paymentOf_84 : decode cX8_paymentOf 84 = .ok (.iaload, 1) := by decide +kernel
theorem dX8_paymentOf_85 : decode cX8_paymentOf 85 = .ok (.ireturn, 1) := by decide +kernel
theorem dX8_paymentOf_86 : decode cX8_paymentOf 86 = .ok (.aload_n 0, 1) := by decide +kernel
theorem dX8_paymentOf_87 : decode cX8_paymentOf 87 = .ok (.getfield 25, 3) := by decide +kernel
theorem dX8_paymentOf_90 : decode cX8_paymentOf 90 = .ok (.iload_n 1, 1) := by decide +kernel
theorem dX8_paymentOf_91 : decode cX8_paymentOf 91 = .ok (.iaload, 1) := by decide +kernel
theorem dX8_paymentOf_92 : decode cX8_paymentOf 92 = .ok (.ireturn, 1) := by decide +kernel
theorem dX8_paymentOf_93 : decode cX8_paymentOf 93 = .ok (.aload_n 0, 1) := by decide +kernel
theorem dX8_paymentOf_94 : decode cX8_paymentOf 94 = .ok (.getfield 28, 3) := by decide +kernel
theorem dX8_paymentOf_97 : decode cX8_paymentOf 97 = .ok (.iload_n 1, 1) := by decide +kernel
theorem dX8_paymentOf_98 : decode cX8_paymentOf 98 = .ok (.iaload, 1) := by decide +kernel
theorem dX8_paymentOf_99 : decode cX8_paymentOf 99 = .ok (.ireturn, 1) := by decide +kernel
theorem dX8_paymentOf_100 : decode cX8_paymentOf 100 = .ok (.aload_n 0, 1) := by decide +kernel
theorem dX8_paymentOf_101 : decode cX8_paymentOf 101 = .ok (.getfield 31, 3) := by decide +kernel
theorem dX8_paymentOf_104 : decode cX8_paymentOf 104 = .ok (.iload_n 1, 1) := by decide +kernel
theorem dX8_paymentOf_105 : decode cX8_paymentOf 105 = .ok (.iaload, 1) := by decide +kernel
theorem dX8_paymentOf_106 : decode cX8_paymentOf 106 = .ok (.ireturn, 1) := by decide +kernel
theorem dX8_paymentOf_107 : decode cX8_paymentOf 107 = .ok (.aload_n 0, 1) := by decide +kernel
theorem dX8_paymentOf_108 : decode cX8_paymentOf 108 = .ok (.iload_n 1, 1) := by decide +kernel
theorem dX8_paymentOf_109 : decode cX8_paymentOf 109 = .ok (.invokevirtual 120, 3) := by decide +kernel
theorem dX8_paymentOf_112 : decode cX8_paymentOf 112 = .ok (.ifCond .eq 22, 3) := by decide +kernel
theorem dX8_paymentOf_115 : decode cX8_paymentOf 115 = .ok (.aload_n 0, 1) := by decide +kernel
theorem dX8_paymentOf_116 : decode cX8_paymentOf 116 = .ok (.getfield 28, 3) := by decide +kernel
theorem dX8_paymentOf_119 : decode cX8_paymentOf 119 = .ok (.iload_n 1, 1) := by decide +kernel
theorem dX8_paymentOf_120 : decode cX8_paymentOf 120 = .ok (.iaload, 1) := by decide +kernel
theorem dX8_paymentOf_121 : decode cX8_paymentOf 121 = .ok (.aload_n 0, 1) := by decide +kernel
theorem dX8_paymentOf_122 : decode cX8_paymentOf 122 = .ok (.getfield 25, 3) := by decide +kernel
theorem dX8_paymentOf_125 : decode cX8_paymentOf 125 = .ok (.iload_n 1, 1) := by decide +kernel
theorem dX8_paymentOf_126 : decode cX8_paymentOf 126 = .ok (.iaload, 1) := by decide +kernel
theorem dX8_paymentOf_127 : decode cX8_paymentOf 127 = .ok (.if_icmp .ge 7, 3) := by decide +kernel
theorem dX8_paymentOf_130 : decode cX8_paymentOf 130 = .ok (.iconst 1, 1) := by decide +kernel
theorem dX8_paymentOf_131 : decode cX8_paymentOf 131 = .ok (.goto 4, 3) := by decide +kernel
theorem dX8_paymentOf_134 : decode cX8_paymentOf 134 = .ok (.iconst 0, 1) := by decide +kernel
theorem dX8_paymentOf_135 : decode cX8_paymentOf 135 = .ok (.ireturn, 1) := by decide +kernel
set_option maxRecDepth 20000 in
theorem ggX8_captureOf_X8_isCapture : GoodIn wsX8_captureOf wsX8_isCapture := goodIn_r _ [9, 10, 11, 12, 8, 13, 27, 28, 29, 30, 31, 32, 33, 34, 35, 36, 37, 38, 39, 40, 41, 42, 43, 44, 45, 46, 47, 48, 49, 50, 51] (by decide +kernel) (by decide +kernel)
set_option maxRecDepth 20000 in
theorem gX8_captureOf_X8_isCapture : GoodIn wsX8_captureOf (wsV RX8 139 RX8 yX8_isCapture wsX8_isCapture) := goodIn_app (goodIn_of _ (by decide +kernel)) ggX8_captureOf_X8_isCapture
set_option maxRecDepth 20000 in
theorem ggX8_captureOf_X8_isIn : GoodIn wsX8_captureOf wsX8_isIn := goodIn_r _ [13] (by decide +kernel) (by decide +kernel)
set_option maxRecDepth 20000 in
theorem gX8_captureOf_X8_isIn : GoodIn wsX8_captureOf (va_wsS RX8 74 yX8_isIn wsX8_isIn) := goodIn_app (goodIn_of _ (by decide +kernel)) ggX8_captureOf_X8_isIn
set_option maxRecDepth 20000 in
theorem ggX8_captureOf_X8_fails : GoodIn wsX8_captureOf wsX8_fails := goodIn_r _ [17, 18, 27, 28, 29, 30, 31, 32, 33, 34, 35, 36, 37, 38, 39, 40, 41, 42, 43, 44, 45, 46, 47, 48, 49, 50, 51] (by decide +kernel) (by decide +kernel)
set_option maxRecDepth 20000 in
theorem gX8_captureOf_X8_fails : GoodIn wsX8_captureOf (wsV RX8 85 RX8 yX8_fails wsX8_fails) := goodIn_app (goodIn_of _ (by decide +kernel)) ggX8_captureOf_X8_fails
set_option maxRecDepth 20000 in
theorem ggX8_captureOf_X8_givenBack : GoodIn wsX8_captureOf wsX8_givenBack := goodIn_r _ [22, 4, 23, 24, 25, 26, 27, 28, 29, 30, 31, 32, 33, 34, 35, 36, 37, 38, 39, 40, 41, 42, 43, 44, 45, 46, 47, 48, 49, 50, 51] (by decide +kernel) (by decide +kernel)
set_option maxRecDepth 20000 in
theorem gX8_captureOf_X8_givenBack : GoodIn wsX8_captureOf (wsV RX8 142 RX8 yX8_givenBack wsX8_givenBack) := goodIn_app (goodIn_of _ (by decide +kernel)) ggX8_captureOf_X8_givenBack
theorem dX8_captureOf_0 : decode cX8_captureOf 0 = .ok (.aload_n 0, 1) := by decide +kernel
theorem dX8_captureOf_1 : decode cX8_captureOf 1 = .ok (.aload_n 0, 1) := by decide +kernel
theorem dX8_captureOf_2 : decode cX8_captureOf 2 = .ok (.iload_n 1, 1) := by decide +kernel
theorem dX8_captureOf_3 : decode cX8_captureOf 3 = .ok (.invokevirtual 139, 3) := by decide +kernel
theorem dX8_captureOf_6 : decode cX8_captureOf 6 = .ok (.ifCond .ne 7, 3) := by decide +kernel
theorem dX8_captureOf_9 : decode cX8_captureOf 9 = .ok (.iconst 1, 1) := by decide +kernel
theorem dX8_captureOf_10 : decode cX8_captureOf 10 = .ok (.goto 17, 3) := by decide +kernel
theorem dX8_captureOf_13 : decode cX8_captureOf 13 = .ok (.iload_n 2, 1) := by decide +kernel
theorem dX8_captureOf_14 : decode cX8_captureOf 14 = .ok (.iconst 0, 1) := by decide +kernel
theorem dX8_captureOf_15 : decode cX8_captureOf 15 = .ok (.iconst 4, 1) := by decide +kernel
theorem dX8_captureOf_16 : decode cX8_captureOf 16 = .ok (.invokestatic 74, 3) := by decide +kernel
theorem dX8_captureOf_19 : decode cX8_captureOf 19 = .ok (.ifCond .eq 7, 3) := by decide +kernel
theorem dX8_captureOf_22 : decode cX8_captureOf 22 = .ok (.iconst 0, 1) := by decide +kernel
theorem dX8_captureOf_23 : decode cX8_captureOf 23 = .ok (.goto 4, 3) := by decide +kernel
theorem dX8_captureOf_26 : decode cX8_captureOf 26 = .ok (.iconst 2, 1) := by decide +kernel
theorem dX8_captureOf_27 : decode cX8_captureOf 27 = .ok (.invokevirtual 85, 3) := by decide +kernel
theorem dX8_captureOf_30 : decode cX8_captureOf 30 = .ok (.ifCond .eq 5, 3) := by decide +kernel
theorem dX8_captureOf_33 : decode cX8_captureOf 33 = .ok (.iconst 0, 1) := by decide +kernel
theorem dX8_captureOf_34 : decode cX8_captureOf 34 = .ok (.ireturn, 1) := by decide +kernel
theorem dX8_captureOf_35 : decode cX8_captureOf 35 = .ok (.iload_n 2, 1) := by decide +kernel
theorem dX8_captureOf_36 : decode cX8_captureOf 36 = .ok (.ifCond .ne 12, 3) := by decide +kernel
theorem dX8_captureOf_39 : decode cX8_captureOf 39 = .ok (.aload_n 0, 1) := by decide +kernel
theorem dX8_captureOf_40 : decode cX8_captureOf 40 = .ok (.getfield 38, 3) := by decide +kernel
theorem dX8_captureOf_43 : decode cX8_captureOf 43 = .ok (.iload_n 1, 1) := by decide +kernel
theorem dX8_captureOf_44 : decode cX8_captureOf 44 = .ok (.iaload, 1) := by decide +kernel
theorem dX8_captureOf_45 : decode cX8_captureOf 45 = .ok (.goto 50, 3) := by decide +kernel
theorem dX8_captureOf_48 : decode cX8_captureOf 48 = .ok (.iload_n 2, 1) := by decide +kernel
theorem dX8_captureOf_49 : decode cX8_captureOf 49 = .ok (.iconst 1, 1) := by decide +kernel
theorem dX8_captureOf_50 : decode cX8_captureOf 50 = .ok (.if_icmp .ne 12, 3) := by decide +kernel
theorem dX8_captureOf_53 : decode cX8_captureOf 53 = .ok (.aload_n 0, 1) := by decide +kernel
theorem dX8_captureOf_54 : decode cX8_captureOf 54 = .ok (.getfield 41, 3) := by decide +kernel
theorem dX8_captureOf_57 : decode cX8_captureOf 57 = .ok (.iload_n 1, 1) := by decide +kernel
theorem dX8_captureOf_58 : decode cX8_captureOf 58 = .ok (.iaload, 1) := by decide +kernel
theorem dX8_captureOf_59 : decode cX8_captureOf 59 = .ok (.goto 36, 3) := by decide +kernel
theorem dX8_captureOf_62 : decode cX8_captureOf 62 = .ok (.iload_n 2, 1) := by decide +kernel
theorem dX8_captureOf_63 : decode cX8_captureOf 63 = .ok (.iconst 2, 1) := by decide +kernel
theorem dX8_captureOf_64 : decode cX8_captureOf 64 = .ok (.if_icmp .ne 12, 3) := by decide +kernel
theorem dX8_captureOf_67 : decode cX8_captureOf 67 = .ok (.aload_n 0, 1) := by decide +kernel
theorem dX8_captureOf_68 : decode cX8_captureOf 68 = .ok (.getfield 44, 3) := by decide +kernel
theorem dX8_captureOf_71 : decode cX8_captureOf 71 = .ok (.iload_n 1, 1) := by decide +kernel
theorem dX8_captureOf_72 : decode cX8_captureOf 72 = .ok (.iaload, 1) := by decide +kernel
theorem dX8_captureOf_73 : decode cX8_captureOf 73 = .ok (.goto 22, 3) := by decide +kernel
theorem dX8_captureOf_76 : decode cX8_captureOf 76 = .ok (.iload_n 2, 1) := by decide +kernel
theorem dX8_captureOf_77 : decode cX8_captureOf 77 = .ok (.iconst 3, 1) := by decide +kernel
theorem dX8_captureOf_78 : decode cX8_captureOf 78 = .ok (.if_icmp .ne 12, 3) := by decide +kernel
theorem dX8_captureOf_81 : decode cX8_captureOf 81 = .ok (.aload_n 0, 1) := by decide +kernel
theorem dX8_captureOf_82 : decode cX8_captureOf 82 = .ok (.getfield 47, 3) := by decide +kernel
theorem dX8_captureOf_85 : decode cX8_captureOf 85 = .ok (.iload_n 1, 1) := by decide +kernel
theorem dX8_captureOf_86 : decode cX8_captureOf 86 = .ok (.iaload, 1) := by decide +kernel
theorem dX8_captureOf_87 : decode cX8_captureOf 87 = .ok (.goto 8, 3) := by decide +kernel
theorem dX8_captureOf_90 : decode cX8_captureOf 90 = .ok (.aload_n 0, 1) := by decide +kernel
theorem dX8_captureOf_91 : decode cX8_captureOf 91 = .ok (.iload_n 1, 1) := by decide +kernel
theorem dX8_captureOf_92 : decode cX8_captureOf 92 = .ok (.invokevirtual 142, 3) := by decide +kernel
theorem dX8_captureOf_95 : decode cX8_captureOf 95 = .ok (.ireturn, 1) := by decide +kernel
theorem dX8_isDue_0 : decode cX8_isDue 0 = .ok (.aload_n 0, 1) := by decide +kernel
theorem dX8_isDue_1 : decode cX8_isDue 1 = .ok (.getfield 50, 3) := by decide +kernel
theorem dX8_isDue_4 : decode cX8_isDue 4 = .ok (.iload_n 1, 1) := by decide +kernel
theorem dX8_isDue_5 : decode cX8_isDue 5 = .ok (.iaload, 1) := by decide +kernel
theorem dX8_isDue_6 : decode cX8_isDue 6 = .ok (.ifCond .eq 13, 3) := by decide +kernel
theorem dX8_isDue_9 : decode cX8_isDue 9 = .ok (.aload_n 0, 1) := by decide +kernel
theorem dX8_isDue_10 : decode cX8_isDue 10 = .ok (.getfield 50, 3) := by decide +kernel
theorem dX8_isDue_13 : decode cX8_isDue 13 = .ok (.iload_n 1, 1) := by decide +kernel
theorem dX8_isDue_14 : decode cX8_isDue 14 = .ok (.iaload, 1) := by decide +kernel
theorem dX8_isDue_15 : decode cX8_isDue 15 = .ok (.iconst 1, 1) := by decide +kernel
theorem dX8_isDue_16 : decode cX8_isDue 16 = .ok (.if_icmp .ne 7, 3) := by decide +kernel
theorem dX8_isDue_19 : decode cX8_isDue 19 = .ok (.iconst 1, 1) := by decide +kernel
theorem dX8_isDue_20 : decode cX8_isDue 20 = .ok (.goto 4, 3) := by decide +kernel
theorem dX8_isDue_23 : decode cX8_isDue 23 = .ok (.iconst 0, 1) := by decide +kernel
theorem dX8_isDue_24 : decode cX8_isDue 24 = .ok (.ireturn, 1) := by decide +kernel
set_option maxRecDepth 20000 in
theorem ggX8_chargebackOf_X8_isIn : GoodIn wsX8_chargebackOf wsX8_isIn := goodIn_r _ [9] (by decide +kernel) (by decide +kernel)
set_option maxRecDepth 20000 in
theorem gX8_chargebackOf_X8_isIn : GoodIn wsX8_chargebackOf (va_wsS RX8 74 yX8_isIn wsX8_isIn) := goodIn_app (goodIn_of _ (by decide +kernel)) ggX8_chargebackOf_X8_isIn
set_option maxRecDepth 20000 in
theorem ggX8_chargebackOf_X8_fails : GoodIn wsX8_chargebackOf wsX8_fails := goodIn_r _ [13, 14, 19, 20, 21, 22, 23, 24, 25, 26, 27, 28, 29, 30, 31, 32, 33, 34, 35, 36, 37, 38, 39, 40, 41, 42, 43] (by decide +kernel) (by decide +kernel)
set_option maxRecDepth 20000 in
theorem gX8_chargebackOf_X8_fails : GoodIn wsX8_chargebackOf (wsV RX8 85 RX8 yX8_fails wsX8_fails) := goodIn_app (goodIn_of _ (by decide +kernel)) ggX8_chargebackOf_X8_fails
set_option maxRecDepth 20000 in
theorem ggX8_chargebackOf_X8_isDue : GoodIn wsX8_chargebackOf wsX8_isDue := goodIn_r _ [18, 2, 19, 20, 21, 22, 23, 24, 25, 26, 27, 28, 29, 30, 31, 32, 33, 34, 35, 36, 37, 38, 39, 40, 41, 42, 43] (by decide +kernel) (by decide +kernel)
set_option maxRecDepth 20000 in
theorem gX8_chargebackOf_X8_isDue : GoodIn wsX8_chargebackOf (wsV RX8 156 RX8 yX8_isDue wsX8_isDue) := goodIn_app (goodIn_of _ (by decide +kernel)) ggX8_chargebackOf_X8_isDue
theorem dX8_chargebackOf_0 : decode cX8_chargebackOf 0 = .ok (.aload_n 0, 1) := by decide +kernel
theorem dX8_chargebackOf_1 : decode cX8_chargebackOf 1 = .ok (.iload_n 1, 1) := by decide +kernel
theorem dX8_chargebackOf_2 : decode cX8_chargebackOf 2 = .ok (.iconst 0, 1) := by decide +kernel
theorem dX8_chargebackOf_3 : decode cX8_chargebackOf 3 = .ok (.aload_n 0, 1) := by decide +kernel
theorem dX8_chargebackOf_4 : decode cX8_chargebackOf 4 = .ok (.getfield 136, 3) := by decide +kernel
theorem dX8_chargebackOf_7 : decode cX8_chargebackOf 7 = .ok (.iconst 1, 1) := by decide +kernel
theorem dX8_chargebackOf_8 : decode cX8_chargebackOf 8 = .ok (.isub, 1) := by decide +kernel
theorem dX8_chargebackOf_9 : decode cX8_chargebackOf 9 = .ok (.invokestatic 74, 3) := by decide +kernel
theorem dX8_chargebackOf_12 : decode cX8_chargebackOf 12 = .ok (.ifCond .ne 7, 3) := by decide +kernel
theorem dX8_chargebackOf_15 : decode cX8_chargebackOf 15 = .ok (.iconst 1, 1) := by decide +kernel
theorem dX8_chargebackOf_16 : decode cX8_chargebackOf 16 = .ok (.goto 17, 3) := by decide +kernel
theorem dX8_chargebackOf_19 : decode cX8_chargebackOf 19 = .ok (.iload_n 2, 1) := by decide +kernel
theorem dX8_chargebackOf_20 : decode cX8_chargebackOf 20 = .ok (.iconst 0, 1) := by decide +kernel
theorem dX8_chargebackOf_21 : decode cX8_chargebackOf 21 = .ok (.iconst 3, 1) := by decide +kernel
theorem dX8_chargebackOf_22 : decode cX8_chargebackOf 22 = .ok (.invokestatic 74, 3) := by decide +kernel
theorem dX8_chargebackOf_25 : decode cX8_chargebackOf 25 = .ok (.ifCond .eq 7, 3) := by decide +kernel
theorem dX8_chargebackOf_28 : decode cX8_chargebackOf 28 = .ok (.iconst 0, 1) := by decide +kernel
theorem dX8_chargebackOf_29 : decode cX8_chargebackOf 29 = .ok (.goto 4, 3) := by decide +kernel
theorem dX8_chargebackOf_32 : decode cX8_chargebackOf 32 = .ok (.iconst 2, 1) := by decide +kernel
theorem dX8_chargebackOf_33 : decode cX8_chargebackOf 33 = .ok (.invokevirtual 85, 3) := by decide +kernel
theorem dX8_chargebackOf_36 : decode cX8_chargebackOf 36 = .ok (.ifCond .eq 5, 3) := by decide +kernel
theorem dX8_chargebackOf_39 : decode cX8_chargebackOf 39 = .ok (.iconst 0, 1) := by decide +kernel
theorem dX8_chargebackOf_40 : decode cX8_chargebackOf 40 = .ok (.ireturn, 1) := by decide +kernel
theorem dX8_chargebackOf_41 : decode cX8_chargebackOf 41 = .ok (.iload_n 2, 1) := by decide +kernel
theorem dX8_chargebackOf_42 : decode cX8_chargebackOf 42 = .ok (.ifCond .ne 12, 3) := by decide +kernel
theorem dX8_chargebackOf_45 : decode cX8_chargebackOf 45 = .ok (.aload_n 0, 1) := by decide +kernel
theorem dX8_chargebackOf_46 : decode cX8_chargebackOf 46 = .ok (.getfield 50, 3) := by decide +kernel
theorem dX8_chargebackOf_49 : decode cX8_chargebackOf 49 = .ok (.iload_n 1, 1) := by decide +kernel
theorem dX8_chargebackOf_50 : decode cX8_chargebackOf 50 = .ok (.iaload, 1) := by decide +kernel
theorem dX8_chargebackOf_51 : decode cX8_chargebackOf 51 = .ok (.goto 49, 3) := by decide +kernel
theorem dX8_chargebackOf_54 : decode cX8_chargebackOf 54 = .ok (.iload_n 2, 1) := by decide +kernel
theorem dX8_chargebackOf_55 : decode cX8_chargebackOf 55 = .ok (.iconst 1, 1) := by decide +kernel
theorem dX8_chargebackOf_56 : decode cX8_chargebackOf 56 = .ok (.if_icmp .ne 12, 3) := by decide +kernel
theorem dX8_chargebackOf_59 : decode cX8_chargebackOf 59 = .ok (.aload_n 0, 1) := by decide +kernel
theorem dX8_chargebackOf_60 : decode cX8_chargebackOf 60 = .ok (.getfield 53, 3) := by decide +kernel
theorem dX8_chargebackOf_63 : decode cX8_chargebackOf 63 = .ok (.iload_n 1, 1) := by decide +kernel
theorem dX8_chargebackOf_64 : decode cX8_chargebackOf 64 = .ok (.iaload, 1) := by decide +kernel
theorem dX8_chargebackOf_65 : decode cX8_chargebackOf 65 = .ok (.goto 35, 3) := by decide +kernel
theorem dX8_chargebackOf_68 : decode cX8_chargebackOf 68 = .ok (.iload_n 2, 1) := by decide +kernel
theorem dX8_chargebackOf_69 : decode cX8_chargebackOf 69 = .ok (.iconst 2, 1) := by decide +kernel
theorem dX8_chargebackOf_70 : decode cX8_chargebackOf 70 = .ok (.if_icmp .ne 12, 3) := by decide +kernel
theorem dX8_chargebackOf_73 : decode cX8_chargebackOf 73 = .ok (.aload_n 0, 1) := by decide +kernel
theorem dX8_chargebackOf_74 : decode cX8_chargebackOf 74 = .ok (.getfield 56, 3) := by decide +kernel
theorem dX8_chargebackOf_77 : decode cX8_chargebackOf 77 = .ok (.iload_n 1, 1) := by decide +kernel
theorem dX8_chargebackOf_78 : decode cX8_chargebackOf 78 = .ok (.iaload, 1) := by decide +kernel
theorem dX8_chargebackOf_79 : decode cX8_chargebackOf 79 = .ok (.goto 21, 3) := by decide +kernel
theorem dX8_chargebackOf_82 : decode cX8_chargebackOf 82 = .ok (.aload_n 0, 1) := by decide +kernel
theorem dX8_chargebackOf_83 : decode cX8_chargebackOf 83 = .ok (.iload_n 1, 1) := by decide +kernel
theorem dX8_chargebackOf_84 : decode cX8_chargebackOf 84 = .ok (.invokevirtual 156, 3) := by decide +kernel
theorem dX8_chargebackOf_87 : decode cX8_chargebackOf 87 = .ok (.ifCond .eq 12, 3) := by decide +kernel
theorem dX8_chargebackOf_90 : decode cX8_chargebackOf 90 = .ok (.aload_n 0, 1) := by decide +kernel
theorem dX8_chargebackOf_91 : decode cX8_chargebackOf 91 = .ok (.getfield 59, 3) := by decide +kernel
theorem dX8_chargebackOf_94 : decode cX8_chargebackOf 94 = .ok (.iload_n 1, 1) := by decide +kernel
theorem dX8_chargebackOf_95 : decode cX8_chargebackOf 95 = .ok (.iaload, 1) := by decide +kernel
theorem dX8_chargebackOf_96 : decode cX8_chargebackOf 96 = .ok (.goto 4, 3) := by decide +kernel
theorem dX8_chargebackOf_99 : decode cX8_chargebackOf 99 = .ok (.iconst (-1), 1) := by decide +kernel
theorem dX8_chargebackOf_100 : decode cX8_chargebackOf 100 = .ok (.ireturn, 1) := by decide +kernel
set_option maxRecDepth 20000 in
theorem ggX8_limit_X8_isCard : GoodIn wsX8_limit wsX8_isCard := goodIn_r _ [4, 5, 6, 3, 7] (by decide +kernel) (by decide +kernel)
set_option maxRecDepth 20000 in
theorem gX8_limit_X8_isCard : GoodIn wsX8_limit (va_wsS RX8 101 yX8_isCard wsX8_isCard) := goodIn_app (goodIn_of _ (by decide +kernel)) ggX8_limit_X8_isCard
set_option maxRecDepth 20000 in
theorem ggX8_limit_X8_fails : GoodIn wsX8_limit wsX8_fails := goodIn_r _ [11, 12, 23, 24, 25, 26, 27, 28, 29, 30, 31, 32, 33, 34, 35, 36, 37, 38, 39, 40, 41, 42, 43, 44, 45, 46, 47] (by decide +kernel) (by decide +kernel)
set_option maxRecDepth 20000 in
theorem gX8_limit_X8_fails : GoodIn wsX8_limit (wsV RX8 85 RX8 yX8_fails wsX8_fails) := goodIn_app (goodIn_of _ (by decide +kernel)) ggX8_limit_X8_fails
set_option maxRecDepth 20000 in
theorem ggX8_limit_X8_limitOf : GoodIn wsX8_limit wsX8_limitOf := goodIn_r _ [16, 17, 18, 19, 20, 21, 22, 23, 24, 25, 26, 27, 28, 29, 30, 31, 32, 33, 34, 35, 36, 37, 38, 39, 40, 41, 42, 43, 44, 45, 46, 47] (by decide +kernel) (by decide +kernel)
set_option maxRecDepth 20000 in
theorem gX8_limit_X8_limitOf : GoodIn wsX8_limit (wsV RX8 110 RX8 yX8_limitOf wsX8_limitOf) := goodIn_app (goodIn_of _ (by decide +kernel)) ggX8_limit_X8_limitOf
theorem dX8_limit_0 : decode cX8_limit 0 = .ok (.aload_n 0, 1) := by decide +kernel
theorem dX8_limit_1 : decode cX8_limit 1 = .ok (.iload_n 1, 1) := by decide +kernel
theorem dX8_limit_2 : decode cX8_limit 2 = .ok (.invokestatic 101, 3) := by decide +kernel
theorem dX8_limit_5 : decode cX8_limit 5 = .ok (.ifCond .eq 7, 3) := by decide +kernel
theorem dX8_limit_8 : decode cX8_limit 8 = .ok (.iconst 0, 1) := by decide +kernel
theorem dX8_limit_9 : decode cX8_limit 9 = .ok (.goto 4, 3) := by decide +kernel
theorem dX8_limit_12 : decode cX8_limit 12 = .ok (.iconst 1, 1) := by decide +kernel
theorem dX8_limit_13 : decode cX8_limit 13 = .ok (.invokevirtual 85, 3) := by decide +kernel
theorem dX8_limit_16 : decode cX8_limit 16 = .ok (.ifCond .eq 7, 3) := by decide +kernel
theorem dX8_limit_19 : decode cX8_limit 19 = .ok (.iconst 0, 1) := by decide +kernel
theorem dX8_limit_20 : decode cX8_limit 20 = .ok (.goto 8, 3) := by decide +kernel
theorem dX8_limit_23 : decode cX8_limit 23 = .ok (.aload_n 0, 1) := by decide +kernel
theorem dX8_limit_24 : decode cX8_limit 24 = .ok (.iload_n 1, 1) := by decide +kernel
theorem dX8_limit_25 : decode cX8_limit 25 = .ok (.invokevirtual 110, 3) := by decide +kernel
theorem dX8_limit_28 : decode cX8_limit 28 = .ok (.ireturn, 1) := by decide +kernel
set_option maxRecDepth 20000 in
theorem ggX8_isBank_X8_isIn : GoodIn wsX8_isBank wsX8_isIn := goodIn_r _ [4] (by decide +kernel) (by decide +kernel)
set_option maxRecDepth 20000 in
theorem gX8_isBank_X8_isIn : GoodIn wsX8_isBank (va_wsS RX8 74 yX8_isIn wsX8_isIn) := goodIn_app (goodIn_of _ (by decide +kernel)) ggX8_isBank_X8_isIn
theorem dX8_isBank_0 : decode cX8_isBank 0 = .ok (.iload_n 0, 1) := by decide +kernel
theorem dX8_isBank_1 : decode cX8_isBank 1 = .ok (.iconst 0, 1) := by decide +kernel
theorem dX8_isBank_2 : decode cX8_isBank 2 = .ok (.iconst 3, 1) := by decide +kernel
theorem dX8_isBank_3 : decode cX8_isBank 3 = .ok (.invokestatic 74, 3) := by decide +kernel
theorem dX8_isBank_6 : decode cX8_isBank 6 = .ok (.ireturn, 1) := by decide +kernel
set_option maxRecDepth 20000 in
theorem ggX8_net_X8_isBank : GoodIn wsX8_net wsX8_isBank := goodIn_r _ [6, 7, 8, 5, 9] (by decide +kernel) (by decide +kernel)
set_option maxRecDepth 20000 in
theorem gX8_net_X8_isBank : GoodIn wsX8_net (va_wsS RX8 159 yX8_isBank wsX8_isBank) := goodIn_app (goodIn_of _ (by decide +kernel)) ggX8_net_X8_isBank
set_option maxRecDepth 20000 in
theorem ggX8_net_X8_fails : GoodIn wsX8_net wsX8_fails := goodIn_r _ [13, 14, 15, 16, 17, 18, 19, 20, 21, 22, 23, 24, 25, 26, 27, 28, 29, 30, 31, 32, 33, 34, 35, 36, 37, 38, 39] (by decide +kernel) (by decide +kernel)
set_option maxRecDepth 20000 in
theorem gX8_net_X8_fails : GoodIn wsX8_net (wsV RX8 85 RX8 yX8_fails wsX8_fails) := goodIn_app (goodIn_of _ (by decide +kernel)) ggX8_net_X8_fails
theorem dX8_net_0 : decode cX8_net 0 = .ok (.aload_n 0, 1) := by decide +kernel
theorem dX8_net_1 : decode cX8_net 1 = .ok (.iload_n 1, 1) := by decide +kernel
theorem dX8_net_2 : decode cX8_net 2 = .ok (.invokestatic 159, 3) := by decide +kernel
theorem dX8_net_5 : decode cX8_net 5 = .ok (.ifCond .eq 7, 3) := by decide +kernel
theorem dX8_net_8 : decode cX8_net 8 = .ok (.iconst 0, 1) := by decide +kernel
theorem dX8_net_9 : decode cX8_net 9 = .ok (.goto 4, 3) := by decide +kernel
theorem dX8_net_12 : decode cX8_net 12 = .ok (.iconst 1, 1) := by decide +kernel
theorem dX8_net_13 : decode cX8_net 13 = .ok (.invokevirtual 85, 3) := by decide +kernel
theorem dX8_net_16 : decode cX8_net 16 = .ok (.ifCond .eq 7, 3) := by decide +kernel
theorem dX8_net_19 : decode cX8_net 19 = .ok (.lconst 0, 1) := by decide +kernel
theorem dX8_net_20 : decode cX8_net 20 = .ok (.goto 22, 3) := by decide +kernel
theorem dX8_net_23 : decode cX8_net 23 = .ok (.iload_n 2, 1) := by decide +kernel
theorem dX8_net_24 : decode cX8_net 24 = .ok (.ifCond .eq 12, 3) := by decide +kernel
theorem dX8_net_27 : decode cX8_net 27 = .ok (.aload_n 0, 1) := by decide +kernel
theorem dX8_net_28 : decode cX8_net 28 = .ok (.getfield 62, 3) := by decide +kernel
theorem dX8_net_31 : decode cX8_net 31 = .ok (.iload_n 1, 1) := by decide +kernel
theorem dX8_net_32 : decode cX8_net 32 = .ok (.laload, 1) := by decide +kernel
theorem dX8_net_33 : decode cX8_net 33 = .ok (.goto 9, 3) := by decide +kernel
theorem dX8_net_36 : decode cX8_net 36 = .ok (.aload_n 0, 1) := by decide +kernel
theorem dX8_net_37 : decode cX8_net 37 = .ok (.getfield 66, 3) := by decide +kernel
theorem dX8_net_40 : decode cX8_net 40 = .ok (.iload_n 1, 1) := by decide +kernel
theorem dX8_net_41 : decode cX8_net 41 = .ok (.laload, 1) := by decide +kernel
theorem dX8_net_42 : decode cX8_net 42 = .ok (.lreturn, 1) := by decide +kernel
set_option maxRecDepth 20000 in
theorem ggX8_netAnew_X8_isBank : GoodIn wsX8_netAnew wsX8_isBank := goodIn_r _ [5, 6, 7, 4, 8] (by decide +kernel) (by decide +kernel)
set_option maxRecDepth 20000 in
theorem gX8_netAnew_X8_isBank : GoodIn wsX8_netAnew (va_wsS RX8 159 yX8_isBank wsX8_isBank) := goodIn_app (goodIn_of _ (by decide +kernel)) ggX8_netAnew_X8_isBank
set_option maxRecDepth 20000 in
theorem ggX8_netAnew_X8_fails : GoodIn wsX8_netAnew wsX8_fails := goodIn_r _ [12, 13, 14, 15, 16, 17, 18, 19, 20, 21, 22, 23, 24, 25, 26, 27, 28, 29, 30, 31, 32, 33, 34, 35, 36, 37, 38] (by decide +kernel) (by decide +kernel)
set_option maxRecDepth 20000 in
theorem gX8_netAnew_X8_fails : GoodIn wsX8_netAnew (wsV RX8 85 RX8 yX8_fails wsX8_fails) := goodIn_app (goodIn_of _ (by decide +kernel)) ggX8_netAnew_X8_fails
theorem dX8_netAnew_0 : decode cX8_netAnew 0 = .ok (.aload_n 0, 1) := by decide +kernel
theorem dX8_netAnew_1 : decode cX8_netAnew 1 = .ok (.iload_n 1, 1) := by decide +kernel
theorem dX8_netAnew_2 : decode cX8_netAnew 2 = .ok (.invokestatic 159, 3) := by decide +kernel
theorem dX8_netAnew_5 : decode cX8_netAnew 5 = .ok (.ifCond .eq 7, 3) := by decide +kernel
theorem dX8_netAnew_8 : decode cX8_netAnew 8 = .ok (.iconst 0, 1) := by decide +kernel
theorem dX8_netAnew_9 : decode cX8_netAnew 9 = .ok (.goto 4, 3) := by decide +kernel
theorem dX8_netAnew_12 : decode cX8_netAnew 12 = .ok (.iconst 1, 1) := by decide +kernel
theorem dX8_netAnew_13 : decode cX8_netAnew 13 = .ok (.invokevirtual 85, 3) := by decide +kernel
theorem dX8_netAnew_16 : decode cX8_netAnew 16 = .ok (.ifCond .eq 7, 3) := by decide +kernel
theorem dX8_netAnew_19 : decode cX8_netAnew 19 = .ok (.lconst 0, 1) := by decide +kernel
theorem dX8_netAnew_20 : decode cX8_netAnew 20 = .ok (.goto 9, 3) := by decide +kernel
theorem dX8_netAnew_23 : decode cX8_netAnew 23 = .ok (.aload_n 0, 1) := by decide +kernel
theorem dX8_netAnew_24 : decode cX8_netAnew 24 = .ok (.getfield 62, 3) := by decide +kernel
theorem dX8_netAnew_27 : decode cX8_netAnew 27 = .ok (.iload_n 1, 1) := by decide +kernel
theorem dX8_netAnew_28 : decode cX8_netAnew 28 = .ok (.laload, 1) := by decide +kernel
theorem dX8_netAnew_29 : decode cX8_netAnew 29 = .ok (.lreturn, 1) := by decide +kernel
theorem dX8_isAhead_0 : decode cX8_isAhead 0 = .ok (.aload_n 0, 1) := by decide +kernel
theorem dX8_isAhead_1 : decode cX8_isAhead 1 = .ok (.getfield 59, 3) := by decide +kernel
theorem dX8_isAhead_4 : decode cX8_isAhead 4 = .ok (.iload_n 1, 1) := by decide +kernel
theorem dX8_isAhead_5 : decode cX8_isAhead 5 = .ok (.iaload, 1) := by decide +kernel
theorem dX8_isAhead_6 : decode cX8_isAhead 6 = .ok (.aload_n 0, 1) := by decide +kernel
theorem dX8_isAhead_7 : decode cX8_isAhead 7 = .ok (.getfield 59, 3) := by decide +kernel
theorem dX8_isAhead_10 : decode cX8_isAhead 10 = .ok (.iload_n 2, 1) := by decide +kernel
theorem dX8_isAhead_11 : decode cX8_isAhead 11 = .ok (.iaload, 1) := by decide +kernel
theorem dX8_isAhead_12 : decode cX8_isAhead 12 = .ok (.if_icmp .eq 24, 3) := by decide +kernel
theorem dX8_isAhead_15 : decode cX8_isAhead 15 = .ok (.aload_n 0, 1) := by decide +kernel
theorem dX8_isAhead_16 : decode cX8_isAhead 16 = .ok (.getfield 59, 3) := by decide +kernel
theorem dX8_isAhead_19 : decode cX8_isAhead 19 = .ok (.iload_n 1, 1) := by decide +kernel
theorem dX8_isAhead_20 : decode cX8_isAhead 20 = .ok (.iaload, 1) := by decide +kernel
theorem dX8_isAhead_21 : decode cX8_isAhead 21 = .ok (.aload_n 0, 1) := by decide +kernel
theorem dX8_isAhead_22 : decode cX8_isAhead 22 = .ok (.getfield 59, 3) := by decide +kernel
theorem dX8_isAhead_25 : decode cX8_isAhead 25 = .ok (.iload_n 2, 1) := by decide +kernel
theorem dX8_isAhead_26 : decode cX8_isAhead 26 = .ok (.iaload, 1) := by decide +kernel
theorem dX8_isAhead_27 : decode cX8_isAhead 27 = .ok (.if_icmp .ge 7, 3) := by decide +kernel
theorem dX8_isAhead_30 : decode cX8_isAhead 30 = .ok (.iconst 1, 1) := by decide +kernel
theorem dX8_isAhead_31 : decode cX8_isAhead 31 = .ok (.goto 4, 3) := by decide +kernel
theorem dX8_isAhead_34 : decode cX8_isAhead 34 = .ok (.iconst 0, 1) := by decide +kernel
theorem dX8_isAhead_35 : decode cX8_isAhead 35 = .ok (.ireturn, 1) := by decide +kernel
theorem dX8_isAhead_36 : decode cX8_isAhead 36 = .ok (.aload_n 0, 1) := by decide +kernel
theorem dX8_isAhead_37 : decode cX8_isAhead 37 = .ok (.getfield 56, 3) := by decide +kernel
theorem dX8_isAhead_40 : decode cX8_isAhead 40 = .ok (.iload_n 1, 1) := by decide +kernel
theorem dX8_isAhead_41 : decode cX8_isAhead 41 = .ok (.iaload, 1) := by decide +kernel
theorem dX8_isAhead_42 : decode cX8_isAhead 42 = .ok (.aload_n 0, 1) := by decide +kernel
theorem dX8_isAhead_43 : decode cX8_isAhead 43 = .ok (.getfield 56, 3) := by decide +kernel
theorem dX8_isAhead_46 : decode cX8_isAhead 46 = .ok (.iload_n 2, 1) := by decide +kernel
theorem dX8_isAhead_47 : decode cX8_isAhead 47 = .ok (.iaload, 1) := by decide +kernel
theorem dX8_isAhead_48 : decode cX8_isAhead 48 = .ok (.if_icmp .gt 23, 3) := by decide +kernel
theorem dX8_isAhead_51 : decode cX8_isAhead 51 = .ok (.aload_n 0, 1) := by decide +kernel
theorem dX8_isAhead_52 : decode cX8_isAhead 52 = .ok (.getfield 56, 3) := by decide +kernel
theorem dX8_isAhead_55 : decode cX8_isAhead 55 = .ok (.iload_n 1, 1) := by decide +kernel
theorem dX8_isAhead_56 : decode cX8_isAhead 56 = .ok (.iaload, 1) := by decide +kernel
theorem dX8_isAhead_57 : decode cX8_isAhead 57 = .ok (.aload_n 0, 1) := by decide +kernel
theorem dX8_isAhead_58 : decode cX8_isAhead 58 = .ok (.getfield 56, 3) := by decide +kernel
theorem dX8_isAhead_61 : decode cX8_isAhead 61 = .ok (.iload_n 2, 1) := by decide +kernel
theorem dX8_isAhead_62 : decode cX8_isAhead 62 = .ok (.iaload, 1) := by decide +kernel
theorem dX8_isAhead_63 : decode cX8_isAhead 63 = .ok (.if_icmp .ne 12, 3) := by decide +kernel
theorem dX8_isAhead_66 : decode cX8_isAhead 66 = .ok (.iload_n 1, 1) := by decide +kernel
theorem dX8_isAhead_67 : decode cX8_isAhead 67 = .ok (.iload_n 2, 1) := by decide +kernel
theorem dX8_isAhead_68 : decode cX8_isAhead 68 = .ok (.if_icmp .ge 7, 3) := by decide +kernel
theorem dX8_isAhead_71 : decode cX8_isAhead 71 = .ok (.iconst 1, 1) := by decide +kernel
theorem dX8_isAhead_72 : decode cX8_isAhead 72 = .ok (.goto 4, 3) := by decide +kernel
theorem dX8_isAhead_75 : decode cX8_isAhead 75 = .ok (.iconst 0, 1) := by decide +kernel
theorem dX8_isAhead_76 : decode cX8_isAhead 76 = .ok (.ireturn, 1) := by decide +kernel
set_option maxRecDepth 20000 in
theorem ggX8_due_X8_fails : GoodIn wsX8_due wsX8_fails := goodIn_r _ [6, 7, 19, 20, 21, 22, 23, 24, 25, 26, 27, 28, 29, 30, 31, 32, 33, 34, 35, 36, 37, 38, 39, 40, 41, 42, 43] (by decide +kernel) (by decide +kernel)
set_option maxRecDepth 20000 in
theorem gX8_due_X8_fails : GoodIn wsX8_due (wsV RX8 85 RX8 yX8_fails wsX8_fails) := goodIn_app (goodIn_of _ (by decide +kernel)) ggX8_due_X8_fails
set_option maxRecDepth 20000 in
theorem ggX8_due_X8_isDue : GoodIn wsX8_due wsX8_isDue := goodIn_r _ [11, 12, 19, 20, 21, 22, 23, 24, 25, 26, 27, 28, 29, 30, 31, 32, 33, 34, 35, 36, 37, 38, 39, 40, 41, 42, 43] (by decide +kernel) (by decide +kernel)
set_option maxRecDepth 20000 in
theorem gX8_due_X8_isDue : GoodIn wsX8_due (wsV RX8 156 RX8 yX8_isDue wsX8_isDue) := goodIn_app (goodIn_of _ (by decide +kernel)) ggX8_due_X8_isDue
set_option maxRecDepth 20000 in
theorem ggX8_due_X8_isAhead : GoodIn wsX8_due wsX8_isAhead := goodIn_r _ [16, 17, 18, 19, 20, 21, 22, 23, 24, 25, 26, 27, 28, 29, 30, 31, 32, 33, 34, 35, 36, 37, 38, 39, 40, 41, 42, 43] (by decide +kernel) (by decide +kernel)
set_option maxRecDepth 20000 in
theorem gX8_due_X8_isAhead : GoodIn wsX8_due (wsV RX8 162 RX8 yX8_isAhead wsX8_isAhead) := goodIn_app (goodIn_of _ (by decide +kernel)) ggX8_due_X8_isAhead
theorem dX8_due_0 : decode cX8_due 0 = .ok (.aload_n 0, 1) := by decide +kernel
theorem dX8_due_1 : decode cX8_due 1 = .ok (.iload_n 1, 1) := by decide +kernel
theorem dX8_due_2 : decode cX8_due 2 = .ok (.ifCond .ge 7, 3) := by decide +kernel
theorem dX8_due_5 : decode cX8_due 5 = .ok (.iconst 1, 1) := by decide +kernel
theorem dX8_due_6 : decode cX8_due 6 = .ok (.goto 4, 3) := by decide +kernel
theorem dX8_due_9 : decode cX8_due 9 = .ok (.iconst 0, 1) := by decide +kernel
theorem dX8_due_10 : decode cX8_due 10 = .ok (.invokevirtual 85, 3) := by decide +kernel
theorem dX8_due_13 : decode cX8_due 13 = .ok (.ifCond .eq 5, 3) := by decide +kernel
theorem dX8_due_16 : decode cX8_due 16 = .ok (.iconst 0, 1) := by decide +kernel
theorem dX8_due_17 : decode cX8_due 17 = .ok (.ireturn, 1) := by decide +kernel
theorem dX8_due_18 : decode cX8_due 18 = .ok (.iconst (-1), 1) := by decide +kernel
theorem dX8_due_19 : decode cX8_due 19 = .ok (.istore_n 2, 1) := by decide +kernel
theorem dX8_due_20 : decode cX8_due 20 = .ok (.iconst 0, 1) := by decide +kernel
theorem dX8_due_21 : decode cX8_due 21 = .ok (.istore_n 3, 1) := by decide +kernel
theorem dX8_due_22 : decode cX8_due 22 = .ok (.iload_n 3, 1) := by decide +kernel
theorem dX8_due_23 : decode cX8_due 23 = .ok (.aload_n 0, 1) := by decide +kernel
theorem dX8_due_24 : decode cX8_due 24 = .ok (.getfield 136, 3) := by decide +kernel
theorem dX8_due_27 : decode cX8_due 27 = .ok (.if_icmp .ge 85, 3) := by decide +kernel
theorem dX8_due_30 : decode cX8_due 30 = .ok (.iconst 0, 1) := by decide +kernel
theorem dX8_due_31 : decode cX8_due 31 = .ok (.istore 4, 2) := by decide +kernel
theorem dX8_due_33 : decode cX8_due 33 = .ok (.iconst 0, 1) := by decide +kernel
theorem dX8_due_34 : decode cX8_due 34 = .ok (.istore 5, 2) := by decide +kernel
theorem dX8_due_36 : decode cX8_due 36 = .ok (.iload 5, 2) := by decide +kernel
theorem dX8_due_38 : decode cX8_due 38 = .ok (.aload_n 0, 1) := by decide +kernel
theorem dX8_due_39 : decode cX8_due 39 = .ok (.getfield 136, 3) := by decide +kernel
theorem dX8_due_42 : decode cX8_due 42 = .ok (.if_icmp .ge 44, 3) := by decide +kernel
theorem dX8_due_45 : decode cX8_due 45 = .ok (.iload 4, 2) := by decide +kernel
theorem dX8_due_47 : decode cX8_due 47 = .ok (.iload 5, 2) := by decide +kernel
theorem dX8_due_49 : decode cX8_due 49 = .ok (.iload_n 3, 1) := by decide +kernel
theorem dX8_due_50 : decode cX8_due 50 = .ok (.if_icmp .eq 26, 3) := by decide +kernel
theorem dX8_due_53 : decode cX8_due 53 = .ok (.aload_n 0, 1) := by decide +kernel
theorem dX8_due_54 : decode cX8_due 54 = .ok (.iload 5, 2) := by decide +kernel
theorem dX8_due_56 : decode cX8_due 56 = .ok (.invokevirtual 156, 3) := by decide +kernel
theorem dX8_due_59 : decode cX8_due 59 = .ok (.ifCond .eq 17, 3) := by decide +kernel
theorem dX8_due_62 : decode cX8_due 62 = .ok (.aload_n 0, 1) := by decide +kernel
theorem dX8_due_63 : decode cX8_due 63 = .ok (.iload 5, 2) := by decide +kernel
theorem dX8_due_65 : decode cX8_due 65 = .ok (.iload_n 3, 1) := by decide +kernel
theorem dX8_due_66 : decode cX8_due 66 = .ok (.invokevirtual 162, 3) := by decide +kernel
theorem dX8_due_69 : decode cX8_due 69 = .ok (.ifCond .eq 7, 3) := by decide +kernel
theorem dX8_due_72 : decode cX8_due 72 = .ok (.iconst 1, 1) := by decide +kernel
theorem dX8_due_73 : decode cX8_due 73 = .ok (.goto 4, 3) := by decide +kernel
theorem dX8_due_76 : decode cX8_due 76 = .ok (.iconst 0, 1) := by decide +kernel
theorem dX8_due_77 : decode cX8_due 77 = .ok (.iadd, 1) := by decide +kernel
theorem dX8_due_78 : decode cX8_due 78 = .ok (.istore 4, 2) := by decide +kernel
theorem dX8_due_80 : decode cX8_due 80 = .ok (.iinc 5 1, 3) := by decide +kernel
theorem dX8_due_83 : decode cX8_due 83 = .ok (.goto (-47), 3) := by decide +kernel
theorem dX8_due_86 : decode cX8_due 86 = .ok (.aload_n 0, 1) := by decide +kernel
theorem dX8_due_87 : decode cX8_due 87 = .ok (.iload_n 3, 1) := by decide +kernel
theorem dX8_due_88 : decode cX8_due 88 = .ok (.invokevirtual 156, 3) := by decide +kernel
theorem dX8_due_91 : decode cX8_due 91 = .ok (.ifCond .eq 13, 3) := by decide +kernel
theorem dX8_due_94 : decode cX8_due 94 = .ok (.iload 4, 2) := by decide +kernel
theorem dX8_due_96 : decode cX8_due 96 = .ok (.iload_n 1, 1) := by decide +kernel
theorem dX8_due_97 : decode cX8_due 97 = .ok (.if_icmp .ne 7, 3) := by decide +kernel
theorem dX8_due_100 : decode cX8_due 100 = .ok (.iload_n 3, 1) := by decide +kernel
theorem dX8_due_101 : decode cX8_due 101 = .ok (.goto 4, 3) := by decide +kernel
theorem dX8_due_104 : decode cX8_due 104 = .ok (.iload_n 2, 1) := by decide +kernel
theorem dX8_due_105 : decode cX8_due 105 = .ok (.istore_n 2, 1) := by decide +kernel
theorem dX8_due_106 : decode cX8_due 106 = .ok (.iinc 3 1, 3) := by decide +kernel
theorem dX8_due_109 : decode cX8_due 109 = .ok (.goto (-87), 3) := by decide +kernel
theorem dX8_due_112 : decode cX8_due 112 = .ok (.iload_n 2, 1) := by decide +kernel
theorem dX8_due_113 : decode cX8_due 113 = .ok (.ireturn, 1) := by decide +kernel
set_option maxRecDepth 20000 in
theorem ggX8_count_X8_isIn : GoodIn wsX8_count wsX8_isIn := goodIn_r _ [9] (by decide +kernel) (by decide +kernel)
set_option maxRecDepth 20000 in
theorem gX8_count_X8_isIn : GoodIn wsX8_count (va_wsS RX8 74 yX8_isIn wsX8_isIn) := goodIn_app (goodIn_of _ (by decide +kernel)) ggX8_count_X8_isIn
set_option maxRecDepth 20000 in
theorem ggX8_count_X8_fails : GoodIn wsX8_count wsX8_fails := goodIn_r _ [13, 14, 15, 16, 17, 18, 19, 20, 21, 22, 23, 24, 25, 26, 27, 28, 29, 30, 31, 32, 33, 34, 35, 36, 37, 38, 39] (by decide +kernel) (by decide +kernel)
set_option maxRecDepth 20000 in
theorem gX8_count_X8_fails : GoodIn wsX8_count (wsV RX8 85 RX8 yX8_fails wsX8_fails) := goodIn_app (goodIn_of _ (by decide +kernel)) ggX8_count_X8_fails
theorem dX8_count_0 : decode cX8_count 0 = .ok (.aload_n 0, 1) := by decide +kernel
theorem dX8_count_1 : decode cX8_count 1 = .ok (.iload_n 1, 1) := by decide +kernel
theorem dX8_count_2 : decode cX8_count 2 = .ok (.iconst 0, 1) := by decide +kernel
theorem dX8_count_3 : decode cX8_count 3 = .ok (.iconst 4, 1) := by decide +kernel
theorem dX8_count_4 : decode cX8_count 4 = .ok (.invokestatic 74, 3) := by decide +kernel
theorem dX8_count_7 : decode cX8_count 7 = .ok (.ifCond .eq 7, 3) := by decide +kernel
theorem dX8_count_10 : decode cX8_count 10 = .ok (.iconst 0, 1) := by decide +kernel
theorem dX8_count_11 : decode cX8_count 11 = .ok (.goto 4, 3) := by decide +kernel
theorem dX8_count_14 : decode cX8_count 14 = .ok (.iconst 1, 1) := by decide +kernel
theorem dX8_count_15 : decode cX8_count 15 = .ok (.invokevirtual 85, 3) := by decide +kernel
theorem dX8_count_18 : decode cX8_count 18 = .ok (.ifCond .eq 5, 3) := by decide +kernel
theorem dX8_count_21 : decode cX8_count 21 = .ok (.iconst 0, 1) := by decide +kernel
theorem dX8_count_22 : decode cX8_count 22 = .ok (.ireturn, 1) := by decide +kernel
theorem dX8_count_23 : decode cX8_count 23 = .ok (.iload_n 1, 1) := by decide +kernel
theorem dX8_count_24 : decode cX8_count 24 = .ok (.ifCond .ne 10, 3) := by decide +kernel
theorem dX8_count_27 : decode cX8_count 27 = .ok (.aload_n 0, 1) := by decide +kernel
theorem dX8_count_28 : decode cX8_count 28 = .ok (.getfield 107, 3) := by decide +kernel
theorem dX8_count_31 : decode cX8_count 31 = .ok (.goto 43, 3) := by decide +kernel
theorem dX8_count_34 : decode cX8_count 34 = .ok (.iload_n 1, 1) := by decide +kernel
theorem dX8_count_35 : decode cX8_count 35 = .ok (.iconst 1, 1) := by decide +kernel
theorem dX8_count_36 : decode cX8_count 36 = .ok (.if_icmp .ne 10, 3) := by decide +kernel
theorem dX8_count_39 : decode cX8_count 39 = .ok (.aload_n 0, 1) := by decide +kernel
theorem dX8_count_40 : decode cX8_count 40 = .ok (.getfield 94, 3) := by decide +kernel
theorem dX8_count_43 : decode cX8_count 43 = .ok (.goto 31, 3) := by decide +kernel
theorem dX8_count_46 : decode cX8_count 46 = .ok (.iload_n 1, 1) := by decide +kernel
theorem dX8_count_47 : decode cX8_count 47 = .ok (.iconst 2, 1) := by decide +kernel
theorem dX8_count_48 : decode cX8_count 48 = .ok (.if_icmp .ne 10, 3) := by decide +kernel
theorem dX8_count_51 : decode cX8_count 51 = .ok (.aload_n 0, 1) := by decide +kernel
theorem dX8_count_52 : decode cX8_count 52 = .ok (.getfield 136, 3) := by decide +kernel
theorem dX8_count_55 : decode cX8_count 55 = .ok (.goto 19, 3) := by decide +kernel
theorem dX8_count_58 : decode cX8_count 58 = .ok (.iload_n 1, 1) := by decide +kernel
theorem dX8_count_59 : decode cX8_count 59 = .ok (.iconst 3, 1) := by decide +kernel
theorem dX8_count_60 : decode cX8_count 60 = .ok (.if_icmp .ne 10, 3) := by decide +kernel
theorem dX8_count_63 : decode cX8_count 63 = .ok (.aload_n 0, 1) := by decide +kernel
theorem dX8_count_64 : decode cX8_count 64 = .ok (.getfield 123, 3) := by decide +kernel
theorem dX8_count_67 : decode cX8_count 67 = .ok (.goto 7, 3) := by decide +kernel
theorem dX8_count_70 : decode cX8_count 70 = .ok (.aload_n 0, 1) := by decide +kernel
theorem dX8_count_71 : decode cX8_count 71 = .ok (.getfield 114, 3) := by decide +kernel
theorem dX8_count_74 : decode cX8_count 74 = .ok (.ireturn, 1) := by decide +kernel
theorem dJ9_max_7cf53_0 : decode cJ9_max_7cf53 0 = .ok (.iload_n 0, 1) := by decide +kernel
theorem dJ9_max_7cf53_1 : decode cJ9_max_7cf53 1 = .ok (.iload_n 1, 1) := by decide +kernel
theorem dJ9_max_7cf53_2 : decode cJ9_max_7cf53 2 = .ok (.if_icmp .lt 7, 3) := by decide +kernel
theorem dJ9_max_7cf53_5 : decode cJ9_max_7cf53 5 = .ok (.iload_n 0, 1) := by decide +kernel
theorem dJ9_max_7cf53_6 : decode cJ9_max_7cf53 6 = .ok (.goto 4, 3) := by decide +kernel
theorem dJ9_max_7cf53_9 : decode cJ9_max_7cf53 9 = .ok (.iload_n 1, 1) := by decide +kernel
theorem dJ9_max_7cf53_10 : decode cJ9_max_7cf53 10 = .ok (.ireturn, 1) := by decide +kernel
theorem dJ9_min_7cf53_0 : decode cJ9_min_7cf53 0 = .ok (.iload_n 0, 1) := by decide +kernel
theorem dJ9_min_7cf53_1 : decode cJ9_min_7cf53 1 = .ok (.iload_n 1, 1) := by decide +kernel
theorem dJ9_min_7cf53_2 : decode cJ9_min_7cf53 2 = .ok (.if_icmp .gt 7, 3) := by decide +kernel
theorem dJ9_min_7cf53_5 : decode cJ9_min_7cf53 5 = .ok (.iload_n 0, 1) := by decide +kernel
theorem dJ9_min_7cf53_6 : decode cJ9_min_7cf53 6 = .ok (.goto 4, 3) := by decide +kernel
theorem dJ9_min_7cf53_9 : decode cJ9_min_7cf53 9 = .ok (.iload_n 1, 1) := by decide +kernel
theorem dJ9_min_7cf53_10 : decode cJ9_min_7cf53 10 = .ok (.ireturn, 1) := by decide +kernel
theorem dJxa1e45_init_da8c8_0 : decode cJxa1e45_init_da8c8 0 = .ok (.aload_n 0, 1) := by decide +kernel
theorem dJxa1e45_init_da8c8_1 : decode cJxa1e45_init_da8c8 1 = .ok (.invokespecial 1, 3) := by decide +kernel
theorem dJxa1e45_init_da8c8_4 : decode cJxa1e45_init_da8c8 4 = .ok (.return_, 1) := by decide +kernel
set_option maxRecDepth 20000 in
theorem ggJxc12de_init_da8c8_Jxa1e45_init_da8c8 : GoodIn wsJxc12de_init_da8c8 wsJxa1e45_init_da8c8 := goodIn_r _ [5, 6, 7, 8] (by decide +kernel) (by decide +kernel)
set_option maxRecDepth 20000 in
theorem gJxc12de_init_da8c8_Jxa1e45_init_da8c8 : GoodIn wsJxc12de_init_da8c8 (wsJxa1e45_init_da8c8) := ggJxc12de_init_da8c8_Jxa1e45_init_da8c8
theorem dJxc12de_init_da8c8_0 : decode cJxc12de_init_da8c8 0 = .ok (.aload_n 0, 1) := by decide +kernel
theorem dJxc12de_init_da8c8_1 : decode cJxc12de_init_da8c8 1 = .ok (.invokespecial 1, 3) := by decide +kernel
theorem dJxc12de_init_da8c8_4 : decode cJxc12de_init_da8c8 4 = .ok (.aload_n 0, 1) := by decide +kernel
theorem dJxc12de_init_da8c8_5 : decode cJxc12de_init_da8c8 5 = .ok (.iconst 0, 1) := by decide +kernel
theorem dJxc12de_init_da8c8_6 : decode cJxc12de_init_da8c8 6 = .ok (.putfield 7, 3) := by decide +kernel
theorem dJxc12de_init_da8c8_9 : decode cJxc12de_init_da8c8 9 = .ok (.return_, 1) := by decide +kernel
set_option maxRecDepth 20000 in
theorem ggJx4a65c_init_da8c8_Jxc12de_init_da8c8 : GoodIn wsJx4a65c_init_da8c8 wsJxc12de_init_da8c8 := goodIn_r _ [6, 7, 8, 9, 10, 11, 12, 13, 14, 15, 16, 17] (by decide +kernel) (by decide +kernel)
set_option maxRecDepth 20000 in
theorem gJx4a65c_init_da8c8_Jxc12de_init_da8c8 : GoodIn wsJx4a65c_init_da8c8 (wsJxc12de_init_da8c8) := ggJx4a65c_init_da8c8_Jxc12de_init_da8c8
theorem dJx4a65c_init_da8c8_0 : decode cJx4a65c_init_da8c8 0 = .ok (.aload_n 0, 1) := by decide +kernel
theorem dJx4a65c_init_da8c8_1 : decode cJx4a65c_init_da8c8 1 = .ok (.invokespecial 1, 3) := by decide +kernel
theorem dJx4a65c_init_da8c8_4 : decode cJx4a65c_init_da8c8 4 = .ok (.aload_n 0, 1) := by decide +kernel
theorem dJx4a65c_init_da8c8_5 : decode cJx4a65c_init_da8c8 5 = .ok (.getstatic 39, 3) := by decide +kernel
theorem dJx4a65c_init_da8c8_8 : decode cJx4a65c_init_da8c8 8 = .ok (.putfield 9, 3) := by decide +kernel
theorem dJx4a65c_init_da8c8_11 : decode cJx4a65c_init_da8c8 11 = .ok (.return_, 1) := by decide +kernel
set_option maxRecDepth 20000 in
theorem ggJx4a65c_grow_92f84_J8_newLength_cabcc : GoodIn wsJx4a65c_grow_92f84 wsJ8_newLength_cabcc := goodIn_r _ [11, 12, 4, 5, 6, 13, 14, 15, 10, 16] (by decide +kernel) (by decide +kernel)
set_option maxRecDepth 20000 in
theorem gJx4a65c_grow_92f84_J8_newLength_cabcc : GoodIn wsJx4a65c_grow_92f84 (va_wsS RJx4a65c 73 yJ8_newLength_cabcc wsJ8_newLength_cabcc) := goodIn_app (goodIn_of _ (by decide +kernel)) ggJx4a65c_grow_92f84_J8_newLength_cabcc
set_option maxRecDepth 20000 in
theorem ggJx4a65c_grow_92f84_J7_copyOf_1904c : GoodIn wsJx4a65c_grow_92f84 wsJ7_copyOf_1904c := goodIn_r _ [20, 21, 22, 23, 24, 25, 26, 19, 27, 28, 29, 30, 31, 5, 32, 33, 34, 35, 36] (by decide +kernel) (by decide +kernel)
set_option maxRecDepth 20000 in
theorem gJx4a65c_grow_92f84_J7_copyOf_1904c : GoodIn wsJx4a65c_grow_92f84 (va_wsS RJx4a65c 66 yJ7_copyOf_1904c wsJ7_copyOf_1904c) := goodIn_app (goodIn_of _ (by decide +kernel)) ggJx4a65c_grow_92f84_J7_copyOf_1904c
theorem dJx4a65c_grow_92f84_0 : decode cJx4a65c_grow_92f84 0 = .ok (.aload_n 0, 1) := by decide +kernel
theorem dJx4a65c_grow_92f84_1 : decode cJx4a65c_grow_92f84 1 = .ok (.getfield 9, 3) := by decide +kernel
theorem dJx4a65c_grow_92f84_4 : decode cJx4a65c_grow_92f84 4 = .ok (.arraylength, 1) := by decide +kernel
theorem dJx4a65c_grow_92f84_5 : decode cJx4a65c_grow_92f84 5 = .ok (.istore_n 2, 1) := by decide +kernel
theorem dJx4a65c_grow_92f84_6 : decode cJx4a65c_grow_92f84 6 = .ok (.iload_n 2, 1) := by decide +kernel
theorem dJx4a65c_grow_92f84_7 : decode cJx4a65c_grow_92f84 7 = .ok (.ifCond .gt 13, 3) := by decide +kernel
theorem dJx4a65c_grow_92f84_10 : decode cJx4a65c_grow_92f84 10 = .ok (.aload_n 0, 1) := by decide +kernel
theorem dJx4a65c_grow_92f84_11 : decode cJx4a65c_grow_92f84 11 = .ok (.getfield 9, 3) := by decide +kernel
theorem dJx4a65c_grow_92f84_14 : decode cJx4a65c_grow_92f84 14 = .ok (.getstatic 39, 3) := by decide +kernel
theorem dJx4a65c_grow_92f84_17 : decode cJx4a65c_grow_92f84 17 = .ok (.if_acmp .eq 28, 3) := by decide +kernel
theorem dJx4a65c_grow_92f84_20 : decode cJx4a65c_grow_92f84 20 = .ok (.iload_n 2, 1) := by decide +kernel
theorem dJx4a65c_grow_92f84_21 : decode cJx4a65c_grow_92f84 21 = .ok (.iload_n 1, 1) := by decide +kernel
theorem dJx4a65c_grow_92f84_22 : decode cJx4a65c_grow_92f84 22 = .ok (.iload_n 2, 1) := by decide +kernel
theorem dJx4a65c_grow_92f84_23 : decode cJx4a65c_grow_92f84 23 = .ok (.isub, 1) := by decide +kernel
theorem dJx4a65c_grow_92f84_24 : decode cJx4a65c_grow_92f84 24 = .ok (.iload_n 2, 1) := by decide +kernel
theorem dJx4a65c_grow_92f84_25 : decode cJx4a65c_grow_92f84 25 = .ok (.iconst 1, 1) := by decide +kernel
theorem dJx4a65c_grow_92f84_26 : decode cJx4a65c_grow_92f84 26 = .ok (.ishr, 1) := by decide +kernel
theorem dJx4a65c_grow_92f84_27 : decode cJx4a65c_grow_92f84 27 = .ok (.invokestatic 73, 3) := by decide +kernel
theorem dJx4a65c_grow_92f84_30 : decode cJx4a65c_grow_92f84 30 = .ok (.istore_n 3, 1) := by decide +kernel
theorem dJx4a65c_grow_92f84_31 : decode cJx4a65c_grow_92f84 31 = .ok (.aload_n 0, 1) := by decide +kernel
theorem dJx4a65c_grow_92f84_32 : decode cJx4a65c_grow_92f84 32 = .ok (.aload_n 0, 1) := by decide +kernel
theorem dJx4a65c_grow_92f84_33 : decode cJx4a65c_grow_92f84 33 = .ok (.getfield 9, 3) := by decide +kernel
theorem dJx4a65c_grow_92f84_36 : decode cJx4a65c_grow_92f84 36 = .ok (.iload_n 3, 1) := by decide +kernel
theorem dJx4a65c_grow_92f84_37 : decode cJx4a65c_grow_92f84 37 = .ok (.invokestatic 66, 3) := by decide +kernel
theorem dJx4a65c_grow_92f84_40 : decode cJx4a65c_grow_92f84 40 = .ok (.dup_x1, 1) := by decide +kernel
theorem dJx4a65c_grow_92f84_41 : decode cJx4a65c_grow_92f84 41 = .ok (.putfield 9, 3) := by decide +kernel
theorem dJx4a65c_grow_92f84_44 : decode cJx4a65c_grow_92f84 44 = .ok (.areturn, 1) := by decide +kernel
theorem dJx4a65c_grow_92f84_45 : decode cJx4a65c_grow_92f84 45 = .ok (.aload_n 0, 1) := by decide +kernel
theorem dJx4a65c_grow_92f84_46 : decode cJx4a65c_grow_92f84 46 = .ok (.bipush 10, 2) := by decide +kernel
theorem dJx4a65c_grow_92f84_48 : decode cJx4a65c_grow_92f84 48 = .ok (.iload_n 1, 1) := by decide +kernel
theorem dJx4a65c_grow_92f84_49 : decode cJx4a65c_grow_92f84 49 = .ok (.invokestatic 79, 3) := by decide +kernel
theorem dJx4a65c_grow_92f84_52 : decode cJx4a65c_grow_92f84 52 = .ok (.anewarray 7, 3) := by decide +kernel
theorem dJx4a65c_grow_92f84_55 : decode cJx4a65c_grow_92f84 55 = .ok (.dup_x1, 1) := by decide +kernel
theorem dJx4a65c_grow_92f84_56 : decode cJx4a65c_grow_92f84 56 = .ok (.putfield 9, 3) := by decide +kernel
theorem dJx4a65c_grow_92f84_59 : decode cJx4a65c_grow_92f84 59 = .ok (.areturn, 1) := by decide +kernel
set_option maxRecDepth 20000 in
theorem ggJx4a65c_grow_d5877_Jx4a65c_grow_92f84 : GoodIn wsJx4a65c_grow_d5877 wsJx4a65c_grow_92f84 := goodIn_r _ [6, 7, 8, 9, 10, 11, 12, 13, 14, 15, 16, 17, 18, 19, 20, 21, 22, 23, 24, 25, 26, 27, 28, 29, 30, 31, 32, 33, 34, 35, 36, 37, 38, 39, 40, 41, 42, 43, 44, 45] (by decide +kernel) (by decide +kernel)
set_option maxRecDepth 20000 in
theorem gJx4a65c_grow_d5877_Jx4a65c_grow_92f84 : GoodIn wsJx4a65c_grow_d5877 (wsV RJx4a65c 69 RJx4a65c yJx4a65c_grow_92f84 wsJx4a65c_grow_92f84) := goodIn_app (goodIn_of _ (by decide +kernel)) ggJx4a65c_grow_d5877_Jx4a65c_grow_92f84
theorem dJx4a65c_grow_d5877_0 : decode cJx4a65c_grow_d5877 0 = .ok (.aload_n 0, 1) := by decide +kernel
theorem dJx4a65c_grow_d5877_1 : decode cJx4a65c_grow_d5877 1 = .ok (.aload_n 0, 1) := by decide +kernel
theorem dJx4a65c_grow_d5877_2 : decode cJx4a65c_grow_d5877 2 = .ok (.getfield 48, 3) := by decide +kernel
theorem dJx4a65c_grow_d5877_5 : decode cJx4a65c_grow_d5877 5 = .ok (.iconst 1, 1) := by decide +kernel
theorem dJx4a65c_grow_d5877_6 : decode cJx4a65c_grow_d5877 6 = .ok (.iadd, 1) := by decide +kernel
theorem dJx4a65c_grow_d5877_7 : decode cJx4a65c_grow_d5877 7 = .ok (.invokevirtual 69, 3) := by decide +kernel
theorem dJx4a65c_grow_d5877_10 : decode cJx4a65c_grow_d5877 10 = .ok (.areturn, 1) := by decide +kernel
theorem dJx4a65c_size_8abf5_0 : decode cJx4a65c_size_8abf5 0 = .ok (.aload_n 0, 1) := by decide +kernel
theorem dJx4a65c_size_8abf5_1 : decode cJx4a65c_size_8abf5 1 = .ok (.getfield 48, 3) := by decide +kernel
theorem dJx4a65c_size_8abf5_4 : decode cJx4a65c_size_8abf5 4 = .ok (.ireturn, 1) := by decide +kernel
theorem dJx4a65c_elementData_915e3_0 : decode cJx4a65c_elementData_915e3 0 = .ok (.aload_n 0, 1) := by decide +kernel
theorem dJx4a65c_elementData_915e3_1 : decode cJx4a65c_elementData_915e3 1 = .ok (.getfield 9, 3) := by decide +kernel
theorem dJx4a65c_elementData_915e3_4 : decode cJx4a65c_elementData_915e3 4 = .ok (.iload_n 1, 1) := by decide +kernel
theorem dJx4a65c_elementData_915e3_5 : decode cJx4a65c_elementData_915e3 5 = .ok (.aaload, 1) := by decide +kernel
theorem dJx4a65c_elementData_915e3_6 : decode cJx4a65c_elementData_915e3 6 = .ok (.areturn, 1) := by decide +kernel
set_option maxRecDepth 20000 in
theorem ggJx4a65c_get_915e3_J15_checkIndex_7cf53 : GoodIn wsJx4a65c_get_915e3 wsJ15_checkIndex_7cf53 := goodIn_r _ [5, 6, 7, 8, 9] (by decide +kernel) (by decide +kernel)
set_option maxRecDepth 20000 in
theorem gJx4a65c_get_915e3_J15_checkIndex_7cf53 : GoodIn wsJx4a65c_get_915e3 (va_wsS RJx4a65c 118 yJ15_checkIndex_7cf53 wsJ15_checkIndex_7cf53) := goodIn_app (goodIn_of _ (by decide +kernel)) ggJx4a65c_get_915e3_J15_checkIndex_7cf53
set_option maxRecDepth 20000 in
theorem ggJx4a65c_get_915e3_Jx4a65c_elementData_915e3 : GoodIn wsJx4a65c_get_915e3 wsJx4a65c_elementData_915e3 := goodIn_r _ [14, 15, 16, 17, 18] (by decide +kernel) (by decide +kernel)
set_option maxRecDepth 20000 in
theorem gJx4a65c_get_915e3_Jx4a65c_elementData_915e3 : GoodIn wsJx4a65c_get_915e3 (wsV RJx4a65c 123 RJx4a65c yJx4a65c_elementData_915e3 wsJx4a65c_elementData_915e3) := goodIn_app (goodIn_of _ (by decide +kernel)) ggJx4a65c_get_915e3_Jx4a65c_elementData_915e3
theorem dJx4a65c_get_915e3_0 : decode cJx4a65c_get_915e3 0 = .ok (.iload_n 1, 1) := by decide +kernel
theorem dJx4a65c_get_915e3_1 : decode cJx4a65c_get_915e3 1 = .ok (.aload_n 0, 1) := by decide +kernel
theorem dJx4a65c_get_915e3_2 : decode cJx4a65c_get_915e3 2 = .ok (.getfield 48, 3) := by decide +kernel
theorem dJx4a65c_get_915e3_5 : decode cJx4a65c_get_915e3 5 = .ok (.invokestatic 118, 3) := by decide +kernel
theorem dJx4a65c_get_915e3_8 : decode cJx4a65c_get_915e3 8 = .ok (.pop, 1) := by decide +kernel
theorem dJx4a65c_get_915e3_9 : decode cJx4a65c_get_915e3 9 = .ok (.aload_n 0, 1) := by decide +kernel
theorem dJx4a65c_get_915e3_10 : decode cJx4a65c_get_915e3 10 = .ok (.iload_n 1, 1) := by decide +kernel
theorem dJx4a65c_get_915e3_11 : decode cJx4a65c_get_915e3 11 = .ok (.invokevirtual 123, 3) := by decide +kernel
theorem dJx4a65c_get_915e3_14 : decode cJx4a65c_get_915e3 14 = .ok (.areturn, 1) := by decide +kernel
set_option maxRecDepth 20000 in
theorem ggJx4a65c_add_72be8_Jx4a65c_grow_d5877 : GoodIn wsJx4a65c_add_72be8 wsJx4a65c_grow_d5877 := goodIn_r _ [6, 1, 7, 8, 9, 5, 10, 11, 12, 13, 14, 15, 16, 17, 18, 19, 20, 21, 22, 23, 24, 25, 26, 27, 28, 29, 30, 31, 32, 33, 34, 35, 36, 37, 38, 39, 40, 41, 42, 43, 44, 45, 46, 47, 48, 49] (by decide +kernel) (by decide +kernel)
set_option maxRecDepth 20000 in
theorem gJx4a65c_add_72be8_Jx4a65c_grow_d5877 : GoodIn wsJx4a65c_add_72be8 (wsV RJx4a65c 129 RJx4a65c yJx4a65c_grow_d5877 wsJx4a65c_grow_d5877) := goodIn_app (goodIn_of _ (by decide +kernel)) ggJx4a65c_add_72be8_Jx4a65c_grow_d5877
theorem dJx4a65c_add_72be8_0 : decode cJx4a65c_add_72be8 0 = .ok (.iload_n 3, 1) := by decide +kernel
theorem dJx4a65c_add_72be8_1 : decode cJx4a65c_add_72be8 1 = .ok (.aload_n 2, 1) := by decide +kernel
theorem dJx4a65c_add_72be8_2 : decode cJx4a65c_add_72be8 2 = .ok (.arraylength, 1) := by decide +kernel
theorem dJx4a65c_add_72be8_3 : decode cJx4a65c_add_72be8 3 = .ok (.if_icmp .ne 8, 3) := by decide +kernel
theorem dJx4a65c_add_72be8_6 : decode cJx4a65c_add_72be8 6 = .ok (.aload_n 0, 1) := by decide +kernel
theorem dJx4a65c_add_72be8_7 : decode cJx4a65c_add_72be8 7 = .ok (.invokevirtual 129, 3) := by decide +kernel
theorem dJx4a65c_add_72be8_10 : decode cJx4a65c_add_72be8 10 = .ok (.astore_n 2, 1) := by decide +kernel
theorem dJx4a65c_add_72be8_11 : decode cJx4a65c_add_72be8 11 = .ok (.aload_n 2, 1) := by decide +kernel
theorem dJx4a65c_add_72be8_12 : decode cJx4a65c_add_72be8 12 = .ok (.iload_n 3, 1) := by decide +kernel
theorem dJx4a65c_add_72be8_13 : decode cJx4a65c_add_72be8 13 = .ok (.aload_n 1, 1) := by decide +kernel
theorem dJx4a65c_add_72be8_14 : decode cJx4a65c_add_72be8 14 = .ok (.aastore, 1) := by decide +kernel
theorem dJx4a65c_add_72be8_15 : decode cJx4a65c_add_72be8 15 = .ok (.aload_n 0, 1) := by decide +kernel
theorem dJx4a65c_add_72be8_16 : decode cJx4a65c_add_72be8 16 = .ok (.iload_n 3, 1) := by decide +kernel
theorem dJx4a65c_add_72be8_17 : decode cJx4a65c_add_72be8 17 = .ok (.iconst 1, 1) := by decide +kernel
theorem dJx4a65c_add_72be8_18 : decode cJx4a65c_add_72be8 18 = .ok (.iadd, 1) := by decide +kernel
theorem dJx4a65c_add_72be8_19 : decode cJx4a65c_add_72be8 19 = .ok (.putfield 48, 3) := by decide +kernel
theorem dJx4a65c_add_72be8_22 : decode cJx4a65c_add_72be8 22 = .ok (.return_, 1) := by decide +kernel
set_option maxRecDepth 20000 in
theorem ggJx4a65c_add_9ea2d_Jx4a65c_add_72be8 : GoodIn wsJx4a65c_add_9ea2d wsJx4a65c_add_72be8 := goodIn_r _ [9, 4, 10, 11, 12, 8, 13, 14, 15, 16, 17, 3, 18, 19, 20, 21, 22, 23, 24, 25, 26, 27, 28, 29, 30, 31, 32, 33, 34, 35, 36, 37, 38, 39, 40, 41, 42, 43, 44, 45, 46, 47, 48, 49, 50, 51, 52, 53, 54, 55] (by decide +kernel) (by decide +kernel)
set_option maxRecDepth 20000 in
theorem gJx4a65c_add_9ea2d_Jx4a65c_add_72be8 : GoodIn wsJx4a65c_add_9ea2d (wsV RJx4a65c 131 RJx4a65c yJx4a65c_add_72be8 wsJx4a65c_add_72be8) := goodIn_app (goodIn_of _ (by decide +kernel)) ggJx4a65c_add_9ea2d_Jx4a65c_add_72be8
theorem dJx4a65c_add_9ea2d_0 : decode cJx4a65c_add_9ea2d 0 = .ok (.aload_n 0, 1) := by decide +kernel
theorem dJx4a65c_add_9ea2d_1 : decode cJx4a65c_add_9ea2d 1 = .ok (.dup, 1) := by decide +kernel
theorem dJx4a65c_add_9ea2d_2 : decode cJx4a65c_add_9ea2d 2 = .ok (.getfield 63, 3) := by decide +kernel
theorem dJx4a65c_add_9ea2d_5 : decode cJx4a65c_add_9ea2d 5 = .ok (.iconst 1, 1) := by decide +kernel
theorem dJx4a65c_add_9ea2d_6 : decode cJx4a65c_add_9ea2d 6 = .ok (.iadd, 1) := by decide +kernel
theorem dJx4a65c_add_9ea2d_7 : decode cJx4a65c_add_9ea2d 7 = .ok (.putfield 63, 3) := by decide +kernel
theorem dJx4a65c_add_9ea2d_10 : decode cJx4a65c_add_9ea2d 10 = .ok (.aload_n 0, 1) := by decide +kernel
theorem dJx4a65c_add_9ea2d_11 : decode cJx4a65c_add_9ea2d 11 = .ok (.aload_n 1, 1) := by decide +kernel
theorem dJx4a65c_add_9ea2d_12 : decode cJx4a65c_add_9ea2d 12 = .ok (.aload_n 0, 1) := by decide +kernel
theorem dJx4a65c_add_9ea2d_13 : decode cJx4a65c_add_9ea2d 13 = .ok (.getfield 9, 3) := by decide +kernel
theorem dJx4a65c_add_9ea2d_16 : decode cJx4a65c_add_9ea2d 16 = .ok (.aload_n 0, 1) := by decide +kernel
theorem dJx4a65c_add_9ea2d_17 : decode cJx4a65c_add_9ea2d 17 = .ok (.getfield 48, 3) := by decide +kernel
theorem dJx4a65c_add_9ea2d_20 : decode cJx4a65c_add_9ea2d 20 = .ok (.invokevirtual 131, 3) := by decide +kernel
theorem dJx4a65c_add_9ea2d_23 : decode cJx4a65c_add_9ea2d 23 = .ok (.iconst 1, 1) := by decide +kernel
theorem dJx4a65c_add_9ea2d_24 : decode cJx4a65c_add_9ea2d 24 = .ok (.ireturn, 1) := by decide +kernel
set_option maxRecDepth 20000 in
theorem ggJ7_copyOf_1904c_J7_copyOf_6403c : GoodIn wsJ7_copyOf_1904c wsJ7_copyOf_6403c := goodIn_r _ [8, 9, 10, 11, 12, 13, 14, 15, 16, 17, 18] (by decide +kernel) (by decide +kernel)
set_option maxRecDepth 20000 in
theorem gJ7_copyOf_1904c_J7_copyOf_6403c : GoodIn wsJ7_copyOf_1904c (va_wsS RJ7 300 yJ7_copyOf_6403c wsJ7_copyOf_6403c) := goodIn_app (goodIn_of _ (by decide +kernel)) ggJ7_copyOf_1904c_J7_copyOf_6403c
theorem dJ7_copyOf_1904c_0 : decode cJ7_copyOf_1904c 0 = .ok (.aload_n 0, 1) := by decide +kernel
theorem dJ7_copyOf_1904c_1 : decode cJ7_copyOf_1904c 1 = .ok (.iload_n 1, 1) := by decide +kernel
theorem dJ7_copyOf_1904c_2 : decode cJ7_copyOf_1904c 2 = .ok (.aload_n 0, 1) := by decide +kernel
theorem dJ7_copyOf_1904c_3 : decode cJ7_copyOf_1904c 3 = .ok (.invokevirtual 86, 3) := by decide +kernel
theorem dJ7_copyOf_1904c_6 : decode cJ7_copyOf_1904c 6 = .ok (.invokestatic 300, 3) := by decide +kernel
theorem dJ7_copyOf_1904c_9 : decode cJ7_copyOf_1904c 9 = .ok (.areturn, 1) := by decide +kernel
theorem dJ7_copyOf_6403c_0 : decode cJ7_copyOf_6403c 0 = .ok (.aload_n 2, 1) := by decide +kernel
theorem dJ7_copyOf_6403c_1 : decode cJ7_copyOf_6403c 1 = .ok (.ldc 110, 2) := by decide +kernel
theorem dJ7_copyOf_6403c_3 : decode cJ7_copyOf_6403c 3 = .ok (.if_acmp .ne 10, 3) := by decide +kernel
theorem dJ7_copyOf_6403c_6 : decode cJ7_copyOf_6403c 6 = .ok (.iload_n 1, 1) := by decide +kernel
theorem dJ7_copyOf_6403c_7 : decode cJ7_copyOf_6403c 7 = .ok (.anewarray 2, 3) := by decide +kernel
theorem dJ7_copyOf_6403c_10 : decode cJ7_copyOf_6403c 10 = .ok (.goto 14, 3) := by decide +kernel
theorem dJ7_copyOf_6403c_13 : decode cJ7_copyOf_6403c 13 = .ok (.aload_n 2, 1) := by decide +kernel
theorem dJ7_copyOf_6403c_14 : decode cJ7_copyOf_6403c 14 = .ok (.invokevirtual 90, 3) := by decide +kernel
theorem dJ7_copyOf_6403c_17 : decode cJ7_copyOf_6403c 17 = .ok (.iload_n 1, 1) := by decide +kernel
theorem dJ7_copyOf_6403c_18 : decode cJ7_copyOf_6403c 18 = .ok (.invokestatic 95, 3) := by decide +kernel
theorem dJ7_copyOf_6403c_21 : decode cJ7_copyOf_6403c 21 = .ok (.checkcast 110, 3) := by decide +kernel
theorem dJ7_copyOf_6403c_24 : decode cJ7_copyOf_6403c 24 = .ok (.astore_n 3, 1) := by decide +kernel
theorem dJ7_copyOf_6403c_25 : decode cJ7_copyOf_6403c 25 = .ok (.aload_n 0, 1) := by decide +kernel
theorem dJ7_copyOf_6403c_26 : decode cJ7_copyOf_6403c 26 = .ok (.iconst 0, 1) := by decide +kernel
theorem dJ7_copyOf_6403c_27 : decode cJ7_copyOf_6403c 27 = .ok (.aload_n 3, 1) := by decide +kernel
theorem dJ7_copyOf_6403c_28 : decode cJ7_copyOf_6403c 28 = .ok (.iconst 0, 1) := by decide +kernel
theorem dJ7_copyOf_6403c_29 : decode cJ7_copyOf_6403c 29 = .ok (.aload_n 0, 1) := by decide +kernel
theorem dJ7_copyOf_6403c_30 : decode cJ7_copyOf_6403c 30 = .ok (.arraylength, 1) := by decide +kernel
theorem dJ7_copyOf_6403c_31 : decode cJ7_copyOf_6403c 31 = .ok (.iload_n 1, 1) := by decide +kernel
theorem dJ7_copyOf_6403c_32 : decode cJ7_copyOf_6403c 32 = .ok (.invokestatic 304, 3) := by decide +kernel
theorem dJ7_copyOf_6403c_35 : decode cJ7_copyOf_6403c 35 = .ok (.invokestatic 150, 3) := by decide +kernel
theorem dJ7_copyOf_6403c_38 : decode cJ7_copyOf_6403c 38 = .ok (.aload_n 3, 1) := by decide +kernel
theorem dJ7_copyOf_6403c_39 : decode cJ7_copyOf_6403c 39 = .ok (.areturn, 1) := by decide +kernel
set_option maxRecDepth 20000 in
theorem ggJ15_checkIndex_7cf53_J3_checkIndex_8e157 : GoodIn wsJ15_checkIndex_7cf53 wsJ3_checkIndex_8e157 := goodIn_r _ [4] (by decide +kernel) (by decide +kernel)
set_option maxRecDepth 20000 in
theorem gJ15_checkIndex_7cf53_J3_checkIndex_8e157 : GoodIn wsJ15_checkIndex_7cf53 (va_wsS RJ15 105 yJ3_checkIndex_8e157 wsJ3_checkIndex_8e157) := goodIn_app (goodIn_of _ (by decide +kernel)) ggJ15_checkIndex_7cf53_J3_checkIndex_8e157
theorem dJ15_checkIndex_7cf53_0 : decode cJ15_checkIndex_7cf53 0 = .ok (.iload_n 0, 1) := by decide +kernel
theorem dJ15_checkIndex_7cf53_1 : decode cJ15_checkIndex_7cf53 1 = .ok (.iload_n 1, 1) := by decide +kernel
theorem dJ15_checkIndex_7cf53_2 : decode cJ15_checkIndex_7cf53 2 = .ok (.aconst_null, 1) := by decide +kernel
theorem dJ15_checkIndex_7cf53_3 : decode cJ15_checkIndex_7cf53 3 = .ok (.invokestatic 105, 3) := by decide +kernel
theorem dJ15_checkIndex_7cf53_6 : decode cJ15_checkIndex_7cf53 6 = .ok (.ireturn, 1) := by decide +kernel
set_option maxRecDepth 20000 in
theorem ggJ8_newLength_cabcc_J8_hugeLength_7cf53 : GoodIn wsJ8_newLength_cabcc wsJ8_hugeLength_7cf53 := goodIn_r _ [9, 5] (by decide +kernel) (by decide +kernel)
set_option maxRecDepth 20000 in
theorem gJ8_newLength_cabcc_J8_hugeLength_7cf53 : GoodIn wsJ8_newLength_cabcc (va_wsS RJ8 201 yJ8_hugeLength_7cf53 wsJ8_hugeLength_7cf53) := goodIn_app (goodIn_of _ (by decide +kernel)) ggJ8_newLength_cabcc_J8_hugeLength_7cf53
theorem dJ8_newLength_cabcc_0 : decode cJ8_newLength_cabcc 0 = .ok (.iload_n 0, 1) := by decide +kernel
theorem dJ8_newLength_cabcc_1 : decode cJ8_newLength_cabcc 1 = .ok (.iload_n 1, 1) := by decide +kernel
theorem dJ8_newLength_cabcc_2 : decode cJ8_newLength_cabcc 2 = .ok (.iload_n 2, 1) := by decide +kernel
theorem dJ8_newLength_cabcc_3 : decode cJ8_newLength_cabcc 3 = .ok (.invokestatic 194, 3) := by decide +kernel
theorem dJ8_newLength_cabcc_6 : decode cJ8_newLength_cabcc 6 = .ok (.iadd, 1) := by decide +kernel
theorem dJ8_newLength_cabcc_7 : decode cJ8_newLength_cabcc 7 = .ok (.istore_n 3, 1) := by decide +kernel
theorem dJ8_newLength_cabcc_8 : decode cJ8_newLength_cabcc 8 = .ok (.iconst 0, 1) := by decide +kernel
theorem dJ8_newLength_cabcc_9 : decode cJ8_newLength_cabcc 9 = .ok (.iload_n 3, 1) := by decide +kernel
theorem dJ8_newLength_cabcc_10 : decode cJ8_newLength_cabcc 10 = .ok (.if_icmp .ge 11, 3) := by decide +kernel
theorem dJ8_newLength_cabcc_13 : decode cJ8_newLength_cabcc 13 = .ok (.iload_n 3, 1) := by decide +kernel
theorem dJ8_newLength_cabcc_14 : decode cJ8_newLength_cabcc 14 = .ok (.ldc 200, 2) := by decide +kernel
theorem dJ8_newLength_cabcc_16 : decode cJ8_newLength_cabcc 16 = .ok (.if_icmp .gt 5, 3) := by decide +kernel
theorem dJ8_newLength_cabcc_19 : decode cJ8_newLength_cabcc 19 = .ok (.iload_n 3, 1) := by decide +kernel
theorem dJ8_newLength_cabcc_20 : decode cJ8_newLength_cabcc 20 = .ok (.ireturn, 1) := by decide +kernel
theorem dJ8_newLength_cabcc_21 : decode cJ8_newLength_cabcc 21 = .ok (.iload_n 0, 1) := by decide +kernel
theorem dJ8_newLength_cabcc_22 : decode cJ8_newLength_cabcc 22 = .ok (.iload_n 1, 1) := by decide +kernel
theorem dJ8_newLength_cabcc_23 : decode cJ8_newLength_cabcc 23 = .ok (.invokestatic 201, 3) := by decide +kernel
theorem dJ8_newLength_cabcc_26 : decode cJ8_newLength_cabcc 26 = .ok (.ireturn, 1) := by decide +kernel
theorem dJ8_hugeLength_7cf53_0 : decode cJ8_hugeLength_7cf53 0 = .ok (.iload_n 0, 1) := by decide +kernel
theorem dJ8_hugeLength_7cf53_1 : decode cJ8_hugeLength_7cf53 1 = .ok (.iload_n 1, 1) := by decide +kernel
theorem dJ8_hugeLength_7cf53_2 : decode cJ8_hugeLength_7cf53 2 = .ok (.iadd, 1) := by decide +kernel
theorem dJ8_hugeLength_7cf53_3 : decode cJ8_hugeLength_7cf53 3 = .ok (.istore_n 2, 1) := by decide +kernel
theorem dJ8_hugeLength_7cf53_4 : decode cJ8_hugeLength_7cf53 4 = .ok (.iload_n 2, 1) := by decide +kernel
theorem dJ8_hugeLength_7cf53_5 : decode cJ8_hugeLength_7cf53 5 = .ok (.ifCond .ge 44, 3) := by decide +kernel
theorem dJ8_hugeLength_7cf53_8 : decode cJ8_hugeLength_7cf53 8 = .ok (.new 204, 3) := by decide +kernel
theorem dJ8_hugeLength_7cf53_11 : decode cJ8_hugeLength_7cf53 11 = .ok (.dup, 1) := by decide +kernel
theorem dJ8_hugeLength_7cf53_12 : decode cJ8_hugeLength_7cf53 12 = .ok (.new 89, 3) := by decide +kernel
theorem dJ8_hugeLength_7cf53_15 : decode cJ8_hugeLength_7cf53 15 = .ok (.dup, 1) := by decide +kernel
theorem dJ8_hugeLength_7cf53_16 : decode cJ8_hugeLength_7cf53 16 = .ok (.invokespecial 91, 3) := by decide +kernel
theorem dJ8_hugeLength_7cf53_19 : decode cJ8_hugeLength_7cf53 19 = .ok (.ldc 206, 2) := by decide +kernel
theorem dJ8_hugeLength_7cf53_21 : decode cJ8_hugeLength_7cf53 21 = .ok (.invokevirtual 94, 3) := by decide +kernel
theorem dJ8_hugeLength_7cf53_24 : decode cJ8_hugeLength_7cf53 24 = .ok (.iload_n 0, 1) := by decide +kernel
theorem dJ8_hugeLength_7cf53_25 : decode cJ8_hugeLength_7cf53 25 = .ok (.invokevirtual 98, 3) := by decide +kernel
theorem dJ8_hugeLength_7cf53_28 : decode cJ8_hugeLength_7cf53 28 = .ok (.ldc 208, 2) := by decide +kernel
theorem dJ8_hugeLength_7cf53_30 : decode cJ8_hugeLength_7cf53 30 = .ok (.invokevirtual 94, 3) := by decide +kernel
theorem dJ8_hugeLength_7cf53_33 : decode cJ8_hugeLength_7cf53 33 = .ok (.iload_n 1, 1) := by decide +kernel
theorem dJ8_hugeLength_7cf53_34 : decode cJ8_hugeLength_7cf53 34 = .ok (.invokevirtual 98, 3) := by decide +kernel
theorem dJ8_hugeLength_7cf53_37 : decode cJ8_hugeLength_7cf53 37 = .ok (.ldc 210, 2) := by decide +kernel
theorem dJ8_hugeLength_7cf53_39 : decode cJ8_hugeLength_7cf53 39 = .ok (.invokevirtual 94, 3) := by decide +kernel
theorem dJ8_hugeLength_7cf53_42 : decode cJ8_hugeLength_7cf53 42 = .ok (.invokevirtual 101, 3) := by decide +kernel
theorem dJ8_hugeLength_7cf53_45 : decode cJ8_hugeLength_7cf53 45 = .ok (.invokespecial 212, 3) := by decide +kernel
theorem dJ8_hugeLength_7cf53_48 : decode cJ8_hugeLength_7cf53 48 = .ok (.athrow, 1) := by decide +kernel
theorem dJ8_hugeLength_7cf53_49 : decode cJ8_hugeLength_7cf53 49 = .ok (.iload_n 2, 1) := by decide +kernel
theorem dJ8_hugeLength_7cf53_50 : decode cJ8_hugeLength_7cf53 50 = .ok (.ldc 200, 2) := by decide +kernel
theorem dJ8_hugeLength_7cf53_52 : decode cJ8_hugeLength_7cf53 52 = .ok (.if_icmp .gt 6, 3) := by decide +kernel
theorem dJ8_hugeLength_7cf53_55 : decode cJ8_hugeLength_7cf53 55 = .ok (.ldc 200, 2) := by decide +kernel
theorem dJ8_hugeLength_7cf53_57 : decode cJ8_hugeLength_7cf53 57 = .ok (.ireturn, 1) := by decide +kernel
theorem dJ8_hugeLength_7cf53_58 : decode cJ8_hugeLength_7cf53 58 = .ok (.iload_n 2, 1) := by decide +kernel
theorem dJ8_hugeLength_7cf53_59 : decode cJ8_hugeLength_7cf53 59 = .ok (.ireturn, 1) := by decide +kernel
theorem dJ3_checkIndex_8e157_0 : decode cJ3_checkIndex_8e157 0 = .ok (.iload_n 0, 1) := by decide +kernel
theorem dJ3_checkIndex_8e157_1 : decode cJ3_checkIndex_8e157 1 = .ok (.ifCond .lt 8, 3) := by decide +kernel
theorem dJ3_checkIndex_8e157_4 : decode cJ3_checkIndex_8e157 4 = .ok (.iload_n 0, 1) := by decide +kernel
theorem dJ3_checkIndex_8e157_5 : decode cJ3_checkIndex_8e157 5 = .ok (.iload_n 1, 1) := by decide +kernel
theorem dJ3_checkIndex_8e157_6 : decode cJ3_checkIndex_8e157 6 = .ok (.if_icmp .lt 10, 3) := by decide +kernel
theorem dJ3_checkIndex_8e157_9 : decode cJ3_checkIndex_8e157 9 = .ok (.aload_n 2, 1) := by decide +kernel
theorem dJ3_checkIndex_8e157_10 : decode cJ3_checkIndex_8e157 10 = .ok (.iload_n 0, 1) := by decide +kernel
theorem dJ3_checkIndex_8e157_11 : decode cJ3_checkIndex_8e157 11 = .ok (.iload_n 1, 1) := by decide +kernel
theorem dJ3_checkIndex_8e157_12 : decode cJ3_checkIndex_8e157 12 = .ok (.invokestatic 95, 3) := by decide +kernel
theorem dJ3_checkIndex_8e157_15 : decode cJ3_checkIndex_8e157 15 = .ok (.athrow, 1) := by decide +kernel
theorem dJ3_checkIndex_8e157_16 : decode cJ3_checkIndex_8e157 16 = .ok (.iload_n 0, 1) := by decide +kernel
theorem dJ3_checkIndex_8e157_17 : decode cJ3_checkIndex_8e157 17 = .ok (.ireturn, 1) := by decide +kernel
set_option maxRecDepth 20000 in
theorem ggL_shop_X7_shop : GoodIn wsL_shop wsX7_shop := goodIn_ca (goodIn_r _ [6, 7, 8, 9, 10, 11, 5, 12, 13, 14, 15, 16, 17, 18, 19, 20, 21, 22, 23, 24, 25, 26, 27, 28, 29, 30, 31, 32, 33, 34] (by decide +kernel) (by decide +kernel)) (goodIn_sub (fun _ h => List.mem_cons_of_mem _ (List.mem_append_right _ h)) (by decide +kernel))
set_option maxRecDepth 20000 in
theorem gL_shop_X7_shop : GoodIn wsL_shop (wsV RL 7 RX7 yX7_shop wsX7_shop) := goodIn_app (goodIn_of _ (by decide +kernel)) ggL_shop_X7_shop
theorem dL_shop_0 : decode cL_shop 0 = .ok (.aload_n 3, 1) := by decide +kernel
theorem dL_shop_1 : decode cL_shop 1 = .ok (.iconst 0, 1) := by decide +kernel
theorem dL_shop_2 : decode cL_shop 2 = .ok (.aload_n 0, 1) := by decide +kernel
theorem dL_shop_3 : decode cL_shop 3 = .ok (.iload_n 1, 1) := by decide +kernel
theorem dL_shop_4 : decode cL_shop 4 = .ok (.iload_n 2, 1) := by decide +kernel
theorem dL_shop_5 : decode cL_shop 5 = .ok (.invokevirtual 7, 3) := by decide +kernel
theorem dL_shop_8 : decode cL_shop 8 = .ok (.i2l, 1) := by decide +kernel
theorem dL_shop_9 : decode cL_shop 9 = .ok (.lastore, 1) := by decide +kernel
theorem dL_shop_10 : decode cL_shop 10 = .ok (.goto 7, 3) := by decide +kernel
theorem dL_shop_13 : decode cL_shop 13 = .ok (.astore 4, 2) := by decide +kernel
theorem dL_shop_15 : decode cL_shop 15 = .ok (.iconst 1, 1) := by decide +kernel
theorem dL_shop_16 : decode cL_shop 16 = .ok (.ireturn, 1) := by decide +kernel
theorem dL_shop_17 : decode cL_shop 17 = .ok (.iconst 0, 1) := by decide +kernel
theorem dL_shop_18 : decode cL_shop 18 = .ok (.ireturn, 1) := by decide +kernel
set_option maxRecDepth 20000 in
theorem ggL_kind_X7_kind : GoodIn wsL_kind wsX7_kind := goodIn_ca (goodIn_ca (goodIn_r _ [7, 8, 9, 10, 11, 12, 6, 13, 14, 15, 16, 17, 18, 19, 20, 21, 22, 23, 24, 25, 26, 27, 28, 29, 30, 31, 32, 33, 34, 35, 36, 37, 38, 39, 40, 41, 42, 43] (by decide +kernel) (by decide +kernel)) (goodIn_sub (fun _ h => List.mem_cons_of_mem _ (List.mem_append_left _ (List.mem_append_right _ h))) (by decide +kernel))) (goodIn_sub (fun _ h => List.mem_cons_of_mem _ (List.mem_append_right _ h)) (by decide +kernel))
set_option maxRecDepth 20000 in
theorem gL_kind_X7_kind : GoodIn wsL_kind (wsV RL 15 RX7 yX7_kind wsX7_kind) := goodIn_app (goodIn_of _ (by decide +kernel)) ggL_kind_X7_kind
theorem dL_kind_0 : decode cL_kind 0 = .ok (.aload 4, 2) := by decide +kernel
theorem dL_kind_2 : decode cL_kind 2 = .ok (.iconst 0, 1) := by decide +kernel
theorem dL_kind_3 : decode cL_kind 3 = .ok (.aload_n 0, 1) := by decide +kernel
theorem dL_kind_4 : decode cL_kind 4 = .ok (.iload_n 1, 1) := by decide +kernel
theorem dL_kind_5 : decode cL_kind 5 = .ok (.iload_n 2, 1) := by decide +kernel
theorem dL_kind_6 : decode cL_kind 6 = .ok (.iload_n 3, 1) := by decide +kernel
theorem dL_kind_7 : decode cL_kind 7 = .ok (.invokevirtual 15, 3) := by decide +kernel
theorem dL_kind_10 : decode cL_kind 10 = .ok (.i2l, 1) := by decide +kernel
theorem dL_kind_11 : decode cL_kind 11 = .ok (.lastore, 1) := by decide +kernel
theorem dL_kind_12 : decode cL_kind 12 = .ok (.goto 11, 3) := by decide +kernel
theorem dL_kind_15 : decode cL_kind 15 = .ok (.astore 5, 2) := by decide +kernel
theorem dL_kind_17 : decode cL_kind 17 = .ok (.iconst 1, 1) := by decide +kernel
theorem dL_kind_18 : decode cL_kind 18 = .ok (.ireturn, 1) := by decide +kernel
theorem dL_kind_19 : decode cL_kind 19 = .ok (.astore 5, 2) := by decide +kernel
theorem dL_kind_21 : decode cL_kind 21 = .ok (.iconst 2, 1) := by decide +kernel
theorem dL_kind_22 : decode cL_kind 22 = .ok (.ireturn, 1) := by decide +kernel
theorem dL_kind_23 : decode cL_kind 23 = .ok (.iconst 0, 1) := by decide +kernel
theorem dL_kind_24 : decode cL_kind 24 = .ok (.ireturn, 1) := by decide +kernel
set_option maxRecDepth 20000 in
theorem ggL_authorise_X7_authorise : GoodIn wsL_authorise wsX7_authorise := goodIn_ca (goodIn_ca (goodIn_ca (goodIn_r _ [8, 9, 10, 11, 12, 13, 14, 15, 16, 17, 18, 7, 19, 20, 21, 22, 23, 24, 25, 26, 27, 28, 29, 30, 31, 32, 33, 34, 35, 36, 37, 38, 39, 40, 41, 42, 43, 44, 45, 46, 47, 48, 49, 50, 51, 52, 53, 54, 55, 56, 57, 58, 59, 60, 61, 62, 63, 64, 65, 66, 67, 68, 69, 70, 71, 72, 73, 74, 75, 76, 77, 78, 79, 80, 81, 82, 83, 84, 85, 86, 87, 88, 89, 90, 91, 92, 93, 94, 95, 96, 97, 98, 99, 100, 101, 102, 103, 104, 105, 106, 107, 108, 109, 110, 111, 112, 113, 114, 115, 116, 117, 118, 119, 120, 121, 122, 123, 124, 125, 126, 127, 128, 129, 130, 131, 132, 133, 134, 135, 136, 137, 138, 139, 140, 141, 142, 143, 144, 145, 146, 147, 148, 149, 150, 151, 152, 153, 154, 155, 156, 157, 158, 159] (by decide +kernel) (by decide +kernel)) (goodIn_sub (fun _ h => List.mem_cons_of_mem _ (List.mem_append_left _ (List.mem_append_left _ (List.mem_append_right _ h)))) (by decide +kernel))) (goodIn_sub (fun _ h => List.mem_cons_of_mem _ (List.mem_append_left _ (List.mem_append_right _ h))) (by decide +kernel))) (goodIn_sub (fun _ h => List.mem_cons_of_mem _ (List.mem_append_right _ h)) (by decide +kernel))
set_option maxRecDepth 20000 in
theorem gL_authorise_X7_authorise : GoodIn wsL_authorise (wsV RL 21 RX7 yX7_authorise wsX7_authorise) := goodIn_app (goodIn_of _ (by decide +kernel)) ggL_authorise_X7_authorise
theorem dL_authorise_0 : decode cL_authorise 0 = .ok (.aload 4, 2) := by decide +kernel
theorem dL_authorise_2 : decode cL_authorise 2 = .ok (.iconst 0, 1) := by decide +kernel
theorem dL_authorise_3 : decode cL_authorise 3 = .ok (.aload_n 0, 1) := by decide +kernel
theorem dL_authorise_4 : decode cL_authorise 4 = .ok (.iload_n 1, 1) := by decide +kernel
theorem dL_authorise_5 : decode cL_authorise 5 = .ok (.iload_n 2, 1) := by decide +kernel
theorem dL_authorise_6 : decode cL_authorise 6 = .ok (.iload_n 3, 1) := by decide +kernel
theorem dL_authorise_7 : decode cL_authorise 7 = .ok (.invokevirtual 21, 3) := by decide +kernel
theorem dL_authorise_10 : decode cL_authorise 10 = .ok (.i2l, 1) := by decide +kernel
theorem dL_authorise_11 : decode cL_authorise 11 = .ok (.lastore, 1) := by decide +kernel
theorem dL_authorise_12 : decode cL_authorise 12 = .ok (.goto 15, 3) := by decide +kernel
theorem dL_authorise_15 : decode cL_authorise 15 = .ok (.astore 5, 2) := by decide +kernel
theorem dL_authorise_17 : decode cL_authorise 17 = .ok (.iconst 1, 1) := by decide +kernel
theorem dL_authorise_18 : decode cL_authorise 18 = .ok (.ireturn, 1) := by decide +kernel
theorem dL_authorise_19 : decode cL_authorise 19 = .ok (.astore 5, 2) := by decide +kernel
theorem dL_authorise_21 : decode cL_authorise 21 = .ok (.iconst 2, 1) := by decide +kernel
theorem dL_authorise_22 : decode cL_authorise 22 = .ok (.ireturn, 1) := by decide +kernel
theorem dL_authorise_23 : decode cL_authorise 23 = .ok (.astore 5, 2) := by decide +kernel
theorem dL_authorise_25 : decode cL_authorise 25 = .ok (.iconst 3, 1) := by decide +kernel
theorem dL_authorise_26 : decode cL_authorise 26 = .ok (.ireturn, 1) := by decide +kernel
theorem dL_authorise_27 : decode cL_authorise 27 = .ok (.iconst 0, 1) := by decide +kernel
theorem dL_authorise_28 : decode cL_authorise 28 = .ok (.ireturn, 1) := by decide +kernel
set_option maxRecDepth 20000 in
theorem ggL_capture_X7_capture : GoodIn wsL_capture wsX7_capture := goodIn_ca (goodIn_ca (goodIn_ca (goodIn_r _ [8, 9, 10, 11, 12, 13, 14, 15, 16, 17, 18, 19, 20, 21, 22, 23, 7, 24, 25, 26, 27, 28, 29, 30, 31, 32, 33, 34, 35, 36, 37, 38, 39, 40, 41, 42, 43, 44, 45, 46, 47, 48, 49, 50, 51, 52, 53, 54, 55, 56, 57, 58, 59, 60, 61, 62, 63, 64, 65, 66, 67, 68, 69, 70, 71, 72, 73, 74, 75, 76, 77, 78, 79, 80, 81, 82, 83, 84, 85, 86, 87, 88, 89, 90, 91, 92, 93, 94, 95, 96, 97, 98, 99, 100, 101, 102, 103, 104, 105, 106, 107, 108, 109, 110, 111, 112, 113, 114, 115, 116, 117, 118, 119, 120, 121, 122, 123, 124, 125, 126, 127, 128, 129, 130, 131, 132, 133, 134, 135, 136, 137, 138, 139, 140, 141, 142, 143, 144, 145, 146, 147, 148, 149, 150, 151, 152, 153, 154, 155, 156, 157, 158, 159, 160, 161, 162, 163, 164, 165, 166, 167, 168, 169, 170, 171, 172, 173, 174, 175, 176, 177, 178, 179, 180, 181, 182, 183, 184, 185, 186, 187, 188, 189, 190, 191, 192, 193, 194, 195, 196, 197, 198, 199, 200, 201, 202] (by decide +kernel) (by decide +kernel)) (goodIn_sub (fun _ h => List.mem_cons_of_mem _ (List.mem_append_left _ (List.mem_append_left _ (List.mem_append_right _ h)))) (by decide +kernel))) (goodIn_sub (fun _ h => List.mem_cons_of_mem _ (List.mem_append_left _ (List.mem_append_right _ h))) (by decide +kernel))) (goodIn_sub (fun _ h => List.mem_cons_of_mem _ (List.mem_append_right _ h)) (by decide +kernel))
set_option maxRecDepth 20000 in
theorem gL_capture_X7_capture : GoodIn wsL_capture (wsV RL 26 RX7 yX7_capture wsX7_capture) := goodIn_app (goodIn_of _ (by decide +kernel)) ggL_capture_X7_capture
theorem dL_capture_0 : decode cL_capture 0 = .ok (.aload_n 3, 1) := by decide +kernel
theorem dL_capture_1 : decode cL_capture 1 = .ok (.iconst 0, 1) := by decide +kernel
theorem dL_capture_2 : decode cL_capture 2 = .ok (.aload_n 0, 1) := by decide +kernel
theorem dL_capture_3 : decode cL_capture 3 = .ok (.iload_n 1, 1) := by decide +kernel
theorem dL_capture_4 : decode cL_capture 4 = .ok (.iload_n 2, 1) := by decide +kernel
theorem dL_capture_5 : decode cL_capture 5 = .ok (.invokevirtual 26, 3) := by decide +kernel
theorem dL_capture_8 : decode cL_capture 8 = .ok (.i2l, 1) := by decide +kernel
theorem dL_capture_9 : decode cL_capture 9 = .ok (.lastore, 1) := by decide +kernel
theorem dL_capture_10 : decode cL_capture 10 = .ok (.goto 15, 3) := by decide +kernel
theorem dL_capture_13 : decode cL_capture 13 = .ok (.astore 4, 2) := by decide +kernel
theorem dL_capture_15 : decode cL_capture 15 = .ok (.iconst 1, 1) := by decide +kernel
theorem dL_capture_16 : decode cL_capture 16 = .ok (.ireturn, 1) := by decide +kernel
theorem dL_capture_17 : decode cL_capture 17 = .ok (.astore 4, 2) := by decide +kernel
theorem dL_capture_19 : decode cL_capture 19 = .ok (.iconst 2, 1) := by decide +kernel
theorem dL_capture_20 : decode cL_capture 20 = .ok (.ireturn, 1) := by decide +kernel
theorem dL_capture_21 : decode cL_capture 21 = .ok (.astore 4, 2) := by decide +kernel
theorem dL_capture_23 : decode cL_capture 23 = .ok (.iconst 3, 1) := by decide +kernel
theorem dL_capture_24 : decode cL_capture 24 = .ok (.ireturn, 1) := by decide +kernel
theorem dL_capture_25 : decode cL_capture 25 = .ok (.iconst 0, 1) := by decide +kernel
theorem dL_capture_26 : decode cL_capture 26 = .ok (.ireturn, 1) := by decide +kernel
set_option maxRecDepth 20000 in
theorem ggL_cancel_X7_cancel : GoodIn wsL_cancel wsX7_cancel := goodIn_ca (goodIn_ca (goodIn_r _ [7, 8, 9, 10, 11, 12, 6, 13, 14, 15, 16, 17, 18, 19, 20, 21, 22, 23, 24, 25, 26, 27, 28, 29, 30, 31, 32, 33, 34, 35, 36, 37, 38, 39, 40, 41, 42, 43, 44, 45, 46, 47, 48, 49, 50, 51, 52, 53, 54, 55, 56, 57, 58, 59, 60, 61, 62, 63, 64, 65, 66, 67, 68, 69, 70, 71, 72, 73, 74, 75, 76] (by decide +kernel) (by decide +kernel)) (goodIn_sub (fun _ h => List.mem_cons_of_mem _ (List.mem_append_left _ (List.mem_append_right _ h))) (by decide +kernel))) (goodIn_sub (fun _ h => List.mem_cons_of_mem _ (List.mem_append_right _ h)) (by decide +kernel))
set_option maxRecDepth 20000 in
theorem gL_cancel_X7_cancel : GoodIn wsL_cancel (wsV RL 29 RX7 yX7_cancel wsX7_cancel) := goodIn_app (goodIn_of _ (by decide +kernel)) ggL_cancel_X7_cancel
theorem dL_cancel_0 : decode cL_cancel 0 = .ok (.aload_n 2, 1) := by decide +kernel
theorem dL_cancel_1 : decode cL_cancel 1 = .ok (.iconst 0, 1) := by decide +kernel
theorem dL_cancel_2 : decode cL_cancel 2 = .ok (.aload_n 0, 1) := by decide +kernel
theorem dL_cancel_3 : decode cL_cancel 3 = .ok (.iload_n 1, 1) := by decide +kernel
theorem dL_cancel_4 : decode cL_cancel 4 = .ok (.invokevirtual 29, 3) := by decide +kernel
theorem dL_cancel_7 : decode cL_cancel 7 = .ok (.i2l, 1) := by decide +kernel
theorem dL_cancel_8 : decode cL_cancel 8 = .ok (.lastore, 1) := by decide +kernel
theorem dL_cancel_9 : decode cL_cancel 9 = .ok (.goto 9, 3) := by decide +kernel
theorem dL_cancel_12 : decode cL_cancel 12 = .ok (.astore_n 3, 1) := by decide +kernel
theorem dL_cancel_13 : decode cL_cancel 13 = .ok (.iconst 1, 1) := by decide +kernel
theorem dL_cancel_14 : decode cL_cancel 14 = .ok (.ireturn, 1) := by decide +kernel
theorem dL_cancel_15 : decode cL_cancel 15 = .ok (.astore_n 3, 1) := by decide +kernel
theorem dL_cancel_16 : decode cL_cancel 16 = .ok (.iconst 2, 1) := by decide +kernel
theorem dL_cancel_17 : decode cL_cancel 17 = .ok (.ireturn, 1) := by decide +kernel
theorem dL_cancel_18 : decode cL_cancel 18 = .ok (.iconst 0, 1) := by decide +kernel
theorem dL_cancel_19 : decode cL_cancel 19 = .ok (.ireturn, 1) := by decide +kernel
set_option maxRecDepth 20000 in
theorem ggL_refund_X7_refund : GoodIn wsL_refund wsX7_refund := goodIn_ca (goodIn_ca (goodIn_ca (goodIn_r _ [8, 9, 10, 11, 12, 13, 14, 7, 15, 16, 17, 18, 19, 20, 21, 22, 23, 24, 25, 26, 27, 28, 29, 30, 31, 32, 33, 34, 35, 36, 37, 38, 39, 40, 41, 42, 43, 44, 45, 46, 47, 48, 49, 50, 51, 52, 53, 54, 55, 56, 57, 58, 59, 60, 61, 62, 63, 64, 65, 66, 67, 68, 69, 70, 71, 72, 73, 74, 75, 76, 77, 78, 79, 80, 81, 82, 83, 84, 85, 86, 87, 88, 89, 90, 91, 92, 93, 94, 95, 96, 97, 98, 99, 100, 101, 102, 103, 104, 105, 106, 107, 108, 109, 110, 111, 112, 113, 114, 115, 116, 117, 118, 119, 120, 121] (by decide +kernel) (by decide +kernel)) (goodIn_sub (fun _ h => List.mem_cons_of_mem _ (List.mem_append_left _ (List.mem_append_left _ (List.mem_append_right _ h)))) (by decide +kernel))) (goodIn_sub (fun _ h => List.mem_cons_of_mem _ (List.mem_append_left _ (List.mem_append_right _ h))) (by decide +kernel))) (goodIn_sub (fun _ h => List.mem_cons_of_mem _ (List.mem_append_right _ h)) (by decide +kernel))
set_option maxRecDepth 20000 in
theorem gL_refund_X7_refund : GoodIn wsL_refund (wsV RL 33 RX7 yX7_refund wsX7_refund) := goodIn_app (goodIn_of _ (by decide +kernel)) ggL_refund_X7_refund
theorem dL_refund_0 : decode cL_refund 0 = .ok (.aload_n 3, 1) := by decide +kernel
theorem dL_refund_1 : decode cL_refund 1 = .ok (.iconst 0, 1) := by decide +kernel
theorem dL_refund_2 : decode cL_refund 2 = .ok (.aload_n 0, 1) := by decide +kernel
theorem dL_refund_3 : decode cL_refund 3 = .ok (.iload_n 1, 1) := by decide +kernel
theorem dL_refund_4 : decode cL_refund 4 = .ok (.iload_n 2, 1) := by decide +kernel
theorem dL_refund_5 : decode cL_refund 5 = .ok (.invokevirtual 33, 3) := by decide +kernel
theorem dL_refund_8 : decode cL_refund 8 = .ok (.i2l, 1) := by decide +kernel
theorem dL_refund_9 : decode cL_refund 9 = .ok (.lastore, 1) := by decide +kernel
theorem dL_refund_10 : decode cL_refund 10 = .ok (.goto 15, 3) := by decide +kernel
theorem dL_refund_13 : decode cL_refund 13 = .ok (.astore 4, 2) := by decide +kernel
theorem dL_refund_15 : decode cL_refund 15 = .ok (.iconst 1, 1) := by decide +kernel
theorem dL_refund_16 : decode cL_refund 16 = .ok (.ireturn, 1) := by decide +kernel
theorem dL_refund_17 : decode cL_refund 17 = .ok (.astore 4, 2) := by decide +kernel
theorem dL_refund_19 : decode cL_refund 19 = .ok (.iconst 2, 1) := by decide +kernel
theorem dL_refund_20 : decode cL_refund 20 = .ok (.ireturn, 1) := by decide +kernel
theorem dL_refund_21 : decode cL_refund 21 = .ok (.astore 4, 2) := by decide +kernel
theorem dL_refund_23 : decode cL_refund 23 = .ok (.iconst 3, 1) := by decide +kernel
theorem dL_refund_24 : decode cL_refund 24 = .ok (.ireturn, 1) := by decide +kernel
theorem dL_refund_25 : decode cL_refund 25 = .ok (.iconst 0, 1) := by decide +kernel
theorem dL_refund_26 : decode cL_refund 26 = .ok (.ireturn, 1) := by decide +kernel
set_option maxRecDepth 20000 in
theorem ggL_dispute_X7_dispute : GoodIn wsL_dispute wsX7_dispute := goodIn_ca (goodIn_ca (goodIn_ca (goodIn_r _ [8, 9, 10, 11, 12, 13, 14, 15, 16, 17, 18, 19, 7, 20, 21, 22, 23, 24, 25, 26, 27, 28, 29, 30, 31, 32, 33, 34, 35, 36, 37, 38, 39, 40, 41, 42, 43, 44, 45, 46, 47, 48, 49, 50, 51, 52, 53, 54, 55, 56, 57, 58, 59, 60, 61, 62, 63, 64, 65, 66, 67, 68, 69, 70, 71, 72, 73, 74, 75, 76, 77, 78, 79, 80, 81, 82, 83, 84, 85, 86, 87, 88, 89, 90, 91, 92, 93, 94, 95, 96, 97, 98, 99, 100, 101, 102, 103, 104, 105, 106, 107, 108, 109, 110, 111, 112, 113, 114, 115, 116, 117, 118, 119, 120, 121, 122, 123, 124, 125, 126, 127, 128, 129, 130, 131, 132, 133, 134, 135, 136, 137, 138, 139, 140, 141, 142, 143, 144, 145, 146, 147, 148, 149, 150, 151, 152, 153, 154, 155, 156, 157, 158, 159, 160, 161, 162, 163, 164, 165, 166, 167, 168, 169, 170, 171, 172, 173, 174, 175, 176, 177, 178, 179, 180, 181, 182, 183, 184, 185, 186, 187, 188, 189, 190] (by decide +kernel) (by decide +kernel)) (goodIn_sub (fun _ h => List.mem_cons_of_mem _ (List.mem_append_left _ (List.mem_append_left _ (List.mem_append_right _ h)))) (by decide +kernel))) (goodIn_sub (fun _ h => List.mem_cons_of_mem _ (List.mem_append_left _ (List.mem_append_right _ h))) (by decide +kernel))) (goodIn_sub (fun _ h => List.mem_cons_of_mem _ (List.mem_append_right _ h)) (by decide +kernel))
set_option maxRecDepth 20000 in
theorem gL_dispute_X7_dispute : GoodIn wsL_dispute (wsV RL 36 RX7 yX7_dispute wsX7_dispute) := goodIn_app (goodIn_of _ (by decide +kernel)) ggL_dispute_X7_dispute
theorem dL_dispute_0 : decode cL_dispute 0 = .ok (.aload_n 3, 1) := by decide +kernel
theorem dL_dispute_1 : decode cL_dispute 1 = .ok (.iconst 0, 1) := by decide +kernel
theorem dL_dispute_2 : decode cL_dispute 2 = .ok (.aload_n 0, 1) := by decide +kernel
theorem dL_dispute_3 : decode cL_dispute 3 = .ok (.iload_n 1, 1) := by decide +kernel
theorem dL_dispute_4 : decode cL_dispute 4 = .ok (.iload_n 2, 1) := by decide +kernel
theorem dL_dispute_5 : decode cL_dispute 5 = .ok (.invokevirtual 36, 3) := by decide +kernel
theorem dL_dispute_8 : decode cL_dispute 8 = .ok (.i2l, 1) := by decide +kernel
theorem dL_dispute_9 : decode cL_dispute 9 = .ok (.lastore, 1) := by decide +kernel
theorem dL_dispute_10 : decode cL_dispute 10 = .ok (.goto 15, 3) := by decide +kernel
theorem dL_dispute_13 : decode cL_dispute 13 = .ok (.astore 4, 2) := by decide +kernel
theorem dL_dispute_15 : decode cL_dispute 15 = .ok (.iconst 1, 1) := by decide +kernel
theorem dL_dispute_16 : decode cL_dispute 16 = .ok (.ireturn, 1) := by decide +kernel
theorem dL_dispute_17 : decode cL_dispute 17 = .ok (.astore 4, 2) := by decide +kernel
theorem dL_dispute_19 : decode cL_dispute 19 = .ok (.iconst 2, 1) := by decide +kernel
theorem dL_dispute_20 : decode cL_dispute 20 = .ok (.ireturn, 1) := by decide +kernel
theorem dL_dispute_21 : decode cL_dispute 21 = .ok (.astore 4, 2) := by decide +kernel
theorem dL_dispute_23 : decode cL_dispute 23 = .ok (.iconst 3, 1) := by decide +kernel
theorem dL_dispute_24 : decode cL_dispute 24 = .ok (.ireturn, 1) := by decide +kernel
theorem dL_dispute_25 : decode cL_dispute 25 = .ok (.iconst 0, 1) := by decide +kernel
theorem dL_dispute_26 : decode cL_dispute 26 = .ok (.ireturn, 1) := by decide +kernel
set_option maxRecDepth 20000 in
theorem ggL_answer_X7_answer : GoodIn wsL_answer wsX7_answer := goodIn_ca (goodIn_ca (goodIn_r _ [7, 8, 9, 10, 11, 12, 13, 6, 14, 15, 16, 17, 18, 19, 20, 21, 22, 23, 24, 25, 26, 27, 28, 29, 30, 31, 32, 33, 34, 35, 36, 37, 38, 39, 40, 41, 42, 43, 44, 45, 46, 47, 48, 49, 50, 51, 52, 53, 54, 55, 56, 57, 58, 59, 60, 61, 62, 63, 64, 65, 66, 67, 68, 69, 70, 71, 72, 73, 74, 75, 76, 77, 78, 79, 80, 81, 82, 83, 84, 85, 86, 87, 88, 89, 90, 91, 92, 93, 94, 95, 96, 97, 98, 99, 100, 101, 102, 103, 104, 105, 106, 107, 108, 109, 110, 111] (by decide +kernel) (by decide +kernel)) (goodIn_sub (fun _ h => List.mem_cons_of_mem _ (List.mem_append_left _ (List.mem_append_right _ h))) (by decide +kernel))) (goodIn_sub (fun _ h => List.mem_cons_of_mem _ (List.mem_append_right _ h)) (by decide +kernel))
set_option maxRecDepth 20000 in
theorem gL_answer_X7_answer : GoodIn wsL_answer (wsV RL 39 RX7 yX7_answer wsX7_answer) := goodIn_app (goodIn_of _ (by decide +kernel)) ggL_answer_X7_answer
theorem dL_answer_0 : decode cL_answer 0 = .ok (.aload_n 2, 1) := by decide +kernel
theorem dL_answer_1 : decode cL_answer 1 = .ok (.iconst 0, 1) := by decide +kernel
theorem dL_answer_2 : decode cL_answer 2 = .ok (.aload_n 0, 1) := by decide +kernel
theorem dL_answer_3 : decode cL_answer 3 = .ok (.iload_n 1, 1) := by decide +kernel
theorem dL_answer_4 : decode cL_answer 4 = .ok (.invokevirtual 39, 3) := by decide +kernel
theorem dL_answer_7 : decode cL_answer 7 = .ok (.i2l, 1) := by decide +kernel
theorem dL_answer_8 : decode cL_answer 8 = .ok (.lastore, 1) := by decide +kernel
theorem dL_answer_9 : decode cL_answer 9 = .ok (.goto 9, 3) := by decide +kernel
theorem dL_answer_12 : decode cL_answer 12 = .ok (.astore_n 3, 1) := by decide +kernel
theorem dL_answer_13 : decode cL_answer 13 = .ok (.iconst 1, 1) := by decide +kernel
theorem dL_answer_14 : decode cL_answer 14 = .ok (.ireturn, 1) := by decide +kernel
theorem dL_answer_15 : decode cL_answer 15 = .ok (.astore_n 3, 1) := by decide +kernel
theorem dL_answer_16 : decode cL_answer 16 = .ok (.iconst 2, 1) := by decide +kernel
theorem dL_answer_17 : decode cL_answer 17 = .ok (.ireturn, 1) := by decide +kernel
theorem dL_answer_18 : decode cL_answer 18 = .ok (.iconst 0, 1) := by decide +kernel
theorem dL_answer_19 : decode cL_answer 19 = .ok (.ireturn, 1) := by decide +kernel
set_option maxRecDepth 20000 in
theorem ggL_press_X7_press : GoodIn wsL_press wsX7_press := goodIn_ca (goodIn_ca (goodIn_r _ [7, 8, 9, 10, 11, 12, 13, 14, 6, 15, 16, 17, 18, 19, 20, 21, 22, 23, 24, 25, 26, 27, 28, 29, 30, 31, 32, 33, 34, 35, 36, 37, 38, 39, 40, 41, 42, 43, 44, 45, 46, 47, 48, 49, 50, 51, 52, 53, 54, 55, 56, 57, 58, 59, 60, 61, 62, 63, 64, 65, 66, 67, 68, 69, 70, 71, 72, 73, 74, 75, 76, 77, 78, 79, 80, 81, 82, 83, 84, 85, 86, 87, 88, 89, 90, 91, 92, 93, 94, 95, 96, 97, 98, 99, 100, 101, 102, 103, 104, 105, 106, 107, 108, 109, 110, 111] (by decide +kernel) (by decide +kernel)) (goodIn_sub (fun _ h => List.mem_cons_of_mem _ (List.mem_append_left _ (List.mem_append_right _ h))) (by decide +kernel))) (goodIn_sub (fun _ h => List.mem_cons_of_mem _ (List.mem_append_right _ h)) (by decide +kernel))
set_option maxRecDepth 20000 in
theorem gL_press_X7_press : GoodIn wsL_press (wsV RL 42 RX7 yX7_press wsX7_press) := goodIn_app (goodIn_of _ (by decide +kernel)) ggL_press_X7_press
theorem dL_press_0 : decode cL_press 0 = .ok (.aload_n 2, 1) := by decide +kernel
theorem dL_press_1 : decode cL_press 1 = .ok (.iconst 0, 1) := by decide +kernel
theorem dL_press_2 : decode cL_press 2 = .ok (.aload_n 0, 1) := by decide +kernel
theorem dL_press_3 : decode cL_press 3 = .ok (.iload_n 1, 1) := by decide +kernel
theorem dL_press_4 : decode cL_press 4 = .ok (.invokevirtual 42, 3) := by decide +kernel
theorem dL_press_7 : decode cL_press 7 = .ok (.i2l, 1) := by decide +kernel
theorem dL_press_8 : decode cL_press 8 = .ok (.lastore, 1) := by decide +kernel
theorem dL_press_9 : decode cL_press 9 = .ok (.goto 9, 3) := by decide +kernel
theorem dL_press_12 : decode cL_press 12 = .ok (.astore_n 3, 1) := by decide +kernel
theorem dL_press_13 : decode cL_press 13 = .ok (.iconst 1, 1) := by decide +kernel
theorem dL_press_14 : decode cL_press 14 = .ok (.ireturn, 1) := by decide +kernel
theorem dL_press_15 : decode cL_press 15 = .ok (.astore_n 3, 1) := by decide +kernel
theorem dL_press_16 : decode cL_press 16 = .ok (.iconst 2, 1) := by decide +kernel
theorem dL_press_17 : decode cL_press 17 = .ok (.ireturn, 1) := by decide +kernel
theorem dL_press_18 : decode cL_press 18 = .ok (.iconst 0, 1) := by decide +kernel
theorem dL_press_19 : decode cL_press 19 = .ok (.ireturn, 1) := by decide +kernel
set_option maxRecDepth 20000 in
theorem ggL_rule_X7_rule : GoodIn wsL_rule wsX7_rule := goodIn_ca (goodIn_ca (goodIn_r _ [7, 8, 9, 10, 11, 6, 12, 13, 14, 15, 16, 17, 18, 19, 20, 21, 22, 23, 24, 25, 26, 27, 28, 29, 30, 31, 32, 33, 34, 35, 36, 37, 38, 39, 40, 41, 42, 43, 44, 45, 46, 47, 48, 49, 50, 51, 52, 53, 54, 55, 56, 57, 58, 59, 60, 61, 62, 63, 64, 65, 66, 67, 68, 69, 70, 71, 72, 73, 74, 75, 76, 77, 78, 79, 80, 81, 82, 83, 84, 85, 86, 87, 88, 89, 90, 91, 92, 93, 94, 95, 96, 97, 98, 99, 100, 101, 102, 103, 104, 105, 106, 107, 108, 109] (by decide +kernel) (by decide +kernel)) (goodIn_sub (fun _ h => List.mem_cons_of_mem _ (List.mem_append_left _ (List.mem_append_right _ h))) (by decide +kernel))) (goodIn_sub (fun _ h => List.mem_cons_of_mem _ (List.mem_append_right _ h)) (by decide +kernel))
set_option maxRecDepth 20000 in
theorem gL_rule_X7_rule : GoodIn wsL_rule (wsV RL 45 RX7 yX7_rule wsX7_rule) := goodIn_app (goodIn_of _ (by decide +kernel)) ggL_rule_X7_rule
theorem dL_rule_0 : decode cL_rule 0 = .ok (.aload_n 3, 1) := by decide +kernel
theorem dL_rule_1 : decode cL_rule 1 = .ok (.iconst 0, 1) := by decide +kernel
theorem dL_rule_2 : decode cL_rule 2 = .ok (.aload_n 0, 1) := by decide +kernel
theorem dL_rule_3 : decode cL_rule 3 = .ok (.iload_n 1, 1) := by decide +kernel
theorem dL_rule_4 : decode cL_rule 4 = .ok (.iload_n 2, 1) := by decide +kernel
theorem dL_rule_5 : decode cL_rule 5 = .ok (.invokevirtual 45, 3) := by decide +kernel
theorem dL_rule_8 : decode cL_rule 8 = .ok (.i2l, 1) := by decide +kernel
theorem dL_rule_9 : decode cL_rule 9 = .ok (.lastore, 1) := by decide +kernel
theorem dL_rule_10 : decode cL_rule 10 = .ok (.goto 11, 3) := by decide +kernel
theorem dL_rule_13 : decode cL_rule 13 = .ok (.astore 4, 2) := by decide +kernel
theorem dL_rule_15 : decode cL_rule 15 = .ok (.iconst 1, 1) := by decide +kernel
theorem dL_rule_16 : decode cL_rule 16 = .ok (.ireturn, 1) := by decide +kernel
theorem dL_rule_17 : decode cL_rule 17 = .ok (.astore 4, 2) := by decide +kernel
theorem dL_rule_19 : decode cL_rule 19 = .ok (.iconst 2, 1) := by decide +kernel
theorem dL_rule_20 : decode cL_rule 20 = .ok (.ireturn, 1) := by decide +kernel
theorem dL_rule_21 : decode cL_rule 21 = .ok (.iconst 0, 1) := by decide +kernel
theorem dL_rule_22 : decode cL_rule 22 = .ok (.ireturn, 1) := by decide +kernel
set_option maxRecDepth 20000 in
theorem ggL_pass_X7_pass : GoodIn wsL_pass wsX7_pass := goodIn_ca (goodIn_r _ [6, 7, 8, 9, 5, 10, 11, 12, 13, 14, 15, 16, 17, 18, 19, 20, 21, 22, 23, 24, 25, 26, 27, 28, 29, 30, 31, 32, 33, 34, 35, 36, 37, 38, 39, 40, 41, 42, 43, 44, 45, 46, 47, 48, 49, 50, 51, 52, 53, 54, 55, 56, 57, 58, 59, 60, 61, 62, 63, 64, 65, 66, 67, 68, 69, 70, 71, 72] (by decide +kernel) (by decide +kernel)) (goodIn_sub (fun _ h => List.mem_cons_of_mem _ (List.mem_append_right _ h)) (by decide +kernel))
set_option maxRecDepth 20000 in
theorem gL_pass_X7_pass : GoodIn wsL_pass (wsV RL 49 RX7 yX7_pass wsX7_pass) := goodIn_app (goodIn_of _ (by decide +kernel)) ggL_pass_X7_pass
theorem dL_pass_0 : decode cL_pass 0 = .ok (.aload_n 2, 1) := by decide +kernel
theorem dL_pass_1 : decode cL_pass 1 = .ok (.iconst 0, 1) := by decide +kernel
theorem dL_pass_2 : decode cL_pass 2 = .ok (.aload_n 0, 1) := by decide +kernel
theorem dL_pass_3 : decode cL_pass 3 = .ok (.iload_n 1, 1) := by decide +kernel
theorem dL_pass_4 : decode cL_pass 4 = .ok (.invokevirtual 49, 3) := by decide +kernel
theorem dL_pass_7 : decode cL_pass 7 = .ok (.i2l, 1) := by decide +kernel
theorem dL_pass_8 : decode cL_pass 8 = .ok (.lastore, 1) := by decide +kernel
theorem dL_pass_9 : decode cL_pass 9 = .ok (.goto 6, 3) := by decide +kernel
theorem dL_pass_12 : decode cL_pass 12 = .ok (.astore_n 3, 1) := by decide +kernel
theorem dL_pass_13 : decode cL_pass 13 = .ok (.iconst 1, 1) := by decide +kernel
theorem dL_pass_14 : decode cL_pass 14 = .ok (.ireturn, 1) := by decide +kernel
theorem dL_pass_15 : decode cL_pass 15 = .ok (.iconst 0, 1) := by decide +kernel
theorem dL_pass_16 : decode cL_pass 16 = .ok (.ireturn, 1) := by decide +kernel
set_option maxRecDepth 20000 in
theorem ggL_paymentOf_X7_paymentOf : GoodIn wsL_paymentOf wsX7_paymentOf := goodIn_ca (goodIn_ca (goodIn_r _ [7, 8, 9, 10, 11, 12, 13, 14, 15, 16, 17, 18, 19, 20, 6, 21, 22, 23, 24, 25, 26, 27, 28, 29, 30, 31, 32, 33, 34, 35, 36, 37, 38, 39, 40, 41, 42, 43, 44, 45, 46, 47, 48, 49, 50, 51, 52, 53, 54, 55, 56, 57, 58, 59, 60, 61, 62, 63, 64, 65, 66, 67, 68, 69, 70, 71, 72, 73, 74, 75, 76, 77, 78, 79, 80, 81, 82, 83, 84] (by decide +kernel) (by decide +kernel)) (goodIn_sub (fun _ h => List.mem_cons_of_mem _ (List.mem_append_left _ (List.mem_append_right _ h))) (by decide +kernel))) (goodIn_sub (fun _ h => List.mem_cons_of_mem _ (List.mem_append_right _ h)) (by decide +kernel))
set_option maxRecDepth 20000 in
theorem gL_paymentOf_X7_paymentOf : GoodIn wsL_paymentOf (wsV RL 52 RX7 yX7_paymentOf wsX7_paymentOf) := goodIn_app (goodIn_of _ (by decide +kernel)) ggL_paymentOf_X7_paymentOf
theorem dL_paymentOf_0 : decode cL_paymentOf 0 = .ok (.aload_n 3, 1) := by decide +kernel
theorem dL_paymentOf_1 : decode cL_paymentOf 1 = .ok (.iconst 0, 1) := by decide +kernel
theorem dL_paymentOf_2 : decode cL_paymentOf 2 = .ok (.aload_n 0, 1) := by decide +kernel
theorem dL_paymentOf_3 : decode cL_paymentOf 3 = .ok (.iload_n 1, 1) := by decide +kernel
theorem dL_paymentOf_4 : decode cL_paymentOf 4 = .ok (.iload_n 2, 1) := by decide +kernel
theorem dL_paymentOf_5 : decode cL_paymentOf 5 = .ok (.invokevirtual 52, 3) := by decide +kernel
theorem dL_paymentOf_8 : decode cL_paymentOf 8 = .ok (.i2l, 1) := by decide +kernel
theorem dL_paymentOf_9 : decode cL_paymentOf 9 = .ok (.lastore, 1) := by decide +kernel
theorem dL_paymentOf_10 : decode cL_paymentOf 10 = .ok (.goto 11, 3) := by decide +kernel
theorem dL_paymentOf_13 : decode cL_paymentOf 13 = .ok (.astore 4, 2) := by decide +kernel
theorem dL_paymentOf_15 : decode cL_paymentOf 15 = .ok (.iconst 1, 1) := by decide +kernel
theorem dL_paymentOf_16 : decode cL_paymentOf 16 = .ok (.ireturn, 1) := by decide +kernel
theorem dL_paymentOf_17 : decode cL_paymentOf 17 = .ok (.astore 4, 2) := by decide +kernel
theorem dL_paymentOf_19 : decode cL_paymentOf 19 = .ok (.iconst 2, 1) := by decide +kernel
theorem dL_paymentOf_20 : decode cL_paymentOf 20 = .ok (.ireturn, 1) := by decide +kernel
theorem dL_paymentOf_21 : decode cL_paymentOf 21 = .ok (.iconst 0, 1) := by decide +kernel
theorem dL_paymentOf_22 : decode cL_paymentOf 22 = .ok (.ireturn, 1) := by decide +kernel
set_option maxRecDepth 20000 in
theorem ggL_captureOf_X7_captureOf : GoodIn wsL_captureOf wsX7_captureOf := goodIn_ca (goodIn_ca (goodIn_r _ [7, 8, 9, 10, 11, 12, 13, 14, 15, 16, 17, 6, 18, 19, 20, 21, 22, 23, 24, 25, 26, 27, 28, 29, 30, 31, 32, 33, 34, 35, 36, 37, 38, 39, 40, 41, 42, 43, 44, 45, 46, 47, 48, 49, 50, 51, 52, 53, 54, 55, 56, 57, 58, 59, 60, 61, 62, 63, 64, 65, 66, 67, 68, 69, 70, 71, 72, 73, 74, 75, 76, 77, 78, 79, 80, 81, 82] (by decide +kernel) (by decide +kernel)) (goodIn_sub (fun _ h => List.mem_cons_of_mem _ (List.mem_append_left _ (List.mem_append_right _ h))) (by decide +kernel))) (goodIn_sub (fun _ h => List.mem_cons_of_mem _ (List.mem_append_right _ h)) (by decide +kernel))
set_option maxRecDepth 20000 in
theorem gL_captureOf_X7_captureOf : GoodIn wsL_captureOf (wsV RL 55 RX7 yX7_captureOf wsX7_captureOf) := goodIn_app (goodIn_of _ (by decide +kernel)) ggL_captureOf_X7_captureOf
theorem dL_captureOf_0 : decode cL_captureOf 0 = .ok (.aload_n 3, 1) := by decide +kernel
theorem dL_captureOf_1 : decode cL_captureOf 1 = .ok (.iconst 0, 1) := by decide +kernel
theorem dL_captureOf_2 : decode cL_captureOf 2 = .ok (.aload_n 0, 1) := by decide +kernel
theorem dL_captureOf_3 : decode cL_captureOf 3 = .ok (.iload_n 1, 1) := by decide +kernel
theorem dL_captureOf_4 : decode cL_captureOf 4 = .ok (.iload_n 2, 1) := by decide +kernel
theorem dL_captureOf_5 : decode cL_captureOf 5 = .ok (.invokevirtual 55, 3) := by decide +kernel
theorem dL_captureOf_8 : decode cL_captureOf 8 = .ok (.i2l, 1) := by decide +kernel
theorem dL_captureOf_9 : decode cL_captureOf 9 = .ok (.lastore, 1) := by decide +kernel
theorem dL_captureOf_10 : decode cL_captureOf 10 = .ok (.goto 11, 3) := by decide +kernel
theorem dL_captureOf_13 : decode cL_captureOf 13 = .ok (.astore 4, 2) := by decide +kernel
theorem dL_captureOf_15 : decode cL_captureOf 15 = .ok (.iconst 1, 1) := by decide +kernel
theorem dL_captureOf_16 : decode cL_captureOf 16 = .ok (.ireturn, 1) := by decide +kernel
theorem dL_captureOf_17 : decode cL_captureOf 17 = .ok (.astore 4, 2) := by decide +kernel
theorem dL_captureOf_19 : decode cL_captureOf 19 = .ok (.iconst 2, 1) := by decide +kernel
theorem dL_captureOf_20 : decode cL_captureOf 20 = .ok (.ireturn, 1) := by decide +kernel
theorem dL_captureOf_21 : decode cL_captureOf 21 = .ok (.iconst 0, 1) := by decide +kernel
theorem dL_captureOf_22 : decode cL_captureOf 22 = .ok (.ireturn, 1) := by decide +kernel
set_option maxRecDepth 20000 in
theorem ggL_chargebackOf_X7_chargebackOf : GoodIn wsL_chargebackOf wsX7_chargebackOf := goodIn_ca (goodIn_ca (goodIn_r _ [7, 8, 9, 10, 11, 12, 13, 14, 15, 16, 17, 6, 18, 19, 20, 21, 22, 23, 24, 25, 26, 27, 28, 29, 30, 31, 32, 33, 34, 35, 36, 37, 38, 39, 40, 41, 42, 43, 44, 45, 46, 47, 48, 49, 50, 51, 52, 53, 54, 55, 56, 57, 58, 59, 60, 61, 62, 63, 64, 65, 66] (by decide +kernel) (by decide +kernel)) (goodIn_sub (fun _ h => List.mem_cons_of_mem _ (List.mem_append_left _ (List.mem_append_right _ h))) (by decide +kernel))) (goodIn_sub (fun _ h => List.mem_cons_of_mem _ (List.mem_append_right _ h)) (by decide +kernel))
set_option maxRecDepth 20000 in
theorem gL_chargebackOf_X7_chargebackOf : GoodIn wsL_chargebackOf (wsV RL 58 RX7 yX7_chargebackOf wsX7_chargebackOf) := goodIn_app (goodIn_of _ (by decide +kernel)) ggL_chargebackOf_X7_chargebackOf
theorem dL_chargebackOf_0 : decode cL_chargebackOf 0 = .ok (.aload_n 3, 1) := by decide +kernel
theorem dL_chargebackOf_1 : decode cL_chargebackOf 1 = .ok (.iconst 0, 1) := by decide +kernel
theorem dL_chargebackOf_2 : decode cL_chargebackOf 2 = .ok (.aload_n 0, 1) := by decide +kernel
theorem dL_chargebackOf_3 : decode cL_chargebackOf 3 = .ok (.iload_n 1, 1) := by decide +kernel
theorem dL_chargebackOf_4 : decode cL_chargebackOf 4 = .ok (.iload_n 2, 1) := by decide +kernel
theorem dL_chargebackOf_5 : decode cL_chargebackOf 5 = .ok (.invokevirtual 58, 3) := by decide +kernel
theorem dL_chargebackOf_8 : decode cL_chargebackOf 8 = .ok (.i2l, 1) := by decide +kernel
theorem dL_chargebackOf_9 : decode cL_chargebackOf 9 = .ok (.lastore, 1) := by decide +kernel
theorem dL_chargebackOf_10 : decode cL_chargebackOf 10 = .ok (.goto 11, 3) := by decide +kernel
theorem dL_chargebackOf_13 : decode cL_chargebackOf 13 = .ok (.astore 4, 2) := by decide +kernel
theorem dL_chargebackOf_15 : decode cL_chargebackOf 15 = .ok (.iconst 1, 1) := by decide +kernel
theorem dL_chargebackOf_16 : decode cL_chargebackOf 16 = .ok (.ireturn, 1) := by decide +kernel
theorem dL_chargebackOf_17 : decode cL_chargebackOf 17 = .ok (.astore 4, 2) := by decide +kernel
theorem dL_chargebackOf_19 : decode cL_chargebackOf 19 = .ok (.iconst 2, 1) := by decide +kernel
theorem dL_chargebackOf_20 : decode cL_chargebackOf 20 = .ok (.ireturn, 1) := by decide +kernel
theorem dL_chargebackOf_21 : decode cL_chargebackOf 21 = .ok (.iconst 0, 1) := by decide +kernel
theorem dL_chargebackOf_22 : decode cL_chargebackOf 22 = .ok (.ireturn, 1) := by decide +kernel
set_option maxRecDepth 20000 in
theorem ggL_limit_X7_limit : GoodIn wsL_limit wsX7_limit := goodIn_ca (goodIn_r _ [6, 7, 8, 9, 5, 10, 11, 12, 13, 14, 15, 16, 17, 18, 19, 20, 21, 22, 23, 24, 25, 26, 27, 28, 29, 30, 31, 32, 33, 34, 35, 36, 37, 38, 39, 40, 41, 42, 43, 44, 45, 46, 47, 48, 49, 50, 51, 52, 53, 54, 55, 56, 57, 58, 59, 60, 61, 62, 63, 64, 65, 66, 67, 68, 69, 70, 71, 72] (by decide +kernel) (by decide +kernel)) (goodIn_sub (fun _ h => List.mem_cons_of_mem _ (List.mem_append_right _ h)) (by decide +kernel))
set_option maxRecDepth 20000 in
theorem gL_limit_X7_limit : GoodIn wsL_limit (wsV RL 61 RX7 yX7_limit wsX7_limit) := goodIn_app (goodIn_of _ (by decide +kernel)) ggL_limit_X7_limit
theorem dL_limit_0 : decode cL_limit 0 = .ok (.aload_n 2, 1) := by decide +kernel
theorem dL_limit_1 : decode cL_limit 1 = .ok (.iconst 0, 1) := by decide +kernel
theorem dL_limit_2 : decode cL_limit 2 = .ok (.aload_n 0, 1) := by decide +kernel
theorem dL_limit_3 : decode cL_limit 3 = .ok (.iload_n 1, 1) := by decide +kernel
theorem dL_limit_4 : decode cL_limit 4 = .ok (.invokevirtual 61, 3) := by decide +kernel
theorem dL_limit_7 : decode cL_limit 7 = .ok (.i2l, 1) := by decide +kernel
theorem dL_limit_8 : decode cL_limit 8 = .ok (.lastore, 1) := by decide +kernel
theorem dL_limit_9 : decode cL_limit 9 = .ok (.goto 6, 3) := by decide +kernel
theorem dL_limit_12 : decode cL_limit 12 = .ok (.astore_n 3, 1) := by decide +kernel
theorem dL_limit_13 : decode cL_limit 13 = .ok (.iconst 1, 1) := by decide +kernel
theorem dL_limit_14 : decode cL_limit 14 = .ok (.ireturn, 1) := by decide +kernel
theorem dL_limit_15 : decode cL_limit 15 = .ok (.iconst 0, 1) := by decide +kernel
theorem dL_limit_16 : decode cL_limit 16 = .ok (.ireturn, 1) := by decide +kernel
set_option maxRecDepth 20000 in
theorem ggL_net_X7_net : GoodIn wsL_net wsX7_net := goodIn_ca (goodIn_r _ [6, 7, 8, 9, 10, 11, 5, 12, 13, 14, 15, 16, 17, 18, 19, 20, 21, 22, 23, 24, 25] (by decide +kernel) (by decide +kernel)) (goodIn_sub (fun _ h => List.mem_cons_of_mem _ (List.mem_append_right _ h)) (by decide +kernel))
set_option maxRecDepth 20000 in
theorem gL_net_X7_net : GoodIn wsL_net (wsV RL 64 RX7 yX7_net wsX7_net) := goodIn_app (goodIn_of _ (by decide +kernel)) ggL_net_X7_net
theorem dL_net_0 : decode cL_net 0 = .ok (.aload_n 3, 1) := by decide +kernel
theorem dL_net_1 : decode cL_net 1 = .ok (.iconst 0, 1) := by decide +kernel
theorem dL_net_2 : decode cL_net 2 = .ok (.aload_n 0, 1) := by decide +kernel
theorem dL_net_3 : decode cL_net 3 = .ok (.iload_n 1, 1) := by decide +kernel
theorem dL_net_4 : decode cL_net 4 = .ok (.iload_n 2, 1) := by decide +kernel
theorem dL_net_5 : decode cL_net 5 = .ok (.invokevirtual 64, 3) := by decide +kernel
theorem dL_net_8 : decode cL_net 8 = .ok (.lastore, 1) := by decide +kernel
theorem dL_net_9 : decode cL_net 9 = .ok (.goto 7, 3) := by decide +kernel
theorem dL_net_12 : decode cL_net 12 = .ok (.astore 4, 2) := by decide +kernel
theorem dL_net_14 : decode cL_net 14 = .ok (.iconst 1, 1) := by decide +kernel
theorem dL_net_15 : decode cL_net 15 = .ok (.ireturn, 1) := by decide +kernel
theorem dL_net_16 : decode cL_net 16 = .ok (.iconst 0, 1) := by decide +kernel
theorem dL_net_17 : decode cL_net 17 = .ok (.ireturn, 1) := by decide +kernel
set_option maxRecDepth 20000 in
theorem ggL_netAnew_X7_netAnew : GoodIn wsL_netAnew wsX7_netAnew := goodIn_ca (goodIn_r _ [6, 7, 8, 9, 10, 11, 12, 13, 14, 15, 16, 17, 18, 5, 19, 20, 21, 22, 23, 24, 25, 26, 27, 28, 29, 30, 31, 32, 33, 34, 35, 36, 37, 38, 39, 40, 41, 42, 43, 44, 45, 46, 47, 48, 49, 50, 51, 52, 53, 54, 55, 56, 57, 58, 59, 60, 61, 62, 63, 64, 65, 66, 67, 68, 69, 70, 71, 72, 73, 74, 75, 76, 77, 78, 79, 80, 81, 82, 83, 84, 85, 86, 87, 88, 89, 90, 91, 92, 93, 94, 95, 96, 97, 98, 99, 100, 101, 102] (by decide +kernel) (by decide +kernel)) (goodIn_sub (fun _ h => List.mem_cons_of_mem _ (List.mem_append_right _ h)) (by decide +kernel))
set_option maxRecDepth 20000 in
theorem gL_netAnew_X7_netAnew : GoodIn wsL_netAnew (wsV RL 68 RX7 yX7_netAnew wsX7_netAnew) := goodIn_app (goodIn_of _ (by decide +kernel)) ggL_netAnew_X7_netAnew
theorem dL_netAnew_0 : decode cL_netAnew 0 = .ok (.aload_n 2, 1) := by decide +kernel
theorem dL_netAnew_1 : decode cL_netAnew 1 = .ok (.iconst 0, 1) := by decide +kernel
theorem dL_netAnew_2 : decode cL_netAnew 2 = .ok (.aload_n 0, 1) := by decide +kernel
theorem dL_netAnew_3 : decode cL_netAnew 3 = .ok (.iload_n 1, 1) := by decide +kernel
theorem dL_netAnew_4 : decode cL_netAnew 4 = .ok (.invokevirtual 68, 3) := by decide +kernel
theorem dL_netAnew_7 : decode cL_netAnew 7 = .ok (.lastore, 1) := by decide +kernel
theorem dL_netAnew_8 : decode cL_netAnew 8 = .ok (.goto 6, 3) := by decide +kernel
theorem dL_netAnew_11 : decode cL_netAnew 11 = .ok (.astore_n 3, 1) := by decide +kernel
theorem dL_netAnew_12 : decode cL_netAnew 12 = .ok (.iconst 1, 1) := by decide +kernel
theorem dL_netAnew_13 : decode cL_netAnew 13 = .ok (.ireturn, 1) := by decide +kernel
theorem dL_netAnew_14 : decode cL_netAnew 14 = .ok (.iconst 0, 1) := by decide +kernel
theorem dL_netAnew_15 : decode cL_netAnew 15 = .ok (.ireturn, 1) := by decide +kernel
set_option maxRecDepth 20000 in
theorem ggL_due_X7_due : GoodIn wsL_due wsX7_due := goodIn_ca (goodIn_r _ [6, 7, 8, 9, 10, 11, 12, 13, 14, 15, 16, 17, 18, 19, 5, 20, 21, 22, 23, 24, 25, 26, 27, 28, 29, 30, 31, 32, 33, 34, 35, 36, 37, 38, 39, 40, 41, 42, 43, 44, 45, 46, 47, 48, 49, 50, 51, 52, 53, 54, 55, 56, 57, 58, 59, 60, 61, 62, 63, 64, 65, 66, 67] (by decide +kernel) (by decide +kernel)) (goodIn_sub (fun _ h => List.mem_cons_of_mem _ (List.mem_append_right _ h)) (by decide +kernel))
set_option maxRecDepth 20000 in
theorem gL_due_X7_due : GoodIn wsL_due (wsV RL 72 RX7 yX7_due wsX7_due) := goodIn_app (goodIn_of _ (by decide +kernel)) ggL_due_X7_due
theorem dL_due_0 : decode cL_due 0 = .ok (.aload_n 2, 1) := by decide +kernel
end
section
theorem dL_due_1 : decode cL_due 1 = .ok (.iconst 0, 1) := by decide +kernel
theorem dL_due_2 : decode cL_due 2 = .ok (.aload_n 0, 1) := by decide +kernel
theorem dL_due_3 : decode cL_due 3 = .ok (.iload_n 1, 1) := by decide +kernel
theorem dL_due_4 : decode cL_due 4 = .ok (.invokevirtual 72, 3) := by decide +kernel
theorem dL_due_7 : decode cL_due 7 = .ok (.i2l, 1) := by decide +kernel
theorem dL_due_8 : decode cL_due 8 = .ok (.lastore, 1) := by decide +kernel
theorem dL_due_9 : decode cL_due 9 = .ok (.goto 6, 3) := by decide +kernel
theorem dL_due_12 : decode cL_due 12 = .ok (.astore_n 3, 1) := by decide +kernel
theorem dL_due_13 : decode cL_due 13 = .ok (.iconst 1, 1) := by decide +kernel
theorem dL_due_14 : decode cL_due 14 = .ok (.ireturn, 1) := by decide +kernel
theorem dL_due_15 : decode cL_due 15 = .ok (.iconst 0, 1) := by decide +kernel
theorem dL_due_16 : decode cL_due 16 = .ok (.ireturn, 1) := by decide +kernel
set_option maxRecDepth 20000 in
theorem ggL_count_X7_count : GoodIn wsL_count wsX7_count := goodIn_ca (goodIn_r _ [6, 7, 8, 9, 10, 11, 12, 13, 14, 15, 16, 17, 18, 19, 20, 21, 5, 22, 23, 24, 25, 26, 27, 28, 29, 30, 31, 32, 33, 34, 35, 36, 37, 38, 39, 40, 41, 42, 43, 44, 45, 46, 47, 48, 49, 50, 51, 52, 53, 54, 55, 56, 57] (by decide +kernel) (by decide +kernel)) (goodIn_sub (fun _ h => List.mem_cons_of_mem _ (List.mem_append_right _ h)) (by decide +kernel))
set_option maxRecDepth 20000 in
theorem gL_count_X7_count : GoodIn wsL_count (wsV RL 75 RX7 yX7_count wsX7_count) := goodIn_app (goodIn_of _ (by decide +kernel)) ggL_count_X7_count
theorem dL_count_0 : decode cL_count 0 = .ok (.aload_n 2, 1) := by decide +kernel
theorem dL_count_1 : decode cL_count 1 = .ok (.iconst 0, 1) := by decide +kernel
theorem dL_count_2 : decode cL_count 2 = .ok (.aload_n 0, 1) := by decide +kernel
theorem dL_count_3 : decode cL_count 3 = .ok (.iload_n 1, 1) := by decide +kernel
theorem dL_count_4 : decode cL_count 4 = .ok (.invokevirtual 75, 3) := by decide +kernel
theorem dL_count_7 : decode cL_count 7 = .ok (.i2l, 1) := by decide +kernel
theorem dL_count_8 : decode cL_count 8 = .ok (.lastore, 1) := by decide +kernel
theorem dL_count_9 : decode cL_count 9 = .ok (.goto 6, 3) := by decide +kernel
theorem dL_count_12 : decode cL_count 12 = .ok (.astore_n 3, 1) := by decide +kernel
theorem dL_count_13 : decode cL_count 13 = .ok (.iconst 1, 1) := by decide +kernel
theorem dL_count_14 : decode cL_count 14 = .ok (.ireturn, 1) := by decide +kernel
theorem dL_count_15 : decode cL_count 15 = .ok (.iconst 0, 1) := by decide +kernel
theorem dL_count_16 : decode cL_count 16 = .ok (.ireturn, 1) := by decide +kernel
set_option maxRecDepth 20000 in
theorem ggL_law_X7_init : GoodIn wsL_law wsX7_init := goodIn_r _ [9, 10, 11, 12, 13, 14, 15, 16, 17, 18, 19, 20, 21, 22, 23, 24, 25, 26, 27, 28, 29, 30, 31, 32, 33, 34, 35, 36, 37, 38, 39, 40, 41, 42, 43, 44, 45, 46, 47, 48, 49, 50, 51, 52, 53, 54, 55, 56, 57, 58, 59, 60, 61, 62, 63, 64, 65, 66, 67, 68, 69, 70, 71, 72, 73, 74, 75, 670, 671, 672, 673, 674, 675, 676, 677, 703, 704, 705, 706, 707, 708, 709, 710, 711, 712, 713, 714, 715] (by decide +kernel) (by decide +kernel)
set_option maxRecDepth 20000 in
theorem gL_law_X7_init : GoodIn wsL_law (wsX7_init) := ggL_law_X7_init
set_option maxRecDepth 20000 in
theorem ggL_law_X8_init : GoodIn wsL_law wsX8_init := goodIn_r _ [78, 79, 11, 12, 80, 81, 82, 83, 84, 85, 86, 87, 88, 89, 90, 91, 92, 93, 94, 95, 96, 97, 98, 6, 99, 100, 678, 679, 680, 681, 682, 683, 684, 685, 686, 687, 688, 689, 690, 691, 692, 693, 694, 695, 696, 697, 698, 699, 700, 701, 702] (by decide +kernel) (by decide +kernel)
set_option maxRecDepth 20000 in
theorem gL_law_X8_init : GoodIn wsL_law (wsX8_init) := ggL_law_X8_init
set_option maxRecDepth 20000 in
theorem ggL_law_L_shop : GoodIn wsL_law wsL_shop := goodIn_ca (goodIn_r _ [104, 105, 106, 107, 108, 2, 109, 110, 111, 112, 113, 114, 115, 116, 117, 18, 118, 119, 120, 121, 16, 711, 712, 713, 708, 709, 710, 670, 671, 672, 673, 674, 675, 676, 677] (by decide +kernel) (by decide +kernel)) (goodIn_sub (fun _ h => List.mem_append_left _ (List.mem_append_left _ (List.mem_append_right _ h))) (by decide +kernel))
set_option maxRecDepth 20000 in
theorem gL_law_L_shop : GoodIn wsL_law (va_wsS RL 82 yL_shop wsL_shop) := goodIn_app (goodIn_of _ (by decide +kernel)) ggL_law_L_shop
set_option maxRecDepth 20000 in
theorem ggL_law_X8_shop : GoodIn wsL_law wsX8_shop := goodIn_r _ [125, 81, 126, 127, 5, 128, 129, 130, 131, 132, 133, 134, 135, 136, 137, 138, 139, 678, 679, 680, 681, 682, 683, 684, 685, 686, 687, 688, 689, 690, 691, 692, 693, 694, 695, 696, 697, 698, 699, 700, 701, 702] (by decide +kernel) (by decide +kernel)
set_option maxRecDepth 20000 in
theorem gL_law_X8_shop : GoodIn wsL_law (wsV RL 87 RX8 yX8_shop wsX8_shop) := goodIn_app (goodIn_of _ (by decide +kernel)) ggL_law_X8_shop
set_option maxRecDepth 20000 in
theorem ggL_law_X8_thrown : GoodIn wsL_law wsX8_thrown := goodIn_r _ [143, 139, 678, 679, 680, 681, 682, 683, 684, 685, 686, 687, 688, 689, 690, 691, 692, 693, 694, 695, 696, 697, 698, 699, 700, 701, 702] (by decide +kernel) (by decide +kernel)
set_option maxRecDepth 20000 in
theorem gL_law_X8_thrown : GoodIn wsL_law (wsV RL 88 RX8 yX8_thrown wsX8_thrown) := goodIn_app (goodIn_of _ (by decide +kernel)) ggL_law_X8_thrown
set_option maxRecDepth 20000 in
theorem ggL_law_L_kind : GoodIn wsL_law wsL_kind := goodIn_ca (goodIn_ca (goodIn_r _ [146, 105, 147, 148, 149, 150, 2, 151, 152, 153, 118, 119, 120, 121, 116, 117, 16, 154, 155, 156, 157, 158, 159, 160, 161, 31, 162, 61, 60, 163, 164, 165, 166, 708, 709, 710, 670, 671, 672, 673, 674, 675, 676, 677] (by decide +kernel) (by decide +kernel)) (goodIn_sub (fun _ h => List.mem_append_left _ (List.mem_append_left _ (List.mem_append_right _ h))) (by decide +kernel))) (goodIn_sub (fun _ h => List.mem_append_left _ (List.mem_append_right _ h)) (by decide +kernel))
set_option maxRecDepth 20000 in
theorem gL_law_L_kind : GoodIn wsL_law (va_wsS RL 92 yL_kind wsL_kind) := goodIn_app (goodIn_of _ (by decide +kernel)) ggL_law_L_kind
set_option maxRecDepth 20000 in
theorem ggL_law_X8_kind : GoodIn wsL_law wsX8_kind := goodIn_r _ [170, 82, 83, 129, 130, 5, 131, 132, 133, 134, 135, 136, 137, 138, 139, 171, 172, 173, 174, 175, 678, 679, 680, 681, 682, 683, 684, 685, 686, 687, 688, 689, 690, 691, 692, 693, 694, 695, 696, 697, 698, 699, 700, 701, 702] (by decide +kernel) (by decide +kernel)
set_option maxRecDepth 20000 in
theorem gL_law_X8_kind : GoodIn wsL_law (wsV RL 95 RX8 yX8_kind wsX8_kind) := goodIn_app (goodIn_of _ (by decide +kernel)) ggL_law_X8_kind
set_option maxRecDepth 20000 in
theorem ggL_law_L_authorise : GoodIn wsL_law wsL_authorise := goodIn_ca (goodIn_ca (goodIn_ca (goodIn_r _ [178, 105, 147, 179, 180, 181, 182, 2, 183, 184, 24, 185, 186, 187, 27, 188, 189, 190, 191, 192, 116, 117, 20, 112, 113, 114, 115, 18, 154, 155, 156, 157, 158, 193, 194, 195, 23, 196, 197, 198, 199, 200, 201, 202, 203, 204, 205, 206, 25, 207, 208, 209, 210, 211, 212, 165, 213, 214, 215, 216, 217, 218, 219, 220, 221, 222, 223, 224, 225, 226, 227, 228, 229, 40, 230, 231, 232, 233, 11, 12, 234, 235, 236, 237, 238, 239, 240, 241, 242, 243, 244, 245, 246, 247, 248, 249, 250, 251, 252, 253, 254, 255, 256, 257, 258, 39, 259, 260, 261, 262, 263, 264, 265, 266, 267, 268, 269, 270, 271, 272, 273, 274, 275, 276, 277, 278, 279, 280, 281, 282, 283, 164, 166, 284, 285, 286, 287, 670, 671, 672, 673, 674, 675, 676, 677, 716, 717, 718, 719, 720, 721, 722, 703, 704, 705, 723, 724, 725, 726, 727] (by decide +kernel) (by decide +kernel)) (goodIn_sub (fun _ h => List.mem_append_left _ (List.mem_append_left _ (List.mem_append_right _ h))) (by decide +kernel))) (goodIn_sub (fun _ h => List.mem_append_left _ (List.mem_append_right _ h)) (by decide +kernel))) (goodIn_sub (fun _ h => List.mem_append_right _ h) (by decide +kernel))
set_option maxRecDepth 20000 in
theorem gL_law_L_authorise : GoodIn wsL_law (va_wsS RL 96 yL_authorise wsL_authorise) := goodIn_app (goodIn_of _ (by decide +kernel)) ggL_law_L_authorise
set_option maxRecDepth 20000 in
theorem ggL_law_X8_authorise : GoodIn wsL_law wsX8_authorise := goodIn_r _ [291, 292, 84, 85, 86, 88, 293, 294, 295, 5, 296, 129, 130, 131, 126, 127, 128, 297, 298, 299, 300, 135, 136, 137, 138, 139, 301, 302, 303, 304, 305, 91, 92, 306, 307, 678, 679, 680, 681, 682, 683, 684, 685, 686, 687, 688, 689, 690, 691, 692, 693, 694, 695, 696, 697, 698, 699, 700, 701, 702] (by decide +kernel) (by decide +kernel)
set_option maxRecDepth 20000 in
theorem gL_law_X8_authorise : GoodIn wsL_law (wsV RL 98 RX8 yX8_authorise wsX8_authorise) := goodIn_app (goodIn_of _ (by decide +kernel)) ggL_law_X8_authorise
set_option maxRecDepth 20000 in
theorem ggL_law_L_capture : GoodIn wsL_law wsL_capture := goodIn_ca (goodIn_ca (goodIn_ca (goodIn_r _ [310, 105, 147, 179, 311, 312, 313, 2, 314, 184, 25, 27, 315, 316, 317, 318, 110, 319, 210, 320, 321, 322, 323, 324, 325, 116, 117, 24, 326, 193, 194, 195, 23, 196, 197, 214, 215, 216, 217, 218, 219, 220, 221, 222, 223, 224, 225, 226, 227, 228, 229, 40, 154, 155, 156, 157, 158, 198, 199, 200, 201, 202, 327, 328, 329, 187, 330, 235, 240, 331, 332, 333, 334, 239, 234, 159, 160, 161, 31, 162, 61, 60, 163, 164, 165, 166, 335, 336, 337, 338, 11, 12, 339, 340, 341, 342, 343, 241, 242, 243, 244, 245, 246, 247, 248, 249, 250, 251, 252, 253, 254, 255, 256, 257, 258, 39, 259, 212, 213, 260, 261, 262, 263, 264, 265, 266, 267, 268, 269, 270, 271, 272, 273, 274, 275, 276, 277, 278, 279, 280, 281, 282, 283, 284, 285, 286, 287, 344, 345, 346, 347, 348, 349, 350, 351, 352, 353, 354, 355, 356, 357, 358, 29, 359, 360, 361, 362, 363, 54, 55, 670, 671, 672, 673, 674, 675, 676, 677, 723, 724, 725, 726, 727, 716, 717, 718, 719, 720, 721, 722, 711, 712, 713, 703, 704, 705, 708, 709, 710, 714, 715, 706, 707] (by decide +kernel) (by decide +kernel)) (goodIn_sub (fun _ h => List.mem_append_left _ (List.mem_append_left _ (List.mem_append_right _ h))) (by decide +kernel))) (goodIn_sub (fun _ h => List.mem_append_left _ (List.mem_append_right _ h)) (by decide +kernel))) (goodIn_sub (fun _ h => List.mem_append_right _ h) (by decide +kernel))
set_option maxRecDepth 20000 in
theorem gL_law_L_capture : GoodIn wsL_law (va_wsS RL 99 yL_capture wsL_capture) := goodIn_app (goodIn_of _ (by decide +kernel)) ggL_law_L_capture
set_option maxRecDepth 20000 in
theorem ggL_law_X8_capture : GoodIn wsL_law wsX8_capture := goodIn_r _ [367, 86, 87, 305, 91, 92, 93, 81, 85, 368, 369, 370, 371, 5, 372, 292, 129, 130, 131, 373, 374, 375, 376, 90, 293, 88, 297, 298, 299, 300, 135, 136, 137, 138, 139, 171, 172, 173, 174, 82, 175, 83, 377, 378, 379, 380, 84, 381, 382, 383, 384, 385, 386, 387, 388, 99, 100, 678, 679, 680, 681, 682, 683, 684, 685, 686, 687, 688, 689, 690, 691, 692, 693, 694, 695, 696, 697, 698, 699, 700, 701, 702] (by decide +kernel) (by decide +kernel)
set_option maxRecDepth 20000 in
theorem gL_law_X8_capture : GoodIn wsL_law (wsV RL 101 RX8 yX8_capture wsX8_capture) := goodIn_app (goodIn_of _ (by decide +kernel)) ggL_law_X8_capture
set_option maxRecDepth 20000 in
theorem ggL_law_L_cancel : GoodIn wsL_law wsL_cancel := goodIn_ca (goodIn_ca (goodIn_r _ [391, 105, 179, 392, 393, 394, 2, 395, 27, 396, 322, 323, 324, 325, 116, 117, 24, 326, 193, 194, 195, 23, 196, 197, 214, 215, 216, 217, 218, 219, 220, 221, 222, 223, 224, 225, 226, 227, 228, 229, 40, 327, 328, 329, 187, 330, 235, 240, 198, 199, 200, 201, 202, 331, 332, 333, 334, 239, 234, 670, 671, 672, 673, 674, 675, 676, 677, 716, 717, 718, 719, 720, 721, 722, 703, 704, 705] (by decide +kernel) (by decide +kernel)) (goodIn_sub (fun _ h => List.mem_append_left _ (List.mem_append_left _ (List.mem_append_right _ h))) (by decide +kernel))) (goodIn_sub (fun _ h => List.mem_append_right _ h) (by decide +kernel))
set_option maxRecDepth 20000 in
theorem gL_law_L_cancel : GoodIn wsL_law (va_wsS RL 102 yL_cancel wsL_cancel) := goodIn_app (goodIn_of _ (by decide +kernel)) ggL_law_L_cancel
set_option maxRecDepth 20000 in
theorem ggL_law_X8_cancel : GoodIn wsL_law wsX8_cancel := goodIn_r _ [400, 90, 86, 87, 369, 370, 371, 5, 372, 292, 129, 130, 131, 373, 374, 375, 376, 293, 88, 135, 136, 137, 138, 139, 678, 679, 680, 681, 682, 683, 684, 685, 686, 687, 688, 689, 690, 691, 692, 693, 694, 695, 696, 697, 698, 699, 700, 701, 702] (by decide +kernel) (by decide +kernel)
set_option maxRecDepth 20000 in
theorem gL_law_X8_cancel : GoodIn wsL_law (wsV RL 105 RX8 yX8_cancel wsX8_cancel) := goodIn_app (goodIn_of _ (by decide +kernel)) ggL_law_X8_cancel
set_option maxRecDepth 20000 in
theorem ggL_law_L_refund : GoodIn wsL_law wsL_refund := goodIn_ca (goodIn_ca (goodIn_ca (goodIn_r _ [403, 105, 147, 179, 404, 405, 406, 2, 407, 184, 210, 408, 409, 410, 411, 412, 116, 117, 25, 207, 193, 194, 195, 23, 196, 197, 214, 215, 216, 217, 218, 219, 220, 221, 222, 223, 224, 225, 226, 227, 228, 229, 40, 154, 155, 156, 157, 158, 413, 414, 415, 416, 26, 417, 418, 419, 420, 198, 199, 200, 201, 202, 350, 351, 352, 317, 353, 341, 354, 355, 344, 345, 346, 347, 348, 349, 356, 357, 358, 29, 359, 360, 361, 362, 363, 54, 55, 723, 724, 725, 726, 727, 670, 671, 672, 673, 674, 675, 676, 677, 703, 704, 705, 728, 729, 730, 731, 732, 716, 717, 718, 719, 720, 721, 722, 711, 712, 713, 714, 715, 706, 707] (by decide +kernel) (by decide +kernel)) (goodIn_sub (fun _ h => List.mem_append_left _ (List.mem_append_left _ (List.mem_append_right _ h))) (by decide +kernel))) (goodIn_sub (fun _ h => List.mem_append_left _ (List.mem_append_right _ h)) (by decide +kernel))) (goodIn_sub (fun _ h => List.mem_append_right _ h) (by decide +kernel))
set_option maxRecDepth 20000 in
theorem gL_law_L_refund : GoodIn wsL_law (va_wsS RL 106 yL_refund wsL_refund) := goodIn_app (goodIn_of _ (by decide +kernel)) ggL_law_L_refund
set_option maxRecDepth 20000 in
theorem ggL_law_X8_refund : GoodIn wsL_law wsX8_refund := goodIn_r _ [424, 94, 425, 426, 427, 5, 428, 305, 129, 130, 131, 297, 298, 299, 300, 429, 430, 431, 432, 92, 433, 434, 435, 436, 437, 96, 95, 97, 135, 136, 137, 138, 139, 381, 382, 383, 384, 85, 91, 377, 378, 379, 380, 84, 385, 386, 387, 388, 99, 100, 678, 679, 680, 681, 682, 683, 684, 685, 686, 687, 688, 689, 690, 691, 692, 693, 694, 695, 696, 697, 698, 699, 700, 701, 702] (by decide +kernel) (by decide +kernel)
set_option maxRecDepth 20000 in
theorem gL_law_X8_refund : GoodIn wsL_law (wsV RL 108 RX8 yX8_refund wsX8_refund) := goodIn_app (goodIn_of _ (by decide +kernel)) ggL_law_X8_refund
set_option maxRecDepth 20000 in
theorem ggL_law_L_dispute : GoodIn wsL_law wsL_dispute := goodIn_ca (goodIn_ca (goodIn_ca (goodIn_r _ [440, 105, 147, 179, 441, 442, 443, 2, 444, 184, 26, 210, 445, 446, 447, 27, 448, 409, 410, 411, 412, 116, 117, 25, 207, 193, 194, 195, 23, 196, 197, 214, 215, 216, 217, 218, 219, 220, 221, 222, 223, 224, 225, 226, 227, 228, 229, 40, 154, 155, 156, 157, 158, 198, 199, 200, 201, 202, 413, 414, 415, 416, 408, 417, 418, 419, 420, 449, 450, 451, 452, 11, 12, 453, 454, 455, 456, 457, 241, 242, 243, 244, 245, 246, 247, 248, 249, 250, 251, 252, 253, 254, 255, 256, 257, 258, 39, 259, 212, 165, 213, 260, 261, 262, 263, 264, 265, 266, 267, 268, 269, 270, 271, 272, 273, 274, 275, 276, 277, 278, 279, 280, 281, 282, 283, 164, 166, 284, 285, 286, 287, 350, 351, 352, 317, 353, 341, 354, 355, 344, 345, 346, 347, 348, 349, 356, 357, 358, 29, 359, 360, 361, 362, 363, 54, 55, 670, 671, 672, 673, 674, 675, 676, 677, 723, 724, 725, 726, 727, 728, 729, 730, 731, 732, 703, 704, 705, 716, 717, 718, 719, 720, 721, 722, 711, 712, 713, 714, 715, 706, 707] (by decide +kernel) (by decide +kernel)) (goodIn_sub (fun _ h => List.mem_append_left _ (List.mem_append_left _ (List.mem_append_right _ h))) (by decide +kernel))) (goodIn_sub (fun _ h => List.mem_append_left _ (List.mem_append_right _ h)) (by decide +kernel))) (goodIn_sub (fun _ h => List.mem_append_right _ h) (by decide +kernel))
set_option maxRecDepth 20000 in
theorem gL_law_L_dispute : GoodIn wsL_law (va_wsS RL 109 yL_dispute wsL_dispute) := goodIn_app (goodIn_of _ (by decide +kernel)) ggL_law_L_dispute
set_option maxRecDepth 20000 in
theorem ggL_law_X8_dispute : GoodIn wsL_law wsX8_dispute := goodIn_r _ [461, 437, 95, 96, 97, 98, 293, 429, 430, 431, 5, 432, 92, 425, 426, 427, 428, 305, 129, 130, 131, 433, 434, 435, 436, 94, 297, 298, 299, 300, 135, 136, 137, 138, 139, 381, 382, 383, 384, 85, 91, 377, 378, 379, 380, 84, 385, 386, 387, 388, 99, 100, 678, 679, 680, 681, 682, 683, 684, 685, 686, 687, 688, 689, 690, 691, 692, 693, 694, 695, 696, 697, 698, 699, 700, 701, 702] (by decide +kernel) (by decide +kernel)
set_option maxRecDepth 20000 in
theorem gL_law_X8_dispute : GoodIn wsL_law (wsV RL 111 RX8 yX8_dispute wsX8_dispute) := goodIn_app (goodIn_of _ (by decide +kernel)) ggL_law_X8_dispute
set_option maxRecDepth 20000 in
theorem ggL_law_L_answer : GoodIn wsL_law wsL_answer := goodIn_ca (goodIn_ca (goodIn_r _ [464, 105, 179, 465, 466, 467, 2, 468, 419, 27, 469, 470, 471, 472, 473, 116, 117, 26, 417, 193, 194, 195, 23, 196, 197, 214, 215, 216, 217, 218, 219, 220, 221, 222, 223, 224, 225, 226, 227, 228, 229, 40, 198, 199, 200, 201, 202, 474, 475, 476, 418, 420, 344, 345, 346, 317, 347, 341, 348, 349, 350, 351, 352, 353, 354, 355, 356, 357, 358, 29, 359, 360, 361, 362, 363, 54, 55, 728, 729, 730, 731, 732, 670, 671, 672, 673, 674, 675, 676, 677, 703, 704, 705, 723, 724, 725, 726, 727, 716, 717, 718, 719, 720, 721, 722, 714, 715, 711, 712, 713, 706, 707] (by decide +kernel) (by decide +kernel)) (goodIn_sub (fun _ h => List.mem_append_left _ (List.mem_append_left _ (List.mem_append_right _ h))) (by decide +kernel))) (goodIn_sub (fun _ h => List.mem_append_right _ h) (by decide +kernel))
set_option maxRecDepth 20000 in
theorem gL_law_L_answer : GoodIn wsL_law (va_wsS RL 112 yL_answer wsL_answer) := goodIn_app (goodIn_of _ (by decide +kernel)) ggL_law_L_answer
set_option maxRecDepth 20000 in
theorem ggL_law_X8_answer : GoodIn wsL_law wsX8_answer := goodIn_r _ [480, 95, 98, 293, 481, 482, 483, 5, 484, 437, 129, 130, 131, 135, 136, 137, 138, 139, 485, 486, 487, 488, 96, 97, 377, 378, 379, 380, 84, 91, 381, 382, 383, 384, 85, 385, 386, 387, 388, 99, 100, 678, 679, 680, 681, 682, 683, 684, 685, 686, 687, 688, 689, 690, 691, 692, 693, 694, 695, 696, 697, 698, 699, 700, 701, 702] (by decide +kernel) (by decide +kernel)
set_option maxRecDepth 20000 in
theorem gL_law_X8_answer : GoodIn wsL_law (wsV RL 114 RX8 yX8_answer wsX8_answer) := goodIn_app (goodIn_of _ (by decide +kernel)) ggL_law_X8_answer
set_option maxRecDepth 20000 in
theorem ggL_law_L_press : GoodIn wsL_law wsL_press := goodIn_ca (goodIn_ca (goodIn_r _ [491, 105, 179, 492, 493, 494, 2, 495, 419, 469, 418, 420, 470, 471, 472, 473, 116, 117, 26, 417, 193, 194, 195, 23, 196, 197, 214, 215, 216, 217, 218, 219, 220, 221, 222, 223, 224, 225, 226, 227, 228, 229, 40, 198, 199, 200, 201, 202, 350, 351, 352, 317, 353, 341, 354, 355, 344, 345, 346, 347, 348, 349, 356, 357, 358, 29, 359, 360, 361, 362, 363, 54, 55, 496, 497, 498, 499, 728, 729, 730, 731, 732, 670, 671, 672, 673, 674, 675, 676, 677, 703, 704, 705, 723, 724, 725, 726, 727, 716, 717, 718, 719, 720, 721, 722, 711, 712, 713, 714, 715, 706, 707] (by decide +kernel) (by decide +kernel)) (goodIn_sub (fun _ h => List.mem_append_left _ (List.mem_append_left _ (List.mem_append_right _ h))) (by decide +kernel))) (goodIn_sub (fun _ h => List.mem_append_right _ h) (by decide +kernel))
set_option maxRecDepth 20000 in
theorem gL_law_L_press : GoodIn wsL_law (va_wsS RL 115 yL_press wsL_press) := goodIn_app (goodIn_of _ (by decide +kernel)) ggL_law_L_press
set_option maxRecDepth 20000 in
theorem ggL_law_X8_press : GoodIn wsL_law wsX8_press := goodIn_r _ [503, 95, 96, 97, 437, 481, 482, 483, 5, 484, 129, 130, 131, 135, 136, 137, 138, 139, 381, 382, 383, 384, 85, 91, 377, 378, 379, 380, 84, 385, 386, 387, 388, 99, 100, 678, 679, 680, 681, 682, 683, 684, 685, 686, 687, 688, 689, 690, 691, 692, 693, 694, 695, 696, 697, 698, 699, 700, 701, 702] (by decide +kernel) (by decide +kernel)
set_option maxRecDepth 20000 in
theorem gL_law_X8_press : GoodIn wsL_law (wsV RL 117 RX8 yX8_press wsX8_press) := goodIn_app (goodIn_of _ (by decide +kernel)) ggL_law_X8_press
set_option maxRecDepth 20000 in
theorem ggL_law_L_rule : GoodIn wsL_law wsL_rule := goodIn_ca (goodIn_ca (goodIn_r _ [506, 105, 179, 507, 508, 509, 2, 510, 419, 470, 471, 472, 473, 116, 117, 26, 417, 193, 194, 195, 23, 196, 197, 214, 215, 216, 217, 218, 219, 220, 221, 222, 223, 224, 225, 226, 227, 228, 229, 40, 198, 199, 200, 201, 202, 474, 475, 476, 418, 420, 344, 345, 346, 317, 347, 341, 348, 349, 350, 351, 352, 353, 354, 355, 356, 357, 358, 29, 359, 360, 361, 362, 363, 54, 55, 728, 729, 730, 731, 732, 670, 671, 672, 673, 674, 675, 676, 677, 703, 704, 705, 723, 724, 725, 726, 727, 716, 717, 718, 719, 720, 721, 722, 714, 715, 711, 712, 713, 706, 707] (by decide +kernel) (by decide +kernel)) (goodIn_sub (fun _ h => List.mem_append_left _ (List.mem_append_left _ (List.mem_append_right _ h))) (by decide +kernel))) (goodIn_sub (fun _ h => List.mem_append_right _ h) (by decide +kernel))
set_option maxRecDepth 20000 in
theorem gL_law_L_rule : GoodIn wsL_law (va_wsS RL 118 yL_rule wsL_rule) := goodIn_app (goodIn_of _ (by decide +kernel)) ggL_law_L_rule
set_option maxRecDepth 20000 in
theorem ggL_law_X8_rule : GoodIn wsL_law wsX8_rule := goodIn_r _ [514, 95, 481, 482, 483, 5, 484, 437, 129, 130, 131, 135, 136, 137, 138, 139, 485, 486, 487, 488, 96, 97, 377, 378, 379, 380, 84, 91, 381, 382, 383, 384, 85, 385, 386, 387, 388, 99, 100, 678, 679, 680, 681, 682, 683, 684, 685, 686, 687, 688, 689, 690, 691, 692, 693, 694, 695, 696, 697, 698, 699, 700, 701, 702] (by decide +kernel) (by decide +kernel)
set_option maxRecDepth 20000 in
theorem gL_law_X8_rule : GoodIn wsL_law (wsV RL 121 RX8 yX8_rule wsX8_rule) := goodIn_app (goodIn_of _ (by decide +kernel)) ggL_law_X8_rule
set_option maxRecDepth 20000 in
theorem ggL_law_L_pass : GoodIn wsL_law wsL_pass := goodIn_ca (goodIn_r _ [517, 147, 518, 519, 520, 2, 521, 27, 154, 155, 156, 157, 158, 522, 523, 524, 525, 14, 526, 26, 417, 193, 194, 195, 23, 196, 197, 214, 215, 216, 217, 218, 219, 220, 221, 222, 223, 224, 225, 226, 227, 228, 229, 40, 527, 528, 529, 447, 530, 457, 453, 531, 532, 533, 534, 670, 671, 672, 673, 674, 675, 676, 677, 706, 707, 703, 704, 705, 728, 729, 730, 731, 732] (by decide +kernel) (by decide +kernel)) (goodIn_sub (fun _ h => List.mem_append_left _ (List.mem_append_right _ h)) (by decide +kernel))
set_option maxRecDepth 20000 in
theorem gL_law_L_pass : GoodIn wsL_law (va_wsS RL 122 yL_pass wsL_pass) := goodIn_app (goodIn_of _ (by decide +kernel)) ggL_law_L_pass
set_option maxRecDepth 20000 in
theorem ggL_law_X8_pass : GoodIn wsL_law wsX8_pass := goodIn_r _ [538, 293, 100, 437, 98, 95, 129, 130, 5, 131, 135, 136, 137, 138, 139, 678, 679, 680, 681, 682, 683, 684, 685, 686, 687, 688, 689, 690, 691, 692, 693, 694, 695, 696, 697, 698, 699, 700, 701, 702] (by decide +kernel) (by decide +kernel)
set_option maxRecDepth 20000 in
theorem gL_law_X8_pass : GoodIn wsL_law (wsV RL 124 RX8 yX8_pass wsX8_pass) := goodIn_app (goodIn_of _ (by decide +kernel)) ggL_law_X8_pass
set_option maxRecDepth 20000 in
theorem ggL_law_L_paymentOf : GoodIn wsL_law wsL_paymentOf := goodIn_ca (goodIn_ca (goodIn_r _ [541, 105, 147, 542, 543, 544, 2, 545, 157, 158, 209, 546, 318, 547, 548, 319, 549, 27, 322, 323, 324, 325, 116, 117, 24, 326, 193, 194, 195, 23, 196, 197, 214, 215, 216, 217, 218, 219, 220, 221, 222, 223, 224, 225, 226, 227, 228, 229, 40, 327, 328, 329, 187, 330, 235, 240, 331, 332, 333, 334, 239, 234, 716, 717, 718, 719, 720, 721, 722, 714, 715, 711, 712, 713, 670, 671, 672, 673, 674, 675, 676, 677, 703, 704, 705] (by decide +kernel) (by decide +kernel)) (goodIn_sub (fun _ h => List.mem_append_left _ (List.mem_append_right _ h)) (by decide +kernel))) (goodIn_sub (fun _ h => List.mem_append_left _ (List.mem_append_left _ (List.mem_append_right _ h))) (by decide +kernel))
set_option maxRecDepth 20000 in
theorem gL_law_L_paymentOf : GoodIn wsL_law (va_wsS RL 125 yL_paymentOf wsL_paymentOf) := goodIn_app (goodIn_of _ (by decide +kernel)) ggL_law_L_paymentOf
set_option maxRecDepth 20000 in
theorem ggL_law_X8_paymentOf : GoodIn wsL_law wsX8_paymentOf := goodIn_r _ [553, 84, 85, 86, 87, 88, 369, 370, 371, 5, 372, 292, 129, 130, 131, 135, 136, 137, 138, 139, 373, 374, 375, 376, 90, 293, 678, 679, 680, 681, 682, 683, 684, 685, 686, 687, 688, 689, 690, 691, 692, 693, 694, 695, 696, 697, 698, 699, 700, 701, 702] (by decide +kernel) (by decide +kernel)
set_option maxRecDepth 20000 in
theorem gL_law_X8_paymentOf : GoodIn wsL_law (wsV RL 127 RX8 yX8_paymentOf wsX8_paymentOf) := goodIn_app (goodIn_of _ (by decide +kernel)) ggL_law_X8_paymentOf
set_option maxRecDepth 20000 in
theorem ggL_law_L_captureOf : GoodIn wsL_law wsL_captureOf := goodIn_ca (goodIn_ca (goodIn_r _ [556, 105, 147, 557, 558, 559, 2, 560, 157, 158, 208, 188, 210, 320, 408, 409, 410, 411, 412, 116, 117, 25, 207, 193, 194, 195, 23, 196, 197, 214, 215, 216, 217, 218, 219, 220, 221, 222, 223, 224, 225, 226, 227, 228, 229, 40, 413, 414, 415, 416, 26, 417, 418, 419, 420, 723, 724, 725, 726, 727, 716, 717, 718, 719, 720, 721, 722, 670, 671, 672, 673, 674, 675, 676, 677, 703, 704, 705, 728, 729, 730, 731, 732] (by decide +kernel) (by decide +kernel)) (goodIn_sub (fun _ h => List.mem_append_left _ (List.mem_append_right _ h)) (by decide +kernel))) (goodIn_sub (fun _ h => List.mem_append_left _ (List.mem_append_left _ (List.mem_append_right _ h))) (by decide +kernel))
set_option maxRecDepth 20000 in
theorem gL_law_L_captureOf : GoodIn wsL_law (va_wsS RL 128 yL_captureOf wsL_captureOf) := goodIn_app (goodIn_of _ (by decide +kernel)) ggL_law_L_captureOf
set_option maxRecDepth 20000 in
theorem ggL_law_X8_captureOf : GoodIn wsL_law wsX8_captureOf := goodIn_r _ [564, 91, 92, 93, 94, 425, 426, 427, 5, 428, 305, 129, 130, 131, 135, 136, 137, 138, 139, 433, 434, 435, 436, 437, 96, 95, 97, 678, 679, 680, 681, 682, 683, 684, 685, 686, 687, 688, 689, 690, 691, 692, 693, 694, 695, 696, 697, 698, 699, 700, 701, 702] (by decide +kernel) (by decide +kernel)
set_option maxRecDepth 20000 in
theorem gL_law_X8_captureOf : GoodIn wsL_law (wsV RL 130 RX8 yX8_captureOf wsX8_captureOf) := goodIn_app (goodIn_of _ (by decide +kernel)) ggL_law_X8_captureOf
set_option maxRecDepth 20000 in
theorem ggL_law_L_chargebackOf : GoodIn wsL_law wsL_chargebackOf := goodIn_ca (goodIn_ca (goodIn_r _ [567, 105, 147, 568, 569, 570, 2, 571, 157, 158, 419, 418, 321, 420, 469, 470, 471, 472, 473, 116, 117, 26, 417, 193, 194, 195, 23, 196, 197, 214, 215, 216, 217, 218, 219, 220, 221, 222, 223, 224, 225, 226, 227, 228, 229, 40, 728, 729, 730, 731, 732, 723, 724, 725, 726, 727, 670, 671, 672, 673, 674, 675, 676, 677, 703, 704, 705] (by decide +kernel) (by decide +kernel)) (goodIn_sub (fun _ h => List.mem_append_left _ (List.mem_append_right _ h)) (by decide +kernel))) (goodIn_sub (fun _ h => List.mem_append_left _ (List.mem_append_left _ (List.mem_append_right _ h))) (by decide +kernel))
set_option maxRecDepth 20000 in
theorem gL_law_L_chargebackOf : GoodIn wsL_law (va_wsS RL 131 yL_chargebackOf wsL_chargebackOf) := goodIn_app (goodIn_of _ (by decide +kernel)) ggL_law_L_chargebackOf
set_option maxRecDepth 20000 in
theorem ggL_law_X8_chargebackOf : GoodIn wsL_law wsX8_chargebackOf := goodIn_r _ [575, 437, 95, 96, 97, 98, 129, 130, 5, 131, 135, 136, 137, 138, 139, 576, 577, 578, 579, 678, 679, 680, 681, 682, 683, 684, 685, 686, 687, 688, 689, 690, 691, 692, 693, 694, 695, 696, 697, 698, 699, 700, 701, 702] (by decide +kernel) (by decide +kernel)
set_option maxRecDepth 20000 in
theorem gL_law_X8_chargebackOf : GoodIn wsL_law (wsV RL 133 RX8 yX8_chargebackOf wsX8_chargebackOf) := goodIn_app (goodIn_of _ (by decide +kernel)) ggL_law_X8_chargebackOf
set_option maxRecDepth 20000 in
theorem ggL_law_L_limit : GoodIn wsL_law wsL_limit := goodIn_ca (goodIn_r _ [582, 105, 583, 584, 585, 2, 586, 189, 190, 191, 192, 116, 117, 20, 203, 204, 205, 206, 25, 207, 208, 209, 210, 211, 212, 165, 213, 193, 194, 195, 23, 196, 197, 214, 215, 216, 217, 218, 219, 220, 221, 222, 223, 224, 225, 226, 227, 228, 229, 40, 670, 671, 672, 673, 674, 675, 676, 677, 723, 724, 725, 726, 727, 716, 717, 718, 719, 720, 721, 722, 703, 704, 705] (by decide +kernel) (by decide +kernel)) (goodIn_sub (fun _ h => List.mem_append_left _ (List.mem_append_left _ (List.mem_append_right _ h))) (by decide +kernel))
set_option maxRecDepth 20000 in
theorem gL_law_L_limit : GoodIn wsL_law (va_wsS RL 134 yL_limit wsL_limit) := goodIn_app (goodIn_of _ (by decide +kernel)) ggL_law_L_limit
set_option maxRecDepth 20000 in
theorem ggL_law_X8_limit : GoodIn wsL_law wsX8_limit := goodIn_r _ [590, 294, 295, 5, 296, 129, 130, 131, 135, 136, 137, 138, 139, 301, 302, 303, 304, 305, 84, 91, 92, 306, 307, 678, 679, 680, 681, 682, 683, 684, 685, 686, 687, 688, 689, 690, 691, 692, 693, 694, 695, 696, 697, 698, 699, 700, 701, 702] (by decide +kernel) (by decide +kernel)
set_option maxRecDepth 20000 in
theorem gL_law_X8_limit : GoodIn wsL_law (wsV RL 136 RX8 yX8_limit wsX8_limit) := goodIn_app (goodIn_of _ (by decide +kernel)) ggL_law_X8_limit
set_option maxRecDepth 20000 in
theorem ggL_law_L_net : GoodIn wsL_law wsL_net := goodIn_ca (goodIn_r _ [593, 105, 594, 595, 596, 2, 597, 598, 526, 599, 600, 601, 602, 116, 117, 14, 706, 707, 670, 671, 672, 673, 674, 675, 676, 677] (by decide +kernel) (by decide +kernel)) (goodIn_sub (fun _ h => List.mem_append_left _ (List.mem_append_left _ (List.mem_append_right _ h))) (by decide +kernel))
set_option maxRecDepth 20000 in
theorem gL_law_L_net : GoodIn wsL_law (va_wsS RL 137 yL_net wsL_net) := goodIn_app (goodIn_of _ (by decide +kernel)) ggL_law_L_net
set_option maxRecDepth 20000 in
theorem ggL_law_X8_net : GoodIn wsL_law wsX8_net := goodIn_r _ [606, 99, 100, 607, 608, 5, 609, 129, 130, 131, 135, 136, 137, 138, 139, 678, 679, 680, 681, 682, 683, 684, 685, 686, 687, 688, 689, 690, 691, 692, 693, 694, 695, 696, 697, 698, 699, 700, 701, 702] (by decide +kernel) (by decide +kernel)
set_option maxRecDepth 20000 in
theorem gL_law_X8_net : GoodIn wsL_law (wsV RL 139 RX8 yX8_net wsX8_net) := goodIn_app (goodIn_of _ (by decide +kernel)) ggL_law_X8_net
set_option maxRecDepth 20000 in
theorem ggL_law_L_netAnew : GoodIn wsL_law wsL_netAnew := goodIn_ca (goodIn_r _ [612, 105, 613, 614, 615, 2, 616, 25, 207, 210, 320, 408, 26, 417, 418, 420, 599, 600, 601, 602, 116, 117, 14, 193, 194, 195, 23, 196, 197, 214, 215, 216, 217, 218, 219, 220, 221, 222, 223, 224, 225, 226, 227, 228, 229, 40, 617, 618, 619, 317, 620, 621, 351, 352, 353, 341, 354, 355, 622, 345, 346, 347, 348, 349, 623, 624, 625, 447, 626, 453, 670, 671, 672, 673, 674, 675, 676, 677, 723, 724, 725, 726, 727, 728, 729, 730, 731, 732, 703, 704, 705, 716, 717, 718, 719, 720, 721, 722, 711, 712, 713, 714, 715] (by decide +kernel) (by decide +kernel)) (goodIn_sub (fun _ h => List.mem_append_left _ (List.mem_append_left _ (List.mem_append_right _ h))) (by decide +kernel))
set_option maxRecDepth 20000 in
theorem gL_law_L_netAnew : GoodIn wsL_law (va_wsS RL 140 yL_netAnew wsL_netAnew) := goodIn_app (goodIn_of _ (by decide +kernel)) ggL_law_L_netAnew
set_option maxRecDepth 20000 in
theorem ggL_law_X8_netAnew : GoodIn wsL_law wsX8_netAnew := goodIn_r _ [630, 99, 607, 608, 5, 609, 129, 130, 131, 135, 136, 137, 138, 139, 678, 679, 680, 681, 682, 683, 684, 685, 686, 687, 688, 689, 690, 691, 692, 693, 694, 695, 696, 697, 698, 699, 700, 701, 702] (by decide +kernel) (by decide +kernel)
set_option maxRecDepth 20000 in
theorem gL_law_X8_netAnew : GoodIn wsL_law (wsV RL 142 RX8 yX8_netAnew wsX8_netAnew) := goodIn_app (goodIn_of _ (by decide +kernel)) ggL_law_X8_netAnew
set_option maxRecDepth 20000 in
theorem ggL_law_L_due : GoodIn wsL_law wsL_due := goodIn_ca (goodIn_r _ [633, 105, 634, 635, 636, 2, 637, 116, 117, 26, 448, 193, 194, 195, 23, 196, 197, 638, 639, 640, 641, 417, 214, 215, 216, 217, 218, 219, 220, 221, 222, 223, 224, 225, 226, 227, 228, 229, 40, 642, 643, 644, 447, 645, 457, 456, 454, 646, 532, 533, 534, 453, 670, 671, 672, 673, 674, 675, 676, 677, 728, 729, 730, 731, 732, 703, 704, 705] (by decide +kernel) (by decide +kernel)) (goodIn_sub (fun _ h => List.mem_append_left _ (List.mem_append_left _ (List.mem_append_right _ h))) (by decide +kernel))
set_option maxRecDepth 20000 in
theorem gL_law_L_due : GoodIn wsL_law (va_wsS RL 143 yL_due wsL_due) := goodIn_app (goodIn_of _ (by decide +kernel)) ggL_law_L_due
set_option maxRecDepth 20000 in
theorem ggL_law_X8_due : GoodIn wsL_law wsX8_due := goodIn_r _ [650, 437, 135, 136, 137, 5, 138, 139, 576, 577, 578, 579, 95, 651, 652, 653, 654, 98, 97, 678, 679, 680, 681, 682, 683, 684, 685, 686, 687, 688, 689, 690, 691, 692, 693, 694, 695, 696, 697, 698, 699, 700, 701, 702] (by decide +kernel) (by decide +kernel)
set_option maxRecDepth 20000 in
theorem gL_law_X8_due : GoodIn wsL_law (wsV RL 145 RX8 yX8_due wsX8_due) := goodIn_app (goodIn_of _ (by decide +kernel)) ggL_law_X8_due
set_option maxRecDepth 20000 in
theorem ggL_law_L_count : GoodIn wsL_law wsL_count := goodIn_ca (goodIn_r _ [657, 147, 658, 659, 660, 2, 661, 157, 158, 24, 25, 26, 27, 193, 194, 195, 23, 196, 197, 662, 663, 664, 665, 207, 320, 214, 215, 216, 217, 218, 219, 220, 221, 222, 223, 224, 225, 226, 227, 228, 229, 40, 670, 671, 672, 673, 674, 675, 676, 677, 703, 704, 705, 723, 724, 725, 726, 727] (by decide +kernel) (by decide +kernel)) (goodIn_sub (fun _ h => List.mem_append_left _ (List.mem_append_right _ h)) (by decide +kernel))
set_option maxRecDepth 20000 in
theorem gL_law_L_count : GoodIn wsL_law (va_wsS RL 146 yL_count wsL_count) := goodIn_app (goodIn_of _ (by decide +kernel)) ggL_law_L_count
set_option maxRecDepth 20000 in
theorem ggL_law_X8_count : GoodIn wsL_law wsX8_count := goodIn_r _ [669, 292, 305, 437, 368, 293, 129, 130, 5, 131, 135, 136, 137, 138, 139, 678, 679, 680, 681, 682, 683, 684, 685, 686, 687, 688, 689, 690, 691, 692, 693, 694, 695, 696, 697, 698, 699, 700, 701, 702] (by decide +kernel) (by decide +kernel)
set_option maxRecDepth 20000 in
theorem gL_law_X8_count : GoodIn wsL_law (wsV RL 148 RX8 yX8_count wsX8_count) := goodIn_app (goodIn_of _ (by decide +kernel)) ggL_law_X8_count
theorem dL_law_0 : decode cL_law 0 = .ok (.new 8, 3) := by decide +kernel
theorem dL_law_3 : decode cL_law 3 = .ok (.dup, 1) := by decide +kernel
theorem dL_law_4 : decode cL_law 4 = .ok (.invokespecial 78, 3) := by decide +kernel
theorem dL_law_7 : decode cL_law 7 = .ok (.astore_n 1, 1) := by decide +kernel
theorem dL_law_8 : decode cL_law 8 = .ok (.new 79, 3) := by decide +kernel
theorem dL_law_11 : decode cL_law 11 = .ok (.dup, 1) := by decide +kernel
theorem dL_law_12 : decode cL_law 12 = .ok (.invokespecial 81, 3) := by decide +kernel
theorem dL_law_15 : decode cL_law 15 = .ok (.astore_n 2, 1) := by decide +kernel
theorem dL_law_16 : decode cL_law 16 = .ok (.iconst 1, 1) := by decide +kernel
theorem dL_law_17 : decode cL_law 17 = .ok (.newarray .long, 2) := by decide +kernel
theorem dL_law_19 : decode cL_law 19 = .ok (.astore_n 3, 1) := by decide +kernel
theorem dL_law_20 : decode cL_law 20 = .ok (.iconst 0, 1) := by decide +kernel
theorem dL_law_21 : decode cL_law 21 = .ok (.istore 4, 2) := by decide +kernel
theorem dL_law_23 : decode cL_law 23 = .ok (.iload 4, 2) := by decide +kernel
theorem dL_law_25 : decode cL_law 25 = .ok (.aload_n 0, 1) := by decide +kernel
theorem dL_law_26 : decode cL_law 26 = .ok (.arraylength, 1) := by decide +kernel
theorem dL_law_27 : decode cL_law 27 = .ok (.iconst 4, 1) := by decide +kernel
theorem dL_law_28 : decode cL_law 28 = .ok (.isub, 1) := by decide +kernel
theorem dL_law_29 : decode cL_law 29 = .ok (.if_icmp .gt 1355, 3) := by decide +kernel
theorem dL_law_32 : decode cL_law 32 = .ok (.aload_n 0, 1) := by decide +kernel
theorem dL_law_33 : decode cL_law 33 = .ok (.iload 4, 2) := by decide +kernel
theorem dL_law_35 : decode cL_law 35 = .ok (.iaload, 1) := by decide +kernel
theorem dL_law_36 : decode cL_law 36 = .ok (.bipush 31, 2) := by decide +kernel
theorem dL_law_38 : decode cL_law 38 = .ok (.iand, 1) := by decide +kernel
theorem dL_law_39 : decode cL_law 39 = .ok (.tableswitch 1339 0 18 #[89, 157, 237, 317, 385, 441, 509, 577, 633, 689, 773, 829, 897, 965, 1033, 1089, 1172, 1227, 1283], 89) := by decide +kernel
theorem dL_law_128 : decode cL_law 128 = .ok (.aload_n 1, 1) := by decide +kernel
theorem dL_law_129 : decode cL_law 129 = .ok (.aload_n 0, 1) := by decide +kernel
theorem dL_law_130 : decode cL_law 130 = .ok (.iload 4, 2) := by decide +kernel
theorem dL_law_132 : decode cL_law 132 = .ok (.iconst 1, 1) := by decide +kernel
theorem dL_law_133 : decode cL_law 133 = .ok (.iadd, 1) := by decide +kernel
theorem dL_law_134 : decode cL_law 134 = .ok (.iaload, 1) := by decide +kernel
theorem dL_law_135 : decode cL_law 135 = .ok (.aload_n 0, 1) := by decide +kernel
theorem dL_law_136 : decode cL_law 136 = .ok (.iload 4, 2) := by decide +kernel
theorem dL_law_138 : decode cL_law 138 = .ok (.iconst 2, 1) := by decide +kernel
theorem dL_law_139 : decode cL_law 139 = .ok (.iadd, 1) := by decide +kernel
theorem dL_law_140 : decode cL_law 140 = .ok (.iaload, 1) := by decide +kernel
theorem dL_law_141 : decode cL_law 141 = .ok (.aload_n 3, 1) := by decide +kernel
theorem dL_law_142 : decode cL_law 142 = .ok (.invokestatic 82, 3) := by decide +kernel
theorem dL_law_145 : decode cL_law 145 = .ok (.istore 5, 2) := by decide +kernel
theorem dL_law_147 : decode cL_law 147 = .ok (.aload_n 2, 1) := by decide +kernel
theorem dL_law_148 : decode cL_law 148 = .ok (.aload_n 0, 1) := by decide +kernel
theorem dL_law_149 : decode cL_law 149 = .ok (.iload 4, 2) := by decide +kernel
theorem dL_law_151 : decode cL_law 151 = .ok (.iconst 1, 1) := by decide +kernel
theorem dL_law_152 : decode cL_law 152 = .ok (.iadd, 1) := by decide +kernel
theorem dL_law_153 : decode cL_law 153 = .ok (.iaload, 1) := by decide +kernel
theorem dL_law_154 : decode cL_law 154 = .ok (.aload_n 0, 1) := by decide +kernel
theorem dL_law_155 : decode cL_law 155 = .ok (.iload 4, 2) := by decide +kernel
theorem dL_law_157 : decode cL_law 157 = .ok (.iconst 2, 1) := by decide +kernel
theorem dL_law_158 : decode cL_law 158 = .ok (.iadd, 1) := by decide +kernel
theorem dL_law_159 : decode cL_law 159 = .ok (.iaload, 1) := by decide +kernel
theorem dL_law_160 : decode cL_law 160 = .ok (.invokevirtual 87, 3) := by decide +kernel
theorem dL_law_163 : decode cL_law 163 = .ok (.istore 6, 2) := by decide +kernel
theorem dL_law_165 : decode cL_law 165 = .ok (.aload_n 2, 1) := by decide +kernel
theorem dL_law_166 : decode cL_law 166 = .ok (.invokevirtual 88, 3) := by decide +kernel
theorem dL_law_169 : decode cL_law 169 = .ok (.iload 5, 2) := by decide +kernel
theorem dL_law_171 : decode cL_law 171 = .ok (.if_icmp .eq 5, 3) := by decide +kernel
theorem dL_law_174 : decode cL_law 174 = .ok (.iconst 0, 1) := by decide +kernel
theorem dL_law_175 : decode cL_law 175 = .ok (.ireturn, 1) := by decide +kernel
theorem dL_law_176 : decode cL_law 176 = .ok (.iload 5, 2) := by decide +kernel
theorem dL_law_178 : decode cL_law 178 = .ok (.ifCond .ne 15, 3) := by decide +kernel
theorem dL_law_181 : decode cL_law 181 = .ok (.aload_n 3, 1) := by decide +kernel
theorem dL_law_182 : decode cL_law 182 = .ok (.iconst 0, 1) := by decide +kernel
theorem dL_law_183 : decode cL_law 183 = .ok (.laload, 1) := by decide +kernel
theorem dL_law_184 : decode cL_law 184 = .ok (.iload 6, 2) := by decide +kernel
theorem dL_law_186 : decode cL_law 186 = .ok (.i2l, 1) := by decide +kernel
theorem dL_law_187 : decode cL_law 187 = .ok (.lcmp, 1) := by decide +kernel
theorem dL_law_188 : decode cL_law 188 = .ok (.ifCond .eq 5, 3) := by decide +kernel
theorem dL_law_191 : decode cL_law 191 = .ok (.iconst 0, 1) := by decide +kernel
theorem dL_law_192 : decode cL_law 192 = .ok (.ireturn, 1) := by decide +kernel
theorem dL_law_193 : decode cL_law 193 = .ok (.goto 1185, 3) := by decide +kernel
theorem dL_law_196 : decode cL_law 196 = .ok (.aload_n 1, 1) := by decide +kernel
theorem dL_law_197 : decode cL_law 197 = .ok (.aload_n 0, 1) := by decide +kernel
theorem dL_law_198 : decode cL_law 198 = .ok (.iload 4, 2) := by decide +kernel
theorem dL_law_200 : decode cL_law 200 = .ok (.iconst 1, 1) := by decide +kernel
theorem dL_law_201 : decode cL_law 201 = .ok (.iadd, 1) := by decide +kernel
theorem dL_law_202 : decode cL_law 202 = .ok (.iaload, 1) := by decide +kernel
theorem dL_law_203 : decode cL_law 203 = .ok (.aload_n 0, 1) := by decide +kernel
theorem dL_law_204 : decode cL_law 204 = .ok (.iload 4, 2) := by decide +kernel
theorem dL_law_206 : decode cL_law 206 = .ok (.iconst 2, 1) := by decide +kernel
theorem dL_law_207 : decode cL_law 207 = .ok (.iadd, 1) := by decide +kernel
theorem dL_law_208 : decode cL_law 208 = .ok (.iaload, 1) := by decide +kernel
theorem dL_law_209 : decode cL_law 209 = .ok (.aload_n 0, 1) := by decide +kernel
theorem dL_law_210 : decode cL_law 210 = .ok (.iload 4, 2) := by decide +kernel
theorem dL_law_212 : decode cL_law 212 = .ok (.iconst 3, 1) := by decide +kernel
theorem dL_law_213 : decode cL_law 213 = .ok (.iadd, 1) := by decide +kernel
theorem dL_law_214 : decode cL_law 214 = .ok (.iaload, 1) := by decide +kernel
theorem dL_law_215 : decode cL_law 215 = .ok (.aload_n 3, 1) := by decide +kernel
theorem dL_law_216 : decode cL_law 216 = .ok (.invokestatic 92, 3) := by decide +kernel
theorem dL_law_219 : decode cL_law 219 = .ok (.istore 5, 2) := by decide +kernel
theorem dL_law_221 : decode cL_law 221 = .ok (.aload_n 2, 1) := by decide +kernel
theorem dL_law_222 : decode cL_law 222 = .ok (.aload_n 0, 1) := by decide +kernel
theorem dL_law_223 : decode cL_law 223 = .ok (.iload 4, 2) := by decide +kernel
theorem dL_law_225 : decode cL_law 225 = .ok (.iconst 1, 1) := by decide +kernel
theorem dL_law_226 : decode cL_law 226 = .ok (.iadd, 1) := by decide +kernel
theorem dL_law_227 : decode cL_law 227 = .ok (.iaload, 1) := by decide +kernel
theorem dL_law_228 : decode cL_law 228 = .ok (.aload_n 0, 1) := by decide +kernel
theorem dL_law_229 : decode cL_law 229 = .ok (.iload 4, 2) := by decide +kernel
theorem dL_law_231 : decode cL_law 231 = .ok (.iconst 2, 1) := by decide +kernel
theorem dL_law_232 : decode cL_law 232 = .ok (.iadd, 1) := by decide +kernel
theorem dL_law_233 : decode cL_law 233 = .ok (.iaload, 1) := by decide +kernel
theorem dL_law_234 : decode cL_law 234 = .ok (.aload_n 0, 1) := by decide +kernel
theorem dL_law_235 : decode cL_law 235 = .ok (.iload 4, 2) := by decide +kernel
theorem dL_law_237 : decode cL_law 237 = .ok (.iconst 3, 1) := by decide +kernel
theorem dL_law_238 : decode cL_law 238 = .ok (.iadd, 1) := by decide +kernel
theorem dL_law_239 : decode cL_law 239 = .ok (.iaload, 1) := by decide +kernel
theorem dL_law_240 : decode cL_law 240 = .ok (.invokevirtual 95, 3) := by decide +kernel
theorem dL_law_243 : decode cL_law 243 = .ok (.istore 6, 2) := by decide +kernel
theorem dL_law_245 : decode cL_law 245 = .ok (.aload_n 2, 1) := by decide +kernel
theorem dL_law_246 : decode cL_law 246 = .ok (.invokevirtual 88, 3) := by decide +kernel
theorem dL_law_249 : decode cL_law 249 = .ok (.iload 5, 2) := by decide +kernel
theorem dL_law_251 : decode cL_law 251 = .ok (.if_icmp .eq 5, 3) := by decide +kernel
theorem dL_law_254 : decode cL_law 254 = .ok (.iconst 0, 1) := by decide +kernel
theorem dL_law_255 : decode cL_law 255 = .ok (.ireturn, 1) := by decide +kernel
theorem dL_law_256 : decode cL_law 256 = .ok (.iload 5, 2) := by decide +kernel
theorem dL_law_258 : decode cL_law 258 = .ok (.ifCond .ne 15, 3) := by decide +kernel
theorem dL_law_261 : decode cL_law 261 = .ok (.aload_n 3, 1) := by decide +kernel
theorem dL_law_262 : decode cL_law 262 = .ok (.iconst 0, 1) := by decide +kernel
theorem dL_law_263 : decode cL_law 263 = .ok (.laload, 1) := by decide +kernel
theorem dL_law_264 : decode cL_law 264 = .ok (.iload 6, 2) := by decide +kernel
theorem dL_law_266 : decode cL_law 266 = .ok (.i2l, 1) := by decide +kernel
theorem dL_law_267 : decode cL_law 267 = .ok (.lcmp, 1) := by decide +kernel
theorem dL_law_268 : decode cL_law 268 = .ok (.ifCond .eq 5, 3) := by decide +kernel
theorem dL_law_271 : decode cL_law 271 = .ok (.iconst 0, 1) := by decide +kernel
theorem dL_law_272 : decode cL_law 272 = .ok (.ireturn, 1) := by decide +kernel
theorem dL_law_273 : decode cL_law 273 = .ok (.goto 1105, 3) := by decide +kernel
theorem dL_law_276 : decode cL_law 276 = .ok (.aload_n 1, 1) := by decide +kernel
theorem dL_law_277 : decode cL_law 277 = .ok (.aload_n 0, 1) := by decide +kernel
theorem dL_law_278 : decode cL_law 278 = .ok (.iload 4, 2) := by decide +kernel
theorem dL_law_280 : decode cL_law 280 = .ok (.iconst 1, 1) := by decide +kernel
theorem dL_law_281 : decode cL_law 281 = .ok (.iadd, 1) := by decide +kernel
theorem dL_law_282 : decode cL_law 282 = .ok (.iaload, 1) := by decide +kernel
theorem dL_law_283 : decode cL_law 283 = .ok (.aload_n 0, 1) := by decide +kernel
theorem dL_law_284 : decode cL_law 284 = .ok (.iload 4, 2) := by decide +kernel
theorem dL_law_286 : decode cL_law 286 = .ok (.iconst 2, 1) := by decide +kernel
theorem dL_law_287 : decode cL_law 287 = .ok (.iadd, 1) := by decide +kernel
theorem dL_law_288 : decode cL_law 288 = .ok (.iaload, 1) := by decide +kernel
theorem dL_law_289 : decode cL_law 289 = .ok (.aload_n 0, 1) := by decide +kernel
theorem dL_law_290 : decode cL_law 290 = .ok (.iload 4, 2) := by decide +kernel
theorem dL_law_292 : decode cL_law 292 = .ok (.iconst 3, 1) := by decide +kernel
theorem dL_law_293 : decode cL_law 293 = .ok (.iadd, 1) := by decide +kernel
theorem dL_law_294 : decode cL_law 294 = .ok (.iaload, 1) := by decide +kernel
theorem dL_law_295 : decode cL_law 295 = .ok (.aload_n 3, 1) := by decide +kernel
theorem dL_law_296 : decode cL_law 296 = .ok (.invokestatic 96, 3) := by decide +kernel
theorem dL_law_299 : decode cL_law 299 = .ok (.istore 5, 2) := by decide +kernel
theorem dL_law_301 : decode cL_law 301 = .ok (.aload_n 2, 1) := by decide +kernel
theorem dL_law_302 : decode cL_law 302 = .ok (.aload_n 0, 1) := by decide +kernel
theorem dL_law_303 : decode cL_law 303 = .ok (.iload 4, 2) := by decide +kernel
theorem dL_law_305 : decode cL_law 305 = .ok (.iconst 1, 1) := by decide +kernel
theorem dL_law_306 : decode cL_law 306 = .ok (.iadd, 1) := by decide +kernel
theorem dL_law_307 : decode cL_law 307 = .ok (.iaload, 1) := by decide +kernel
theorem dL_law_308 : decode cL_law 308 = .ok (.aload_n 0, 1) := by decide +kernel
theorem dL_law_309 : decode cL_law 309 = .ok (.iload 4, 2) := by decide +kernel
theorem dL_law_311 : decode cL_law 311 = .ok (.iconst 2, 1) := by decide +kernel
theorem dL_law_312 : decode cL_law 312 = .ok (.iadd, 1) := by decide +kernel
theorem dL_law_313 : decode cL_law 313 = .ok (.iaload, 1) := by decide +kernel
theorem dL_law_314 : decode cL_law 314 = .ok (.aload_n 0, 1) := by decide +kernel
theorem dL_law_315 : decode cL_law 315 = .ok (.iload 4, 2) := by decide +kernel
theorem dL_law_317 : decode cL_law 317 = .ok (.iconst 3, 1) := by decide +kernel
theorem dL_law_318 : decode cL_law 318 = .ok (.iadd, 1) := by decide +kernel
theorem dL_law_319 : decode cL_law 319 = .ok (.iaload, 1) := by decide +kernel
theorem dL_law_320 : decode cL_law 320 = .ok (.invokevirtual 98, 3) := by decide +kernel
theorem dL_law_323 : decode cL_law 323 = .ok (.istore 6, 2) := by decide +kernel
theorem dL_law_325 : decode cL_law 325 = .ok (.aload_n 2, 1) := by decide +kernel
theorem dL_law_326 : decode cL_law 326 = .ok (.invokevirtual 88, 3) := by decide +kernel
theorem dL_law_329 : decode cL_law 329 = .ok (.iload 5, 2) := by decide +kernel
theorem dL_law_331 : decode cL_law 331 = .ok (.if_icmp .eq 5, 3) := by decide +kernel
theorem dL_law_334 : decode cL_law 334 = .ok (.iconst 0, 1) := by decide +kernel
theorem dL_law_335 : decode cL_law 335 = .ok (.ireturn, 1) := by decide +kernel
theorem dL_law_336 : decode cL_law 336 = .ok (.iload 5, 2) := by decide +kernel
theorem dL_law_338 : decode cL_law 338 = .ok (.ifCond .ne 15, 3) := by decide +kernel
theorem dL_law_341 : decode cL_law 341 = .ok (.aload_n 3, 1) := by decide +kernel
theorem dL_law_342 : decode cL_law 342 = .ok (.iconst 0, 1) := by decide +kernel
theorem dL_law_343 : decode cL_law 343 = .ok (.laload, 1) := by decide +kernel
theorem dL_law_344 : decode cL_law 344 = .ok (.iload 6, 2) := by decide +kernel
theorem dL_law_346 : decode cL_law 346 = .ok (.i2l, 1) := by decide +kernel
theorem dL_law_347 : decode cL_law 347 = .ok (.lcmp, 1) := by decide +kernel
theorem dL_law_348 : decode cL_law 348 = .ok (.ifCond .eq 5, 3) := by decide +kernel
theorem dL_law_351 : decode cL_law 351 = .ok (.iconst 0, 1) := by decide +kernel
theorem dL_law_352 : decode cL_law 352 = .ok (.ireturn, 1) := by decide +kernel
theorem dL_law_353 : decode cL_law 353 = .ok (.goto 1025, 3) := by decide +kernel
theorem dL_law_356 : decode cL_law 356 = .ok (.aload_n 1, 1) := by decide +kernel
theorem dL_law_357 : decode cL_law 357 = .ok (.aload_n 0, 1) := by decide +kernel
theorem dL_law_358 : decode cL_law 358 = .ok (.iload 4, 2) := by decide +kernel
theorem dL_law_360 : decode cL_law 360 = .ok (.iconst 1, 1) := by decide +kernel
theorem dL_law_361 : decode cL_law 361 = .ok (.iadd, 1) := by decide +kernel
theorem dL_law_362 : decode cL_law 362 = .ok (.iaload, 1) := by decide +kernel
theorem dL_law_363 : decode cL_law 363 = .ok (.aload_n 0, 1) := by decide +kernel
theorem dL_law_364 : decode cL_law 364 = .ok (.iload 4, 2) := by decide +kernel
theorem dL_law_366 : decode cL_law 366 = .ok (.iconst 2, 1) := by decide +kernel
theorem dL_law_367 : decode cL_law 367 = .ok (.iadd, 1) := by decide +kernel
theorem dL_law_368 : decode cL_law 368 = .ok (.iaload, 1) := by decide +kernel
theorem dL_law_369 : decode cL_law 369 = .ok (.aload_n 3, 1) := by decide +kernel
theorem dL_law_370 : decode cL_law 370 = .ok (.invokestatic 99, 3) := by decide +kernel
theorem dL_law_373 : decode cL_law 373 = .ok (.istore 5, 2) := by decide +kernel
theorem dL_law_375 : decode cL_law 375 = .ok (.aload_n 2, 1) := by decide +kernel
theorem dL_law_376 : decode cL_law 376 = .ok (.aload_n 0, 1) := by decide +kernel
theorem dL_law_377 : decode cL_law 377 = .ok (.iload 4, 2) := by decide +kernel
theorem dL_law_379 : decode cL_law 379 = .ok (.iconst 1, 1) := by decide +kernel
theorem dL_law_380 : decode cL_law 380 = .ok (.iadd, 1) := by decide +kernel
theorem dL_law_381 : decode cL_law 381 = .ok (.iaload, 1) := by decide +kernel
theorem dL_law_382 : decode cL_law 382 = .ok (.aload_n 0, 1) := by decide +kernel
theorem dL_law_383 : decode cL_law 383 = .ok (.iload 4, 2) := by decide +kernel
theorem dL_law_385 : decode cL_law 385 = .ok (.iconst 2, 1) := by decide +kernel
theorem dL_law_386 : decode cL_law 386 = .ok (.iadd, 1) := by decide +kernel
theorem dL_law_387 : decode cL_law 387 = .ok (.iaload, 1) := by decide +kernel
theorem dL_law_388 : decode cL_law 388 = .ok (.invokevirtual 101, 3) := by decide +kernel
theorem dL_law_391 : decode cL_law 391 = .ok (.istore 6, 2) := by decide +kernel
theorem dL_law_393 : decode cL_law 393 = .ok (.aload_n 2, 1) := by decide +kernel
theorem dL_law_394 : decode cL_law 394 = .ok (.invokevirtual 88, 3) := by decide +kernel
theorem dL_law_397 : decode cL_law 397 = .ok (.iload 5, 2) := by decide +kernel
theorem dL_law_399 : decode cL_law 399 = .ok (.if_icmp .eq 5, 3) := by decide +kernel
theorem dL_law_402 : decode cL_law 402 = .ok (.iconst 0, 1) := by decide +kernel
theorem dL_law_403 : decode cL_law 403 = .ok (.ireturn, 1) := by decide +kernel
theorem dL_law_404 : decode cL_law 404 = .ok (.iload 5, 2) := by decide +kernel
theorem dL_law_406 : decode cL_law 406 = .ok (.ifCond .ne 15, 3) := by decide +kernel
theorem dL_law_409 : decode cL_law 409 = .ok (.aload_n 3, 1) := by decide +kernel
theorem dL_law_410 : decode cL_law 410 = .ok (.iconst 0, 1) := by decide +kernel
theorem dL_law_411 : decode cL_law 411 = .ok (.laload, 1) := by decide +kernel
theorem dL_law_412 : decode cL_law 412 = .ok (.iload 6, 2) := by decide +kernel
theorem dL_law_414 : decode cL_law 414 = .ok (.i2l, 1) := by decide +kernel
theorem dL_law_415 : decode cL_law 415 = .ok (.lcmp, 1) := by decide +kernel
theorem dL_law_416 : decode cL_law 416 = .ok (.ifCond .eq 5, 3) := by decide +kernel
theorem dL_law_419 : decode cL_law 419 = .ok (.iconst 0, 1) := by decide +kernel
theorem dL_law_420 : decode cL_law 420 = .ok (.ireturn, 1) := by decide +kernel
theorem dL_law_421 : decode cL_law 421 = .ok (.goto 957, 3) := by decide +kernel
theorem dL_law_424 : decode cL_law 424 = .ok (.aload_n 1, 1) := by decide +kernel
theorem dL_law_425 : decode cL_law 425 = .ok (.aload_n 0, 1) := by decide +kernel
theorem dL_law_426 : decode cL_law 426 = .ok (.iload 4, 2) := by decide +kernel
theorem dL_law_428 : decode cL_law 428 = .ok (.iconst 1, 1) := by decide +kernel
theorem dL_law_429 : decode cL_law 429 = .ok (.iadd, 1) := by decide +kernel
theorem dL_law_430 : decode cL_law 430 = .ok (.iaload, 1) := by decide +kernel
theorem dL_law_431 : decode cL_law 431 = .ok (.aload_n 3, 1) := by decide +kernel
theorem dL_law_432 : decode cL_law 432 = .ok (.invokestatic 102, 3) := by decide +kernel
theorem dL_law_435 : decode cL_law 435 = .ok (.istore 5, 2) := by decide +kernel
theorem dL_law_437 : decode cL_law 437 = .ok (.aload_n 2, 1) := by decide +kernel
theorem dL_law_438 : decode cL_law 438 = .ok (.aload_n 0, 1) := by decide +kernel
theorem dL_law_439 : decode cL_law 439 = .ok (.iload 4, 2) := by decide +kernel
theorem dL_law_441 : decode cL_law 441 = .ok (.iconst 1, 1) := by decide +kernel
theorem dL_law_442 : decode cL_law 442 = .ok (.iadd, 1) := by decide +kernel
theorem dL_law_443 : decode cL_law 443 = .ok (.iaload, 1) := by decide +kernel
theorem dL_law_444 : decode cL_law 444 = .ok (.invokevirtual 105, 3) := by decide +kernel
theorem dL_law_447 : decode cL_law 447 = .ok (.istore 6, 2) := by decide +kernel
theorem dL_law_449 : decode cL_law 449 = .ok (.aload_n 2, 1) := by decide +kernel
theorem dL_law_450 : decode cL_law 450 = .ok (.invokevirtual 88, 3) := by decide +kernel
theorem dL_law_453 : decode cL_law 453 = .ok (.iload 5, 2) := by decide +kernel
theorem dL_law_455 : decode cL_law 455 = .ok (.if_icmp .eq 5, 3) := by decide +kernel
theorem dL_law_458 : decode cL_law 458 = .ok (.iconst 0, 1) := by decide +kernel
theorem dL_law_459 : decode cL_law 459 = .ok (.ireturn, 1) := by decide +kernel
theorem dL_law_460 : decode cL_law 460 = .ok (.iload 5, 2) := by decide +kernel
theorem dL_law_462 : decode cL_law 462 = .ok (.ifCond .ne 15, 3) := by decide +kernel
theorem dL_law_465 : decode cL_law 465 = .ok (.aload_n 3, 1) := by decide +kernel
theorem dL_law_466 : decode cL_law 466 = .ok (.iconst 0, 1) := by decide +kernel
theorem dL_law_467 : decode cL_law 467 = .ok (.laload, 1) := by decide +kernel
theorem dL_law_468 : decode cL_law 468 = .ok (.iload 6, 2) := by decide +kernel
theorem dL_law_470 : decode cL_law 470 = .ok (.i2l, 1) := by decide +kernel
theorem dL_law_471 : decode cL_law 471 = .ok (.lcmp, 1) := by decide +kernel
theorem dL_law_472 : decode cL_law 472 = .ok (.ifCond .eq 5, 3) := by decide +kernel
theorem dL_law_475 : decode cL_law 475 = .ok (.iconst 0, 1) := by decide +kernel
theorem dL_law_476 : decode cL_law 476 = .ok (.ireturn, 1) := by decide +kernel
theorem dL_law_477 : decode cL_law 477 = .ok (.goto 901, 3) := by decide +kernel
theorem dL_law_480 : decode cL_law 480 = .ok (.aload_n 1, 1) := by decide +kernel
theorem dL_law_481 : decode cL_law 481 = .ok (.aload_n 0, 1) := by decide +kernel
theorem dL_law_482 : decode cL_law 482 = .ok (.iload 4, 2) := by decide +kernel
theorem dL_law_484 : decode cL_law 484 = .ok (.iconst 1, 1) := by decide +kernel
theorem dL_law_485 : decode cL_law 485 = .ok (.iadd, 1) := by decide +kernel
theorem dL_law_486 : decode cL_law 486 = .ok (.iaload, 1) := by decide +kernel
theorem dL_law_487 : decode cL_law 487 = .ok (.aload_n 0, 1) := by decide +kernel
theorem dL_law_488 : decode cL_law 488 = .ok (.iload 4, 2) := by decide +kernel
theorem dL_law_490 : decode cL_law 490 = .ok (.iconst 2, 1) := by decide +kernel
theorem dL_law_491 : decode cL_law 491 = .ok (.iadd, 1) := by decide +kernel
theorem dL_law_492 : decode cL_law 492 = .ok (.iaload, 1) := by decide +kernel
theorem dL_law_493 : decode cL_law 493 = .ok (.aload_n 3, 1) := by decide +kernel
theorem dL_law_494 : decode cL_law 494 = .ok (.invokestatic 106, 3) := by decide +kernel
theorem dL_law_497 : decode cL_law 497 = .ok (.istore 5, 2) := by decide +kernel
theorem dL_law_499 : decode cL_law 499 = .ok (.aload_n 2, 1) := by decide +kernel
theorem dL_law_500 : decode cL_law 500 = .ok (.aload_n 0, 1) := by decide +kernel
theorem dL_law_501 : decode cL_law 501 = .ok (.iload 4, 2) := by decide +kernel
theorem dL_law_503 : decode cL_law 503 = .ok (.iconst 1, 1) := by decide +kernel
theorem dL_law_504 : decode cL_law 504 = .ok (.iadd, 1) := by decide +kernel
theorem dL_law_505 : decode cL_law 505 = .ok (.iaload, 1) := by decide +kernel
theorem dL_law_506 : decode cL_law 506 = .ok (.aload_n 0, 1) := by decide +kernel
theorem dL_law_507 : decode cL_law 507 = .ok (.iload 4, 2) := by decide +kernel
theorem dL_law_509 : decode cL_law 509 = .ok (.iconst 2, 1) := by decide +kernel
theorem dL_law_510 : decode cL_law 510 = .ok (.iadd, 1) := by decide +kernel
theorem dL_law_511 : decode cL_law 511 = .ok (.iaload, 1) := by decide +kernel
theorem dL_law_512 : decode cL_law 512 = .ok (.invokevirtual 108, 3) := by decide +kernel
theorem dL_law_515 : decode cL_law 515 = .ok (.istore 6, 2) := by decide +kernel
theorem dL_law_517 : decode cL_law 517 = .ok (.aload_n 2, 1) := by decide +kernel
theorem dL_law_518 : decode cL_law 518 = .ok (.invokevirtual 88, 3) := by decide +kernel
theorem dL_law_521 : decode cL_law 521 = .ok (.iload 5, 2) := by decide +kernel
theorem dL_law_523 : decode cL_law 523 = .ok (.if_icmp .eq 5, 3) := by decide +kernel
theorem dL_law_526 : decode cL_law 526 = .ok (.iconst 0, 1) := by decide +kernel
theorem dL_law_527 : decode cL_law 527 = .ok (.ireturn, 1) := by decide +kernel
theorem dL_law_528 : decode cL_law 528 = .ok (.iload 5, 2) := by decide +kernel
theorem dL_law_530 : decode cL_law 530 = .ok (.ifCond .ne 15, 3) := by decide +kernel
theorem dL_law_533 : decode cL_law 533 = .ok (.aload_n 3, 1) := by decide +kernel
theorem dL_law_534 : decode cL_law 534 = .ok (.iconst 0, 1) := by decide +kernel
theorem dL_law_535 : decode cL_law 535 = .ok (.laload, 1) := by decide +kernel
theorem dL_law_536 : decode cL_law 536 = .ok (.iload 6, 2) := by decide +kernel
theorem dL_law_538 : decode cL_law 538 = .ok (.i2l, 1) := by decide +kernel
theorem dL_law_539 : decode cL_law 539 = .ok (.lcmp, 1) := by decide +kernel
theorem dL_law_540 : decode cL_law 540 = .ok (.ifCond .eq 5, 3) := by decide +kernel
theorem dL_law_543 : decode cL_law 543 = .ok (.iconst 0, 1) := by decide +kernel
theorem dL_law_544 : decode cL_law 544 = .ok (.ireturn, 1) := by decide +kernel
theorem dL_law_545 : decode cL_law 545 = .ok (.goto 833, 3) := by decide +kernel
theorem dL_law_548 : decode cL_law 548 = .ok (.aload_n 1, 1) := by decide +kernel
theorem dL_law_549 : decode cL_law 549 = .ok (.aload_n 0, 1) := by decide +kernel
theorem dL_law_550 : decode cL_law 550 = .ok (.iload 4, 2) := by decide +kernel
theorem dL_law_552 : decode cL_law 552 = .ok (.iconst 1, 1) := by decide +kernel
theorem dL_law_553 : decode cL_law 553 = .ok (.iadd, 1) := by decide +kernel
theorem dL_law_554 : decode cL_law 554 = .ok (.iaload, 1) := by decide +kernel
theorem dL_law_555 : decode cL_law 555 = .ok (.aload_n 0, 1) := by decide +kernel
theorem dL_law_556 : decode cL_law 556 = .ok (.iload 4, 2) := by decide +kernel
theorem dL_law_558 : decode cL_law 558 = .ok (.iconst 2, 1) := by decide +kernel
theorem dL_law_559 : decode cL_law 559 = .ok (.iadd, 1) := by decide +kernel
theorem dL_law_560 : decode cL_law 560 = .ok (.iaload, 1) := by decide +kernel
theorem dL_law_561 : decode cL_law 561 = .ok (.aload_n 3, 1) := by decide +kernel
theorem dL_law_562 : decode cL_law 562 = .ok (.invokestatic 109, 3) := by decide +kernel
theorem dL_law_565 : decode cL_law 565 = .ok (.istore 5, 2) := by decide +kernel
theorem dL_law_567 : decode cL_law 567 = .ok (.aload_n 2, 1) := by decide +kernel
theorem dL_law_568 : decode cL_law 568 = .ok (.aload_n 0, 1) := by decide +kernel
theorem dL_law_569 : decode cL_law 569 = .ok (.iload 4, 2) := by decide +kernel
theorem dL_law_571 : decode cL_law 571 = .ok (.iconst 1, 1) := by decide +kernel
theorem dL_law_572 : decode cL_law 572 = .ok (.iadd, 1) := by decide +kernel
theorem dL_law_573 : decode cL_law 573 = .ok (.iaload, 1) := by decide +kernel
theorem dL_law_574 : decode cL_law 574 = .ok (.aload_n 0, 1) := by decide +kernel
theorem dL_law_575 : decode cL_law 575 = .ok (.iload 4, 2) := by decide +kernel
theorem dL_law_577 : decode cL_law 577 = .ok (.iconst 2, 1) := by decide +kernel
theorem dL_law_578 : decode cL_law 578 = .ok (.iadd, 1) := by decide +kernel
theorem dL_law_579 : decode cL_law 579 = .ok (.iaload, 1) := by decide +kernel
theorem dL_law_580 : decode cL_law 580 = .ok (.invokevirtual 111, 3) := by decide +kernel
theorem dL_law_583 : decode cL_law 583 = .ok (.istore 6, 2) := by decide +kernel
theorem dL_law_585 : decode cL_law 585 = .ok (.aload_n 2, 1) := by decide +kernel
theorem dL_law_586 : decode cL_law 586 = .ok (.invokevirtual 88, 3) := by decide +kernel
theorem dL_law_589 : decode cL_law 589 = .ok (.iload 5, 2) := by decide +kernel
theorem dL_law_591 : decode cL_law 591 = .ok (.if_icmp .eq 5, 3) := by decide +kernel
theorem dL_law_594 : decode cL_law 594 = .ok (.iconst 0, 1) := by decide +kernel
theorem dL_law_595 : decode cL_law 595 = .ok (.ireturn, 1) := by decide +kernel
theorem dL_law_596 : decode cL_law 596 = .ok (.iload 5, 2) := by decide +kernel
theorem dL_law_598 : decode cL_law 598 = .ok (.ifCond .ne 15, 3) := by decide +kernel
theorem dL_law_601 : decode cL_law 601 = .ok (.aload_n 3, 1) := by decide +kernel
theorem dL_law_602 : decode cL_law 602 = .ok (.iconst 0, 1) := by decide +kernel
theorem dL_law_603 : decode cL_law 603 = .ok (.laload, 1) := by decide +kernel
theorem dL_law_604 : decode cL_law 604 = .ok (.iload 6, 2) := by decide +kernel
theorem dL_law_606 : decode cL_law 606 = .ok (.i2l, 1) := by decide +kernel
theorem dL_law_607 : decode cL_law 607 = .ok (.lcmp, 1) := by decide +kernel
theorem dL_law_608 : decode cL_law 608 = .ok (.ifCond .eq 5, 3) := by decide +kernel
theorem dL_law_611 : decode cL_law 611 = .ok (.iconst 0, 1) := by decide +kernel
theorem dL_law_612 : decode cL_law 612 = .ok (.ireturn, 1) := by decide +kernel
theorem dL_law_613 : decode cL_law 613 = .ok (.goto 765, 3) := by decide +kernel
theorem dL_law_616 : decode cL_law 616 = .ok (.aload_n 1, 1) := by decide +kernel
theorem dL_law_617 : decode cL_law 617 = .ok (.aload_n 0, 1) := by decide +kernel
theorem dL_law_618 : decode cL_law 618 = .ok (.iload 4, 2) := by decide +kernel
theorem dL_law_620 : decode cL_law 620 = .ok (.iconst 1, 1) := by decide +kernel
theorem dL_law_621 : decode cL_law 621 = .ok (.iadd, 1) := by decide +kernel
theorem dL_law_622 : decode cL_law 622 = .ok (.iaload, 1) := by decide +kernel
theorem dL_law_623 : decode cL_law 623 = .ok (.aload_n 3, 1) := by decide +kernel
theorem dL_law_624 : decode cL_law 624 = .ok (.invokestatic 112, 3) := by decide +kernel
theorem dL_law_627 : decode cL_law 627 = .ok (.istore 5, 2) := by decide +kernel
theorem dL_law_629 : decode cL_law 629 = .ok (.aload_n 2, 1) := by decide +kernel
theorem dL_law_630 : decode cL_law 630 = .ok (.aload_n 0, 1) := by decide +kernel
theorem dL_law_631 : decode cL_law 631 = .ok (.iload 4, 2) := by decide +kernel
theorem dL_law_633 : decode cL_law 633 = .ok (.iconst 1, 1) := by decide +kernel
theorem dL_law_634 : decode cL_law 634 = .ok (.iadd, 1) := by decide +kernel
theorem dL_law_635 : decode cL_law 635 = .ok (.iaload, 1) := by decide +kernel
theorem dL_law_636 : decode cL_law 636 = .ok (.invokevirtual 114, 3) := by decide +kernel
theorem dL_law_639 : decode cL_law 639 = .ok (.istore 6, 2) := by decide +kernel
theorem dL_law_641 : decode cL_law 641 = .ok (.aload_n 2, 1) := by decide +kernel
theorem dL_law_642 : decode cL_law 642 = .ok (.invokevirtual 88, 3) := by decide +kernel
theorem dL_law_645 : decode cL_law 645 = .ok (.iload 5, 2) := by decide +kernel
theorem dL_law_647 : decode cL_law 647 = .ok (.if_icmp .eq 5, 3) := by decide +kernel
theorem dL_law_650 : decode cL_law 650 = .ok (.iconst 0, 1) := by decide +kernel
theorem dL_law_651 : decode cL_law 651 = .ok (.ireturn, 1) := by decide +kernel
theorem dL_law_652 : decode cL_law 652 = .ok (.iload 5, 2) := by decide +kernel
theorem dL_law_654 : decode cL_law 654 = .ok (.ifCond .ne 15, 3) := by decide +kernel
theorem dL_law_657 : decode cL_law 657 = .ok (.aload_n 3, 1) := by decide +kernel
theorem dL_law_658 : decode cL_law 658 = .ok (.iconst 0, 1) := by decide +kernel
theorem dL_law_659 : decode cL_law 659 = .ok (.laload, 1) := by decide +kernel
theorem dL_law_660 : decode cL_law 660 = .ok (.iload 6, 2) := by decide +kernel
theorem dL_law_662 : decode cL_law 662 = .ok (.i2l, 1) := by decide +kernel
theorem dL_law_663 : decode cL_law 663 = .ok (.lcmp, 1) := by decide +kernel
theorem dL_law_664 : decode cL_law 664 = .ok (.ifCond .eq 5, 3) := by decide +kernel
theorem dL_law_667 : decode cL_law 667 = .ok (.iconst 0, 1) := by decide +kernel
theorem dL_law_668 : decode cL_law 668 = .ok (.ireturn, 1) := by decide +kernel
theorem dL_law_669 : decode cL_law 669 = .ok (.goto 709, 3) := by decide +kernel
theorem dL_law_672 : decode cL_law 672 = .ok (.aload_n 1, 1) := by decide +kernel
theorem dL_law_673 : decode cL_law 673 = .ok (.aload_n 0, 1) := by decide +kernel
theorem dL_law_674 : decode cL_law 674 = .ok (.iload 4, 2) := by decide +kernel
theorem dL_law_676 : decode cL_law 676 = .ok (.iconst 1, 1) := by decide +kernel
theorem dL_law_677 : decode cL_law 677 = .ok (.iadd, 1) := by decide +kernel
theorem dL_law_678 : decode cL_law 678 = .ok (.iaload, 1) := by decide +kernel
theorem dL_law_679 : decode cL_law 679 = .ok (.aload_n 3, 1) := by decide +kernel
theorem dL_law_680 : decode cL_law 680 = .ok (.invokestatic 115, 3) := by decide +kernel
theorem dL_law_683 : decode cL_law 683 = .ok (.istore 5, 2) := by decide +kernel
theorem dL_law_685 : decode cL_law 685 = .ok (.aload_n 2, 1) := by decide +kernel
theorem dL_law_686 : decode cL_law 686 = .ok (.aload_n 0, 1) := by decide +kernel
theorem dL_law_687 : decode cL_law 687 = .ok (.iload 4, 2) := by decide +kernel
theorem dL_law_689 : decode cL_law 689 = .ok (.iconst 1, 1) := by decide +kernel
theorem dL_law_690 : decode cL_law 690 = .ok (.iadd, 1) := by decide +kernel
theorem dL_law_691 : decode cL_law 691 = .ok (.iaload, 1) := by decide +kernel
theorem dL_law_692 : decode cL_law 692 = .ok (.invokevirtual 117, 3) := by decide +kernel
theorem dL_law_695 : decode cL_law 695 = .ok (.istore 6, 2) := by decide +kernel
theorem dL_law_697 : decode cL_law 697 = .ok (.aload_n 2, 1) := by decide +kernel
theorem dL_law_698 : decode cL_law 698 = .ok (.invokevirtual 88, 3) := by decide +kernel
theorem dL_law_701 : decode cL_law 701 = .ok (.iload 5, 2) := by decide +kernel
theorem dL_law_703 : decode cL_law 703 = .ok (.if_icmp .eq 5, 3) := by decide +kernel
theorem dL_law_706 : decode cL_law 706 = .ok (.iconst 0, 1) := by decide +kernel
theorem dL_law_707 : decode cL_law 707 = .ok (.ireturn, 1) := by decide +kernel
theorem dL_law_708 : decode cL_law 708 = .ok (.iload 5, 2) := by decide +kernel
theorem dL_law_710 : decode cL_law 710 = .ok (.ifCond .ne 15, 3) := by decide +kernel
theorem dL_law_713 : decode cL_law 713 = .ok (.aload_n 3, 1) := by decide +kernel
theorem dL_law_714 : decode cL_law 714 = .ok (.iconst 0, 1) := by decide +kernel
theorem dL_law_715 : decode cL_law 715 = .ok (.laload, 1) := by decide +kernel
theorem dL_law_716 : decode cL_law 716 = .ok (.iload 6, 2) := by decide +kernel
theorem dL_law_718 : decode cL_law 718 = .ok (.i2l, 1) := by decide +kernel
theorem dL_law_719 : decode cL_law 719 = .ok (.lcmp, 1) := by decide +kernel
theorem dL_law_720 : decode cL_law 720 = .ok (.ifCond .eq 5, 3) := by decide +kernel
theorem dL_law_723 : decode cL_law 723 = .ok (.iconst 0, 1) := by decide +kernel
theorem dL_law_724 : decode cL_law 724 = .ok (.ireturn, 1) := by decide +kernel
theorem dL_law_725 : decode cL_law 725 = .ok (.goto 653, 3) := by decide +kernel
theorem dL_law_728 : decode cL_law 728 = .ok (.aload_n 1, 1) := by decide +kernel
theorem dL_law_729 : decode cL_law 729 = .ok (.aload_n 0, 1) := by decide +kernel
theorem dL_law_730 : decode cL_law 730 = .ok (.iload 4, 2) := by decide +kernel
theorem dL_law_732 : decode cL_law 732 = .ok (.iconst 1, 1) := by decide +kernel
theorem dL_law_733 : decode cL_law 733 = .ok (.iadd, 1) := by decide +kernel
theorem dL_law_734 : decode cL_law 734 = .ok (.iaload, 1) := by decide +kernel
theorem dL_law_735 : decode cL_law 735 = .ok (.aload_n 0, 1) := by decide +kernel
theorem dL_law_736 : decode cL_law 736 = .ok (.iload 4, 2) := by decide +kernel
theorem dL_law_738 : decode cL_law 738 = .ok (.iconst 2, 1) := by decide +kernel
theorem dL_law_739 : decode cL_law 739 = .ok (.iadd, 1) := by decide +kernel
theorem dL_law_740 : decode cL_law 740 = .ok (.iaload, 1) := by decide +kernel
theorem dL_law_741 : decode cL_law 741 = .ok (.ifCond .eq 7, 3) := by decide +kernel
theorem dL_law_744 : decode cL_law 744 = .ok (.iconst 1, 1) := by decide +kernel
theorem dL_law_745 : decode cL_law 745 = .ok (.goto 4, 3) := by decide +kernel
theorem dL_law_748 : decode cL_law 748 = .ok (.iconst 0, 1) := by decide +kernel
theorem dL_law_749 : decode cL_law 749 = .ok (.aload_n 3, 1) := by decide +kernel
theorem dL_law_750 : decode cL_law 750 = .ok (.invokestatic 118, 3) := by decide +kernel
theorem dL_law_753 : decode cL_law 753 = .ok (.istore 5, 2) := by decide +kernel
theorem dL_law_755 : decode cL_law 755 = .ok (.aload_n 2, 1) := by decide +kernel
theorem dL_law_756 : decode cL_law 756 = .ok (.aload_n 0, 1) := by decide +kernel
theorem dL_law_757 : decode cL_law 757 = .ok (.iload 4, 2) := by decide +kernel
theorem dL_law_759 : decode cL_law 759 = .ok (.iconst 1, 1) := by decide +kernel
theorem dL_law_760 : decode cL_law 760 = .ok (.iadd, 1) := by decide +kernel
theorem dL_law_761 : decode cL_law 761 = .ok (.iaload, 1) := by decide +kernel
theorem dL_law_762 : decode cL_law 762 = .ok (.aload_n 0, 1) := by decide +kernel
theorem dL_law_763 : decode cL_law 763 = .ok (.iload 4, 2) := by decide +kernel
theorem dL_law_765 : decode cL_law 765 = .ok (.iconst 2, 1) := by decide +kernel
theorem dL_law_766 : decode cL_law 766 = .ok (.iadd, 1) := by decide +kernel
theorem dL_law_767 : decode cL_law 767 = .ok (.iaload, 1) := by decide +kernel
theorem dL_law_768 : decode cL_law 768 = .ok (.ifCond .eq 7, 3) := by decide +kernel
theorem dL_law_771 : decode cL_law 771 = .ok (.iconst 1, 1) := by decide +kernel
theorem dL_law_772 : decode cL_law 772 = .ok (.goto 4, 3) := by decide +kernel
theorem dL_law_775 : decode cL_law 775 = .ok (.iconst 0, 1) := by decide +kernel
theorem dL_law_776 : decode cL_law 776 = .ok (.invokevirtual 121, 3) := by decide +kernel
theorem dL_law_779 : decode cL_law 779 = .ok (.istore 6, 2) := by decide +kernel
theorem dL_law_781 : decode cL_law 781 = .ok (.aload_n 2, 1) := by decide +kernel
theorem dL_law_782 : decode cL_law 782 = .ok (.invokevirtual 88, 3) := by decide +kernel
theorem dL_law_785 : decode cL_law 785 = .ok (.iload 5, 2) := by decide +kernel
theorem dL_law_787 : decode cL_law 787 = .ok (.if_icmp .eq 5, 3) := by decide +kernel
theorem dL_law_790 : decode cL_law 790 = .ok (.iconst 0, 1) := by decide +kernel
theorem dL_law_791 : decode cL_law 791 = .ok (.ireturn, 1) := by decide +kernel
theorem dL_law_792 : decode cL_law 792 = .ok (.iload 5, 2) := by decide +kernel
theorem dL_law_794 : decode cL_law 794 = .ok (.ifCond .ne 15, 3) := by decide +kernel
theorem dL_law_797 : decode cL_law 797 = .ok (.aload_n 3, 1) := by decide +kernel
theorem dL_law_798 : decode cL_law 798 = .ok (.iconst 0, 1) := by decide +kernel
theorem dL_law_799 : decode cL_law 799 = .ok (.laload, 1) := by decide +kernel
theorem dL_law_800 : decode cL_law 800 = .ok (.iload 6, 2) := by decide +kernel
theorem dL_law_802 : decode cL_law 802 = .ok (.i2l, 1) := by decide +kernel
theorem dL_law_803 : decode cL_law 803 = .ok (.lcmp, 1) := by decide +kernel
theorem dL_law_804 : decode cL_law 804 = .ok (.ifCond .eq 5, 3) := by decide +kernel
theorem dL_law_807 : decode cL_law 807 = .ok (.iconst 0, 1) := by decide +kernel
theorem dL_law_808 : decode cL_law 808 = .ok (.ireturn, 1) := by decide +kernel
theorem dL_law_809 : decode cL_law 809 = .ok (.goto 569, 3) := by decide +kernel
theorem dL_law_812 : decode cL_law 812 = .ok (.aload_n 1, 1) := by decide +kernel
theorem dL_law_813 : decode cL_law 813 = .ok (.aload_n 0, 1) := by decide +kernel
theorem dL_law_814 : decode cL_law 814 = .ok (.iload 4, 2) := by decide +kernel
theorem dL_law_816 : decode cL_law 816 = .ok (.iconst 1, 1) := by decide +kernel
theorem dL_law_817 : decode cL_law 817 = .ok (.iadd, 1) := by decide +kernel
theorem dL_law_818 : decode cL_law 818 = .ok (.iaload, 1) := by decide +kernel
theorem dL_law_819 : decode cL_law 819 = .ok (.aload_n 3, 1) := by decide +kernel
theorem dL_law_820 : decode cL_law 820 = .ok (.invokestatic 122, 3) := by decide +kernel
theorem dL_law_823 : decode cL_law 823 = .ok (.istore 5, 2) := by decide +kernel
theorem dL_law_825 : decode cL_law 825 = .ok (.aload_n 2, 1) := by decide +kernel
theorem dL_law_826 : decode cL_law 826 = .ok (.aload_n 0, 1) := by decide +kernel
theorem dL_law_827 : decode cL_law 827 = .ok (.iload 4, 2) := by decide +kernel
theorem dL_law_829 : decode cL_law 829 = .ok (.iconst 1, 1) := by decide +kernel
theorem dL_law_830 : decode cL_law 830 = .ok (.iadd, 1) := by decide +kernel
theorem dL_law_831 : decode cL_law 831 = .ok (.iaload, 1) := by decide +kernel
theorem dL_law_832 : decode cL_law 832 = .ok (.invokevirtual 124, 3) := by decide +kernel
theorem dL_law_835 : decode cL_law 835 = .ok (.istore 6, 2) := by decide +kernel
theorem dL_law_837 : decode cL_law 837 = .ok (.aload_n 2, 1) := by decide +kernel
theorem dL_law_838 : decode cL_law 838 = .ok (.invokevirtual 88, 3) := by decide +kernel
theorem dL_law_841 : decode cL_law 841 = .ok (.iload 5, 2) := by decide +kernel
theorem dL_law_843 : decode cL_law 843 = .ok (.if_icmp .eq 5, 3) := by decide +kernel
theorem dL_law_846 : decode cL_law 846 = .ok (.iconst 0, 1) := by decide +kernel
theorem dL_law_847 : decode cL_law 847 = .ok (.ireturn, 1) := by decide +kernel
theorem dL_law_848 : decode cL_law 848 = .ok (.iload 5, 2) := by decide +kernel
theorem dL_law_850 : decode cL_law 850 = .ok (.ifCond .ne 15, 3) := by decide +kernel
theorem dL_law_853 : decode cL_law 853 = .ok (.aload_n 3, 1) := by decide +kernel
theorem dL_law_854 : decode cL_law 854 = .ok (.iconst 0, 1) := by decide +kernel
theorem dL_law_855 : decode cL_law 855 = .ok (.laload, 1) := by decide +kernel
theorem dL_law_856 : decode cL_law 856 = .ok (.iload 6, 2) := by decide +kernel
theorem dL_law_858 : decode cL_law 858 = .ok (.i2l, 1) := by decide +kernel
theorem dL_law_859 : decode cL_law 859 = .ok (.lcmp, 1) := by decide +kernel
theorem dL_law_860 : decode cL_law 860 = .ok (.ifCond .eq 5, 3) := by decide +kernel
theorem dL_law_863 : decode cL_law 863 = .ok (.iconst 0, 1) := by decide +kernel
theorem dL_law_864 : decode cL_law 864 = .ok (.ireturn, 1) := by decide +kernel
theorem dL_law_865 : decode cL_law 865 = .ok (.goto 513, 3) := by decide +kernel
theorem dL_law_868 : decode cL_law 868 = .ok (.aload_n 1, 1) := by decide +kernel
theorem dL_law_869 : decode cL_law 869 = .ok (.aload_n 0, 1) := by decide +kernel
theorem dL_law_870 : decode cL_law 870 = .ok (.iload 4, 2) := by decide +kernel
theorem dL_law_872 : decode cL_law 872 = .ok (.iconst 1, 1) := by decide +kernel
theorem dL_law_873 : decode cL_law 873 = .ok (.iadd, 1) := by decide +kernel
theorem dL_law_874 : decode cL_law 874 = .ok (.iaload, 1) := by decide +kernel
theorem dL_law_875 : decode cL_law 875 = .ok (.aload_n 0, 1) := by decide +kernel
theorem dL_law_876 : decode cL_law 876 = .ok (.iload 4, 2) := by decide +kernel
theorem dL_law_878 : decode cL_law 878 = .ok (.iconst 2, 1) := by decide +kernel
theorem dL_law_879 : decode cL_law 879 = .ok (.iadd, 1) := by decide +kernel
theorem dL_law_880 : decode cL_law 880 = .ok (.iaload, 1) := by decide +kernel
theorem dL_law_881 : decode cL_law 881 = .ok (.aload_n 3, 1) := by decide +kernel
theorem dL_law_882 : decode cL_law 882 = .ok (.invokestatic 125, 3) := by decide +kernel
theorem dL_law_885 : decode cL_law 885 = .ok (.istore 5, 2) := by decide +kernel
theorem dL_law_887 : decode cL_law 887 = .ok (.aload_n 2, 1) := by decide +kernel
theorem dL_law_888 : decode cL_law 888 = .ok (.aload_n 0, 1) := by decide +kernel
theorem dL_law_889 : decode cL_law 889 = .ok (.iload 4, 2) := by decide +kernel
theorem dL_law_891 : decode cL_law 891 = .ok (.iconst 1, 1) := by decide +kernel
theorem dL_law_892 : decode cL_law 892 = .ok (.iadd, 1) := by decide +kernel
theorem dL_law_893 : decode cL_law 893 = .ok (.iaload, 1) := by decide +kernel
theorem dL_law_894 : decode cL_law 894 = .ok (.aload_n 0, 1) := by decide +kernel
theorem dL_law_895 : decode cL_law 895 = .ok (.iload 4, 2) := by decide +kernel
theorem dL_law_897 : decode cL_law 897 = .ok (.iconst 2, 1) := by decide +kernel
theorem dL_law_898 : decode cL_law 898 = .ok (.iadd, 1) := by decide +kernel
theorem dL_law_899 : decode cL_law 899 = .ok (.iaload, 1) := by decide +kernel
theorem dL_law_900 : decode cL_law 900 = .ok (.invokevirtual 127, 3) := by decide +kernel
theorem dL_law_903 : decode cL_law 903 = .ok (.istore 6, 2) := by decide +kernel
theorem dL_law_905 : decode cL_law 905 = .ok (.aload_n 2, 1) := by decide +kernel
theorem dL_law_906 : decode cL_law 906 = .ok (.invokevirtual 88, 3) := by decide +kernel
theorem dL_law_909 : decode cL_law 909 = .ok (.iload 5, 2) := by decide +kernel
theorem dL_law_911 : decode cL_law 911 = .ok (.if_icmp .eq 5, 3) := by decide +kernel
theorem dL_law_914 : decode cL_law 914 = .ok (.iconst 0, 1) := by decide +kernel
theorem dL_law_915 : decode cL_law 915 = .ok (.ireturn, 1) := by decide +kernel
theorem dL_law_916 : decode cL_law 916 = .ok (.iload 5, 2) := by decide +kernel
theorem dL_law_918 : decode cL_law 918 = .ok (.ifCond .ne 15, 3) := by decide +kernel
theorem dL_law_921 : decode cL_law 921 = .ok (.aload_n 3, 1) := by decide +kernel
theorem dL_law_922 : decode cL_law 922 = .ok (.iconst 0, 1) := by decide +kernel
theorem dL_law_923 : decode cL_law 923 = .ok (.laload, 1) := by decide +kernel
theorem dL_law_924 : decode cL_law 924 = .ok (.iload 6, 2) := by decide +kernel
theorem dL_law_926 : decode cL_law 926 = .ok (.i2l, 1) := by decide +kernel
theorem dL_law_927 : decode cL_law 927 = .ok (.lcmp, 1) := by decide +kernel
theorem dL_law_928 : decode cL_law 928 = .ok (.ifCond .eq 5, 3) := by decide +kernel
theorem dL_law_931 : decode cL_law 931 = .ok (.iconst 0, 1) := by decide +kernel
theorem dL_law_932 : decode cL_law 932 = .ok (.ireturn, 1) := by decide +kernel
theorem dL_law_933 : decode cL_law 933 = .ok (.goto 445, 3) := by decide +kernel
theorem dL_law_936 : decode cL_law 936 = .ok (.aload_n 1, 1) := by decide +kernel
theorem dL_law_937 : decode cL_law 937 = .ok (.aload_n 0, 1) := by decide +kernel
theorem dL_law_938 : decode cL_law 938 = .ok (.iload 4, 2) := by decide +kernel
theorem dL_law_940 : decode cL_law 940 = .ok (.iconst 1, 1) := by decide +kernel
theorem dL_law_941 : decode cL_law 941 = .ok (.iadd, 1) := by decide +kernel
theorem dL_law_942 : decode cL_law 942 = .ok (.iaload, 1) := by decide +kernel
theorem dL_law_943 : decode cL_law 943 = .ok (.aload_n 0, 1) := by decide +kernel
theorem dL_law_944 : decode cL_law 944 = .ok (.iload 4, 2) := by decide +kernel
theorem dL_law_946 : decode cL_law 946 = .ok (.iconst 2, 1) := by decide +kernel
theorem dL_law_947 : decode cL_law 947 = .ok (.iadd, 1) := by decide +kernel
theorem dL_law_948 : decode cL_law 948 = .ok (.iaload, 1) := by decide +kernel
theorem dL_law_949 : decode cL_law 949 = .ok (.aload_n 3, 1) := by decide +kernel
theorem dL_law_950 : decode cL_law 950 = .ok (.invokestatic 128, 3) := by decide +kernel
theorem dL_law_953 : decode cL_law 953 = .ok (.istore 5, 2) := by decide +kernel
theorem dL_law_955 : decode cL_law 955 = .ok (.aload_n 2, 1) := by decide +kernel
theorem dL_law_956 : decode cL_law 956 = .ok (.aload_n 0, 1) := by decide +kernel
theorem dL_law_957 : decode cL_law 957 = .ok (.iload 4, 2) := by decide +kernel
theorem dL_law_959 : decode cL_law 959 = .ok (.iconst 1, 1) := by decide +kernel
theorem dL_law_960 : decode cL_law 960 = .ok (.iadd, 1) := by decide +kernel
theorem dL_law_961 : decode cL_law 961 = .ok (.iaload, 1) := by decide +kernel
theorem dL_law_962 : decode cL_law 962 = .ok (.aload_n 0, 1) := by decide +kernel
theorem dL_law_963 : decode cL_law 963 = .ok (.iload 4, 2) := by decide +kernel
theorem dL_law_965 : decode cL_law 965 = .ok (.iconst 2, 1) := by decide +kernel
theorem dL_law_966 : decode cL_law 966 = .ok (.iadd, 1) := by decide +kernel
theorem dL_law_967 : decode cL_law 967 = .ok (.iaload, 1) := by decide +kernel
theorem dL_law_968 : decode cL_law 968 = .ok (.invokevirtual 130, 3) := by decide +kernel
theorem dL_law_971 : decode cL_law 971 = .ok (.istore 6, 2) := by decide +kernel
theorem dL_law_973 : decode cL_law 973 = .ok (.aload_n 2, 1) := by decide +kernel
theorem dL_law_974 : decode cL_law 974 = .ok (.invokevirtual 88, 3) := by decide +kernel
theorem dL_law_977 : decode cL_law 977 = .ok (.iload 5, 2) := by decide +kernel
theorem dL_law_979 : decode cL_law 979 = .ok (.if_icmp .eq 5, 3) := by decide +kernel
theorem dL_law_982 : decode cL_law 982 = .ok (.iconst 0, 1) := by decide +kernel
theorem dL_law_983 : decode cL_law 983 = .ok (.ireturn, 1) := by decide +kernel
theorem dL_law_984 : decode cL_law 984 = .ok (.iload 5, 2) := by decide +kernel
theorem dL_law_986 : decode cL_law 986 = .ok (.ifCond .ne 15, 3) := by decide +kernel
theorem dL_law_989 : decode cL_law 989 = .ok (.aload_n 3, 1) := by decide +kernel
theorem dL_law_990 : decode cL_law 990 = .ok (.iconst 0, 1) := by decide +kernel
theorem dL_law_991 : decode cL_law 991 = .ok (.laload, 1) := by decide +kernel
theorem dL_law_992 : decode cL_law 992 = .ok (.iload 6, 2) := by decide +kernel
theorem dL_law_994 : decode cL_law 994 = .ok (.i2l, 1) := by decide +kernel
theorem dL_law_995 : decode cL_law 995 = .ok (.lcmp, 1) := by decide +kernel
theorem dL_law_996 : decode cL_law 996 = .ok (.ifCond .eq 5, 3) := by decide +kernel
theorem dL_law_999 : decode cL_law 999 = .ok (.iconst 0, 1) := by decide +kernel
theorem dL_law_1000 : decode cL_law 1000 = .ok (.ireturn, 1) := by decide +kernel
theorem dL_law_1001 : decode cL_law 1001 = .ok (.goto 377, 3) := by decide +kernel
theorem dL_law_1004 : decode cL_law 1004 = .ok (.aload_n 1, 1) := by decide +kernel
theorem dL_law_1005 : decode cL_law 1005 = .ok (.aload_n 0, 1) := by decide +kernel
theorem dL_law_1006 : decode cL_law 1006 = .ok (.iload 4, 2) := by decide +kernel
theorem dL_law_1008 : decode cL_law 1008 = .ok (.iconst 1, 1) := by decide +kernel
theorem dL_law_1009 : decode cL_law 1009 = .ok (.iadd, 1) := by decide +kernel
theorem dL_law_1010 : decode cL_law 1010 = .ok (.iaload, 1) := by decide +kernel
theorem dL_law_1011 : decode cL_law 1011 = .ok (.aload_n 0, 1) := by decide +kernel
theorem dL_law_1012 : decode cL_law 1012 = .ok (.iload 4, 2) := by decide +kernel
theorem dL_law_1014 : decode cL_law 1014 = .ok (.iconst 2, 1) := by decide +kernel
theorem dL_law_1015 : decode cL_law 1015 = .ok (.iadd, 1) := by decide +kernel
theorem dL_law_1016 : decode cL_law 1016 = .ok (.iaload, 1) := by decide +kernel
theorem dL_law_1017 : decode cL_law 1017 = .ok (.aload_n 3, 1) := by decide +kernel
theorem dL_law_1018 : decode cL_law 1018 = .ok (.invokestatic 131, 3) := by decide +kernel
theorem dL_law_1021 : decode cL_law 1021 = .ok (.istore 5, 2) := by decide +kernel
theorem dL_law_1023 : decode cL_law 1023 = .ok (.aload_n 2, 1) := by decide +kernel
theorem dL_law_1024 : decode cL_law 1024 = .ok (.aload_n 0, 1) := by decide +kernel
theorem dL_law_1025 : decode cL_law 1025 = .ok (.iload 4, 2) := by decide +kernel
theorem dL_law_1027 : decode cL_law 1027 = .ok (.iconst 1, 1) := by decide +kernel
theorem dL_law_1028 : decode cL_law 1028 = .ok (.iadd, 1) := by decide +kernel
theorem dL_law_1029 : decode cL_law 1029 = .ok (.iaload, 1) := by decide +kernel
theorem dL_law_1030 : decode cL_law 1030 = .ok (.aload_n 0, 1) := by decide +kernel
theorem dL_law_1031 : decode cL_law 1031 = .ok (.iload 4, 2) := by decide +kernel
theorem dL_law_1033 : decode cL_law 1033 = .ok (.iconst 2, 1) := by decide +kernel
theorem dL_law_1034 : decode cL_law 1034 = .ok (.iadd, 1) := by decide +kernel
theorem dL_law_1035 : decode cL_law 1035 = .ok (.iaload, 1) := by decide +kernel
theorem dL_law_1036 : decode cL_law 1036 = .ok (.invokevirtual 133, 3) := by decide +kernel
theorem dL_law_1039 : decode cL_law 1039 = .ok (.istore 6, 2) := by decide +kernel
theorem dL_law_1041 : decode cL_law 1041 = .ok (.aload_n 2, 1) := by decide +kernel
theorem dL_law_1042 : decode cL_law 1042 = .ok (.invokevirtual 88, 3) := by decide +kernel
theorem dL_law_1045 : decode cL_law 1045 = .ok (.iload 5, 2) := by decide +kernel
theorem dL_law_1047 : decode cL_law 1047 = .ok (.if_icmp .eq 5, 3) := by decide +kernel
theorem dL_law_1050 : decode cL_law 1050 = .ok (.iconst 0, 1) := by decide +kernel
theorem dL_law_1051 : decode cL_law 1051 = .ok (.ireturn, 1) := by decide +kernel
theorem dL_law_1052 : decode cL_law 1052 = .ok (.iload 5, 2) := by decide +kernel
theorem dL_law_1054 : decode cL_law 1054 = .ok (.ifCond .ne 15, 3) := by decide +kernel
theorem dL_law_1057 : decode cL_law 1057 = .ok (.aload_n 3, 1) := by decide +kernel
theorem dL_law_1058 : decode cL_law 1058 = .ok (.iconst 0, 1) := by decide +kernel
theorem dL_law_1059 : decode cL_law 1059 = .ok (.laload, 1) := by decide +kernel
theorem dL_law_1060 : decode cL_law 1060 = .ok (.iload 6, 2) := by decide +kernel
theorem dL_law_1062 : decode cL_law 1062 = .ok (.i2l, 1) := by decide +kernel
theorem dL_law_1063 : decode cL_law 1063 = .ok (.lcmp, 1) := by decide +kernel
theorem dL_law_1064 : decode cL_law 1064 = .ok (.ifCond .eq 5, 3) := by decide +kernel
theorem dL_law_1067 : decode cL_law 1067 = .ok (.iconst 0, 1) := by decide +kernel
theorem dL_law_1068 : decode cL_law 1068 = .ok (.ireturn, 1) := by decide +kernel
theorem dL_law_1069 : decode cL_law 1069 = .ok (.goto 309, 3) := by decide +kernel
theorem dL_law_1072 : decode cL_law 1072 = .ok (.aload_n 1, 1) := by decide +kernel
theorem dL_law_1073 : decode cL_law 1073 = .ok (.aload_n 0, 1) := by decide +kernel
theorem dL_law_1074 : decode cL_law 1074 = .ok (.iload 4, 2) := by decide +kernel
theorem dL_law_1076 : decode cL_law 1076 = .ok (.iconst 1, 1) := by decide +kernel
theorem dL_law_1077 : decode cL_law 1077 = .ok (.iadd, 1) := by decide +kernel
theorem dL_law_1078 : decode cL_law 1078 = .ok (.iaload, 1) := by decide +kernel
theorem dL_law_1079 : decode cL_law 1079 = .ok (.aload_n 3, 1) := by decide +kernel
theorem dL_law_1080 : decode cL_law 1080 = .ok (.invokestatic 134, 3) := by decide +kernel
theorem dL_law_1083 : decode cL_law 1083 = .ok (.istore 5, 2) := by decide +kernel
theorem dL_law_1085 : decode cL_law 1085 = .ok (.aload_n 2, 1) := by decide +kernel
theorem dL_law_1086 : decode cL_law 1086 = .ok (.aload_n 0, 1) := by decide +kernel
theorem dL_law_1087 : decode cL_law 1087 = .ok (.iload 4, 2) := by decide +kernel
theorem dL_law_1089 : decode cL_law 1089 = .ok (.iconst 1, 1) := by decide +kernel
theorem dL_law_1090 : decode cL_law 1090 = .ok (.iadd, 1) := by decide +kernel
theorem dL_law_1091 : decode cL_law 1091 = .ok (.iaload, 1) := by decide +kernel
theorem dL_law_1092 : decode cL_law 1092 = .ok (.invokevirtual 136, 3) := by decide +kernel
theorem dL_law_1095 : decode cL_law 1095 = .ok (.istore 6, 2) := by decide +kernel
theorem dL_law_1097 : decode cL_law 1097 = .ok (.aload_n 2, 1) := by decide +kernel
theorem dL_law_1098 : decode cL_law 1098 = .ok (.invokevirtual 88, 3) := by decide +kernel
theorem dL_law_1101 : decode cL_law 1101 = .ok (.iload 5, 2) := by decide +kernel
theorem dL_law_1103 : decode cL_law 1103 = .ok (.if_icmp .eq 5, 3) := by decide +kernel
theorem dL_law_1106 : decode cL_law 1106 = .ok (.iconst 0, 1) := by decide +kernel
theorem dL_law_1107 : decode cL_law 1107 = .ok (.ireturn, 1) := by decide +kernel
theorem dL_law_1108 : decode cL_law 1108 = .ok (.iload 5, 2) := by decide +kernel
theorem dL_law_1110 : decode cL_law 1110 = .ok (.ifCond .ne 15, 3) := by decide +kernel
theorem dL_law_1113 : decode cL_law 1113 = .ok (.aload_n 3, 1) := by decide +kernel
theorem dL_law_1114 : decode cL_law 1114 = .ok (.iconst 0, 1) := by decide +kernel
theorem dL_law_1115 : decode cL_law 1115 = .ok (.laload, 1) := by decide +kernel
theorem dL_law_1116 : decode cL_law 1116 = .ok (.iload 6, 2) := by decide +kernel
theorem dL_law_1118 : decode cL_law 1118 = .ok (.i2l, 1) := by decide +kernel
theorem dL_law_1119 : decode cL_law 1119 = .ok (.lcmp, 1) := by decide +kernel
theorem dL_law_1120 : decode cL_law 1120 = .ok (.ifCond .eq 5, 3) := by decide +kernel
theorem dL_law_1123 : decode cL_law 1123 = .ok (.iconst 0, 1) := by decide +kernel
theorem dL_law_1124 : decode cL_law 1124 = .ok (.ireturn, 1) := by decide +kernel
theorem dL_law_1125 : decode cL_law 1125 = .ok (.goto 253, 3) := by decide +kernel
theorem dL_law_1128 : decode cL_law 1128 = .ok (.aload_n 1, 1) := by decide +kernel
theorem dL_law_1129 : decode cL_law 1129 = .ok (.aload_n 0, 1) := by decide +kernel
theorem dL_law_1130 : decode cL_law 1130 = .ok (.iload 4, 2) := by decide +kernel
theorem dL_law_1132 : decode cL_law 1132 = .ok (.iconst 1, 1) := by decide +kernel
theorem dL_law_1133 : decode cL_law 1133 = .ok (.iadd, 1) := by decide +kernel
theorem dL_law_1134 : decode cL_law 1134 = .ok (.iaload, 1) := by decide +kernel
theorem dL_law_1135 : decode cL_law 1135 = .ok (.aload_n 0, 1) := by decide +kernel
theorem dL_law_1136 : decode cL_law 1136 = .ok (.iload 4, 2) := by decide +kernel
theorem dL_law_1138 : decode cL_law 1138 = .ok (.iconst 2, 1) := by decide +kernel
theorem dL_law_1139 : decode cL_law 1139 = .ok (.iadd, 1) := by decide +kernel
theorem dL_law_1140 : decode cL_law 1140 = .ok (.iaload, 1) := by decide +kernel
theorem dL_law_1141 : decode cL_law 1141 = .ok (.ifCond .eq 7, 3) := by decide +kernel
theorem dL_law_1144 : decode cL_law 1144 = .ok (.iconst 1, 1) := by decide +kernel
theorem dL_law_1145 : decode cL_law 1145 = .ok (.goto 4, 3) := by decide +kernel
theorem dL_law_1148 : decode cL_law 1148 = .ok (.iconst 0, 1) := by decide +kernel
theorem dL_law_1149 : decode cL_law 1149 = .ok (.aload_n 3, 1) := by decide +kernel
theorem dL_law_1150 : decode cL_law 1150 = .ok (.invokestatic 137, 3) := by decide +kernel
theorem dL_law_1153 : decode cL_law 1153 = .ok (.istore 5, 2) := by decide +kernel
theorem dL_law_1155 : decode cL_law 1155 = .ok (.aload_n 2, 1) := by decide +kernel
theorem dL_law_1156 : decode cL_law 1156 = .ok (.aload_n 0, 1) := by decide +kernel
theorem dL_law_1157 : decode cL_law 1157 = .ok (.iload 4, 2) := by decide +kernel
theorem dL_law_1159 : decode cL_law 1159 = .ok (.iconst 1, 1) := by decide +kernel
theorem dL_law_1160 : decode cL_law 1160 = .ok (.iadd, 1) := by decide +kernel
theorem dL_law_1161 : decode cL_law 1161 = .ok (.iaload, 1) := by decide +kernel
theorem dL_law_1162 : decode cL_law 1162 = .ok (.aload_n 0, 1) := by decide +kernel
theorem dL_law_1163 : decode cL_law 1163 = .ok (.iload 4, 2) := by decide +kernel
theorem dL_law_1165 : decode cL_law 1165 = .ok (.iconst 2, 1) := by decide +kernel
theorem dL_law_1166 : decode cL_law 1166 = .ok (.iadd, 1) := by decide +kernel
theorem dL_law_1167 : decode cL_law 1167 = .ok (.iaload, 1) := by decide +kernel
theorem dL_law_1168 : decode cL_law 1168 = .ok (.ifCond .eq 7, 3) := by decide +kernel
theorem dL_law_1171 : decode cL_law 1171 = .ok (.iconst 1, 1) := by decide +kernel
theorem dL_law_1172 : decode cL_law 1172 = .ok (.goto 4, 3) := by decide +kernel
theorem dL_law_1175 : decode cL_law 1175 = .ok (.iconst 0, 1) := by decide +kernel
theorem dL_law_1176 : decode cL_law 1176 = .ok (.invokevirtual 139, 3) := by decide +kernel
theorem dL_law_1179 : decode cL_law 1179 = .ok (.lstore 6, 2) := by decide +kernel
theorem dL_law_1181 : decode cL_law 1181 = .ok (.aload_n 2, 1) := by decide +kernel
theorem dL_law_1182 : decode cL_law 1182 = .ok (.invokevirtual 88, 3) := by decide +kernel
theorem dL_law_1185 : decode cL_law 1185 = .ok (.iload 5, 2) := by decide +kernel
theorem dL_law_1187 : decode cL_law 1187 = .ok (.if_icmp .eq 5, 3) := by decide +kernel
theorem dL_law_1190 : decode cL_law 1190 = .ok (.iconst 0, 1) := by decide +kernel
theorem dL_law_1191 : decode cL_law 1191 = .ok (.ireturn, 1) := by decide +kernel
theorem dL_law_1192 : decode cL_law 1192 = .ok (.iload 5, 2) := by decide +kernel
theorem dL_law_1194 : decode cL_law 1194 = .ok (.ifCond .ne 14, 3) := by decide +kernel
theorem dL_law_1197 : decode cL_law 1197 = .ok (.aload_n 3, 1) := by decide +kernel
theorem dL_law_1198 : decode cL_law 1198 = .ok (.iconst 0, 1) := by decide +kernel
theorem dL_law_1199 : decode cL_law 1199 = .ok (.laload, 1) := by decide +kernel
theorem dL_law_1200 : decode cL_law 1200 = .ok (.lload 6, 2) := by decide +kernel
theorem dL_law_1202 : decode cL_law 1202 = .ok (.lcmp, 1) := by decide +kernel
theorem dL_law_1203 : decode cL_law 1203 = .ok (.ifCond .eq 5, 3) := by decide +kernel
theorem dL_law_1206 : decode cL_law 1206 = .ok (.iconst 0, 1) := by decide +kernel
theorem dL_law_1207 : decode cL_law 1207 = .ok (.ireturn, 1) := by decide +kernel
theorem dL_law_1208 : decode cL_law 1208 = .ok (.goto 170, 3) := by decide +kernel
theorem dL_law_1211 : decode cL_law 1211 = .ok (.aload_n 1, 1) := by decide +kernel
theorem dL_law_1212 : decode cL_law 1212 = .ok (.aload_n 0, 1) := by decide +kernel
theorem dL_law_1213 : decode cL_law 1213 = .ok (.iload 4, 2) := by decide +kernel
theorem dL_law_1215 : decode cL_law 1215 = .ok (.iconst 1, 1) := by decide +kernel
theorem dL_law_1216 : decode cL_law 1216 = .ok (.iadd, 1) := by decide +kernel
theorem dL_law_1217 : decode cL_law 1217 = .ok (.iaload, 1) := by decide +kernel
theorem dL_law_1218 : decode cL_law 1218 = .ok (.aload_n 3, 1) := by decide +kernel
theorem dL_law_1219 : decode cL_law 1219 = .ok (.invokestatic 140, 3) := by decide +kernel
theorem dL_law_1222 : decode cL_law 1222 = .ok (.istore 5, 2) := by decide +kernel
theorem dL_law_1224 : decode cL_law 1224 = .ok (.aload_n 2, 1) := by decide +kernel
theorem dL_law_1225 : decode cL_law 1225 = .ok (.aload_n 0, 1) := by decide +kernel
theorem dL_law_1226 : decode cL_law 1226 = .ok (.iload 4, 2) := by decide +kernel
theorem dL_law_1228 : decode cL_law 1228 = .ok (.iconst 1, 1) := by decide +kernel
theorem dL_law_1229 : decode cL_law 1229 = .ok (.iadd, 1) := by decide +kernel
theorem dL_law_1230 : decode cL_law 1230 = .ok (.iaload, 1) := by decide +kernel
theorem dL_law_1231 : decode cL_law 1231 = .ok (.invokevirtual 142, 3) := by decide +kernel
theorem dL_law_1234 : decode cL_law 1234 = .ok (.lstore 6, 2) := by decide +kernel
theorem dL_law_1236 : decode cL_law 1236 = .ok (.aload_n 2, 1) := by decide +kernel
theorem dL_law_1237 : decode cL_law 1237 = .ok (.invokevirtual 88, 3) := by decide +kernel
theorem dL_law_1240 : decode cL_law 1240 = .ok (.iload 5, 2) := by decide +kernel
theorem dL_law_1242 : decode cL_law 1242 = .ok (.if_icmp .eq 5, 3) := by decide +kernel
theorem dL_law_1245 : decode cL_law 1245 = .ok (.iconst 0, 1) := by decide +kernel
theorem dL_law_1246 : decode cL_law 1246 = .ok (.ireturn, 1) := by decide +kernel
theorem dL_law_1247 : decode cL_law 1247 = .ok (.iload 5, 2) := by decide +kernel
theorem dL_law_1249 : decode cL_law 1249 = .ok (.ifCond .ne 14, 3) := by decide +kernel
theorem dL_law_1252 : decode cL_law 1252 = .ok (.aload_n 3, 1) := by decide +kernel
theorem dL_law_1253 : decode cL_law 1253 = .ok (.iconst 0, 1) := by decide +kernel
theorem dL_law_1254 : decode cL_law 1254 = .ok (.laload, 1) := by decide +kernel
theorem dL_law_1255 : decode cL_law 1255 = .ok (.lload 6, 2) := by decide +kernel
theorem dL_law_1257 : decode cL_law 1257 = .ok (.lcmp, 1) := by decide +kernel
theorem dL_law_1258 : decode cL_law 1258 = .ok (.ifCond .eq 5, 3) := by decide +kernel
theorem dL_law_1261 : decode cL_law 1261 = .ok (.iconst 0, 1) := by decide +kernel
theorem dL_law_1262 : decode cL_law 1262 = .ok (.ireturn, 1) := by decide +kernel
theorem dL_law_1263 : decode cL_law 1263 = .ok (.goto 115, 3) := by decide +kernel
theorem dL_law_1266 : decode cL_law 1266 = .ok (.aload_n 1, 1) := by decide +kernel
theorem dL_law_1267 : decode cL_law 1267 = .ok (.aload_n 0, 1) := by decide +kernel
theorem dL_law_1268 : decode cL_law 1268 = .ok (.iload 4, 2) := by decide +kernel
theorem dL_law_1270 : decode cL_law 1270 = .ok (.iconst 1, 1) := by decide +kernel
theorem dL_law_1271 : decode cL_law 1271 = .ok (.iadd, 1) := by decide +kernel
theorem dL_law_1272 : decode cL_law 1272 = .ok (.iaload, 1) := by decide +kernel
theorem dL_law_1273 : decode cL_law 1273 = .ok (.aload_n 3, 1) := by decide +kernel
theorem dL_law_1274 : decode cL_law 1274 = .ok (.invokestatic 143, 3) := by decide +kernel
theorem dL_law_1277 : decode cL_law 1277 = .ok (.istore 5, 2) := by decide +kernel
theorem dL_law_1279 : decode cL_law 1279 = .ok (.aload_n 2, 1) := by decide +kernel
theorem dL_law_1280 : decode cL_law 1280 = .ok (.aload_n 0, 1) := by decide +kernel
theorem dL_law_1281 : decode cL_law 1281 = .ok (.iload 4, 2) := by decide +kernel
theorem dL_law_1283 : decode cL_law 1283 = .ok (.iconst 1, 1) := by decide +kernel
theorem dL_law_1284 : decode cL_law 1284 = .ok (.iadd, 1) := by decide +kernel
theorem dL_law_1285 : decode cL_law 1285 = .ok (.iaload, 1) := by decide +kernel
theorem dL_law_1286 : decode cL_law 1286 = .ok (.invokevirtual 145, 3) := by decide +kernel
theorem dL_law_1289 : decode cL_law 1289 = .ok (.istore 6, 2) := by decide +kernel
theorem dL_law_1291 : decode cL_law 1291 = .ok (.aload_n 2, 1) := by decide +kernel
theorem dL_law_1292 : decode cL_law 1292 = .ok (.invokevirtual 88, 3) := by decide +kernel
theorem dL_law_1295 : decode cL_law 1295 = .ok (.iload 5, 2) := by decide +kernel
theorem dL_law_1297 : decode cL_law 1297 = .ok (.if_icmp .eq 5, 3) := by decide +kernel
theorem dL_law_1300 : decode cL_law 1300 = .ok (.iconst 0, 1) := by decide +kernel
theorem dL_law_1301 : decode cL_law 1301 = .ok (.ireturn, 1) := by decide +kernel
theorem dL_law_1302 : decode cL_law 1302 = .ok (.iload 5, 2) := by decide +kernel
theorem dL_law_1304 : decode cL_law 1304 = .ok (.ifCond .ne 15, 3) := by decide +kernel
theorem dL_law_1307 : decode cL_law 1307 = .ok (.aload_n 3, 1) := by decide +kernel
theorem dL_law_1308 : decode cL_law 1308 = .ok (.iconst 0, 1) := by decide +kernel
theorem dL_law_1309 : decode cL_law 1309 = .ok (.laload, 1) := by decide +kernel
theorem dL_law_1310 : decode cL_law 1310 = .ok (.iload 6, 2) := by decide +kernel
theorem dL_law_1312 : decode cL_law 1312 = .ok (.i2l, 1) := by decide +kernel
theorem dL_law_1313 : decode cL_law 1313 = .ok (.lcmp, 1) := by decide +kernel
theorem dL_law_1314 : decode cL_law 1314 = .ok (.ifCond .eq 5, 3) := by decide +kernel
theorem dL_law_1317 : decode cL_law 1317 = .ok (.iconst 0, 1) := by decide +kernel
theorem dL_law_1318 : decode cL_law 1318 = .ok (.ireturn, 1) := by decide +kernel
theorem dL_law_1319 : decode cL_law 1319 = .ok (.goto 59, 3) := by decide +kernel
theorem dL_law_1322 : decode cL_law 1322 = .ok (.aload_n 1, 1) := by decide +kernel
theorem dL_law_1323 : decode cL_law 1323 = .ok (.aload_n 0, 1) := by decide +kernel
theorem dL_law_1324 : decode cL_law 1324 = .ok (.iload 4, 2) := by decide +kernel
theorem dL_law_1326 : decode cL_law 1326 = .ok (.iconst 1, 1) := by decide +kernel
theorem dL_law_1327 : decode cL_law 1327 = .ok (.iadd, 1) := by decide +kernel
theorem dL_law_1328 : decode cL_law 1328 = .ok (.iaload, 1) := by decide +kernel
theorem dL_law_1329 : decode cL_law 1329 = .ok (.aload_n 3, 1) := by decide +kernel
theorem dL_law_1330 : decode cL_law 1330 = .ok (.invokestatic 146, 3) := by decide +kernel
theorem dL_law_1333 : decode cL_law 1333 = .ok (.istore 5, 2) := by decide +kernel
theorem dL_law_1335 : decode cL_law 1335 = .ok (.aload_n 2, 1) := by decide +kernel
theorem dL_law_1336 : decode cL_law 1336 = .ok (.aload_n 0, 1) := by decide +kernel
theorem dL_law_1337 : decode cL_law 1337 = .ok (.iload 4, 2) := by decide +kernel
theorem dL_law_1339 : decode cL_law 1339 = .ok (.iconst 1, 1) := by decide +kernel
theorem dL_law_1340 : decode cL_law 1340 = .ok (.iadd, 1) := by decide +kernel
theorem dL_law_1341 : decode cL_law 1341 = .ok (.iaload, 1) := by decide +kernel
theorem dL_law_1342 : decode cL_law 1342 = .ok (.invokevirtual 148, 3) := by decide +kernel
theorem dL_law_1345 : decode cL_law 1345 = .ok (.istore 6, 2) := by decide +kernel
theorem dL_law_1347 : decode cL_law 1347 = .ok (.aload_n 2, 1) := by decide +kernel
theorem dL_law_1348 : decode cL_law 1348 = .ok (.invokevirtual 88, 3) := by decide +kernel
theorem dL_law_1351 : decode cL_law 1351 = .ok (.iload 5, 2) := by decide +kernel
theorem dL_law_1353 : decode cL_law 1353 = .ok (.if_icmp .eq 5, 3) := by decide +kernel
theorem dL_law_1356 : decode cL_law 1356 = .ok (.iconst 0, 1) := by decide +kernel
theorem dL_law_1357 : decode cL_law 1357 = .ok (.ireturn, 1) := by decide +kernel
theorem dL_law_1358 : decode cL_law 1358 = .ok (.iload 5, 2) := by decide +kernel
theorem dL_law_1360 : decode cL_law 1360 = .ok (.ifCond .ne 15, 3) := by decide +kernel
theorem dL_law_1363 : decode cL_law 1363 = .ok (.aload_n 3, 1) := by decide +kernel
theorem dL_law_1364 : decode cL_law 1364 = .ok (.iconst 0, 1) := by decide +kernel
theorem dL_law_1365 : decode cL_law 1365 = .ok (.laload, 1) := by decide +kernel
theorem dL_law_1366 : decode cL_law 1366 = .ok (.iload 6, 2) := by decide +kernel
theorem dL_law_1368 : decode cL_law 1368 = .ok (.i2l, 1) := by decide +kernel
theorem dL_law_1369 : decode cL_law 1369 = .ok (.lcmp, 1) := by decide +kernel
theorem dL_law_1370 : decode cL_law 1370 = .ok (.ifCond .eq 5, 3) := by decide +kernel
theorem dL_law_1373 : decode cL_law 1373 = .ok (.iconst 0, 1) := by decide +kernel
theorem dL_law_1374 : decode cL_law 1374 = .ok (.ireturn, 1) := by decide +kernel
theorem dL_law_1375 : decode cL_law 1375 = .ok (.goto 3, 3) := by decide +kernel
theorem dL_law_1378 : decode cL_law 1378 = .ok (.iinc 4 4, 3) := by decide +kernel
theorem dL_law_1381 : decode cL_law 1381 = .ok (.goto (-1358), 3) := by decide +kernel
theorem dL_law_1384 : decode cL_law 1384 = .ok (.iconst 1, 1) := by decide +kernel
theorem dL_law_1385 : decode cL_law 1385 = .ok (.ireturn, 1) := by decide +kernel
abbrev vwCl : List vw_C := [(RJx4a65c, TJx4a65c, 3), (RX0, TX0, 2), (RX1, TX1, 5), (RX2, TX2, 2), (RX3, TX3, 5), (RX4, TX4, 3), (RX5, TX5, 7), (RX6, TX6, 3), (RX7, TX7, 8), (RX8, TX8, 25)]
end
section
theorem zz_last : True := trivial
end

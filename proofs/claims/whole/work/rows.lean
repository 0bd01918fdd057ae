section
-- ===== PART A: goes FIRST, ahead of the names: the tables' words, and 'selects' of the private methods out of them =====
/-- a private method of a class that the tables say can be made, by its rows of tables_1 -/
def lw_okq (q : MethodName × Nat) : Prop := (q.1.cls ≠ "java/lang/invoke/MethodHandle" ∧ q.1.cls ≠ "java/lang/invoke/VarHandle") ∧ Cond.instantiable q.1.cls q.2 ∈ tables_1 ∧ Cond.privateMethod q.1 ∈ tables_1 ∧ Cond.instanceMethod q.1 ∈ tables_1
theorem lw_p0 : lw_okq (⟨"TrickFinder$Row", "slotOf", "(J)I"⟩, 8) := ⟨⟨by decide +kernel, by decide +kernel⟩, List.mem_of_getElem? (i := 53) (by decide +kernel), List.mem_of_getElem? (i := 168) (by decide +kernel), List.mem_of_getElem? (i := 169) (by decide +kernel)⟩
theorem lw_p1 : lw_okq (⟨"TrickFinder$Tape", "readFormula", "(I)J"⟩, 5) := ⟨⟨by decide +kernel, by decide +kernel⟩, List.mem_of_getElem? (i := 109) (by decide +kernel), List.mem_of_getElem? (i := 211) (by decide +kernel), List.mem_of_getElem? (i := 212) (by decide +kernel)⟩
theorem lw_p2 : lw_okq (⟨"TrickFinder$Tape", "readPart", "(I)J"⟩, 5) := ⟨⟨by decide +kernel, by decide +kernel⟩, List.mem_of_getElem? (i := 109) (by decide +kernel), List.mem_of_getElem? (i := 215) (by decide +kernel), List.mem_of_getElem? (i := 216) (by decide +kernel)⟩
theorem lw_p3 : lw_okq (⟨"TrickFinder$Tape", "next", "()I"⟩, 5) := ⟨⟨by decide +kernel, by decide +kernel⟩, List.mem_of_getElem? (i := 109) (by decide +kernel), List.mem_of_getElem? (i := 219) (by decide +kernel), List.mem_of_getElem? (i := 220) (by decide +kernel)⟩
theorem lw_p4 : lw_okq (⟨"TrickFinder$Tape", "here", "()I"⟩, 5) := ⟨⟨by decide +kernel, by decide +kernel⟩, List.mem_of_getElem? (i := 109) (by decide +kernel), List.mem_of_getElem? (i := 223) (by decide +kernel), List.mem_of_getElem? (i := 224) (by decide +kernel)⟩
theorem lw_p5 : lw_okq (⟨"TrickFinder$Tape", "readNumber", "()J"⟩, 5) := ⟨⟨by decide +kernel, by decide +kernel⟩, List.mem_of_getElem? (i := 109) (by decide +kernel), List.mem_of_getElem? (i := 231) (by decide +kernel), List.mem_of_getElem? (i := 232) (by decide +kernel)⟩
theorem lw_p6 : lw_okq (⟨"TrickFinder$Tape", "failAt", "(I)J"⟩, 5) := ⟨⟨by decide +kernel, by decide +kernel⟩, List.mem_of_getElem? (i := 109) (by decide +kernel), List.mem_of_getElem? (i := 238) (by decide +kernel), List.mem_of_getElem? (i := 239) (by decide +kernel)⟩
theorem lw_p7 : lw_okq (⟨"TrickFinder$Tape", "readEnclosed", "(I)J"⟩, 5) := ⟨⟨by decide +kernel, by decide +kernel⟩, List.mem_of_getElem? (i := 109) (by decide +kernel), List.mem_of_getElem? (i := 247) (by decide +kernel), List.mem_of_getElem? (i := 248) (by decide +kernel)⟩
theorem lw_p8 : lw_okq (⟨"TrickFinder$Tape", "hasError", "()Z"⟩, 5) := ⟨⟨by decide +kernel, by decide +kernel⟩, List.mem_of_getElem? (i := 109) (by decide +kernel), List.mem_of_getElem? (i := 251) (by decide +kernel), List.mem_of_getElem? (i := 252) (by decide +kernel)⟩
theorem lw_p9 : lw_okq (⟨"java/lang/Throwable", "fillInStackTrace", "(I)Ljava/lang/Throwable;"⟩, 6) := ⟨⟨by decide +kernel, by decide +kernel⟩, List.mem_of_getElem? (i := 359) (by decide +kernel), List.mem_of_getElem? (i := 357) (by decide +kernel), List.mem_of_getElem? (i := 358) (by decide +kernel)⟩
theorem lw_p10 : lw_okq (⟨"TrickFinder$Row", "makeCost", "(ILTrickFinder$Settings;)V"⟩, 8) := ⟨⟨by decide +kernel, by decide +kernel⟩, List.mem_of_getElem? (i := 53) (by decide +kernel), List.mem_of_getElem? (i := 535) (by decide +kernel), List.mem_of_getElem? (i := 536) (by decide +kernel)⟩
theorem lw_p11 : lw_okq (⟨"TrickFinder$Row", "add", "(JIII)V"⟩, 8) := ⟨⟨by decide +kernel, by decide +kernel⟩, List.mem_of_getElem? (i := 53) (by decide +kernel), List.mem_of_getElem? (i := 540) (by decide +kernel), List.mem_of_getElem? (i := 541) (by decide +kernel)⟩
theorem lw_p12 : lw_okq (⟨"TrickFinder$Row", "isFull", "()Z"⟩, 8) := ⟨⟨by decide +kernel, by decide +kernel⟩, List.mem_of_getElem? (i := 53) (by decide +kernel), List.mem_of_getElem? (i := 544) (by decide +kernel), List.mem_of_getElem? (i := 545) (by decide +kernel)⟩
theorem lw_p13 : lw_okq (⟨"TrickFinder$Row", "addConstants", "(LTrickFinder$Settings;)V"⟩, 8) := ⟨⟨by decide +kernel, by decide +kernel⟩, List.mem_of_getElem? (i := 53) (by decide +kernel), List.mem_of_getElem? (i := 549) (by decide +kernel), List.mem_of_getElem? (i := 550) (by decide +kernel)⟩
theorem lw_p14 : lw_okq (⟨"TrickFinder$Row", "addOfTwo", "(II)V"⟩, 8) := ⟨⟨by decide +kernel, by decide +kernel⟩, List.mem_of_getElem? (i := 53) (by decide +kernel), List.mem_of_getElem? (i := 557) (by decide +kernel), List.mem_of_getElem? (i := 558) (by decide +kernel)⟩
theorem lw_p15 : lw_okq (⟨"TrickFinder$Row", "addOfOne", "(II)V"⟩, 8) := ⟨⟨by decide +kernel, by decide +kernel⟩, List.mem_of_getElem? (i := 53) (by decide +kernel), List.mem_of_getElem? (i := 562) (by decide +kernel), List.mem_of_getElem? (i := 563) (by decide +kernel)⟩
def lw_privs_1 : List (MethodName × Nat) := [(⟨"TrickFinder$Row", "slotOf", "(J)I"⟩, 8), (⟨"TrickFinder$Tape", "readFormula", "(I)J"⟩, 5), (⟨"TrickFinder$Tape", "readPart", "(I)J"⟩, 5), (⟨"TrickFinder$Tape", "next", "()I"⟩, 5), (⟨"TrickFinder$Tape", "here", "()I"⟩, 5), (⟨"TrickFinder$Tape", "readNumber", "()J"⟩, 5), (⟨"TrickFinder$Tape", "failAt", "(I)J"⟩, 5), (⟨"TrickFinder$Tape", "readEnclosed", "(I)J"⟩, 5), (⟨"TrickFinder$Tape", "hasError", "()Z"⟩, 5), (⟨"java/lang/Throwable", "fillInStackTrace", "(I)Ljava/lang/Throwable;"⟩, 6), (⟨"TrickFinder$Row", "makeCost", "(ILTrickFinder$Settings;)V"⟩, 8), (⟨"TrickFinder$Row", "add", "(JIII)V"⟩, 8), (⟨"TrickFinder$Row", "isFull", "()Z"⟩, 8), (⟨"TrickFinder$Row", "addConstants", "(LTrickFinder$Settings;)V"⟩, 8), (⟨"TrickFinder$Row", "addOfTwo", "(II)V"⟩, 8), (⟨"TrickFinder$Row", "addOfOne", "(II)V"⟩, 8)]
theorem lw_r1 : ∀ q ∈ lw_privs_1, lw_okq q := List.forall_mem_cons.mpr ⟨lw_p0, List.forall_mem_cons.mpr ⟨lw_p1, List.forall_mem_cons.mpr ⟨lw_p2, List.forall_mem_cons.mpr ⟨lw_p3, List.forall_mem_cons.mpr ⟨lw_p4, List.forall_mem_cons.mpr ⟨lw_p5, List.forall_mem_cons.mpr ⟨lw_p6, List.forall_mem_cons.mpr ⟨lw_p7, List.forall_mem_cons.mpr ⟨lw_p8, List.forall_mem_cons.mpr ⟨lw_p9, List.forall_mem_cons.mpr ⟨lw_p10, List.forall_mem_cons.mpr ⟨lw_p11, List.forall_mem_cons.mpr ⟨lw_p12, List.forall_mem_cons.mpr ⟨lw_p13, List.forall_mem_cons.mpr ⟨lw_p14, List.forall_mem_cons.mpr ⟨lw_p15, fun _ h => absurd h List.not_mem_nil⟩⟩⟩⟩⟩⟩⟩⟩⟩⟩⟩⟩⟩⟩⟩⟩
theorem lw_p16 : lw_okq (⟨"TrickFinder$Row", "withPart", "(II)I"⟩, 8) := ⟨⟨by decide +kernel, by decide +kernel⟩, List.mem_of_getElem? (i := 53) (by decide +kernel), List.mem_of_getElem? (i := 623) (by decide +kernel), List.mem_of_getElem? (i := 624) (by decide +kernel)⟩
theorem lw_p17 : lw_okq (⟨"TrickFinder$Paper", "putEntry", "(LTrickFinder$Row;II)V"⟩, 2) := ⟨⟨by decide +kernel, by decide +kernel⟩, List.mem_of_getElem? (i := 94) (by decide +kernel), List.mem_of_getElem? (i := 635) (by decide +kernel), List.mem_of_getElem? (i := 636) (by decide +kernel)⟩
theorem lw_p18 : lw_okq (⟨"TrickFinder$Paper", "put", "(I)V"⟩, 2) := ⟨⟨by decide +kernel, by decide +kernel⟩, List.mem_of_getElem? (i := 94) (by decide +kernel), List.mem_of_getElem? (i := 640) (by decide +kernel), List.mem_of_getElem? (i := 641) (by decide +kernel)⟩
theorem lw_p19 : lw_okq (⟨"TrickFinder$Paper", "putNumber", "(I)V"⟩, 2) := ⟨⟨by decide +kernel, by decide +kernel⟩, List.mem_of_getElem? (i := 94) (by decide +kernel), List.mem_of_getElem? (i := 644) (by decide +kernel), List.mem_of_getElem? (i := 645) (by decide +kernel)⟩
theorem lw_p20 : lw_okq (⟨"TrickFinder$Paper", "putArgument", "(LTrickFinder$Row;II)V"⟩, 2) := ⟨⟨by decide +kernel, by decide +kernel⟩, List.mem_of_getElem? (i := 94) (by decide +kernel), List.mem_of_getElem? (i := 649) (by decide +kernel), List.mem_of_getElem? (i := 650) (by decide +kernel)⟩
theorem lw_p21 : lw_okq (⟨"TrickFinderModel", "no", "(I)I"⟩, 21) := ⟨⟨by decide +kernel, by decide +kernel⟩, List.mem_of_getElem? (i := 684) (by decide +kernel), List.mem_of_getElem? (i := 765) (by decide +kernel), List.mem_of_getElem? (i := 766) (by decide +kernel)⟩
theorem lw_p22 : lw_okq (⟨"TrickFinderModel", "add", "(JIIII)V"⟩, 21) := ⟨⟨by decide +kernel, by decide +kernel⟩, List.mem_of_getElem? (i := 684) (by decide +kernel), List.mem_of_getElem? (i := 835) (by decide +kernel), List.mem_of_getElem? (i := 836) (by decide +kernel)⟩
theorem lw_p23 : lw_okq (⟨"TrickFinderModel", "entryOf", "(J)I"⟩, 21) := ⟨⟨by decide +kernel, by decide +kernel⟩, List.mem_of_getElem? (i := 684) (by decide +kernel), List.mem_of_getElem? (i := 839) (by decide +kernel), List.mem_of_getElem? (i := 840) (by decide +kernel)⟩
theorem lw_p24 : lw_okq (⟨"TrickFinderModel", "addAll", "(II)V"⟩, 21) := ⟨⟨by decide +kernel, by decide +kernel⟩, List.mem_of_getElem? (i := 684) (by decide +kernel), List.mem_of_getElem? (i := 851) (by decide +kernel), List.mem_of_getElem? (i := 852) (by decide +kernel)⟩
theorem lw_p25 : lw_okq (⟨"TrickFinderModel", "isEntry", "(I)Z"⟩, 21) := ⟨⟨by decide +kernel, by decide +kernel⟩, List.mem_of_getElem? (i := 684) (by decide +kernel), List.mem_of_getElem? (i := 867) (by decide +kernel), List.mem_of_getElem? (i := 868) (by decide +kernel)⟩
theorem lw_p26 : lw_okq (⟨"TrickFinderModel", "told", "(II)I"⟩, 21) := ⟨⟨by decide +kernel, by decide +kernel⟩, List.mem_of_getElem? (i := 684) (by decide +kernel), List.mem_of_getElem? (i := 875) (by decide +kernel), List.mem_of_getElem? (i := 876) (by decide +kernel)⟩
theorem lw_p27 : lw_okq (⟨"TrickFinderModel", "putEntry", "(I)V"⟩, 21) := ⟨⟨by decide +kernel, by decide +kernel⟩, List.mem_of_getElem? (i := 684) (by decide +kernel), List.mem_of_getElem? (i := 906) (by decide +kernel), List.mem_of_getElem? (i := 907) (by decide +kernel)⟩
theorem lw_p28 : lw_okq (⟨"TrickFinderModel", "put", "(I)V"⟩, 21) := ⟨⟨by decide +kernel, by decide +kernel⟩, List.mem_of_getElem? (i := 684) (by decide +kernel), List.mem_of_getElem? (i := 910) (by decide +kernel), List.mem_of_getElem? (i := 911) (by decide +kernel)⟩
theorem lw_p29 : lw_okq (⟨"TrickFinderModel", "putArgument", "(I)V"⟩, 21) := ⟨⟨by decide +kernel, by decide +kernel⟩, List.mem_of_getElem? (i := 684) (by decide +kernel), List.mem_of_getElem? (i := 914) (by decide +kernel), List.mem_of_getElem? (i := 915) (by decide +kernel)⟩
theorem lw_p30 : lw_okq (⟨"TrickFinderModel", "formula", "(I)J"⟩, 21) := ⟨⟨by decide +kernel, by decide +kernel⟩, List.mem_of_getElem? (i := 684) (by decide +kernel), List.mem_of_getElem? (i := 936) (by decide +kernel), List.mem_of_getElem? (i := 937) (by decide +kernel)⟩
theorem lw_p31 : lw_okq (⟨"TrickFinderModel", "part", "(I)J"⟩, 21) := ⟨⟨by decide +kernel, by decide +kernel⟩, List.mem_of_getElem? (i := 684) (by decide +kernel), List.mem_of_getElem? (i := 940) (by decide +kernel), List.mem_of_getElem? (i := 941) (by decide +kernel)⟩
def lw_privs_2 : List (MethodName × Nat) := [(⟨"TrickFinder$Row", "withPart", "(II)I"⟩, 8), (⟨"TrickFinder$Paper", "putEntry", "(LTrickFinder$Row;II)V"⟩, 2), (⟨"TrickFinder$Paper", "put", "(I)V"⟩, 2), (⟨"TrickFinder$Paper", "putNumber", "(I)V"⟩, 2), (⟨"TrickFinder$Paper", "putArgument", "(LTrickFinder$Row;II)V"⟩, 2), (⟨"TrickFinderModel", "no", "(I)I"⟩, 21), (⟨"TrickFinderModel", "add", "(JIIII)V"⟩, 21), (⟨"TrickFinderModel", "entryOf", "(J)I"⟩, 21), (⟨"TrickFinderModel", "addAll", "(II)V"⟩, 21), (⟨"TrickFinderModel", "isEntry", "(I)Z"⟩, 21), (⟨"TrickFinderModel", "told", "(II)I"⟩, 21), (⟨"TrickFinderModel", "putEntry", "(I)V"⟩, 21), (⟨"TrickFinderModel", "put", "(I)V"⟩, 21), (⟨"TrickFinderModel", "putArgument", "(I)V"⟩, 21), (⟨"TrickFinderModel", "formula", "(I)J"⟩, 21), (⟨"TrickFinderModel", "part", "(I)J"⟩, 21)]
theorem lw_r2 : ∀ q ∈ lw_privs_2, lw_okq q := List.forall_mem_cons.mpr ⟨lw_p16, List.forall_mem_cons.mpr ⟨lw_p17, List.forall_mem_cons.mpr ⟨lw_p18, List.forall_mem_cons.mpr ⟨lw_p19, List.forall_mem_cons.mpr ⟨lw_p20, List.forall_mem_cons.mpr ⟨lw_p21, List.forall_mem_cons.mpr ⟨lw_p22, List.forall_mem_cons.mpr ⟨lw_p23, List.forall_mem_cons.mpr ⟨lw_p24, List.forall_mem_cons.mpr ⟨lw_p25, List.forall_mem_cons.mpr ⟨lw_p26, List.forall_mem_cons.mpr ⟨lw_p27, List.forall_mem_cons.mpr ⟨lw_p28, List.forall_mem_cons.mpr ⟨lw_p29, List.forall_mem_cons.mpr ⟨lw_p30, List.forall_mem_cons.mpr ⟨lw_p31, fun _ h => absurd h List.not_mem_nil⟩⟩⟩⟩⟩⟩⟩⟩⟩⟩⟩⟩⟩⟩⟩⟩
theorem lw_p32 : lw_okq (⟨"TrickFinderModel", "next", "()I"⟩, 21) := ⟨⟨by decide +kernel, by decide +kernel⟩, List.mem_of_getElem? (i := 684) (by decide +kernel), List.mem_of_getElem? (i := 944) (by decide +kernel), List.mem_of_getElem? (i := 945) (by decide +kernel)⟩
theorem lw_p33 : lw_okq (⟨"TrickFinderModel", "number", "()J"⟩, 21) := ⟨⟨by decide +kernel, by decide +kernel⟩, List.mem_of_getElem? (i := 684) (by decide +kernel), List.mem_of_getElem? (i := 951) (by decide +kernel), List.mem_of_getElem? (i := 952) (by decide +kernel)⟩
theorem lw_p34 : lw_okq (⟨"TrickFinderModel", "wrong", "()J"⟩, 21) := ⟨⟨by decide +kernel, by decide +kernel⟩, List.mem_of_getElem? (i := 684) (by decide +kernel), List.mem_of_getElem? (i := 955) (by decide +kernel), List.mem_of_getElem? (i := 956) (by decide +kernel)⟩
def lw_privs_3 : List (MethodName × Nat) := [(⟨"TrickFinderModel", "next", "()I"⟩, 21), (⟨"TrickFinderModel", "number", "()J"⟩, 21), (⟨"TrickFinderModel", "wrong", "()J"⟩, 21)]
theorem lw_r3 : ∀ q ∈ lw_privs_3, lw_okq q := List.forall_mem_cons.mpr ⟨lw_p32, List.forall_mem_cons.mpr ⟨lw_p33, List.forall_mem_cons.mpr ⟨lw_p34, fun _ h => absurd h List.not_mem_nil⟩⟩⟩
def lw_privs : List (MethodName × Nat) := lw_privs_1 ++ (lw_privs_2 ++ (lw_privs_3))
def lw_tbl : List Cond := k2_sels lw_privs ++ tables_1
theorem lw_privs_ok : ∀ q ∈ lw_privs, lw_okq q := by
  show ∀ q ∈ lw_privs_1 ++ (lw_privs_2 ++ (lw_privs_3)), lw_okq q
  exact List.forall_mem_append.mpr ⟨lw_r1, List.forall_mem_append.mpr ⟨lw_r2, lw_r3⟩⟩
/-- the streams that the claim lets the run draw from -/
abbrev lw_cs : List Choice := [Jvm.Choice.named "NaN.bits"]
theorem lw_bits : nanBits ∈ lw_cs := by first | decide | exact List.mem_cons_self | simp [lw_cs, nanBits]
end
section
/-! ===== BEGIN words of one list among another's, by their places ===== -/
theorem goodIn_r {big : List Cond} (ws : List Cond) (ps : List Nat) (hp : ws = ps.filterMap (fun i => big[i]?)) (h : ws.all goodWord = true) : GoodIn big ws := by
  intro w hw
  have h1 := List.all_eq_true.mp h w hw
  rw [hp] at hw
  obtain ⟨i, -, hi⟩ := List.mem_filterMap.mp hw
  have hm : w ∈ big := by first | exact List.mem_of_getElem? hi | exact List.getElem?_mem hi
  exact ⟨hm, good_of_word h1⟩
theorem goodIn_app {big a b : List Cond} (ha : GoodIn big a) (hb : GoodIn big b) : GoodIn big (a ++ b) := fun w h => (List.mem_append.mp h).elim (ha w) (hb w)
theorem goodIn_ca {big a b : List Cond} {c : Cond} (ha : GoodIn big (c :: a)) (hb : GoodIn big b) : GoodIn big (c :: (a ++ b)) := fun w h => (List.mem_cons.mp h).elim (fun e => ha w (List.mem_cons.mpr (Or.inl e))) (fun h => (List.mem_append.mp h).elim (fun h => ha w (List.mem_cons.mpr (Or.inr h))) (hb w))
theorem goodIn_sub {big ws : List Cond} (hm : ∀ w ∈ ws, w ∈ big) (h : ws.all goodWord = true) : GoodIn big ws := fun w hw => ⟨hm w hw, good_of_word (List.all_eq_true.mp h w hw)⟩
/-! ===== END ===== -/

/-! ===== BEGIN exceptions that leave a method, and their catching by the caller (launches without stack traces) ===== -/
section VXA
/-! The laws vx_back, vx_callV, vx_callS, vx_callSW, vx_throw0, vx_throwS follow proofs of the library, with one case more: JvmDerived/Free/Laws.lean (Back.of_free), Shelf42/LK1.lean (callV, callS), Shelf/KitTraced.lean (throwNew0V, throwNewS). -/
/-- where a method has thrown q: the class by its name, the cell, what was written, the world -/
def vx_T (XC : String → State → State → Prop) (st : State) (q : Addr) (t : State) (mc ms : Nat) (free : Addr → Prop) : Prop :=
  ∃ (E : String) (ce : Cell) (L : List Loc), XC E st t ∧ t.heap[q]? = some ce ∧ ce.vm = .none ∧ st.vm.findClass E = some ce.cls ∧ st.WarmedH t.vm ∧ st.sameButNew ({ t with vm := st.vm } : State) L mc ms ∧ ∀ z ∈ L, free z.base
def vx_Q (Qc : Array Value → State → Outcome → State → Prop) (XC : String → State → State → Prop) (mc ms : Nat) (free : Addr → Prop) : Array Value → State → Outcome → State → Prop := fun a st o t =>
  (Qc a st o t ∧ ∃ L, FrameEnd st o t L mc ms ∧ ∀ q ∈ L, free q.base) ∨ ∃ q, o = .threw q ∧ vx_T XC st q t mc ms free
/-- a callee that returns or throws -/
def vx_Met (l : Launch) (y : MethodName) (ws : List Cond) (rm : Room) (Pc : Array Value → State → Prop) (Qc : Array Value → State → Outcome → State → Prop) (XC : String → State → State → Prop) (mc ms : Nat) (free : Addr → Prop) : Prop :=
  MetFree l y (headSpec ws rm) Pc (fun _ _ _ _ _ => True) (vx_Q Qc XC mc ms free)
def vx_Post (XC : String → State → State → Prop) (mc ms : Nat) (free : Addr → Prop) : Pt → Array Value → Addr → Pt → Prop := fun A a q B =>
  ∃ (g : JFrame) (mk : MethodId) (t : State) (L : List Loc) (E : String) (ce : Cell), B.U.heap = t.heap ∧ B.U.vm = t.vm ∧ XC E (A.U.calling g mk a) t ∧ t.heap[q]? = some ce ∧ ce.vm = .none ∧ A.U.vm.findClass E = some ce.cls ∧ B.locs = A.locs ++ L ∧ (∀ z ∈ L, free z.base) ∧ B.cells = A.cells + mc ∧ B.slots = A.slots + ms
def vx_Back (l : Launch) (R : Room) (p : Program) (e : Env) (below : List Frame) (s : State) (sargs : Array Value) (y : MethodName) (len W9 : Nat)
    (Pre : Pt → Array Value → Prop) (Post : Pt → Array Value → Option Value → Pt → Prop) (PostX : Pt → Array Value → Addr → Pt → Prop) : Prop :=
  ∀ (m : MethodId) (meth : Method) (c : Code) (A : Pt) (g : JFrame) (ig : Instr) (mk : MethodId) (a : Array Value),
    Stand p l e R s m sargs below meth c A.U A.locs A.cells A.slots → g.method = m → g.locals.size = c.maxLocals → decode c.code g.pc = .ok (ig, len) →
    2 * g.monitorRoom + (g.stack.map fun v => v.category).sum ≤ W9 → A.U.methodNamed? y = some mk → Pre A a →
    (∃ (v : Option Value) (B : Pt), Stand p l e R s m sargs below meth c B.U B.locs B.cells B.slots ∧ Post A a v B ∧
      Steps p.tables e below (doInvoke e (A.U.setTop g) [] mk a).1 (B.U.setTop { g with pc := g.pc + len, stack := v.toList ++ g.stack })) ∨
    (∃ (q : Addr) (B : Pt), Stand p l e R s m sargs below meth c B.U B.locs B.cells B.slots ∧ PostX A a q B ∧
      Steps p.tables e below (doInvoke e (A.U.setTop g) [] mk a).1 ((B.U.setTop g).pushFrame (.throwing q)))
section Payer
variable {l : Launch} {R : Room} {p : Program} {e : Env} {below : List Frame} {s : State} {sargs : Array Value} {y : MethodName} {len W9 : Nat}
theorem vx_back {ws : List Cond} {rm : Room} {Pc : Array Value → State → Prop} {Qc : Array Value → State → Outcome → State → Prop} {XC : String → State → State → Prop} {mc ms : Nat} {free : Addr → Prop} {bytes : ByteArray} {maxL : Nat} {ret : Option FieldType}
    (hM : vx_Met l y ws rm Pc Qc XC mc ms free) (hblind : FrameBlind Pc) (hrc : rm.cells = mc) (hrs : rm.slots = ms)
    (hframes : rm.frames + 1 ≤ R.frames) (hlocals : W9 + (maxL + 11) + rm.locals ≤ R.locals)
    (hws : ∀ w ∈ ws, ∀ a' U, s.WarmedH U.vm → w.before a' U = true) (hcode : Cond.code y bytes maxL ret ∈ ws) (hinit : ∀ a' U, s.WarmedH U.vm → (Cond.initialized y.cls).before a' U = true) :
    vx_Back l R p e below s sargs y len W9 (PreOf R mc ms Pc) (PostOf Qc mc ms free) (vx_Post XC mc ms free) := by
  intro m meth c A g ig mk a X hg hsize hdg hW hn hp
  have h1 : (headSpec ws rm).pre.before a A.U = true := atoms_intro fun w hw => hws w hw _ _ X.warmed
  have h2 : (Cond.code y bytes maxL ret).before a A.U = true := hws _ hcode _ _ X.warmed
  have h3 : (Cond.initialized y.cls).before a A.U = true := hinit _ _ X.warmed
  have h4 : A.cells + (headSpec ws rm).room.cells ≤ R.cells := by rw [show (headSpec ws rm).room.cells = mc from hrc]; exact hp.1
  have h5 : A.slots + (headSpec ws rm).room.slots ≤ R.slots := by rw [show (headSpec ws rm).room.slots = ms from hrs]; exact hp.2.1
  have hPc : Pc a (A.U.calling g mk a) := hblind _ _ _ _ hp.2.2
  obtain ⟨U, Ls, c0, s0⟩ := A
  dsimp only [Pt.U, Pt.locs, Pt.cells, Pt.slots] at h1 h2 h3 h4 h5 X hn hPc ⊢
  obtain ⟨methY, cY, hmY, hcY, -, hlY, -, -, -, -⟩ := Cond.code_spec hn h2
  obtain ⟨kY, hkY, -⟩ := className_of_methodNamed hn
  have hinitY : kY.init = .initialized := Cond.initialized_spec (findClass_of_methodNamed hn) hkY h3
  have h : At U g.method c below := by rw [hg]; exact X.here
  have hlocals9 : W9 + (maxL + 11) + (headSpec ws rm).room.locals ≤ R.locals := hlocals
  have happ : (headSpec ws rm).appliesLoose y e.platform (U.calling g mk a) = true :=
    Spec.appliesLoose_calling (g := g) h hdg hn hkY hinitY
      (X.room_calling (g := g) (R' := (headSpec ws rm).room) hsize hmY hcY hframes (by rw [hlY]; omega) h4 h5) h1
  obtain ⟨mid, hmid⟩ := h.above
  have hfr : (U.setTop g).frames = (.java g :: mid) ++ below := by rw [State.frames_setTop' g h.top, hmid]; rfl
  obtain ⟨o, s₂, hsteps, -, hend, hq⟩ := Steps.callFree hM p X.admits X.cas X.clock (acts := []) hfr happ hPc trivial
  have hq' : vx_Q Qc XC mc ms free a (U.calling g mk a) o s₂ := hq
  rw [State.frames_setTop' g h.top] at hend
  obtain ⟨g₀, hg0⟩ := Option.isSome_iff_exists.mp h.top
  obtain ⟨r, hr⟩ := State.topJava?_eq_some.mp hg0
  have hr' : (({ U with heap := s₂.heap, slotsUsed := s₂.slotsUsed } : State).setVm s₂.vm).frames = .java g₀ :: r := hr
  rcases hq' with ⟨hqc, L, hfe, hL⟩ | ⟨q, rfl, E, ce, L, hx, hce, hcv, hcl, hW₂, hsm, hL⟩
  · obtain ⟨⟨v, rfl⟩, hW₂, e2, q2, q3, q4, q5, q6⟩ := id hfe
    have e3 : s₂ = ({ (U.calling g mk a).setFrames s₂.frames with heap := s₂.heap, slotsUsed := s₂.slotsUsed } : State).setVm s₂.vm := by
      have : s₂ = ({ s₂ with vm := (U.calling g mk a).vm } : State).setVm s₂.vm := rfl
      rw [e2] at this
      exact this
    obtain ⟨c₂, i₂, len₂, hc₂, hd₂, hf₂⟩ := hend
    have hW' : U.WarmedH s₂.vm := hW₂
    have hcc : c₂ = c := by
      have h1 : s₂.code? g.method = U.code? g.method := by
        rw [State.code?_eq, State.code?_eq, hW'.alike.method?]
      exact Option.some.inj (hc₂.symm.trans (h1.trans h.code))
    subst hcc
    have hlen : len₂ = len := by rw [hdg] at hd₂; cases hd₂; rfl
    subst hlen
    have hs₂ : s₂ = (({ U with heap := s₂.heap, slotsUsed := s₂.slotsUsed } : State).setVm s₂.vm).setTop { g with pc := g.pc + len₂, stack := v.toList ++ g.stack } := by
      refine e3.trans ?_
      rw [hf₂, State.calling_eq h.top, State.setFrames_setFrames, State.setTop_of_frames _ hr', hr]
      rfl
    have hsame : U.sameButNew ({ U with heap := s₂.heap, slotsUsed := s₂.slotsUsed } : State) L mc ms := by
      refine ⟨?_, q2, q3, q4, q5, q6⟩
      obtain ⟨t, ht, -⟩ := State.frames_cons hr
      show ({ U with heap := s₂.heap, slotsUsed := s₂.slotsUsed } : State) = { U.setFrames U.frames with heap := s₂.heap, slotsUsed := s₂.slotsUsed }
      rw [State.setFrames_self ht]
    subst hg
    refine Or.inl ⟨v, ⟨(({ U with heap := s₂.heap, slotsUsed := s₂.slotsUsed } : State).setVm s₂.vm), Ls ++ L, c0 + mc, s0 + ms⟩,
      ⟨X.admits, X.cas, X.clock, X.frames, X.room, X.hears, X.method, X.code, (X.here.setHeapUsed s₂.heap s₂.slotsUsed).setVm hW'.alike, X.tail, State.WarmedH.trans X.warmed hW', X.limits, X.bytes, X.same.trans (hsame.setVm s.vm)⟩,
      ⟨g, mk, s₂, L, rfl, rfl, hqc, rfl, hL, rfl, rfl⟩, ?_⟩
    show Steps p.tables e below _ ((({ U with heap := s₂.heap, slotsUsed := s₂.slotsUsed } : State).setVm s₂.vm).setTop { g with pc := g.pc + len₂, stack := v.toList ++ g.stack })
    rw [← hs₂]
    exact hsteps
  · obtain ⟨e2, q2, q3, q4, q5, q6⟩ := id hsm
    have e3 : s₂ = ({ (U.calling g mk a).setFrames s₂.frames with heap := s₂.heap, slotsUsed := s₂.slotsUsed } : State).setVm s₂.vm := by
      have : s₂ = ({ s₂ with vm := (U.calling g mk a).vm } : State).setVm s₂.vm := rfl
      rw [e2] at this
      exact this
    have hf₂ : s₂.frames = .throwing q :: .java g :: U.frames.tail := hend
    have hW' : U.WarmedH s₂.vm := hW₂
    have hs₂ : s₂ = ((({ U with heap := s₂.heap, slotsUsed := s₂.slotsUsed } : State).setVm s₂.vm).setTop g).pushFrame (.throwing q) := by
      refine e3.trans ?_
      rw [hf₂, State.calling_eq h.top, State.setFrames_setFrames, State.pushFrame, State.frames_setTop _ hr', State.setTop_of_frames _ hr', State.setFrames_setFrames, hr]
      rfl
    have hsame : U.sameButNew ({ U with heap := s₂.heap, slotsUsed := s₂.slotsUsed } : State) L mc ms := by
      refine ⟨?_, q2, q3, q4, q5, q6⟩
      obtain ⟨t, ht, -⟩ := State.frames_cons hr
      show ({ U with heap := s₂.heap, slotsUsed := s₂.slotsUsed } : State) = { U.setFrames U.frames with heap := s₂.heap, slotsUsed := s₂.slotsUsed }
      rw [State.setFrames_self ht]
    subst hg
    refine Or.inr ⟨q, ⟨(({ U with heap := s₂.heap, slotsUsed := s₂.slotsUsed } : State).setVm s₂.vm), Ls ++ L, c0 + mc, s0 + ms⟩,
      ⟨X.admits, X.cas, X.clock, X.frames, X.room, X.hears, X.method, X.code, (X.here.setHeapUsed s₂.heap s₂.slotsUsed).setVm hW'.alike, X.tail, State.WarmedH.trans X.warmed hW', X.limits, X.bytes, X.same.trans (hsame.setVm s.vm)⟩,
      ⟨g, mk, s₂, L, E, ce, rfl, rfl, hx, hce, hcv, hcl, rfl, hL, rfl, rfl⟩, ?_⟩
    show Steps p.tables e below _ (((({ U with heap := s₂.heap, slotsUsed := s₂.slotsUsed } : State).setVm s₂.vm).setTop g).pushFrame (.throwing q))
    rw [← hs₂]
    exact hsteps
end Payer
section Calls
variable {p : Program} {l : Launch} {e : Env} {R : Room} {s : State} {m : MethodId} {args : Array Value} {below : List Frame} {meth : Method} {c : Code} {T : State} {locs : List Loc} {cells slots : Nat}
theorem vx_callV (X : Stand p l e R s m args below meth c T locs cells slots) (hexec : p.tables.exec = Jvm.exec) {own C : String} {index : Nat} {y : MethodName} {bytes : ByteArray} {maxL : Nat} {ret : Option FieldType}
    (hown : s.vm.findClass own = some m.cls) (hlink : (Cond.methodLink own index y).before args s = true) (hinst : (Cond.instanceMethod y).before args s = true) (hsel : (Cond.selects C y y).before args s = true)
    (hcode : (Cond.code y bytes maxL ret).before args s = true) (hy : y.cls ≠ "java/lang/invoke/MethodHandle" ∧ y.cls ≠ "java/lang/invoke/VarHandle")
    {W9 : Nat} {Pre : Pt → Array Value → Prop} {Post : Pt → Array Value → Option Value → Pt → Prop} {PostX : Pt → Array Value → Addr → Pt → Prop} (hK : vx_Back l R p e below s args y 3 W9 Pre Post PostX)
    {b : Addr} {cellB : Cell} (hcell : T.heap[b]? = some cellB) (hobj : cellB.vm.isStatics = false) (hcls : s.vm.findClass C = some cellB.cls)
    {g : JFrame} (hg : g.method = m) (hsize : g.locals.size = c.maxLocals) {argsL rest : List Value} (hlen : ∀ sig, parseMethodDescriptor y.desc = some sig → argsL.length = sig.parameters.length)
    (hstack : g.stack = argsL.reverse ++ .ref b :: rest) (hW : 2 * g.monitorRoom + (rest.map fun v => v.category).sum ≤ W9) (hdg : decode c.code g.pc = .ok (.invokevirtual index, 3))
    (hpre : ∀ vm₁, s.WarmedH vm₁ → Pre ⟨T.setVm vm₁, locs, cells, slots⟩ (Value.ref b :: argsL).toArray) :
    (∃ (v : Option Value) (vm₁ : Vm) (B : Pt), s.WarmedH vm₁ ∧ Stand p l e R s m args below meth c B.U B.locs B.cells B.slots ∧ Post ⟨T.setVm vm₁, locs, cells, slots⟩ (Value.ref b :: argsL).toArray v B ∧
      ∀ target, Steps p.tables e below (B.U.setTop { g with pc := g.pc + 3, stack := v.toList ++ rest }) target → Steps p.tables e below (T.setTop g) target) ∨
    (∃ (q : Addr) (vm₁ : Vm) (B : Pt), s.WarmedH vm₁ ∧ Stand p l e R s m args below meth c B.U B.locs B.cells B.slots ∧ PostX ⟨T.setVm vm₁, locs, cells, slots⟩ (Value.ref b :: argsL).toArray q B ∧
      Steps p.tables e below (T.setTop g) ((B.U.setTop { g with stack := rest }).pushFrame (.throwing q))) := by
  obtain ⟨mk, methM, hnamed, hmethM, hstM, habM⟩ := Cond.instanceMethod_spec hinst
  obtain ⟨methM', cM, hmethM', -, -, -, -, -, -, hsigM⟩ := Cond.code_spec hnamed hcode
  cases hmethM.symm.trans hmethM'
  obtain ⟨c2, r2, m2, q1, q2, q3, q4, kP, hkP, hkPi⟩ := Cond.selects_spec hsel
  cases hcls.symm.trans q1
  cases (State.methodFound?_of_named hnamed hy).symm.trans q2
  cases hnamed.symm.trans q3
  have hselP : selectMethod e.platform s.vm cellB.cls mk = .method mk := by rw [Launch.admits_selectMethod X.admits]; exact q4
  obtain ⟨vm₁, X₁, hstep₁⟩ := X.invokevirtual hexec hown hlink hnamed hmethM hstM hkP hkPi hy (a := b) (cell := cellB) hcell
    (fun z h => by rw [h] at hobj; cases hobj) hselP hmethM habM hkP hkPi (g := g) hg (argsL := argsL) (rest := rest) (hlen _ hsigM) hstack hdg
  rcases hK m meth c ⟨T.setVm vm₁, locs, cells, slots⟩ { g with stack := rest } (.invokevirtual index) mk (Value.ref b :: argsL).toArray X₁ hg hsize hdg hW (X₁.named hnamed) (hpre vm₁ X₁.warmed) with ⟨v, B, X', hpost, hsteps⟩ | ⟨q, B, X', hpost, hsteps⟩
  · exact Or.inl ⟨v, vm₁, B, X₁.warmed, X', hpost, fun target h => hstep₁ _ fun acts => by rw [doInvoke_state]; exact hsteps.trans h⟩
  · exact Or.inr ⟨q, vm₁, B, X₁.warmed, X', hpost, hstep₁ _ fun acts => by rw [doInvoke_state]; exact hsteps⟩
theorem vx_callS (X : Stand p l e R s m args below meth c T locs cells slots) (hexec : p.tables.exec = Jvm.exec) {own : String} {index : Nat} {y : MethodName} {bytes : ByteArray} {maxL : Nat} {ret : Option FieldType}
    (hown : s.vm.findClass own = some m.cls) (hlink : (Cond.methodLink own index y).before args s = true) (hstat : (Cond.static y).before args s = true) (hinit : (Cond.initialized y.cls).before args s = true)
    (hcode : (Cond.code y bytes maxL ret).before args s = true) (hy : y.cls ≠ "java/lang/invoke/MethodHandle" ∧ y.cls ≠ "java/lang/invoke/VarHandle")
    {W9 : Nat} {Pre : Pt → Array Value → Prop} {Post : Pt → Array Value → Option Value → Pt → Prop} {PostX : Pt → Array Value → Addr → Pt → Prop} (hK : vx_Back l R p e below s args y 3 W9 Pre Post PostX)
    {g : JFrame} (hg : g.method = m) (hsize : g.locals.size = c.maxLocals) {argsL rest : List Value} (hlen : ∀ sig, parseMethodDescriptor y.desc = some sig → argsL.length = sig.parameters.length)
    (hstack : g.stack = argsL.reverse ++ rest) (hW : 2 * g.monitorRoom + (rest.map fun v => v.category).sum ≤ W9) (hdg : decode c.code g.pc = .ok (.invokestatic index, 3))
    (hpre : ∀ vm₁, s.WarmedH vm₁ → Pre ⟨T.setVm vm₁, locs, cells, slots⟩ argsL.toArray) :
    (∃ (v : Option Value) (vm₁ : Vm) (B : Pt), s.WarmedH vm₁ ∧ Stand p l e R s m args below meth c B.U B.locs B.cells B.slots ∧ Post ⟨T.setVm vm₁, locs, cells, slots⟩ argsL.toArray v B ∧
      ∀ target, Steps p.tables e below (B.U.setTop { g with pc := g.pc + 3, stack := v.toList ++ rest }) target → Steps p.tables e below (T.setTop g) target) ∨
    (∃ (q : Addr) (vm₁ : Vm) (B : Pt), s.WarmedH vm₁ ∧ Stand p l e R s m args below meth c B.U B.locs B.cells B.slots ∧ PostX ⟨T.setVm vm₁, locs, cells, slots⟩ argsL.toArray q B ∧
      Steps p.tables e below (T.setTop g) ((B.U.setTop { g with stack := rest }).pushFrame (.throwing q))) := by
  obtain ⟨mk, hnamed⟩ := Cond.code_named hcode
  obtain ⟨methM, cM, hmethM, -, -, -, -, -, -, hsigM⟩ := Cond.code_spec hnamed hcode
  have hstatic : methM.isStatic = true := Cond.static_spec hnamed hmethM hstat
  obtain ⟨kP, hkP, -⟩ := className_of_methodNamed hnamed
  have hinitP : kP.init = .initialized := Cond.initialized_spec (findClass_of_methodNamed hnamed) hkP hinit
  obtain ⟨vm₁, X₁, hstep₁⟩ := X.invokestatic hexec hown hlink hnamed hmethM hstatic hkP hinitP hy (g := g) hg (argsL := argsL) (rest := rest) (hlen _ hsigM) hstack hdg
  rcases hK m meth c ⟨T.setVm vm₁, locs, cells, slots⟩ { g with stack := rest } (.invokestatic index) mk argsL.toArray X₁ hg hsize hdg hW (X₁.named hnamed) (hpre vm₁ X₁.warmed) with ⟨v, B, X', hpost, hsteps⟩ | ⟨q, B, X', hpost, hsteps⟩
  · exact Or.inl ⟨v, vm₁, B, X₁.warmed, X', hpost, fun target h => hstep₁ _ fun acts => by rw [doInvoke_state]; exact hsteps.trans h⟩
  · exact Or.inr ⟨q, vm₁, B, X₁.warmed, X', hpost, hstep₁ _ fun acts => by rw [doInvoke_state]; exact hsteps⟩
end Calls
theorem vx_cls {s : State} {T : State} {vm₁ : Vm} {E : String} {k : ClassId} (hW : s.WarmedH vm₁) (h : (T.setVm vm₁).vm.findClass E = some k) : s.vm.findClass E = some k := by
  have h1 : vm₁.findClass E = some k := h
  rw [hW.alike.findClass] at h1
  exact h1
/-- the method's frame g, with q thrown over it -/
def vx_W (p : Program) (l : Launch) (e : Env) (R : Room) (s : State) (m : MethodId) (args : Array Value) (below : List Frame) (meth : Method) (c : Code) (H : Heap) (locs : List Loc) (cells slots : Nat) (Q : State → Prop) (g : JFrame) (q : Addr) : Prop :=
  ∀ T : State, T.heap = H → Stand p l e R s m args below meth c T locs cells slots → ∃ t, Steps p.tables e below ((T.setTop g).pushFrame (.throwing q)) t ∧ Q t
def vx_Run (p : Program) (l : Launch) (e : Env) (R : Room) (s : State) (m : MethodId) (args : Array Value) (below : List Frame) (meth : Method) (c : Code) (H : Heap) (locs : List Loc) (cells slots mc ms : Nat) (g : JFrame) (rest : List Value) (Qa : State → Outcome → State → Prop) (XC : String → State → State → Prop) (free : Addr → Prop) : Prop :=
  ∀ T : State, T.heap = H → Stand p l e R s m args below meth c T locs cells slots →
    (∃ (v : Option Value) (st₀ t T' : State) (L : List Loc), st₀.heap = H ∧ Stand p l e R s m args below meth c T' (locs ++ L) (cells + mc) (slots + ms) ∧ (∀ q ∈ L, free q.base) ∧ T'.heap = t.heap ∧ T'.vm = t.vm ∧ Qa st₀ (.returned v) t ∧
      Goes p e below T g T' { g with pc := g.pc + 3, stack := v.toList ++ rest }) ∨
    (∃ (q : Addr) (st₀ t T' : State) (L : List Loc) (E : String) (ce : Cell), st₀.heap = H ∧ Stand p l e R s m args below meth c T' (locs ++ L) (cells + mc) (slots + ms) ∧ (∀ z ∈ L, free z.base) ∧ T'.heap = t.heap ∧ T'.vm = t.vm ∧ XC E st₀ t ∧ t.heap[q]? = some ce ∧ ce.vm = .none ∧ s.vm.findClass E = some ce.cls ∧
      Steps p.tables e below (T.setTop g) ((T'.setTop { g with stack := rest }).pushFrame (.throwing q)))
def vx_X {S : Type} (px : S → Prop) (B : String → S → State → Prop) (A : Nat → Prop) : String → State → State → Prop := fun E st t => ∃ u : S, px u ∧ B E u t ∧ va_F A st t
section Runs
variable {p : Program} {l : Launch} {e : Env} {R : Room} {s : State} {m : MethodId} {args : Array Value} {below : List Frame} {meth : Method} {c : Code} {H : Heap} {locs : List Loc} {cells slots : Nat}
variable {y : MethodName} {bytes cc : ByteArray} {maxL nL mc ms n index : Nat} {ret : Option FieldType} {ws : List Cond} {rm : Room} {Pc : Array Value → State → Prop} {Qc : Array Value → State → Outcome → State → Prop} {XC : String → State → State → Prop} {free : Addr → Prop} {Ts : List Cond} {own C : String} {b : Addr} {As rest : List Value} {g : JFrame}
theorem vx_callBack (cb : CallB R s args own index y bytes maxL ret ws rm mc ms n) (hM : vx_Met l y ws rm Pc Qc XC mc ms free) (hbl : FrameBlind Pc) : vx_Back l R p e below s args y 3 8 (PreOf R mc ms Pc) (PostOf Qc mc ms free) (vx_Post XC mc ms free) := by
  obtain ⟨hrc, hrs, hfr, hlo, hws, hcw, -, hini, -⟩ := cb
  exact vx_back (bytes := bytes) (maxL := maxL) (ret := ret) hM hbl hrc hrs hfr hlo hws hcw (fun a' U hW => word_at hW (Or.inl (by first | rfl | simp [Cond.onTables, Cond.keeps, Cond.steady])) hini)
theorem vx_runV (S : CallFix p m c cc nL s args Ts own) (hM : vx_Met l y ws rm Pc Qc XC mc ms free) (cw : CallW R s args own C index y bytes maxL ret ws rm mc ms n) (hp : PreV s H C b Pc As)
    (hg : g.method = m) (hn : As.length = n) (hsize : g.locals.size = nL) (hstack : g.stack = As.reverse ++ .ref b :: rest) (hW : 2 * g.monitorRoom + (rest.map fun v => v.category).sum ≤ 8) (hdg : decode cc g.pc = .ok (.invokevirtual index, 3)) (hf : cells + mc ≤ R.cells ∧ slots + ms ≤ R.slots) :
    vx_Run p l e R s m args below meth c H locs cells slots mc ms g rest (Qc (Value.ref b :: As).toArray) XC free := by
  have hK : vx_Back l R p e below s args y 3 8 (PreOf R mc ms Pc) (PostOf Qc mc ms free) (vx_Post XC mc ms free) := vx_callBack cw.1 hM hp.1
  obtain ⟨⟨-, -, -, -, -, -, hcode, -, hy, hlen, hl⟩, hin, hse⟩ := cw
  obtain ⟨hx, hb, hml, ho, -⟩ := S
  obtain ⟨-, ⟨cellB, hcB, hoB, hclB⟩, hPc⟩ := hp
  intro T hT X
  rcases vx_callV X hx (C := C) (bytes := bytes) (maxL := maxL) (ret := ret) ho hl hin hse hcode hy hK (by rw [hT]; exact hcB) hoB hclB hg (hsize.trans hml.symm) (argsL := As) (rest := rest) (fun sig h => hn.trans (hlen sig h)) hstack hW (by rw [hb]; exact hdg)
    (fun vm₁ hW₁ => ⟨hf.1, hf.2, hPc (T.setVm vm₁) hT hW₁⟩) with ⟨v, vm₁, ⟨U', l2, c2, s2⟩, hW₁, X', ⟨g', mk, t, L, e1, e2, hq, h1, hL, h2, h3⟩, st⟩ | ⟨q, vm₁, ⟨U', l2, c2, s2⟩, hW₁, X', ⟨g', mk, t, L, E, ce, e1, e2, hq, hce, hcv, hcl, h1, hL, h2, h3⟩, st⟩
  · dsimp only [Pt.U, Pt.locs, Pt.cells, Pt.slots] at X' e1 e2 h1 h2 h3 st
    subst h1; subst h2; subst h3
    exact Or.inl ⟨v, (T.setVm vm₁).calling g' mk (Value.ref b :: As).toArray, t, U', L, hT, X', hL, e1, e2, hq, st⟩
  · dsimp only [Pt.U, Pt.locs, Pt.cells, Pt.slots] at X' e1 e2 h1 h2 h3 st hcl
    subst h1; subst h2; subst h3
    exact Or.inr ⟨q, (T.setVm vm₁).calling g' mk (Value.ref b :: As).toArray, t, U', L, E, ce, hT, X', hL, e1, e2, hq, hce, hcv, vx_cls hW₁ hcl, st⟩
theorem vx_runS (S : CallFix p m c cc nL s args Ts own) (hM : vx_Met l y ws rm Pc Qc XC mc ms free) (cw : CallB R s args own index y bytes maxL ret ws rm mc ms n ∧ (Cond.static y).before args s = true) (hp : PreS s H Pc As)
    (hg : g.method = m) (hn : As.length = n) (hsize : g.locals.size = nL) (hstack : g.stack = As.reverse ++ rest) (hW : 2 * g.monitorRoom + (rest.map fun v => v.category).sum ≤ 8) (hdg : decode cc g.pc = .ok (.invokestatic index, 3)) (hf : cells + mc ≤ R.cells ∧ slots + ms ≤ R.slots) :
    vx_Run p l e R s m args below meth c H locs cells slots mc ms g rest (Qc As.toArray) XC free := by
  have hK : vx_Back l R p e below s args y 3 8 (PreOf R mc ms Pc) (PostOf Qc mc ms free) (vx_Post XC mc ms free) := vx_callBack cw.1 hM hp.1
  obtain ⟨⟨-, -, -, -, -, -, hcode, hini, hy, hlen, hl⟩, hstt⟩ := cw
  obtain ⟨hx, hb, hml, ho, -⟩ := S
  intro T hT X
  rcases vx_callS X hx (bytes := bytes) (maxL := maxL) (ret := ret) ho hl hstt hini hcode hy hK hg (hsize.trans hml.symm) (argsL := As) (rest := rest) (fun sig h => hn.trans (hlen sig h)) hstack hW (by rw [hb]; exact hdg)
    (fun vm₁ hW₁ => ⟨hf.1, hf.2, hp.2 (T.setVm vm₁) hT hW₁⟩) with ⟨v, vm₁, ⟨U', l2, c2, s2⟩, hW₁, X', ⟨g', mk, t, L, e1, e2, hq, h1, hL, h2, h3⟩, st⟩ | ⟨q, vm₁, ⟨U', l2, c2, s2⟩, hW₁, X', ⟨g', mk, t, L, E, ce, e1, e2, hq, hce, hcv, hcl, h1, hL, h2, h3⟩, st⟩
  · dsimp only [Pt.U, Pt.locs, Pt.cells, Pt.slots] at X' e1 e2 h1 h2 h3 st
    subst h1; subst h2; subst h3
    exact Or.inl ⟨v, (T.setVm vm₁).calling g' mk As.toArray, t, U', L, hT, X', hL, e1, e2, hq, st⟩
  · dsimp only [Pt.U, Pt.locs, Pt.cells, Pt.slots] at X' e1 e2 h1 h2 h3 st hcl
    subst h1; subst h2; subst h3
    exact Or.inr ⟨q, (T.setVm vm₁).calling g' mk As.toArray, t, U', L, E, ce, hT, X', hL, e1, e2, hq, hce, hcv, vx_cls hW₁ hcl, st⟩
end Runs
section Rows
variable {p : Program} {l : Launch} {e : Env} {R : Room} {s : State} {m : MethodId} {args : Array Value} {below : List Frame} {meth : Method} {c : Code} {H : Heap} {locs : List Loc} {cells slots : Nat} {Q : State → Prop}
variable {mc ms : Nat} {free : Addr → Prop} {A0 A1 : Nat → Prop} {H0 : Heap} {a : Array Value} {pc : Nat} {ls : Array Slot} {st0 rest : List Value}
theorem vx_keep {st₀ t T' : State} {L : List Loc} (h0 : st₀.heap = H) (e1 : T'.heap = t.heap) (hS : va_S A0 H0 H locs) (hA : ∀ q, q < H.size → A1 q → A0 q) (hf : ∀ q, free q → A0 q) (hL : ∀ q ∈ L, free q.base) (hF : va_F A1 st₀ t) :
    H.size ≤ T'.heap.size ∧ (∀ q : Nat, q < H.size → ¬ A1 q → T'.heap[q]? = H[q]?) ∧ va_S A0 H0 T'.heap (locs ++ L) := by
  obtain ⟨hz, hk⟩ := hF
  rw [h0] at hz hk
  exact ⟨by rw [e1]; exact hz, fun q h1 h2 => by rw [e1]; exact hk q h1 h2,
    ⟨Nat.le_trans hS.1 (by rw [e1]; exact hz), fun q h1 h2 => by rw [e1, hk q (Nat.lt_of_lt_of_le h1 hS.1) (fun z => h2 (hA q (Nat.lt_of_lt_of_le h1 hS.1) z))]; exact hS.2.1 q h1 h2, fun q hq => by
      rcases List.mem_append.mp hq with h | h
      · exact hS.2.2 q h
      · exact hf _ (hL q h)⟩⟩
theorem vx_calli {S SX : Type} {post : Int32 → S → Prop} {px : SX → Prop} {B : S → State → Prop} {BX : String → SX → State → Prop} {AX : Nat → Prop} (hr : vx_Run p l e R s m args below meth c H locs cells slots mc ms (F0 m pc ls st0) rest (va_Qi post B A1 a) (vx_X px BX AX) free) (hS : va_S A0 H0 H locs) (hA : ∀ q, q < H.size → A1 q → A0 q) (hf : ∀ q, free q → A0 q) (hAX : ∀ q, q < H.size → AX q → A0 q)
    (kx : ∀ (E : String) (ce : Cell) (q9 : Addr) (u : SX) (t : State) (H1 : Heap) (locs1 : List Loc), t.heap = H1 → s.vm.Alike t.vm → px u → BX E u t → H.size ≤ H1.size → (∀ q : Nat, q < H.size → ¬ AX q → H1[q]? = H[q]?) → va_S A0 H0 H1 locs1 → H1[q9]? = some ce → ce.vm = .none → s.vm.findClass E = some ce.cls → vx_W p l e R s m args below meth c H1 locs1 (cells + mc) (slots + ms) Q (F0 m pc ls rest) q9)
    (kk : ∀ (r : Int32) (u : S) (t : State) (H1 : Heap) (locs1 : List Loc), t.heap = H1 → s.vm.Alike t.vm → post r u → B u t → H.size ≤ H1.size → (∀ q : Nat, q < H.size → ¬ A1 q → H1[q]? = H[q]?) → va_S A0 H0 H1 locs1 → W p l e R s m args below meth c H1 locs1 (cells + mc) (slots + ms) Q (F0 m (pc + 3) ls (.int r :: rest))) : W p l e R s m args below meth c H locs cells slots Q (F0 m pc ls st0) := by
  intro T hT X
  rcases hr T hT X with ⟨v, st₀, t, T', L, h0, X', hL, e1, e2, ⟨⟨r, u, hv, hp, hb⟩, hF⟩, st⟩ | ⟨q, st₀, t, T', L, E, ce, h0, X', hL, e1, e2, ⟨u, hp, hb, hF⟩, hce, hcv, hcl, st⟩
  · cases hv
    obtain ⟨k1, k2, k3⟩ := vx_keep h0 e1 hS hA hf hL hF
    obtain ⟨t2, a1, b1⟩ := kk r u t T'.heap (locs ++ L) e1.symm (by rw [← e2]; exact X'.warmed.alike) hp hb k1 k2 k3 T' rfl X'
    exact ⟨t2, st t2 a1, b1⟩
  · obtain ⟨k1, k2, k3⟩ := vx_keep h0 e1 hS hAX hf hL hF
    obtain ⟨t2, a1, b1⟩ := kx E ce q u t T'.heap (locs ++ L) e1.symm (by rw [← e2]; exact X'.warmed.alike) hp hb k1 k2 k3 (by rw [e1]; exact hce) hcv hcl T' rfl X'
    exact ⟨t2, st.trans a1, b1⟩
theorem vx_calll {S SX : Type} {post : Int64 → S → Prop} {px : SX → Prop} {B : S → State → Prop} {BX : String → SX → State → Prop} {AX : Nat → Prop} (hr : vx_Run p l e R s m args below meth c H locs cells slots mc ms (F0 m pc ls st0) rest (va_Ql post B A1 a) (vx_X px BX AX) free) (hS : va_S A0 H0 H locs) (hA : ∀ q, q < H.size → A1 q → A0 q) (hf : ∀ q, free q → A0 q) (hAX : ∀ q, q < H.size → AX q → A0 q)
    (kx : ∀ (E : String) (ce : Cell) (q9 : Addr) (u : SX) (t : State) (H1 : Heap) (locs1 : List Loc), t.heap = H1 → s.vm.Alike t.vm → px u → BX E u t → H.size ≤ H1.size → (∀ q : Nat, q < H.size → ¬ AX q → H1[q]? = H[q]?) → va_S A0 H0 H1 locs1 → H1[q9]? = some ce → ce.vm = .none → s.vm.findClass E = some ce.cls → vx_W p l e R s m args below meth c H1 locs1 (cells + mc) (slots + ms) Q (F0 m pc ls rest) q9)
    (kk : ∀ (r : Int64) (u : S) (t : State) (H1 : Heap) (locs1 : List Loc), t.heap = H1 → s.vm.Alike t.vm → post r u → B u t → H.size ≤ H1.size → (∀ q : Nat, q < H.size → ¬ A1 q → H1[q]? = H[q]?) → va_S A0 H0 H1 locs1 → W p l e R s m args below meth c H1 locs1 (cells + mc) (slots + ms) Q (F0 m (pc + 3) ls (.long r :: rest))) : W p l e R s m args below meth c H locs cells slots Q (F0 m pc ls st0) := by
  intro T hT X
  rcases hr T hT X with ⟨v, st₀, t, T', L, h0, X', hL, e1, e2, ⟨⟨r, u, hv, hp, hb⟩, hF⟩, st⟩ | ⟨q, st₀, t, T', L, E, ce, h0, X', hL, e1, e2, ⟨u, hp, hb, hF⟩, hce, hcv, hcl, st⟩
  · cases hv
    obtain ⟨k1, k2, k3⟩ := vx_keep h0 e1 hS hA hf hL hF
    obtain ⟨t2, a1, b1⟩ := kk r u t T'.heap (locs ++ L) e1.symm (by rw [← e2]; exact X'.warmed.alike) hp hb k1 k2 k3 T' rfl X'
    exact ⟨t2, st t2 a1, b1⟩
  · obtain ⟨k1, k2, k3⟩ := vx_keep h0 e1 hS hAX hf hL hF
    obtain ⟨t2, a1, b1⟩ := kx E ce q u t T'.heap (locs ++ L) e1.symm (by rw [← e2]; exact X'.warmed.alike) hp hb k1 k2 k3 (by rw [e1]; exact hce) hcv hcl T' rfl X'
    exact ⟨t2, st.trans a1, b1⟩
theorem vx_callf {S SX : Type} {post : UInt32 → S → Prop} {px : SX → Prop} {B : S → State → Prop} {BX : String → SX → State → Prop} {AX : Nat → Prop} (hr : vx_Run p l e R s m args below meth c H locs cells slots mc ms (F0 m pc ls st0) rest (va_Qf post B A1 a) (vx_X px BX AX) free) (hS : va_S A0 H0 H locs) (hA : ∀ q, q < H.size → A1 q → A0 q) (hf : ∀ q, free q → A0 q) (hAX : ∀ q, q < H.size → AX q → A0 q)
    (kx : ∀ (E : String) (ce : Cell) (q9 : Addr) (u : SX) (t : State) (H1 : Heap) (locs1 : List Loc), t.heap = H1 → s.vm.Alike t.vm → px u → BX E u t → H.size ≤ H1.size → (∀ q : Nat, q < H.size → ¬ AX q → H1[q]? = H[q]?) → va_S A0 H0 H1 locs1 → H1[q9]? = some ce → ce.vm = .none → s.vm.findClass E = some ce.cls → vx_W p l e R s m args below meth c H1 locs1 (cells + mc) (slots + ms) Q (F0 m pc ls rest) q9)
    (kk : ∀ (r : UInt32) (u : S) (t : State) (H1 : Heap) (locs1 : List Loc), t.heap = H1 → s.vm.Alike t.vm → post r u → B u t → H.size ≤ H1.size → (∀ q : Nat, q < H.size → ¬ A1 q → H1[q]? = H[q]?) → va_S A0 H0 H1 locs1 → W p l e R s m args below meth c H1 locs1 (cells + mc) (slots + ms) Q (F0 m (pc + 3) ls (.float r :: rest))) : W p l e R s m args below meth c H locs cells slots Q (F0 m pc ls st0) := by
  intro T hT X
  rcases hr T hT X with ⟨v, st₀, t, T', L, h0, X', hL, e1, e2, ⟨⟨r, u, hv, hp, hb⟩, hF⟩, st⟩ | ⟨q, st₀, t, T', L, E, ce, h0, X', hL, e1, e2, ⟨u, hp, hb, hF⟩, hce, hcv, hcl, st⟩
  · cases hv
    obtain ⟨k1, k2, k3⟩ := vx_keep h0 e1 hS hA hf hL hF
    obtain ⟨t2, a1, b1⟩ := kk r u t T'.heap (locs ++ L) e1.symm (by rw [← e2]; exact X'.warmed.alike) hp hb k1 k2 k3 T' rfl X'
    exact ⟨t2, st t2 a1, b1⟩
  · obtain ⟨k1, k2, k3⟩ := vx_keep h0 e1 hS hAX hf hL hF
    obtain ⟨t2, a1, b1⟩ := kx E ce q u t T'.heap (locs ++ L) e1.symm (by rw [← e2]; exact X'.warmed.alike) hp hb k1 k2 k3 (by rw [e1]; exact hce) hcv hcl T' rfl X'
    exact ⟨t2, st.trans a1, b1⟩
theorem vx_calld {S SX : Type} {post : UInt64 → S → Prop} {px : SX → Prop} {B : S → State → Prop} {BX : String → SX → State → Prop} {AX : Nat → Prop} (hr : vx_Run p l e R s m args below meth c H locs cells slots mc ms (F0 m pc ls st0) rest (va_Qd post B A1 a) (vx_X px BX AX) free) (hS : va_S A0 H0 H locs) (hA : ∀ q, q < H.size → A1 q → A0 q) (hf : ∀ q, free q → A0 q) (hAX : ∀ q, q < H.size → AX q → A0 q)
    (kx : ∀ (E : String) (ce : Cell) (q9 : Addr) (u : SX) (t : State) (H1 : Heap) (locs1 : List Loc), t.heap = H1 → s.vm.Alike t.vm → px u → BX E u t → H.size ≤ H1.size → (∀ q : Nat, q < H.size → ¬ AX q → H1[q]? = H[q]?) → va_S A0 H0 H1 locs1 → H1[q9]? = some ce → ce.vm = .none → s.vm.findClass E = some ce.cls → vx_W p l e R s m args below meth c H1 locs1 (cells + mc) (slots + ms) Q (F0 m pc ls rest) q9)
    (kk : ∀ (r : UInt64) (u : S) (t : State) (H1 : Heap) (locs1 : List Loc), t.heap = H1 → s.vm.Alike t.vm → post r u → B u t → H.size ≤ H1.size → (∀ q : Nat, q < H.size → ¬ A1 q → H1[q]? = H[q]?) → va_S A0 H0 H1 locs1 → W p l e R s m args below meth c H1 locs1 (cells + mc) (slots + ms) Q (F0 m (pc + 3) ls (.double r :: rest))) : W p l e R s m args below meth c H locs cells slots Q (F0 m pc ls st0) := by
  intro T hT X
  rcases hr T hT X with ⟨v, st₀, t, T', L, h0, X', hL, e1, e2, ⟨⟨r, u, hv, hp, hb⟩, hF⟩, st⟩ | ⟨q, st₀, t, T', L, E, ce, h0, X', hL, e1, e2, ⟨u, hp, hb, hF⟩, hce, hcv, hcl, st⟩
  · cases hv
    obtain ⟨k1, k2, k3⟩ := vx_keep h0 e1 hS hA hf hL hF
    obtain ⟨t2, a1, b1⟩ := kk r u t T'.heap (locs ++ L) e1.symm (by rw [← e2]; exact X'.warmed.alike) hp hb k1 k2 k3 T' rfl X'
    exact ⟨t2, st t2 a1, b1⟩
  · obtain ⟨k1, k2, k3⟩ := vx_keep h0 e1 hS hAX hf hL hF
    obtain ⟨t2, a1, b1⟩ := kx E ce q u t T'.heap (locs ++ L) e1.symm (by rw [← e2]; exact X'.warmed.alike) hp hb k1 k2 k3 (by rw [e1]; exact hce) hcv hcl T' rfl X'
    exact ⟨t2, st.trans a1, b1⟩
theorem vx_callv {S SX : Type} {post : S → Prop} {px : SX → Prop} {B : S → State → Prop} {BX : String → SX → State → Prop} {AX : Nat → Prop} (hr : vx_Run p l e R s m args below meth c H locs cells slots mc ms (F0 m pc ls st0) rest (va_Qv post B A1 a) (vx_X px BX AX) free) (hS : va_S A0 H0 H locs) (hA : ∀ q, q < H.size → A1 q → A0 q) (hf : ∀ q, free q → A0 q) (hAX : ∀ q, q < H.size → AX q → A0 q)
    (kx : ∀ (E : String) (ce : Cell) (q9 : Addr) (u : SX) (t : State) (H1 : Heap) (locs1 : List Loc), t.heap = H1 → s.vm.Alike t.vm → px u → BX E u t → H.size ≤ H1.size → (∀ q : Nat, q < H.size → ¬ AX q → H1[q]? = H[q]?) → va_S A0 H0 H1 locs1 → H1[q9]? = some ce → ce.vm = .none → s.vm.findClass E = some ce.cls → vx_W p l e R s m args below meth c H1 locs1 (cells + mc) (slots + ms) Q (F0 m pc ls rest) q9)
    (kk : ∀ (u : S) (t : State) (H1 : Heap) (locs1 : List Loc), t.heap = H1 → s.vm.Alike t.vm → post u → B u t → H.size ≤ H1.size → (∀ q : Nat, q < H.size → ¬ A1 q → H1[q]? = H[q]?) → va_S A0 H0 H1 locs1 → W p l e R s m args below meth c H1 locs1 (cells + mc) (slots + ms) Q (F0 m (pc + 3) ls (rest))) : W p l e R s m args below meth c H locs cells slots Q (F0 m pc ls st0) := by
  intro T hT X
  rcases hr T hT X with ⟨v, st₀, t, T', L, h0, X', hL, e1, e2, ⟨⟨u, hv, hp, hb⟩, hF⟩, st⟩ | ⟨q, st₀, t, T', L, E, ce, h0, X', hL, e1, e2, ⟨u, hp, hb, hF⟩, hce, hcv, hcl, st⟩
  · cases hv
    obtain ⟨k1, k2, k3⟩ := vx_keep h0 e1 hS hA hf hL hF
    obtain ⟨t2, a1, b1⟩ := kk u t T'.heap (locs ++ L) e1.symm (by rw [← e2]; exact X'.warmed.alike) hp hb k1 k2 k3 T' rfl X'
    exact ⟨t2, st t2 a1, b1⟩
  · obtain ⟨k1, k2, k3⟩ := vx_keep h0 e1 hS hAX hf hL hF
    obtain ⟨t2, a1, b1⟩ := kx E ce q u t T'.heap (locs ++ L) e1.symm (by rw [← e2]; exact X'.warmed.alike) hp hb k1 k2 k3 (by rw [e1]; exact hce) hcv hcl T' rfl X'
    exact ⟨t2, st.trans a1, b1⟩
/-- caught by the row x of this method's table; the rows ahead don't take it -/
theorem vx_catch {own name : String} {E : String} {ce : Cell} {q : Addr} (hown : s.vm.findClass own = some m.cls) (pre : List ExceptionTableEntry) (x : ExceptionTableEntry) (suf : List ExceptionTableEntry) (hsplit : c.exceptionTable.toList = pre ++ x :: suf)
    (hpass : ∀ z ∈ pre, covers z pc = false ∨ (z.catchType ≠ 0 ∧ ∃ nm : String, (Cond.classLink own z.catchType nm).before args s = true ∧ va_Nc E nm s)) (hx : covers x pc = true) (h0 : x.catchType ≠ 0)
    (hlink : (Cond.classLink own x.catchType name).before args s = true) (hcast : (Cond.castable E name).before args s = true) (hcell : H[q]? = some ce) (hv : ce.vm = .none) (hcl : s.vm.findClass E = some ce.cls)
    (kk : W p l e R s m args below meth c H locs cells slots Q (F0 m x.handlerPc ls [.ref q])) : vx_W p l e R s m args below meth c H locs cells slots Q (F0 m pc ls rest) q := by
  intro T hT X
  have hpl : e.platform.magicAccessors = ({} : Platform).magicAccessors := by rw [X.admits.platform]
  obtain ⟨c3, c4, hc3, hc4, hasg⟩ := Cond.castable_spec hcast
  cases Option.some.inj (hc3.symm.trans hcl)
  obtain ⟨c5, hc5, hcl5⟩ := Cond.classLink_spec hown hlink e.platform hpl
  cases Option.some.inj (hc4.symm.trans hc5)
  obtain ⟨vm', X', st⟩ := X.thenCaughtThrough q (g := F0 m pc ls rest) rfl (Steps.refl _) (by rw [hT]; exact hcell) (by rw [hv]; rfl) (by obtain ⟨k9, h9, -⟩ := Vm.findClass_spec hcl; exact ⟨k9, h9⟩) pre x suf hsplit
    (fun z hz => by
      rcases hpass z hz with h | ⟨hz0, nm, hl1, hn1⟩
      · exact Or.inl h
      · obtain ⟨c6, hc6, hcl6⟩ := Cond.classLink_spec hown hl1 e.platform hpl
        obtain ⟨a8, b8, h1, h2, h3⟩ := hn1
        cases Option.some.inj (h1.symm.trans hcl)
        cases Option.some.inj (h2.symm.trans hc6)
        exact Or.inr ⟨hz0, _, hcl6, h3⟩) hx (Or.inr ⟨h0, c4, hcl5, hasg⟩)
  obtain ⟨t, a1, b1⟩ := kk (T.setVm vm') hT X'
  exact ⟨t, st.trans a1, b1⟩
end Rows
section Ends
variable {p : Program} {l : Launch} {e : Env} {R : Room} {s : State} {m : MethodId} {args : Array Value} {below : List Frame} {meth : Method} {c : Code} {H : Heap} {locs : List Loc} {cells slots : Nat} {Q : State → Prop}
variable {mc ms : Nat} {free : Addr → Prop} {A0 A1 : Nat → Prop} {H0 : Heap} {a : Array Value} {ls : Array Slot} {st0 rest : List Value}
variable {Qc : Array Value → State → Outcome → State → Prop} {XC : String → State → State → Prop}
/-- what a body that may throw owes at its end -/
def vx_MQ (below : List Frame) (Qc : Array Value → State → Outcome → State → Prop) (XC : String → State → State → Prop) (a : Array Value) (s : State) (mc ms : Nat) (free : Addr → Prop) : State → Prop := fun t =>
  ∃ o, t.status = .running ∧ Ended t below o ∧ vx_Q Qc XC mc ms free a s o t
theorem vx_ret {g : JFrame} {mc ms : Nat} (k : W p l e R s m args below meth c H locs cells slots (MQ below Qc args s mc ms free) g) : W p l e R s m args below meth c H locs cells slots (vx_MQ below Qc XC args s mc ms free) g := by
  intro T hT X
  obtain ⟨t, a1, o, b1, b2, b3, b4⟩ := k T hT X
  exact ⟨t, a1, o, b1, b2, Or.inl ⟨b3, b4⟩⟩
/-- not caught here: it goes on to the caller -/
theorem vx_widen {g : JFrame} {q : Addr} {k n : Nat} (h1 : cells ≤ k) (h2 : slots ≤ n) (kk : vx_W p l e R s m args below meth c H locs k n Q g q) : vx_W p l e R s m args below meth c H locs cells slots Q g q := fun T hT X => kk T hT (stand_widen X h1 h2)
theorem vx_out {pc : Nat} {E : String} {ce : Cell} {q : Addr} {mc ms : Nat} (hout : ∀ x ∈ c.exceptionTable.toList, covers x pc = false) (hlocks : meth.locks = false) (hcell : H[q]? = some ce) (hv : ce.vm = .none) (hcl : s.vm.findClass E = some ce.cls)
    (hx : ∀ t : State, t.heap = H → s.vm.Alike t.vm → XC E s t) (hf : ∀ z ∈ locs, free z.base) (hc : cells ≤ mc) (hs : slots ≤ ms) :
    vx_W p l e R s m args below meth c H locs cells slots (vx_MQ below Qc XC args s mc ms free) (F0 m pc ls rest) q := by
  intro T hT X
  obtain ⟨st1, hrun, hend, hW, hsm⟩ := X.leaveThrown q (g := F0 m pc ls rest) rfl rfl rfl hout hlocks
  have hcell9 : (T.setFrames (.throwing q :: below)).heap[q]? = some ce := by
    show T.heap[q]? = some ce
    rw [hT]; exact hcell
  exact ⟨_, st1, .threw q, hrun, hend, Or.inr ⟨q, rfl, E, ce, locs, hx _ hT hW.alike, hcell9, hv, hcl, hW, hsm.mono hc hs, hf⟩⟩
theorem vx_frame {U : State} {k n : Nat} (h : s.sameButNew ({ U with vm := s.vm } : State) locs k n) : s.heap.size ≤ U.heap.size ∧ ∀ q : Nat, q < s.heap.size → (∀ z ∈ locs, z.base ≠ q) → U.heap[q]? = s.heap[q]? := by
  obtain ⟨-, h2, -, -, -, h6⟩ := h
  refine ⟨h2, fun q hq hz => ?_⟩
  obtain ⟨c9, e1, e2, e3, e4⟩ := h6 q _ (Array.getElem?_eq_getElem hq)
  have hs : c9.slots = (s.heap[q]).slots := Array.ext_getElem? fun i => e4 i fun hm => hz _ hm rfl
  have h9 : c9 = s.heap[q] := by
    rw [hs] at e2
    exact e2
  have e5 : U.heap[q]? = some c9 := e1
  rw [e5, h9, Array.getElem?_eq_getElem hq]
/-- the words of a throw but the four that speak of the heap -/
def vx_no (w : Cond) : Bool := decide (w ≠ .isRef (.static Bundle.tN "UNASSIGNED_STACK" Bundle.steD)) && decide (w ≠ .isRef (.static Bundle.tN "SUPPRESSED_SENTINEL" Bundle.listD)) && decide (w ≠ .laysStatic Bundle.tN "UNASSIGNED_STACK" Bundle.steD) && decide (w ≠ .laysStatic Bundle.tN "SUPPRESSED_SENTINEL" Bundle.listD)
def vx_at0 (own : String) (ic : Nat) (X : String) (names : List String) : List Cond := (Bundle.ownAtoms0 own ic X names).filter vx_no
def vx_atS (own : String) (ic : Nat) (X : String) (names : List String) : List Cond := (Bundle.ownAtoms own ic X names).filter vx_no
/-- a word that the tables alone decide, or a good one -/
def vx_ot (w : Cond) : Bool := w.onTables || goodWord w
theorem vx_ot_at {args a' : Array Value} {s U : State} {w : Cond} (hW : s.WarmedH U.vm) (hvm : s.vm = U.vm) (hg : vx_ot w = true) (h : w.before args s = true) : w.before a' U = true := by
  simp only [vx_ot, Bool.or_eq_true] at hg
  rcases hg with hg | hg
  · exact va_tabs hg hvm h
  · exact word_at hW (good_of_word hg) h
/-- a list's words: the good ones out of the method's own list, the others by premises of their own -/
theorem vx_hat {args : Array Value} {s : State} {L B : List Cond} (h1 : ∀ w ∈ L.filter goodWord, w.before args s = true) (h2 : ∀ w ∈ L.filter (fun w => !goodWord w), w ∈ B) (h3 : ∀ w ∈ B, w.before args s = true) : ∀ w ∈ L, w.before args s = true := by
  intro w hw
  by_cases g : goodWord w = true
  · exact h1 w (List.mem_filter.mpr ⟨hw, g⟩)
  · refine h3 w (h2 w (List.mem_filter.mpr ⟨hw, ?_⟩))
    show (!goodWord w) = true
    cases hgw : goodWord w
    · rfl
    · exact absurd hgw g
theorem vx_c {args : Array Value} {s : State} {w : Cond} {B : List Cond} (h : w.before args s = true) (t : ∀ w ∈ B, w.before args s = true) : ∀ w' ∈ w :: B, w'.before args s = true := fun w' h' => (List.mem_cons.mp h').elim (fun e => by rw [e]; exact h) (t w')
theorem vx_n {args : Array Value} {s : State} : ∀ w ∈ ([] : List Cond), w.before args s = true := fun _ h => nomatch h
theorem vx_own {args : Array Value} {s : State} {L : List Cond} (h1 : ∀ w ∈ L.filter vx_no, w.before args s = true)
    (hU : (Cond.isRef (.static Bundle.tN "UNASSIGNED_STACK" Bundle.steD)).before args s = true) (hN : (Cond.isRef (.static Bundle.tN "SUPPRESSED_SENTINEL" Bundle.listD)).before args s = true)
    (lU : (Cond.laysStatic Bundle.tN "UNASSIGNED_STACK" Bundle.steD).before args s = true) (lN : (Cond.laysStatic Bundle.tN "SUPPRESSED_SENTINEL" Bundle.listD).before args s = true) : ∀ w ∈ L, w.before args s = true := by
  intro w hw
  by_cases e1 : w = .isRef (.static Bundle.tN "UNASSIGNED_STACK" Bundle.steD)
  · rw [e1]; exact hU
  · by_cases e2 : w = .isRef (.static Bundle.tN "SUPPRESSED_SENTINEL" Bundle.listD)
    · rw [e2]; exact hN
    · by_cases e3 : w = .laysStatic Bundle.tN "UNASSIGNED_STACK" Bundle.steD
      · rw [e3]; exact lU
      · by_cases e4 : w = .laysStatic Bundle.tN "SUPPRESSED_SENTINEL" Bundle.listD
        · rw [e4]; exact lN
        · exact h1 w (List.mem_filter.mpr ⟨hw, by unfold vx_no; rw [decide_eq_true e1, decide_eq_true e2, decide_eq_true e3, decide_eq_true e4]; rfl⟩)
/-- where a static field lies, its class's statics cell in H -/
def vx_L (C n d : String) (A : Nat → Prop) (U : State) (H : Heap) : Prop := ∃ (c : ClassId) (k : Class) (i : Nat) (f : Field) (a : Nat) (cell : Cell), U.vm.findClass C = some c ∧ U.fieldFound? C n d = some (c, k, i, f) ∧ f.isStatic = true ∧ k.statics = some a ∧ H[a]? = some cell ∧ cell.vm.isStatics = true ∧ cell.cls = c ∧ f.slot < cell.slots.size ∧ k.staticTypes[f.slot]? = some f.type ∧ ¬ A a
theorem vx_L.moved {C n d : String} {A : Nat → Prop} {u U : State} {H : Heap} (hvm : u.vm.Alike U.vm) (h : vx_L C n d A u H) : vx_L C n d A U H := by
  obtain ⟨c, k, i, f, a, cell, h1, h2, h3, h4, h5, h6, h7, h8, h9, h10⟩ := h
  obtain ⟨k', hi', he⟩ := State.fieldFound?_setVm hvm h2
  exact ⟨c, k', i, f, a, cell, by rw [hvm.findClass]; exact h1, hi', h3, by rw [he]; exact h4, h5, h6, h7, h8, by rw [he]; exact h9, h10⟩
theorem vx_L.kept {C n d : String} {A : Nat → Prop} {U : State} {H H1 : Heap} (h : vx_L C n d A U H) (hq : ∀ a : Nat, a < H.size → ¬ A a → H1[a]? = H[a]?) : vx_L C n d A U H1 := by
  obtain ⟨c, k, i, f, a, cell, h1, h2, h3, h4, h5, h6, h7, h8, h9, h10⟩ := h
  exact ⟨c, k, i, f, a, cell, h1, h2, h3, h4, by rw [hq a (Array.getElem?_eq_some_iff.mp h5).1 h10]; exact h5, h6, h7, h8, h9, h10⟩
theorem vx_L.narrow {C n d : String} {A B : Nat → Prop} {U : State} {H : Heap} (h : vx_L C n d A U H) (hAB : ∀ q, B q → A q) : vx_L C n d B U H := by
  obtain ⟨c, k, i, f, a, cell, h1, h2, h3, h4, h5, h6, h7, h8, h9, h10⟩ := h
  exact ⟨c, k, i, f, a, cell, h1, h2, h3, h4, h5, h6, h7, h8, h9, fun z => h10 (hAB _ z)⟩
theorem vx_L.word {C n d : String} {A : Nat → Prop} {s : State} {args : Array Value} (h : vx_L C n d A s s.heap) : (Cond.laysStatic C n d).before args s = true := by
  obtain ⟨c, k, i, f, a, cell, h1, h2, h3, h4, h5, h6, h7, h8, h9, -⟩ := h
  show (Cond.laysStatic C n d).holds args s none s [] = true
  exact Cond.laysStatic_of h1 h2 h3 h4 h5 h6 h7 h8 h9
/-- .. and what it holds: null or some reference -/
def vx_Zq (C n d : String) (A : Nat → Prop) (U : State) (H : Heap) : Prop := va_Zq C n d A U H ∧ vx_L C n d A U H
theorem vx_Zq.moved {C n d : String} {A : Nat → Prop} {u U : State} {H : Heap} (hvm : u.vm.Alike U.vm) (h : vx_Zq C n d A u H) : vx_Zq C n d A U H := ⟨va_Zq.moved hvm h.1, vx_L.moved hvm h.2⟩
theorem vx_Zq.kept {C n d : String} {A : Nat → Prop} {U : State} {H H1 : Heap} (h : vx_Zq C n d A U H) (hq : ∀ a : Nat, a < H.size → ¬ A a → H1[a]? = H[a]?) : vx_Zq C n d A U H1 := ⟨va_Zq.kept h.1 hq, vx_L.kept h.2 hq⟩
theorem vx_Zq.narrow {C n d : String} {A B : Nat → Prop} {U : State} {H : Heap} (h : vx_Zq C n d A U H) (hAB : ∀ q, B q → A q) : vx_Zq C n d B U H := ⟨va_Zq.narrow h.1 hAB, vx_L.narrow h.2 hAB⟩
theorem vx_Zqof {args : Array Value} {s : State} {C n d : String} {A : Nat → Prop} (hl : (Cond.laysStatic C n d).before args s = true) (hini : (Cond.initialized C).before args s = true) (h : (Cond.isRef (.static C n d)).before args s = true) (hA : ∀ a : Nat, a < s.heap.size → ¬ A a) : vx_Zq C n d A s s.heap := by
  refine ⟨va_Zqof hl hini h hA, ?_⟩
  obtain ⟨c, k, i, f, a, cell, h1, h2, h3, h4, h5, h6, h7, h8, h9⟩ := Cond.laysStatic_spec hl
  exact ⟨c, k, i, f, a, cell, h1, h2, h3, h4, h5, h6, h7, h8, h9, hA a (Array.getElem?_eq_some_iff.mp h5).1⟩
theorem vx_isRef {C n d : String} {v : Value} {A : Nat → Prop} {s : State} {args : Array Value} (h : va_Z C n d v A s s.heap) (hv : v.isRef = true) : (Cond.isRef (.static C n d)).before args s = true := by
  obtain ⟨cf, kf, fi, f, a, cell, h1, h2, h3, h4, h5, h6, h7, -⟩ := h
  have he : (Term.static C n d).eval args s none [] s = some v := by
    simp [Term.eval, State.fieldNamed?, h1, h2, h4, h5, h6, h7]
  simp only [Cond.before, Cond.holds, Cond.value, he]
  cases v <;> simp_all [Value.isRef]
theorem vx_isRefq {C n d : String} {A : Nat → Prop} {s : State} {args : Array Value} (h : va_Zq C n d A s s.heap) : (Cond.isRef (.static C n d)).before args s = true := by
  rcases h with h | ⟨t, h⟩
  · exact vx_isRef h rfl
  · exact vx_isRef h rfl
/-- the same frame, seen from here: as if the method were called anew in this heap -/
theorem vx_rebase {T : State} (X : Stand p l e R s m args below meth c T locs cells slots) {R' : Room} (hf : R'.frames ≤ R.frames) (hl : R'.locals ≤ R.locals) (hc : cells + R'.cells ≤ R.cells) (hs : slots + R'.slots ≤ R.slots) :
    Stand p l e R' ((T.setVm s.vm).setFrames (.invoking m args :: below)) m args below meth c T [] 0 0 := by
  have htop : (T.setVm s.vm).topJava?.isSome := X.here.top
  have hF : ((T.setVm s.vm).setFrames (.invoking m args :: below)).frames = .invoking m args :: below := State.frames_setFrames _ (State.cur_lt_of_top htop)
  obtain ⟨g₀, hg0⟩ := Option.isSome_iff_exists.mp htop
  obtain ⟨r, hr⟩ := State.topJava?_eq_some.mp hg0
  have hl9 : e.platform.stackLimits (T.setVm s.vm).me = e.platform.stackLimits s.me := X.limits
  have hb9 : (T.setVm s.vm).me.stackBytes = s.me.stackBytes := X.bytes
  refine ⟨X.admits, X.cas, X.clock, hF, ?_, X.hears, X.method, X.code, X.here, X.tail, X.warmed, ?_, ?_, ?_⟩
  · have h := X.room
    have hU : ((T.setVm s.vm).setFrames (.invoking m args :: below)).localsInUse = s.localsInUse := by
      rw [State.localsInUse_invoking hF (meth := meth) (c := c) X.method X.code, State.localsInUse_invoking X.frames X.method X.code]
    simp only [State.hasRoom, Bool.and_eq_true, decide_eq_true_eq] at h ⊢
    obtain ⟨⟨⟨⟨h1, h2, h3, h4, h5, h6⟩, h7⟩, h8⟩, h9⟩ := h
    rw [X.frames, List.length_cons] at h2 h3
    have q1 := X.heapSize
    have q2 := X.used
    simp only [hF, hU, List.length_cons, State.stackLimits_setFrames, State.stackBytes_setFrames, hl9, hb9]
    refine ⟨⟨⟨⟨by omega, by omega, by omega, by omega, by omega, h6⟩, ?_⟩, ?_⟩, X.book⟩
    · show T.heap.size + R'.cells ≤ e.platform.maxCells
      omega
    · show T.slotsUsed + R'.slots ≤ e.platform.maxSlots
      omega
  · rw [State.stackLimits_setFrames]; rfl
  · rw [State.stackBytes_setFrames]; rfl
  · refine ⟨?_, Nat.le_refl _, Nat.le_refl _, ?_, ?_, fun a c9 h9 => ⟨c9, h9, rfl, rfl, fun _ _ => rfl⟩⟩
    · obtain ⟨t, ht, -⟩ := State.frames_cons hr
      show T.setVm s.vm = { ((T.setVm s.vm).setFrames (.invoking m args :: below)).setFrames (T.setVm s.vm).frames with heap := T.heap, slotsUsed := T.slotsUsed }
      rw [State.setFrames_setFrames, State.setFrames_self ht]
      rfl
    · show T.slotsUsed = T.slotsUsed + ((T.heap.toList.drop T.heap.size).map (·.slots.size)).sum
      rw [List.drop_eq_nil_of_le (Nat.le_of_eq Array.length_toList)]
      rfl
    · show ((T.heap.toList.drop T.heap.size).map (·.slots.size)).sum ≤ 0
      rw [List.drop_eq_nil_of_le (Nat.le_of_eq Array.length_toList)]
      exact Nat.le_refl _
/-- 'throw new E()': new; dup; invokespecial; athrow -/
theorem vx_throw0 {cc : ByteArray} {pc : Nat} (hexec : p.tables.exec = Jvm.exec) (hb : c.code = cc) (hl : l.stackTraces = false) {own cls : String} {names : List String} {ik ic mc ms : Nat} {A : Nat → Prop}
    (hown : s.vm.findClass own = some m.cls) (hcls : Bundle.fit cls = true) (hnames : ∀ n ∈ names, Bundle.fit n = true)
    (hk : (Cond.classLink own ik cls).before args s = true) (hini : (Cond.initialized cls).before args s = true) (hat : ∀ w ∈ vx_at0 own ic cls names, w.before args s = true)
    (hgood : ∀ w ∈ Cond.classLink own ik cls :: Cond.initialized cls :: vx_at0 own ic cls names, vx_ot w = true)
    (hU : vx_Zq Bundle.tN "UNASSIGNED_STACK" Bundle.steD A s s.heap) (hN : vx_Zq Bundle.tN "SUPPRESSED_SENTINEL" Bundle.listD A s s.heap) (hS : va_S A s.heap H locs) (hsize : ls.size = c.maxLocals)
    (d0 : decode cc pc = .ok (.new ik, 3)) (d3 : decode cc (pc + 3) = .ok (.dup, 1)) (d4 : decode cc (pc + 4) = .ok (.invokespecial ic, 3)) (d7 : decode cc (pc + 7) = .ok (.athrow, 1))
    (hout : ∀ x ∈ c.exceptionTable.toList, covers x (pc + 7) = false)
    (hRframes : names.length + 3 < R.frames) (hRlocals : (rest.map fun v => v.category).sum + (13 * (names.length + 1) + 42) ≤ R.locals) (hRcells : cells + 1 ≤ R.cells) (hRslots : slots + 6 ≤ R.slots) (hlocks : meth.locks = false)
    (hx : ∀ t : State, s.vm.Alike t.vm → H.size ≤ t.heap.size → (∀ q : Nat, q < H.size → t.heap[q]? = H[q]?) → XC cls s t)
    (hf : ∀ z ∈ locs, free z.base) (hc : cells + 1 ≤ mc) (hs : slots + 6 ≤ ms) :
    W p l e R s m args below meth c H locs cells slots (vx_MQ below Qc XC args s mc ms free) (F0 m pc ls rest) := by
  intro T hT X
  have htr : e.platform.stackTraces = false := (show e.platform.stackTraces = l.stackTraces by rw [X.admits.platform]).trans hl
  have Y := vx_rebase X (R' := { frames := R.frames, locals := R.locals, cells := 1, slots := 6 }) (Nat.le_refl _) (Nat.le_refl _) hRcells hRslots
  obtain ⟨s', hA⟩ : ∃ z, z = (T.setVm s.vm).setFrames (.invoking m args :: below) := ⟨_, rfl⟩
  rw [← hA] at Y
  have hvm : s'.vm = s.vm := by rw [hA]; rfl
  have hhp : s'.heap = H := by rw [hA]; exact hT
  have hW0 : s.WarmedH s'.vm := by rw [hvm]; exact State.WarmedH.refl s
  have hat' : ∀ w ∈ vx_at0 own ic cls names, w.before args s' = true := fun w hw => vx_ot_at hW0 hvm.symm (hgood w (List.mem_cons_of_mem _ (List.mem_cons_of_mem _ hw))) (hat w hw)
  have hk' : (Cond.classLink own ik cls).before args s' = true := vx_ot_at hW0 hvm.symm (hgood _ List.mem_cons_self) hk
  have hini' : (Cond.initialized cls).before args s' = true := vx_ot_at hW0 hvm.symm (hgood _ (List.mem_cons_of_mem _ List.mem_cons_self)) hini
  have hU' : vx_Zq Bundle.tN "UNASSIGNED_STACK" Bundle.steD A s' s'.heap := by rw [hhp]; exact vx_Zq.moved hW0.alike (hU.kept hS.2.1)
  have hN' : vx_Zq Bundle.tN "SUPPRESSED_SENTINEL" Bundle.listD A s' s'.heap := by rw [hhp]; exact vx_Zq.moved hW0.alike (hN.kept hS.2.1)
  have h : ∀ w ∈ Bundle.ownAtoms0 own ic cls names, w.before args s' = true := vx_own hat' (vx_isRefq hU'.1) (vx_isRefq hN'.1) hU'.2.word hN'.2.word
  have hown' : s'.vm.findClass own = some m.cls := by rw [hvm]; exact hown
  have hins : (Cond.instantiable cls 6).before args s' = true := h _ (by simp [Bundle.ownAtoms0])
  obtain ⟨vm₁, cX, kX, hfX, hkX, -, -, X₁, st1⟩ := Y.newCold hexec (own := own) (C := cls) (index := ik) (n := 6) hown' hk' hins hini'
    (g := F0 m pc ls rest) rfl (by rw [hb]; exact d0) (Nat.le_refl _) (Nat.le_refl _)
  generalize hT1 : (T.setVm vm₁).pushCell { cls := cX, slots := kX.instanceTypes.map defaultValue, vm := .none } = T1 at X₁ st1
  have hcat : (Value.ref T.heap.size).category = 1 := rfl
  have hcellA : T1.heap[T.heap.size]? = some (freshCell cX kX) := by rw [← hT1]; exact State.heap_pushCell_size _ _
  have d3' : decode c.code (pc + 3) = .ok (.dup, 1) := by rw [hb]; exact d3
  obtain ⟨U, hsteps, hrun, hend, hW, hsame, ce, hce, hO⟩ := X₁.ctorThrow0 hexec htr (own := own) (cls := cls) (names := names) (ic := ic) hown' hcls hnames h (fun x hx => nomatch hx) hfX hkX hcellA (by rw [hhp, hT]; exact Nat.le_refl _)
    (g := { method := m, pc := pc + 4, locals := ls, stack := .ref T.heap.size :: .ref T.heap.size :: rest, locked := none }) rfl hsize rfl rfl (rest := rest) rfl
    (by rw [hb]; exact d4) (by rw [hb]; exact d7) hout hRframes (by simp only [List.map_cons, List.sum_cons, hcat]; omega) hlocks
  obtain ⟨f1, f2⟩ := vx_frame hsame
  rw [hhp] at f1 f2
  have hWs : s.WarmedH U.vm := State.WarmedH.trans hW0 hW
  have hcl : s.vm.findClass cls = some ce.cls := by
    have h9 := hO.cls
    rw [hvm] at h9
    exact h9
  have hall : s.sameButNew ({ U with vm := s.vm } : State) locs mc ms := by
    subst hA
    obtain ⟨e1, e2⟩ := hsame
    rw [State.setFrames_setFrames] at e1
    have h2 : (T.setVm s.vm).sameButNew ({ U with vm := s.vm } : State) [] (0 + 1) (0 + 6) := ⟨e1, e2⟩
    have h3 := X.same.trans h2
    rw [List.append_nil] at h3
    exact h3.mono hc hs
  refine ⟨U, ?_, .threw T.heap.size, hrun, hend, Or.inr ⟨T.heap.size, rfl, cls, ce, locs, hx U hWs.alike f1 (fun q hq => f2 q hq (fun z hz => nomatch hz)), hce, hO.vm, hcl, hWs, hall, hf⟩⟩
  refine st1 _ ?_
  show Steps p.tables e below (T1.setTop { method := m, pc := pc + 3, locals := ls, stack := .ref T.heap.size :: rest, locked := none }) _
  jvm_step X₁.here [X₁.here.top, hexec, d3', Value.category]
  exact hsteps
/-- 'throw new E("text")': new; dup; ldc; invokespecial; athrow -/
theorem vx_throwS {cc : ByteArray} {pc : Nat} (hexec : p.tables.exec = Jvm.exec) (hb : c.code = cc) (hl : l.stackTraces = false) {own cls text : String} {names : List String} {ik is ic mc ms sa : Nat} {A : Nat → Prop}
    (hown : s.vm.findClass own = some m.cls) (hcls : Bundle.fit cls = true) (hnames : ∀ n ∈ names, Bundle.fit n = true)
    (hk : (Cond.classLink own ik cls).before args s = true) (hini : (Cond.initialized cls).before args s = true) (hstr : vk_R own is text sa s) (hat : ∀ w ∈ vx_atS own ic cls names, w.before args s = true)
    (hgood : ∀ w ∈ Cond.classLink own ik cls :: Cond.initialized cls :: vx_atS own ic cls names, vx_ot w = true)
    (hU : vx_Zq Bundle.tN "UNASSIGNED_STACK" Bundle.steD A s s.heap) (hN : vx_Zq Bundle.tN "SUPPRESSED_SENTINEL" Bundle.listD A s s.heap) (hS : va_S A s.heap H locs) (hsize : ls.size = c.maxLocals)
    (d0 : decode cc pc = .ok (.new ik, 3)) (d3 : decode cc (pc + 3) = .ok (.dup, 1)) (d4 : decode cc (pc + 4) = .ok (.ldc is, 2)) (d6 : decode cc (pc + 6) = .ok (.invokespecial ic, 3)) (d9 : decode cc (pc + 9) = .ok (.athrow, 1))
    (hout : ∀ x ∈ c.exceptionTable.toList, covers x (pc + 9) = false)
    (hRframes : names.length + 3 < R.frames) (hRlocals : (rest.map fun v => v.category).sum + (13 * (names.length + 1) + 43) ≤ R.locals) (hRcells : cells + 1 ≤ R.cells) (hRslots : slots + 6 ≤ R.slots) (hlocks : meth.locks = false)
    (hx : ∀ t : State, s.vm.Alike t.vm → H.size ≤ t.heap.size → (∀ q : Nat, q < H.size → t.heap[q]? = H[q]?) → XC cls s t)
    (hf : ∀ z ∈ locs, free z.base) (hc : cells + 1 ≤ mc) (hs : slots + 6 ≤ ms) :
    W p l e R s m args below meth c H locs cells slots (vx_MQ below Qc XC args s mc ms free) (F0 m pc ls rest) := by
  intro T hT X
  have htr : e.platform.stackTraces = false := (show e.platform.stackTraces = l.stackTraces by rw [X.admits.platform]).trans hl
  have Y := vx_rebase X (R' := { frames := R.frames, locals := R.locals, cells := 1, slots := 6 }) (Nat.le_refl _) (Nat.le_refl _) hRcells hRslots
  obtain ⟨s', hA⟩ : ∃ z, z = (T.setVm s.vm).setFrames (.invoking m args :: below) := ⟨_, rfl⟩
  rw [← hA] at Y
  have hvm : s'.vm = s.vm := by rw [hA]; rfl
  have hhp : s'.heap = H := by rw [hA]; exact hT
  have hW0 : s.WarmedH s'.vm := by rw [hvm]; exact State.WarmedH.refl s
  have hat' : ∀ w ∈ vx_atS own ic cls names, w.before args s' = true := fun w hw => vx_ot_at hW0 hvm.symm (hgood w (List.mem_cons_of_mem _ (List.mem_cons_of_mem _ hw))) (hat w hw)
  have hk' : (Cond.classLink own ik cls).before args s' = true := vx_ot_at hW0 hvm.symm (hgood _ List.mem_cons_self) hk
  have hini' : (Cond.initialized cls).before args s' = true := vx_ot_at hW0 hvm.symm (hgood _ (List.mem_cons_of_mem _ List.mem_cons_self)) hini
  have hU' : vx_Zq Bundle.tN "UNASSIGNED_STACK" Bundle.steD A s' s'.heap := by rw [hhp]; exact vx_Zq.moved hW0.alike (hU.kept hS.2.1)
  have hN' : vx_Zq Bundle.tN "SUPPRESSED_SENTINEL" Bundle.listD A s' s'.heap := by rw [hhp]; exact vx_Zq.moved hW0.alike (hN.kept hS.2.1)
  have h : ∀ w ∈ Bundle.ownAtoms own ic cls names, w.before args s' = true := vx_own hat' (vx_isRefq hU'.1) (vx_isRefq hN'.1) hU'.2.word hN'.2.word
  have hown' : s'.vm.findClass own = some m.cls := by rw [hvm]; exact hown
  have hins : (Cond.instantiable cls 6).before args s' = true := h _ (by simp [Bundle.ownAtoms])
  obtain ⟨vm₁, cX, kX, hfX, hkX, -, -, X₁, st1⟩ := Y.newCold hexec (own := own) (C := cls) (index := ik) (n := 6) hown' hk' hins hini'
    (g := F0 m pc ls rest) rfl (by rw [hb]; exact d0) (Nat.le_refl _) (Nat.le_refl _)
  generalize hT1 : (T.setVm vm₁).pushCell { cls := cX, slots := kX.instanceTypes.map defaultValue, vm := .none } = T1 at X₁ st1
  have hcat : (Value.ref T.heap.size).category = 1 := rfl
  have hcellA : T1.heap[T.heap.size]? = some (freshCell cX kX) := by rw [← hT1]; exact State.heap_pushCell_size _ _
  have d3' : decode c.code (pc + 3) = .ok (.dup, 1) := by rw [hb]; exact d3
  have d4' : decode c.code (pc + 4) = .ok (.ldc is, 2) := by rw [hb]; exact d4
  have hstr' : vk_R own is text sa s' := vk_R.warm hW0 hstr
  obtain ⟨U, hsteps, hrun, hend, hW, hsame, ce, hce, hO⟩ := X₁.ctorThrowS hexec htr (own := own) (cls := cls) (names := names) (ic := ic) hown' hcls hnames h (fun x hx => nomatch hx) hfX hkX hcellA (by rw [hhp, hT]; exact Nat.le_refl _) (msg := .ref sa) rfl
    (g := { method := m, pc := pc + 6, locals := ls, stack := .ref sa :: .ref T.heap.size :: .ref T.heap.size :: rest, locked := none }) rfl hsize rfl rfl (rest := rest) rfl
    (by rw [hb]; exact d6) (by rw [hb]; exact d9) hout hRframes (by simp only [List.map_cons, List.sum_cons, hcat]; omega) hlocks
  obtain ⟨f1, f2⟩ := vx_frame hsame
  rw [hhp] at f1 f2
  have hWs : s.WarmedH U.vm := State.WarmedH.trans hW0 hW
  have hcl : s.vm.findClass cls = some ce.cls := by
    have h9 := hO.cls
    rw [hvm] at h9
    exact h9
  have hall : s.sameButNew ({ U with vm := s.vm } : State) locs mc ms := by
    subst hA
    obtain ⟨e1, e2⟩ := hsame
    rw [State.setFrames_setFrames] at e1
    have h2 : (T.setVm s.vm).sameButNew ({ U with vm := s.vm } : State) [] (0 + 1) (0 + 6) := ⟨e1, e2⟩
    have h3 := X.same.trans h2
    rw [List.append_nil] at h3
    exact h3.mono hc hs
  refine ⟨U, ?_, .threw T.heap.size, hrun, hend, Or.inr ⟨T.heap.size, rfl, cls, ce, locs, hx U hWs.alike f1 (fun q hq => f2 q hq (fun z hz => nomatch hz)), hce, hO.vm, hcl, hWs, hall, hf⟩⟩
  refine st1 _ ?_
  show Steps p.tables e below (T1.setTop { method := m, pc := pc + 3, locals := ls, stack := .ref T.heap.size :: rest, locked := none }) _
  jvm_step X₁.here [X₁.here.top, hexec, d3', Value.category]
  exact X₁.ldcString hexec (own := own) (text := text) (index := is) (a := sa) hown' hstr'.1 hstr'.2
    (g := { method := m, pc := pc + 4, locals := ls, stack := .ref T.heap.size :: .ref T.heap.size :: rest, locked := none }) rfl d4' _ hsteps
/-- 'throw new E("text")', the text by a wide index -/
theorem vx_throwSW {cc : ByteArray} {pc : Nat} (hexec : p.tables.exec = Jvm.exec) (hb : c.code = cc) (hl : l.stackTraces = false) {own cls text : String} {names : List String} {ik is ic mc ms sa : Nat} {A : Nat → Prop}
    (hown : s.vm.findClass own = some m.cls) (hcls : Bundle.fit cls = true) (hnames : ∀ n ∈ names, Bundle.fit n = true)
    (hk : (Cond.classLink own ik cls).before args s = true) (hini : (Cond.initialized cls).before args s = true) (hstr : vk_R own is text sa s) (hat : ∀ w ∈ vx_atS own ic cls names, w.before args s = true)
    (hgood : ∀ w ∈ Cond.classLink own ik cls :: Cond.initialized cls :: vx_atS own ic cls names, vx_ot w = true)
    (hU : vx_Zq Bundle.tN "UNASSIGNED_STACK" Bundle.steD A s s.heap) (hN : vx_Zq Bundle.tN "SUPPRESSED_SENTINEL" Bundle.listD A s s.heap) (hS : va_S A s.heap H locs) (hsize : ls.size = c.maxLocals)
    (d0 : decode cc pc = .ok (.new ik, 3)) (d3 : decode cc (pc + 3) = .ok (.dup, 1)) (d4 : decode cc (pc + 4) = .ok (.ldc_w is, 3)) (d7 : decode cc (pc + 7) = .ok (.invokespecial ic, 3)) (d10 : decode cc (pc + 10) = .ok (.athrow, 1))
    (hout : ∀ x ∈ c.exceptionTable.toList, covers x (pc + 10) = false)
    (hRframes : names.length + 3 < R.frames) (hRlocals : (rest.map fun v => v.category).sum + (13 * (names.length + 1) + 43) ≤ R.locals) (hRcells : cells + 1 ≤ R.cells) (hRslots : slots + 6 ≤ R.slots) (hlocks : meth.locks = false)
    (hx : ∀ t : State, s.vm.Alike t.vm → H.size ≤ t.heap.size → (∀ q : Nat, q < H.size → t.heap[q]? = H[q]?) → XC cls s t)
    (hf : ∀ z ∈ locs, free z.base) (hc : cells + 1 ≤ mc) (hs : slots + 6 ≤ ms) :
    W p l e R s m args below meth c H locs cells slots (vx_MQ below Qc XC args s mc ms free) (F0 m pc ls rest) := by
  intro T hT X
  have htr : e.platform.stackTraces = false := (show e.platform.stackTraces = l.stackTraces by rw [X.admits.platform]).trans hl
  have Y := vx_rebase X (R' := { frames := R.frames, locals := R.locals, cells := 1, slots := 6 }) (Nat.le_refl _) (Nat.le_refl _) hRcells hRslots
  obtain ⟨s', hA⟩ : ∃ z, z = (T.setVm s.vm).setFrames (.invoking m args :: below) := ⟨_, rfl⟩
  rw [← hA] at Y
  have hvm : s'.vm = s.vm := by rw [hA]; rfl
  have hhp : s'.heap = H := by rw [hA]; exact hT
  have hW0 : s.WarmedH s'.vm := by rw [hvm]; exact State.WarmedH.refl s
  have hat' : ∀ w ∈ vx_atS own ic cls names, w.before args s' = true := fun w hw => vx_ot_at hW0 hvm.symm (hgood w (List.mem_cons_of_mem _ (List.mem_cons_of_mem _ hw))) (hat w hw)
  have hk' : (Cond.classLink own ik cls).before args s' = true := vx_ot_at hW0 hvm.symm (hgood _ List.mem_cons_self) hk
  have hini' : (Cond.initialized cls).before args s' = true := vx_ot_at hW0 hvm.symm (hgood _ (List.mem_cons_of_mem _ List.mem_cons_self)) hini
  have hU' : vx_Zq Bundle.tN "UNASSIGNED_STACK" Bundle.steD A s' s'.heap := by rw [hhp]; exact vx_Zq.moved hW0.alike (hU.kept hS.2.1)
  have hN' : vx_Zq Bundle.tN "SUPPRESSED_SENTINEL" Bundle.listD A s' s'.heap := by rw [hhp]; exact vx_Zq.moved hW0.alike (hN.kept hS.2.1)
  have h : ∀ w ∈ Bundle.ownAtoms own ic cls names, w.before args s' = true := vx_own hat' (vx_isRefq hU'.1) (vx_isRefq hN'.1) hU'.2.word hN'.2.word
  have hown' : s'.vm.findClass own = some m.cls := by rw [hvm]; exact hown
  have hins : (Cond.instantiable cls 6).before args s' = true := h _ (by simp [Bundle.ownAtoms])
  obtain ⟨vm₁, cX, kX, hfX, hkX, -, -, X₁, st1⟩ := Y.newCold hexec (own := own) (C := cls) (index := ik) (n := 6) hown' hk' hins hini'
    (g := F0 m pc ls rest) rfl (by rw [hb]; exact d0) (Nat.le_refl _) (Nat.le_refl _)
  generalize hT1 : (T.setVm vm₁).pushCell { cls := cX, slots := kX.instanceTypes.map defaultValue, vm := .none } = T1 at X₁ st1
  have hcat : (Value.ref T.heap.size).category = 1 := rfl
  have hcellA : T1.heap[T.heap.size]? = some (freshCell cX kX) := by rw [← hT1]; exact State.heap_pushCell_size _ _
  have d3' : decode c.code (pc + 3) = .ok (.dup, 1) := by rw [hb]; exact d3
  have d4' : decode c.code (pc + 4) = .ok (.ldc_w is, 3) := by rw [hb]; exact d4
  have hstr' : vk_R own is text sa s' := vk_R.warm hW0 hstr
  obtain ⟨U, hsteps, hrun, hend, hW, hsame, ce, hce, hO⟩ := X₁.ctorThrowS hexec htr (own := own) (cls := cls) (names := names) (ic := ic) hown' hcls hnames h (fun x hx => nomatch hx) hfX hkX hcellA (by rw [hhp, hT]; exact Nat.le_refl _) (msg := .ref sa) rfl
    (g := { method := m, pc := pc + 7, locals := ls, stack := .ref sa :: .ref T.heap.size :: .ref T.heap.size :: rest, locked := none }) rfl hsize rfl rfl (rest := rest) rfl
    (by rw [hb]; exact d7) (by rw [hb]; exact d10) hout hRframes (by simp only [List.map_cons, List.sum_cons, hcat]; omega) hlocks
  obtain ⟨f1, f2⟩ := vx_frame hsame
  rw [hhp] at f1 f2
  have hWs : s.WarmedH U.vm := State.WarmedH.trans hW0 hW
  have hcl : s.vm.findClass cls = some ce.cls := by
    have h9 := hO.cls
    rw [hvm] at h9
    exact h9
  have hall : s.sameButNew ({ U with vm := s.vm } : State) locs mc ms := by
    subst hA
    obtain ⟨e1, e2⟩ := hsame
    rw [State.setFrames_setFrames] at e1
    have h2 : (T.setVm s.vm).sameButNew ({ U with vm := s.vm } : State) [] (0 + 1) (0 + 6) := ⟨e1, e2⟩
    have h3 := X.same.trans h2
    rw [List.append_nil] at h3
    exact h3.mono hc hs
  refine ⟨U, ?_, .threw T.heap.size, hrun, hend, Or.inr ⟨T.heap.size, rfl, cls, ce, locs, hx U hWs.alike f1 (fun q hq => f2 q hq (fun z hz => nomatch hz)), hce, hO.vm, hcl, hWs, hall, hf⟩⟩
  refine st1 _ ?_
  show Steps p.tables e below (T1.setTop { method := m, pc := pc + 3, locals := ls, stack := .ref T.heap.size :: rest, locked := none }) _
  jvm_step X₁.here [X₁.here.top, hexec, d3', Value.category]
  exact X₁.ldcStringW hexec (own := own) (text := text) (index := is) (a := sa) hown' hstr'.1 hstr'.2
    (g := { method := m, pc := pc + 4, locals := ls, stack := .ref T.heap.size :: .ref T.heap.size :: rest, locked := none }) rfl d4' _ hsteps
end Ends
section Bodies
variable {l : Launch}
theorem vx_ofW {y : MethodName} {ws ws' : List Cond} {rm : Room} {Pc : Array Value → State → Prop} {Qc : Array Value → State → Outcome → State → Prop} {XC : String → State → State → Prop} {mc ms : Nat} {free : Addr → Prop} {cc : ByteArray} {maxL : Nat} {ret : Option FieldType}
    (hy : plainName y.cls = true) (hw : ws = Cond.code y cc maxL ret :: ws')
    (body : ∀ p e s m args below meth c s₁, BodyLoose p l y (headSpec ws rm) cc maxL ret e s m args below meth c s₁ → c.maxLocals = maxL → (∀ x ∈ c.exceptionTable.toList, False) → Pc args s →
      W p l e (headSpec ws rm).room s m args below meth c s.heap [] 0 0 (vx_MQ below Qc XC args s mc ms free) (entryFrame m args maxL)) : vx_Met l y ws rm Pc Qc XC mc ms free := by
  refine MetFree.of_bodyS (code := cc) (maxLocals := maxL) (ret := ret) hy ?_ ?_
  · intro args s m h hn
    obtain ⟨meth, c, h1, h2, h3, h4, h5, h6, -, -⟩ := Cond.code_spec hn (atoms_spec (ws := ws) h _ (by rw [hw]; exact List.mem_cons_self))
    exact ⟨meth, c, h1, h2, h3, h4, h5, h6⟩
  · intro p e s m args below meth c s₁ B hml hP _
    have hh0 : s₁.heap = s.heap := by rw [B.state]; rfl
    have ht : ∀ x ∈ c.exceptionTable.toList, False := by
      obtain ⟨meth9, c9, h1, h2, -, -, -, -, h7, -⟩ := Cond.code_spec B.named (atoms_spec (ws := ws) B.pre _ (by rw [hw]; exact List.mem_cons_self))
      cases Option.some.inj (h1.symm.trans B.method)
      cases Option.some.inj (h2.symm.trans (Stand.of_body B).code)
      intro x hx
      rw [Array.isEmpty_iff.mp h7] at hx
      cases hx
    obtain ⟨t, a1, o, b1, b2, b3⟩ := body p e s m args below meth c s₁ B hml ht hP s₁ hh0 (Stand.of_body B)
    exact ⟨t, o, a1, b1, b2, b3⟩
/-- the table of a body with handlers -/
theorem vx_table {p : Program} {x y : MethodName} {S : Spec} {cc bytes : ByteArray} {maxL maxL' : Nat} {ret ret' : Option FieldType} {e : Env} {s s₁ : State} {m : MethodId} {args : Array Value} {below : List Frame} {meth : Method} {c : Code} {hh : List (Nat × Nat × Nat × Nat)}
    (B : BodyLoose p l y S cc maxL ret e s m args below meth c s₁) (h : (Cond.codeWith y bytes maxL' ret' hh).before args s = true) : c.exceptionTable.toList = tableOf hh := by
  obtain ⟨m9, meth9, c9, hn9, h1, h2, -, -, h6, -⟩ := Cond.codeWith_spec h
  cases Option.some.inj (hn9.symm.trans B.named)
  cases Option.some.inj (h1.symm.trans B.method)
  cases Option.some.inj (h2.symm.trans (Stand.of_body B).code)
  rw [← h6, table_eq]
end Bodies
end VXA
/-! ===== END ===== -/
/-! ===== BEGIN a static call of a method with an exception table ===== -/
section VXS
variable {p : Program} {l : Launch} {e : Env} {R : Room} {s : State} {m : MethodId} {args : Array Value} {below : List Frame} {meth : Method} {c : Code} {T : State} {H : Heap} {locs : List Loc} {cells slots : Nat}
abbrev vx_CSW (R : Room) (s : State) (args : Array Value) (own : String) (index : Nat) (y : MethodName) (bytes : ByteArray) (maxL : Nat) (ret : Option FieldType) (hh : List (Nat × Nat × Nat × Nat)) (ws : List Cond) (rm : Room) (mc ms n : Nat) : Prop :=
  (rm.cells = mc ∧ rm.slots = ms ∧ rm.frames + 1 ≤ R.frames ∧ 8 + (maxL + 11) + rm.locals ≤ R.locals ∧ (∀ w ∈ ws, ∀ (a' : Array Value) (U : State), s.WarmedH U.vm → w.before a' U = true) ∧ Cond.codeWith y bytes maxL ret hh ∈ ws) ∧
  (Cond.codeWith y bytes maxL ret hh).before args s = true ∧ (Cond.initialized y.cls).before args s = true ∧ (y.cls ≠ "java/lang/invoke/MethodHandle" ∧ y.cls ≠ "java/lang/invoke/VarHandle") ∧
  (∀ sig, parseMethodDescriptor y.desc = some sig → n = sig.parameters.length) ∧ (Cond.methodLink own index y).before args s = true ∧ (Cond.static y).before args s = true
theorem vx_cwSW {own : String} {index maxL mc ms : Nat} {y : MethodName} {bytes : ByteArray} {ret : Option FieldType} {hh : List (Nat × Nat × Nat × Nat)} {Ts ws ws' : List Cond} {rm : Room} (n : Nat) (ht : ∀ w ∈ Ts, w.before args s = true) (hT : GoodIn Ts (va_wsS own index y ws)) (hw : ws = Cond.codeWith y bytes maxL ret hh :: ws') (hrc : rm.cells = mc) (hrs : rm.slots = ms)
    (hd : y.cls ≠ "java/lang/invoke/MethodHandle" ∧ y.cls ≠ "java/lang/invoke/VarHandle" ∧ (parseMethodDescriptor y.desc).map (fun d => d.parameters.length) = some n) (hR : rm.frames + 1 ≤ R.frames ∧ 8 + (maxL + 11) + rm.locals ≤ R.locals) :
    vx_CSW R s args own index y bytes maxL ret hh ws rm mc ms n := by
  have ok : ∀ w ∈ va_wsS own index y ws, w.before args s = true := fun w h => ht w (hT w h).1
  have hG : GoodIn Ts ws := fun w h => hT w (by unfold va_wsS; exact List.mem_append_right _ h)
  have hc : Cond.codeWith y bytes maxL ret hh ∈ ws := by rw [hw]; exact List.mem_cons_self
  refine ⟨⟨hrc, hrs, hR.1, hR.2, pay_in ht hG, hc⟩, ht _ (hG _ hc).1, ok _ (by simp [va_wsS]), ⟨hd.1, hd.2.1⟩, fun sig h => ?_, ok _ (by simp [va_wsS]), ok _ (by simp [va_wsS])⟩
  have h2 := hd.2.2
  rw [h] at h2
  exact (Option.some.inj h2).symm
theorem vx_callSW (X : Stand p l e R s m args below meth c T locs cells slots) (hexec : p.tables.exec = Jvm.exec) {own : String} {index : Nat} {y : MethodName} {bytes : ByteArray} {maxL : Nat} {ret : Option FieldType} {hh : List (Nat × Nat × Nat × Nat)}
    (hown : s.vm.findClass own = some m.cls) (hlink : (Cond.methodLink own index y).before args s = true) (hstat : (Cond.static y).before args s = true) (hinit : (Cond.initialized y.cls).before args s = true)
    (hcode : (Cond.codeWith y bytes maxL ret hh).before args s = true) (hy : y.cls ≠ "java/lang/invoke/MethodHandle" ∧ y.cls ≠ "java/lang/invoke/VarHandle")
    {W9 : Nat} {Pre : Pt → Array Value → Prop} {Post : Pt → Array Value → Option Value → Pt → Prop} (hK : Back l R p e below s args y 3 W9 Pre Post)
    {g : JFrame} (hg : g.method = m) (hsize : g.locals.size = c.maxLocals) {argsL rest : List Value} (hlen : ∀ sig, parseMethodDescriptor y.desc = some sig → argsL.length = sig.parameters.length)
    (hstack : g.stack = argsL.reverse ++ rest) (hW : 2 * g.monitorRoom + (rest.map fun v => v.category).sum ≤ W9) (hdg : decode c.code g.pc = .ok (.invokestatic index, 3))
    (hpre : ∀ vm₁, s.WarmedH vm₁ → Pre ⟨T.setVm vm₁, locs, cells, slots⟩ argsL.toArray) :
    ∃ (v : Option Value) (vm₁ : Vm) (B : Pt), s.WarmedH vm₁ ∧ Stand p l e R s m args below meth c B.U B.locs B.cells B.slots ∧ Post ⟨T.setVm vm₁, locs, cells, slots⟩ argsL.toArray v B ∧
      ∀ target, Steps p.tables e below (B.U.setTop { g with pc := g.pc + 3, stack := v.toList ++ rest }) target → Steps p.tables e below (T.setTop g) target := by
  obtain ⟨mk, methM, cM, hnamed, hmethM, -, -, -, -, -, -, hsigM⟩ := Cond.codeWith_spec hcode
  have hstatic : methM.isStatic = true := Cond.static_spec hnamed hmethM hstat
  obtain ⟨kP, hkP, -⟩ := className_of_methodNamed hnamed
  have hinitP : kP.init = .initialized := Cond.initialized_spec (findClass_of_methodNamed hnamed) hkP hinit
  obtain ⟨vm₁, X₁, hstep₁⟩ := X.invokestatic hexec hown hlink hnamed hmethM hstatic hkP hinitP hy (g := g) hg (argsL := argsL) (rest := rest) (hlen _ hsigM) hstack hdg
  obtain ⟨v, B, X', hpost, hsteps⟩ := hK m meth c ⟨T.setVm vm₁, locs, cells, slots⟩ { g with stack := rest } (.invokestatic index) mk argsL.toArray X₁ hg hsize hdg hW (X₁.named hnamed) (hpre vm₁ X₁.warmed)
  exact ⟨v, vm₁, B, X₁.warmed, X', hpost, fun target h => hstep₁ _ fun acts => by rw [doInvoke_state]; exact hsteps.trans h⟩
theorem vx_runSW {y : MethodName} {bytes cc : ByteArray} {maxL nL mc ms n index : Nat} {ret : Option FieldType} {hh : List (Nat × Nat × Nat × Nat)} {ws : List Cond} {rm : Room} {Pc : Array Value → State → Prop} {Qc : Array Value → State → Outcome → State → Prop} {free : Addr → Prop} {Ts : List Cond} {own : String} {As rest : List Value} {g : JFrame}
    (S : CallFix p m c cc nL s args Ts own) (hM : Met l y ws rm Pc Qc mc ms free) (cw : vx_CSW R s args own index y bytes maxL ret hh ws rm mc ms n) (hp : PreS s H Pc As)
    (hg : g.method = m) (hn : As.length = n) (hsize : g.locals.size = nL) (hstack : g.stack = As.reverse ++ rest) (hW : 2 * g.monitorRoom + (rest.map fun v => v.category).sum ≤ 8) (hdg : decode cc g.pc = .ok (.invokestatic index, 3)) (hf : cells + mc ≤ R.cells ∧ slots + ms ≤ R.slots) :
    va_Run p l e R s m args below meth c H locs cells slots mc ms g rest (Qc As.toArray) (free) := by
  obtain ⟨⟨hrc, hrs, hfr, hlo, hws, hcw⟩, hcode, hini, hy, hlen, hl, hstt⟩ := cw
  have hK : Back l R p e below s args y 3 8 (PreOf R mc ms Pc) (PostOf Qc mc ms free) := va_backW (hh := hh) (bytes := bytes) (maxL := maxL) (ret := ret) hM hp.1 hrc hrs hfr hlo hws hcw (fun a' U hW => word_at hW (Or.inl (by first | rfl | simp [Cond.onTables, Cond.keeps, Cond.steady])) hini)
  obtain ⟨hx, hb, hml, ho, -⟩ := S
  intro T hT X
  obtain ⟨v, vm₁, ⟨U', l2, c2, s2⟩, hW₁, X', ⟨g', mk, t, L, e1, e2, hq, h1, hL, h2, h3⟩, st⟩ := vx_callSW X hx (hh := hh) (bytes := bytes) (maxL := maxL) (ret := ret) ho hl hstt hini hcode hy hK hg (hsize.trans hml.symm) (argsL := As) (rest := rest) (fun sig h => hn.trans (hlen sig h)) hstack hW (by rw [hb]; exact hdg)
    (fun vm₁ hW₁ => ⟨hf.1, hf.2, hp.2 (T.setVm vm₁) hT hW₁⟩)
  dsimp only [Pt.U, Pt.locs, Pt.cells, Pt.slots] at X' e1 e2 h1 h2 h3 st
  subst h1; subst h2; subst h3
  exact ⟨v, (T.setVm vm₁).calling g' mk As.toArray, t, U', L, hT, X', hL, e1, e2, hq, st⟩
/-- not caught here, past rows that name other classes: it goes on to the caller -/
theorem vx_outP {p : Program} {l : Launch} {e : Env} {R : Room} {s : State} {m : MethodId} {args : Array Value} {below : List Frame} {meth : Method} {c : Code} {H : Heap} {locs : List Loc} {cells slots : Nat} {free : Addr → Prop} {ls : Array Slot} {rest : List Value} {Qc : Array Value → State → Outcome → State → Prop} {XC : String → State → State → Prop}
    {pc : Nat} {own E : String} {ce : Cell} {q : Addr} {mc ms : Nat} (hown : s.vm.findClass own = some m.cls) (hlocks : meth.locks = false)
    (hpass : ∀ z ∈ c.exceptionTable.toList, covers z pc = false ∨ (z.catchType ≠ 0 ∧ ∃ nm : String, (Cond.classLink own z.catchType nm).before args s = true ∧ va_Nc E nm s)) (hcell : H[q]? = some ce) (hv : ce.vm = .none) (hcl : s.vm.findClass E = some ce.cls)
    (hx : ∀ t : State, t.heap = H → s.vm.Alike t.vm → XC E s t) (hf : ∀ z ∈ locs, free z.base) (hc : cells ≤ mc) (hs : slots ≤ ms) :
    vx_W p l e R s m args below meth c H locs cells slots (vx_MQ below Qc XC args s mc ms free) (F0 m pc ls rest) q := by
  intro T hT X
  have hpl : e.platform.magicAccessors = ({} : Platform).magicAccessors := by rw [X.admits.platform]
  obtain ⟨vm', hW', X', st⟩ := X.outThrough hlocks q (g := F0 m pc ls rest) rfl rfl rfl (cell := ce) (by rw [hT]; exact hcell) (by rw [hv]; rfl)
    (by obtain ⟨k9, h9, -⟩ := Vm.findClass_spec hcl; exact ⟨k9, h9⟩) (fun z hz => by
      rcases hpass z hz with h | ⟨hz0, nm, hl1, hn1⟩
      · exact Or.inl h
      · obtain ⟨c6, hc6, hcl6⟩ := Cond.classLink_spec hown hl1 e.platform hpl
        obtain ⟨a8, b8, h1, h2, h3⟩ := hn1
        cases Option.some.inj (h1.symm.trans hcl)
        cases Option.some.inj (h2.symm.trans hc6)
        exact Or.inr ⟨hz0, _, hcl6, h3⟩)
  obtain ⟨g₀, hfr⟩ := X'.frames_eq
  have hcell9 : ((T.setVm vm').setFrames (.throwing q :: below)).heap[q]? = some ce := by
    show T.heap[q]? = some ce
    rw [hT]; exact hcell
  have hend : Ended ((T.setVm vm').setFrames (.throwing q :: below)) below (.threw q) := State.frames_setFrames _ (State.cur_lt_of_frames hfr)
  refine ⟨(T.setVm vm').setFrames (.throwing q :: below), ?_, .threw q, X'.here.running, hend, Or.inr ⟨q, rfl, E, ce, locs, hx _ hT (X'.ends _).1.alike, hcell9, hv, hcl, (X'.ends _).1, (X'.ends _).2.mono hc hs, hf⟩⟩
  rw [X.pushThrowing_eq]
  exact st
/-- a thing of a world lies in the heap -/
theorem vx_lt {D : va_G} {cl : List vw_C} {ws : va_W} {H1 : Heap} (h : va_P D cl ws H1) {k : Nat} {q : Nat × va_E} (hk : ws[k]? = some q) : q.1 < H1.size := (h k q hk).lt
end VXS
/-! ===== END ===== -/
/-! ===== BEGIN methods with a table of their own: called by a name, returning or throwing ===== -/
section VXH
/-! vx_backW, vx_callVX, vx_callSX, vx_callVW, vx_runVW, vx_runVX, vx_runSX, vx_ofWH follow the same proofs as their sisters above (Free/Laws.lean, Shelf42/LK1.lean); vx_outP calls Shelf42/NT130.lean (outThrough). -/
section
variable {l : Launch} {R : Room} {p : Program} {e : Env} {below : List Frame} {s : State} {sargs : Array Value} {y : MethodName} {len W9 : Nat}
theorem vx_backW {ws : List Cond} {rm : Room} {Pc : Array Value → State → Prop} {Qc : Array Value → State → Outcome → State → Prop} {XC : String → State → State → Prop} {mc ms : Nat} {free : Addr → Prop} {bytes : ByteArray} {maxL : Nat} {ret : Option FieldType} {hh : List (Nat × Nat × Nat × Nat)}
    (hM : vx_Met l y ws rm Pc Qc XC mc ms free) (hblind : FrameBlind Pc) (hrc : rm.cells = mc) (hrs : rm.slots = ms)
    (hframes : rm.frames + 1 ≤ R.frames) (hlocals : W9 + (maxL + 11) + rm.locals ≤ R.locals)
    (hws : ∀ w ∈ ws, ∀ a' U, s.WarmedH U.vm → w.before a' U = true) (hcode : Cond.codeWith y bytes maxL ret hh ∈ ws) (hinit : ∀ a' U, s.WarmedH U.vm → (Cond.initialized y.cls).before a' U = true) :
    vx_Back l R p e below s sargs y len W9 (PreOf R mc ms Pc) (PostOf Qc mc ms free) (vx_Post XC mc ms free) := by
  intro m meth c A g ig mk a X hg hsize hdg hW hn hp
  have h1 : (headSpec ws rm).pre.before a A.U = true := atoms_intro fun w hw => hws w hw _ _ X.warmed
  have h2 : (Cond.codeWith y bytes maxL ret hh).before a A.U = true := hws _ hcode _ _ X.warmed
  have h3 : (Cond.initialized y.cls).before a A.U = true := hinit _ _ X.warmed
  have h4 : A.cells + (headSpec ws rm).room.cells ≤ R.cells := by rw [show (headSpec ws rm).room.cells = mc from hrc]; exact hp.1
  have h5 : A.slots + (headSpec ws rm).room.slots ≤ R.slots := by rw [show (headSpec ws rm).room.slots = ms from hrs]; exact hp.2.1
  have hPc : Pc a (A.U.calling g mk a) := hblind _ _ _ _ hp.2.2
  obtain ⟨U, Ls, c0, s0⟩ := A
  dsimp only [Pt.U, Pt.locs, Pt.cells, Pt.slots] at h1 h2 h3 h4 h5 X hn hPc ⊢
  obtain ⟨m9, methY, cY, hn9, hmY, hcY, -, hlY, -⟩ := Cond.codeWith_spec h2
  cases Option.some.inj (hn9.symm.trans hn)
  obtain ⟨kY, hkY, -⟩ := className_of_methodNamed hn
  have hinitY : kY.init = .initialized := Cond.initialized_spec (findClass_of_methodNamed hn) hkY h3
  have h : At U g.method c below := by rw [hg]; exact X.here
  have hlocals9 : W9 + (maxL + 11) + (headSpec ws rm).room.locals ≤ R.locals := hlocals
  have happ : (headSpec ws rm).appliesLoose y e.platform (U.calling g mk a) = true :=
    Spec.appliesLoose_calling (g := g) h hdg hn hkY hinitY
      (X.room_calling (g := g) (R' := (headSpec ws rm).room) hsize hmY hcY hframes (by rw [hlY]; omega) h4 h5) h1
  obtain ⟨mid, hmid⟩ := h.above
  have hfr : (U.setTop g).frames = (.java g :: mid) ++ below := by rw [State.frames_setTop' g h.top, hmid]; rfl
  obtain ⟨o, s₂, hsteps, -, hend, hq⟩ := Steps.callFree hM p X.admits X.cas X.clock (acts := []) hfr happ hPc trivial
  have hq' : vx_Q Qc XC mc ms free a (U.calling g mk a) o s₂ := hq
  rw [State.frames_setTop' g h.top] at hend
  obtain ⟨g₀, hg0⟩ := Option.isSome_iff_exists.mp h.top
  obtain ⟨r, hr⟩ := State.topJava?_eq_some.mp hg0
  have hr' : (({ U with heap := s₂.heap, slotsUsed := s₂.slotsUsed } : State).setVm s₂.vm).frames = .java g₀ :: r := hr
  rcases hq' with ⟨hqc, L, hfe, hL⟩ | ⟨q, rfl, E, ce, L, hx, hce, hcv, hcl, hW₂, hsm, hL⟩
  · obtain ⟨⟨v, rfl⟩, hW₂, e2, q2, q3, q4, q5, q6⟩ := id hfe
    have e3 : s₂ = ({ (U.calling g mk a).setFrames s₂.frames with heap := s₂.heap, slotsUsed := s₂.slotsUsed } : State).setVm s₂.vm := by
      have : s₂ = ({ s₂ with vm := (U.calling g mk a).vm } : State).setVm s₂.vm := rfl
      rw [e2] at this
      exact this
    obtain ⟨c₂, i₂, len₂, hc₂, hd₂, hf₂⟩ := hend
    have hW' : U.WarmedH s₂.vm := hW₂
    have hcc : c₂ = c := by
      have h1 : s₂.code? g.method = U.code? g.method := by
        rw [State.code?_eq, State.code?_eq, hW'.alike.method?]
      exact Option.some.inj (hc₂.symm.trans (h1.trans h.code))
    subst hcc
    have hlen : len₂ = len := by rw [hdg] at hd₂; cases hd₂; rfl
    subst hlen
    have hs₂ : s₂ = (({ U with heap := s₂.heap, slotsUsed := s₂.slotsUsed } : State).setVm s₂.vm).setTop { g with pc := g.pc + len₂, stack := v.toList ++ g.stack } := by
      refine e3.trans ?_
      rw [hf₂, State.calling_eq h.top, State.setFrames_setFrames, State.setTop_of_frames _ hr', hr]
      rfl
    have hsame : U.sameButNew ({ U with heap := s₂.heap, slotsUsed := s₂.slotsUsed } : State) L mc ms := by
      refine ⟨?_, q2, q3, q4, q5, q6⟩
      obtain ⟨t, ht, -⟩ := State.frames_cons hr
      show ({ U with heap := s₂.heap, slotsUsed := s₂.slotsUsed } : State) = { U.setFrames U.frames with heap := s₂.heap, slotsUsed := s₂.slotsUsed }
      rw [State.setFrames_self ht]
    subst hg
    refine Or.inl ⟨v, ⟨(({ U with heap := s₂.heap, slotsUsed := s₂.slotsUsed } : State).setVm s₂.vm), Ls ++ L, c0 + mc, s0 + ms⟩,
      ⟨X.admits, X.cas, X.clock, X.frames, X.room, X.hears, X.method, X.code, (X.here.setHeapUsed s₂.heap s₂.slotsUsed).setVm hW'.alike, X.tail, State.WarmedH.trans X.warmed hW', X.limits, X.bytes, X.same.trans (hsame.setVm s.vm)⟩,
      ⟨g, mk, s₂, L, rfl, rfl, hqc, rfl, hL, rfl, rfl⟩, ?_⟩
    show Steps p.tables e below _ ((({ U with heap := s₂.heap, slotsUsed := s₂.slotsUsed } : State).setVm s₂.vm).setTop { g with pc := g.pc + len₂, stack := v.toList ++ g.stack })
    rw [← hs₂]
    exact hsteps
  · obtain ⟨e2, q2, q3, q4, q5, q6⟩ := id hsm
    have e3 : s₂ = ({ (U.calling g mk a).setFrames s₂.frames with heap := s₂.heap, slotsUsed := s₂.slotsUsed } : State).setVm s₂.vm := by
      have : s₂ = ({ s₂ with vm := (U.calling g mk a).vm } : State).setVm s₂.vm := rfl
      rw [e2] at this
      exact this
    have hf₂ : s₂.frames = .throwing q :: .java g :: U.frames.tail := hend
    have hW' : U.WarmedH s₂.vm := hW₂
    have hs₂ : s₂ = ((({ U with heap := s₂.heap, slotsUsed := s₂.slotsUsed } : State).setVm s₂.vm).setTop g).pushFrame (.throwing q) := by
      refine e3.trans ?_
      rw [hf₂, State.calling_eq h.top, State.setFrames_setFrames, State.pushFrame, State.frames_setTop _ hr', State.setTop_of_frames _ hr', State.setFrames_setFrames, hr]
      rfl
    have hsame : U.sameButNew ({ U with heap := s₂.heap, slotsUsed := s₂.slotsUsed } : State) L mc ms := by
      refine ⟨?_, q2, q3, q4, q5, q6⟩
      obtain ⟨t, ht, -⟩ := State.frames_cons hr
      show ({ U with heap := s₂.heap, slotsUsed := s₂.slotsUsed } : State) = { U.setFrames U.frames with heap := s₂.heap, slotsUsed := s₂.slotsUsed }
      rw [State.setFrames_self ht]
    subst hg
    refine Or.inr ⟨q, ⟨(({ U with heap := s₂.heap, slotsUsed := s₂.slotsUsed } : State).setVm s₂.vm), Ls ++ L, c0 + mc, s0 + ms⟩,
      ⟨X.admits, X.cas, X.clock, X.frames, X.room, X.hears, X.method, X.code, (X.here.setHeapUsed s₂.heap s₂.slotsUsed).setVm hW'.alike, X.tail, State.WarmedH.trans X.warmed hW', X.limits, X.bytes, X.same.trans (hsame.setVm s.vm)⟩,
      ⟨g, mk, s₂, L, E, ce, rfl, rfl, hx, hce, hcv, hcl, rfl, hL, rfl, rfl⟩, ?_⟩
    show Steps p.tables e below _ (((({ U with heap := s₂.heap, slotsUsed := s₂.slotsUsed } : State).setVm s₂.vm).setTop g).pushFrame (.throwing q))
    rw [← hs₂]
    exact hsteps
end
variable {p : Program} {l : Launch} {e : Env} {R : Room} {s : State} {m : MethodId} {args : Array Value} {below : List Frame} {meth : Method} {c : Code} {T : State} {H : Heap} {locs : List Loc} {cells slots : Nat}
theorem vx_callVX (X : Stand p l e R s m args below meth c T locs cells slots) (hexec : p.tables.exec = Jvm.exec) {own C : String} {index : Nat} {y : MethodName} {bytes : ByteArray} {maxL : Nat} {ret : Option FieldType} {hh : List (Nat × Nat × Nat × Nat)}
    (hown : s.vm.findClass own = some m.cls) (hlink : (Cond.methodLink own index y).before args s = true) (hinst : (Cond.instanceMethod y).before args s = true) (hsel : (Cond.selects C y y).before args s = true)
    (hcode : (Cond.codeWith y bytes maxL ret hh).before args s = true) (hy : y.cls ≠ "java/lang/invoke/MethodHandle" ∧ y.cls ≠ "java/lang/invoke/VarHandle")
    {W9 : Nat} {Pre : Pt → Array Value → Prop} {Post : Pt → Array Value → Option Value → Pt → Prop} {PostX : Pt → Array Value → Addr → Pt → Prop} (hK : vx_Back l R p e below s args y 3 W9 Pre Post PostX)
    {b : Addr} {cellB : Cell} (hcell : T.heap[b]? = some cellB) (hobj : cellB.vm.isStatics = false) (hcls : s.vm.findClass C = some cellB.cls)
    {g : JFrame} (hg : g.method = m) (hsize : g.locals.size = c.maxLocals) {argsL rest : List Value} (hlen : ∀ sig, parseMethodDescriptor y.desc = some sig → argsL.length = sig.parameters.length)
    (hstack : g.stack = argsL.reverse ++ .ref b :: rest) (hW : 2 * g.monitorRoom + (rest.map fun v => v.category).sum ≤ W9) (hdg : decode c.code g.pc = .ok (.invokevirtual index, 3))
    (hpre : ∀ vm₁, s.WarmedH vm₁ → Pre ⟨T.setVm vm₁, locs, cells, slots⟩ (Value.ref b :: argsL).toArray) :
    (∃ (v : Option Value) (vm₁ : Vm) (B : Pt), s.WarmedH vm₁ ∧ Stand p l e R s m args below meth c B.U B.locs B.cells B.slots ∧ Post ⟨T.setVm vm₁, locs, cells, slots⟩ (Value.ref b :: argsL).toArray v B ∧
      ∀ target, Steps p.tables e below (B.U.setTop { g with pc := g.pc + 3, stack := v.toList ++ rest }) target → Steps p.tables e below (T.setTop g) target) ∨
    (∃ (q : Addr) (vm₁ : Vm) (B : Pt), s.WarmedH vm₁ ∧ Stand p l e R s m args below meth c B.U B.locs B.cells B.slots ∧ PostX ⟨T.setVm vm₁, locs, cells, slots⟩ (Value.ref b :: argsL).toArray q B ∧
      Steps p.tables e below (T.setTop g) ((B.U.setTop { g with stack := rest }).pushFrame (.throwing q))) := by
  obtain ⟨mk, methM, hnamed, hmethM, hstM, habM⟩ := Cond.instanceMethod_spec hinst
  obtain ⟨m8, methM', cM, hn8, hmethM', -, -, -, -, -, -, hsigM⟩ := Cond.codeWith_spec hcode
  cases Option.some.inj (hn8.symm.trans hnamed)
  cases hmethM.symm.trans hmethM'
  obtain ⟨c2, r2, m2, q1, q2, q3, q4, kP, hkP, hkPi⟩ := Cond.selects_spec hsel
  cases hcls.symm.trans q1
  cases (State.methodFound?_of_named hnamed hy).symm.trans q2
  cases hnamed.symm.trans q3
  have hselP : selectMethod e.platform s.vm cellB.cls mk = .method mk := by rw [Launch.admits_selectMethod X.admits]; exact q4
  obtain ⟨vm₁, X₁, hstep₁⟩ := X.invokevirtual hexec hown hlink hnamed hmethM hstM hkP hkPi hy (a := b) (cell := cellB) hcell
    (fun z h => by rw [h] at hobj; cases hobj) hselP hmethM habM hkP hkPi (g := g) hg (argsL := argsL) (rest := rest) (hlen _ hsigM) hstack hdg
  rcases hK m meth c ⟨T.setVm vm₁, locs, cells, slots⟩ { g with stack := rest } (.invokevirtual index) mk (Value.ref b :: argsL).toArray X₁ hg hsize hdg hW (X₁.named hnamed) (hpre vm₁ X₁.warmed) with ⟨v, B, X', hpost, hsteps⟩ | ⟨q, B, X', hpost, hsteps⟩
  · exact Or.inl ⟨v, vm₁, B, X₁.warmed, X', hpost, fun target h => hstep₁ _ fun acts => by rw [doInvoke_state]; exact hsteps.trans h⟩
  · exact Or.inr ⟨q, vm₁, B, X₁.warmed, X', hpost, hstep₁ _ fun acts => by rw [doInvoke_state]; exact hsteps⟩
theorem vx_callSX (X : Stand p l e R s m args below meth c T locs cells slots) (hexec : p.tables.exec = Jvm.exec) {own : String} {index : Nat} {y : MethodName} {bytes : ByteArray} {maxL : Nat} {ret : Option FieldType} {hh : List (Nat × Nat × Nat × Nat)}
    (hown : s.vm.findClass own = some m.cls) (hlink : (Cond.methodLink own index y).before args s = true) (hstat : (Cond.static y).before args s = true) (hinit : (Cond.initialized y.cls).before args s = true)
    (hcode : (Cond.codeWith y bytes maxL ret hh).before args s = true) (hy : y.cls ≠ "java/lang/invoke/MethodHandle" ∧ y.cls ≠ "java/lang/invoke/VarHandle")
    {W9 : Nat} {Pre : Pt → Array Value → Prop} {Post : Pt → Array Value → Option Value → Pt → Prop} {PostX : Pt → Array Value → Addr → Pt → Prop} (hK : vx_Back l R p e below s args y 3 W9 Pre Post PostX)
    {g : JFrame} (hg : g.method = m) (hsize : g.locals.size = c.maxLocals) {argsL rest : List Value} (hlen : ∀ sig, parseMethodDescriptor y.desc = some sig → argsL.length = sig.parameters.length)
    (hstack : g.stack = argsL.reverse ++ rest) (hW : 2 * g.monitorRoom + (rest.map fun v => v.category).sum ≤ W9) (hdg : decode c.code g.pc = .ok (.invokestatic index, 3))
    (hpre : ∀ vm₁, s.WarmedH vm₁ → Pre ⟨T.setVm vm₁, locs, cells, slots⟩ argsL.toArray) :
    (∃ (v : Option Value) (vm₁ : Vm) (B : Pt), s.WarmedH vm₁ ∧ Stand p l e R s m args below meth c B.U B.locs B.cells B.slots ∧ Post ⟨T.setVm vm₁, locs, cells, slots⟩ argsL.toArray v B ∧
      ∀ target, Steps p.tables e below (B.U.setTop { g with pc := g.pc + 3, stack := v.toList ++ rest }) target → Steps p.tables e below (T.setTop g) target) ∨
    (∃ (q : Addr) (vm₁ : Vm) (B : Pt), s.WarmedH vm₁ ∧ Stand p l e R s m args below meth c B.U B.locs B.cells B.slots ∧ PostX ⟨T.setVm vm₁, locs, cells, slots⟩ argsL.toArray q B ∧
      Steps p.tables e below (T.setTop g) ((B.U.setTop { g with stack := rest }).pushFrame (.throwing q))) := by
  obtain ⟨mk, methM, cM, hnamed, hmethM, -, -, -, -, -, -, hsigM⟩ := Cond.codeWith_spec hcode
  have hstatic : methM.isStatic = true := Cond.static_spec hnamed hmethM hstat
  obtain ⟨kP, hkP, -⟩ := className_of_methodNamed hnamed
  have hinitP : kP.init = .initialized := Cond.initialized_spec (findClass_of_methodNamed hnamed) hkP hinit
  obtain ⟨vm₁, X₁, hstep₁⟩ := X.invokestatic hexec hown hlink hnamed hmethM hstatic hkP hinitP hy (g := g) hg (argsL := argsL) (rest := rest) (hlen _ hsigM) hstack hdg
  rcases hK m meth c ⟨T.setVm vm₁, locs, cells, slots⟩ { g with stack := rest } (.invokestatic index) mk argsL.toArray X₁ hg hsize hdg hW (X₁.named hnamed) (hpre vm₁ X₁.warmed) with ⟨v, B, X', hpost, hsteps⟩ | ⟨q, B, X', hpost, hsteps⟩
  · exact Or.inl ⟨v, vm₁, B, X₁.warmed, X', hpost, fun target h => hstep₁ _ fun acts => by rw [doInvoke_state]; exact hsteps.trans h⟩
  · exact Or.inr ⟨q, vm₁, B, X₁.warmed, X', hpost, hstep₁ _ fun acts => by rw [doInvoke_state]; exact hsteps⟩
theorem vx_callVW (X : Stand p l e R s m args below meth c T locs cells slots) (hexec : p.tables.exec = Jvm.exec) {own C : String} {index : Nat} {y : MethodName} {bytes : ByteArray} {maxL : Nat} {ret : Option FieldType} {hh : List (Nat × Nat × Nat × Nat)}
    (hown : s.vm.findClass own = some m.cls) (hlink : (Cond.methodLink own index y).before args s = true) (hinst : (Cond.instanceMethod y).before args s = true) (hsel : (Cond.selects C y y).before args s = true)
    (hcode : (Cond.codeWith y bytes maxL ret hh).before args s = true) (hy : y.cls ≠ "java/lang/invoke/MethodHandle" ∧ y.cls ≠ "java/lang/invoke/VarHandle")
    {W9 : Nat} {Pre : Pt → Array Value → Prop} {Post : Pt → Array Value → Option Value → Pt → Prop} (hK : Back l R p e below s args y 3 W9 Pre Post)
    {b : Addr} {cellB : Cell} (hcell : T.heap[b]? = some cellB) (hobj : cellB.vm.isStatics = false) (hcls : s.vm.findClass C = some cellB.cls)
    {g : JFrame} (hg : g.method = m) (hsize : g.locals.size = c.maxLocals) {argsL rest : List Value} (hlen : ∀ sig, parseMethodDescriptor y.desc = some sig → argsL.length = sig.parameters.length)
    (hstack : g.stack = argsL.reverse ++ .ref b :: rest) (hW : 2 * g.monitorRoom + (rest.map fun v => v.category).sum ≤ W9) (hdg : decode c.code g.pc = .ok (.invokevirtual index, 3))
    (hpre : ∀ vm₁, s.WarmedH vm₁ → Pre ⟨T.setVm vm₁, locs, cells, slots⟩ (Value.ref b :: argsL).toArray) :
    ∃ (v : Option Value) (vm₁ : Vm) (B : Pt), s.WarmedH vm₁ ∧ Stand p l e R s m args below meth c B.U B.locs B.cells B.slots ∧ Post ⟨T.setVm vm₁, locs, cells, slots⟩ (Value.ref b :: argsL).toArray v B ∧
      ∀ target, Steps p.tables e below (B.U.setTop { g with pc := g.pc + 3, stack := v.toList ++ rest }) target → Steps p.tables e below (T.setTop g) target := by
  obtain ⟨mk, methM, hnamed, hmethM, hstM, habM⟩ := Cond.instanceMethod_spec hinst
  obtain ⟨m8, methM', cM, hn8, hmethM', -, -, -, -, -, -, hsigM⟩ := Cond.codeWith_spec hcode
  cases Option.some.inj (hn8.symm.trans hnamed)
  cases hmethM.symm.trans hmethM'
  obtain ⟨c2, r2, m2, q1, q2, q3, q4, kP, hkP, hkPi⟩ := Cond.selects_spec hsel
  cases hcls.symm.trans q1
  cases (State.methodFound?_of_named hnamed hy).symm.trans q2
  cases hnamed.symm.trans q3
  have hselP : selectMethod e.platform s.vm cellB.cls mk = .method mk := by rw [Launch.admits_selectMethod X.admits]; exact q4
  obtain ⟨vm₁, X₁, hstep₁⟩ := X.invokevirtual hexec hown hlink hnamed hmethM hstM hkP hkPi hy (a := b) (cell := cellB) hcell
    (fun z h => by rw [h] at hobj; cases hobj) hselP hmethM habM hkP hkPi (g := g) hg (argsL := argsL) (rest := rest) (hlen _ hsigM) hstack hdg
  obtain ⟨v, B, X', hpost, hsteps⟩ := hK m meth c ⟨T.setVm vm₁, locs, cells, slots⟩ { g with stack := rest } (.invokevirtual index) mk (Value.ref b :: argsL).toArray X₁ hg hsize hdg hW (X₁.named hnamed) (hpre vm₁ X₁.warmed)
  exact ⟨v, vm₁, B, X₁.warmed, X', hpost, fun target h => hstep₁ _ fun acts => by rw [doInvoke_state]; exact hsteps.trans h⟩
abbrev vx_CVW (R : Room) (s : State) (args : Array Value) (own C : String) (index : Nat) (y : MethodName) (bytes : ByteArray) (maxL : Nat) (ret : Option FieldType) (hh : List (Nat × Nat × Nat × Nat)) (ws : List Cond) (rm : Room) (mc ms n : Nat) : Prop :=
  (rm.cells = mc ∧ rm.slots = ms ∧ rm.frames + 1 ≤ R.frames ∧ 8 + (maxL + 11) + rm.locals ≤ R.locals ∧ (∀ w ∈ ws, ∀ (a' : Array Value) (U : State), s.WarmedH U.vm → w.before a' U = true) ∧ Cond.codeWith y bytes maxL ret hh ∈ ws) ∧
  (Cond.codeWith y bytes maxL ret hh).before args s = true ∧ (Cond.initialized y.cls).before args s = true ∧ (y.cls ≠ "java/lang/invoke/MethodHandle" ∧ y.cls ≠ "java/lang/invoke/VarHandle") ∧
  (∀ sig, parseMethodDescriptor y.desc = some sig → n = sig.parameters.length) ∧ (Cond.methodLink own index y).before args s = true ∧ (Cond.instanceMethod y).before args s = true ∧ (Cond.selects C y y).before args s = true
theorem vx_cwVW {own C : String} {index maxL mc ms : Nat} {y : MethodName} {bytes : ByteArray} {ret : Option FieldType} {hh : List (Nat × Nat × Nat × Nat)} {Ts ws ws' : List Cond} {rm : Room} (n : Nat) (ht : ∀ w ∈ Ts, w.before args s = true) (hT : GoodIn Ts (wsV own index C y ws)) (hw : ws = Cond.codeWith y bytes maxL ret hh :: ws') (hrc : rm.cells = mc) (hrs : rm.slots = ms)
    (hd : y.cls = C ∧ y.cls ≠ "java/lang/invoke/MethodHandle" ∧ y.cls ≠ "java/lang/invoke/VarHandle" ∧ (parseMethodDescriptor y.desc).map (fun d => d.parameters.length) = some n) (hR : rm.frames + 1 ≤ R.frames ∧ 8 + (maxL + 11) + rm.locals ≤ R.locals) :
    vx_CVW R s args own C index y bytes maxL ret hh ws rm mc ms n := by
  obtain ⟨hC, hd⟩ := hd
  subst hC
  have ok : ∀ w ∈ wsV own index y.cls y ws, w.before args s = true := fun w h => ht w (hT w h).1
  have hG : GoodIn Ts ws := fun w h => hT w (by unfold wsV; exact List.mem_append_right _ h)
  have hc : Cond.codeWith y bytes maxL ret hh ∈ ws := by rw [hw]; exact List.mem_cons_self
  refine ⟨⟨hrc, hrs, hR.1, hR.2, pay_in ht hG, hc⟩, ht _ (hG _ hc).1, ok _ (by simp [wsV]), ⟨hd.1, hd.2.1⟩, fun sig h => ?_, ok _ (by simp [wsV]), ok _ (by simp [wsV]), ok _ (by simp [wsV])⟩
  have h2 := hd.2.2
  rw [h] at h2
  exact (Option.some.inj h2).symm
theorem vx_runVW {y : MethodName} {bytes cc : ByteArray} {maxL nL mc ms n index : Nat} {ret : Option FieldType} {hh : List (Nat × Nat × Nat × Nat)} {ws : List Cond} {rm : Room} {Pc : Array Value → State → Prop} {Qc : Array Value → State → Outcome → State → Prop} {free : Addr → Prop} {Ts : List Cond} {own C : String} {b : Addr} {As rest : List Value} {g : JFrame}
    (S : CallFix p m c cc nL s args Ts own) (hM : Met l y ws rm Pc Qc mc ms free) (cw : vx_CVW R s args own C index y bytes maxL ret hh ws rm mc ms n) (hp : PreV s H C b Pc As)
    (hg : g.method = m) (hn : As.length = n) (hsize : g.locals.size = nL) (hstack : g.stack = As.reverse ++ .ref b :: rest) (hW : 2 * g.monitorRoom + (rest.map fun v => v.category).sum ≤ 8) (hdg : decode cc g.pc = .ok (.invokevirtual index, 3)) (hf : cells + mc ≤ R.cells ∧ slots + ms ≤ R.slots) :
    va_Run p l e R s m args below meth c H locs cells slots mc ms g rest (Qc (Value.ref b :: As).toArray) free := by
  obtain ⟨⟨hrc, hrs, hfr, hlo, hws, hcw⟩, hcode, hini, hy, hlen, hl, hin, hse⟩ := cw
  have hK : Back l R p e below s args y 3 8 (PreOf R mc ms Pc) (PostOf Qc mc ms free) := va_backW (hh := hh) (bytes := bytes) (maxL := maxL) (ret := ret) hM hp.1 hrc hrs hfr hlo hws hcw (fun a' U hW => word_at hW (Or.inl (by first | rfl | simp [Cond.onTables, Cond.keeps, Cond.steady])) hini)
  obtain ⟨hx, hb, hml, ho, -⟩ := S
  obtain ⟨-, ⟨cellB, hcB, hoB, hclB⟩, hPc⟩ := hp
  intro T hT X
  obtain ⟨v, vm₁, ⟨U', l2, c2, s2⟩, hW₁, X', ⟨g', mk, t, L, e1, e2, hq, h1, hL, h2, h3⟩, st⟩ := vx_callVW X hx (C := C) (hh := hh) (bytes := bytes) (maxL := maxL) (ret := ret) ho hl hin hse hcode hy hK (by rw [hT]; exact hcB) hoB hclB hg (hsize.trans hml.symm) (argsL := As) (rest := rest) (fun sig h => hn.trans (hlen sig h)) hstack hW (by rw [hb]; exact hdg)
    (fun vm₁ hW₁ => ⟨hf.1, hf.2, hPc (T.setVm vm₁) hT hW₁⟩)
  dsimp only [Pt.U, Pt.locs, Pt.cells, Pt.slots] at X' e1 e2 h1 h2 h3 st
  subst h1; subst h2; subst h3
  exact ⟨v, (T.setVm vm₁).calling g' mk (Value.ref b :: As).toArray, t, U', L, hT, X', hL, e1, e2, hq, st⟩
section
variable {y : MethodName} {bytes cc : ByteArray} {maxL nL mc ms n index : Nat} {ret : Option FieldType} {ws : List Cond} {rm : Room} {Pc : Array Value → State → Prop} {Qc : Array Value → State → Outcome → State → Prop} {XC : String → State → State → Prop} {free : Addr → Prop} {Ts : List Cond} {own C : String} {b : Addr} {As rest : List Value} {g : JFrame}
theorem vx_runVX {hh : List (Nat × Nat × Nat × Nat)} (S : CallFix p m c cc nL s args Ts own) (hM : vx_Met l y ws rm Pc Qc XC mc ms free) (cw : vx_CVW R s args own C index y bytes maxL ret hh ws rm mc ms n) (hp : PreV s H C b Pc As)
    (hg : g.method = m) (hn : As.length = n) (hsize : g.locals.size = nL) (hstack : g.stack = As.reverse ++ .ref b :: rest) (hW : 2 * g.monitorRoom + (rest.map fun v => v.category).sum ≤ 8) (hdg : decode cc g.pc = .ok (.invokevirtual index, 3)) (hf : cells + mc ≤ R.cells ∧ slots + ms ≤ R.slots) :
    vx_Run p l e R s m args below meth c H locs cells slots mc ms g rest (Qc (Value.ref b :: As).toArray) XC free := by
  obtain ⟨⟨hrc, hrs, hfr, hlo, hws, hcw⟩, hcode, hini, hy, hlen, hl, hin, hse⟩ := cw
  have hK : vx_Back l R p e below s args y 3 8 (PreOf R mc ms Pc) (PostOf Qc mc ms free) (vx_Post XC mc ms free) := vx_backW (hh := hh) (bytes := bytes) (maxL := maxL) (ret := ret) hM hp.1 hrc hrs hfr hlo hws hcw (fun a' U hW => word_at hW (Or.inl (by first | rfl | simp [Cond.onTables, Cond.keeps, Cond.steady])) hini)
  obtain ⟨hx, hb, hml, ho, -⟩ := S
  obtain ⟨-, ⟨cellB, hcB, hoB, hclB⟩, hPc⟩ := hp
  intro T hT X
  rcases vx_callVX X hx (C := C) (hh := hh) (bytes := bytes) (maxL := maxL) (ret := ret) ho hl hin hse hcode hy hK (by rw [hT]; exact hcB) hoB hclB hg (hsize.trans hml.symm) (argsL := As) (rest := rest) (fun sig h => hn.trans (hlen sig h)) hstack hW (by rw [hb]; exact hdg)
    (fun vm₁ hW₁ => ⟨hf.1, hf.2, hPc (T.setVm vm₁) hT hW₁⟩) with ⟨v, vm₁, ⟨U', l2, c2, s2⟩, hW₁, X', ⟨g', mk, t, L, e1, e2, hq, h1, hL, h2, h3⟩, st⟩ | ⟨q, vm₁, ⟨U', l2, c2, s2⟩, hW₁, X', ⟨g', mk, t, L, E, ce, e1, e2, hq, hce, hcv, hcl, h1, hL, h2, h3⟩, st⟩
  · dsimp only [Pt.U, Pt.locs, Pt.cells, Pt.slots] at X' e1 e2 h1 h2 h3 st
    subst h1; subst h2; subst h3
    exact Or.inl ⟨v, (T.setVm vm₁).calling g' mk (Value.ref b :: As).toArray, t, U', L, hT, X', hL, e1, e2, hq, st⟩
  · dsimp only [Pt.U, Pt.locs, Pt.cells, Pt.slots] at X' e1 e2 h1 h2 h3 st hcl
    subst h1; subst h2; subst h3
    exact Or.inr ⟨q, (T.setVm vm₁).calling g' mk (Value.ref b :: As).toArray, t, U', L, E, ce, hT, X', hL, e1, e2, hq, hce, hcv, vx_cls hW₁ hcl, st⟩
theorem vx_runSX {hh : List (Nat × Nat × Nat × Nat)} (S : CallFix p m c cc nL s args Ts own) (hM : vx_Met l y ws rm Pc Qc XC mc ms free) (cw : vx_CSW R s args own index y bytes maxL ret hh ws rm mc ms n) (hp : PreS s H Pc As)
    (hg : g.method = m) (hn : As.length = n) (hsize : g.locals.size = nL) (hstack : g.stack = As.reverse ++ rest) (hW : 2 * g.monitorRoom + (rest.map fun v => v.category).sum ≤ 8) (hdg : decode cc g.pc = .ok (.invokestatic index, 3)) (hf : cells + mc ≤ R.cells ∧ slots + ms ≤ R.slots) :
    vx_Run p l e R s m args below meth c H locs cells slots mc ms g rest (Qc As.toArray) XC free := by
  obtain ⟨⟨hrc, hrs, hfr, hlo, hws, hcw⟩, hcode, hini, hy, hlen, hl, hstt⟩ := cw
  have hK : vx_Back l R p e below s args y 3 8 (PreOf R mc ms Pc) (PostOf Qc mc ms free) (vx_Post XC mc ms free) := vx_backW (hh := hh) (bytes := bytes) (maxL := maxL) (ret := ret) hM hp.1 hrc hrs hfr hlo hws hcw (fun a' U hW => word_at hW (Or.inl (by first | rfl | simp [Cond.onTables, Cond.keeps, Cond.steady])) hini)
  obtain ⟨hx, hb, hml, ho, -⟩ := S
  intro T hT X
  rcases vx_callSX X hx (hh := hh) (bytes := bytes) (maxL := maxL) (ret := ret) ho hl hstt hini hcode hy hK hg (hsize.trans hml.symm) (argsL := As) (rest := rest) (fun sig h => hn.trans (hlen sig h)) hstack hW (by rw [hb]; exact hdg)
    (fun vm₁ hW₁ => ⟨hf.1, hf.2, hp.2 (T.setVm vm₁) hT hW₁⟩) with ⟨v, vm₁, ⟨U', l2, c2, s2⟩, hW₁, X', ⟨g', mk, t, L, e1, e2, hq, h1, hL, h2, h3⟩, st⟩ | ⟨q, vm₁, ⟨U', l2, c2, s2⟩, hW₁, X', ⟨g', mk, t, L, E, ce, e1, e2, hq, hce, hcv, hcl, h1, hL, h2, h3⟩, st⟩
  · dsimp only [Pt.U, Pt.locs, Pt.cells, Pt.slots] at X' e1 e2 h1 h2 h3 st
    subst h1; subst h2; subst h3
    exact Or.inl ⟨v, (T.setVm vm₁).calling g' mk As.toArray, t, U', L, hT, X', hL, e1, e2, hq, st⟩
  · dsimp only [Pt.U, Pt.locs, Pt.cells, Pt.slots] at X' e1 e2 h1 h2 h3 st hcl
    subst h1; subst h2; subst h3
    exact Or.inr ⟨q, (T.setVm vm₁).calling g' mk As.toArray, t, U', L, E, ce, hT, X', hL, e1, e2, hq, hce, hcv, vx_cls hW₁ hcl, st⟩
end
end VXH
theorem vx_ofWH {l : Launch} {y : MethodName} {ws ws' : List Cond} {rm : Room} {Pc : Array Value → State → Prop} {Qc : Array Value → State → Outcome → State → Prop} {XC : String → State → State → Prop} {mc ms : Nat} {free : Addr → Prop} {cc : ByteArray} {maxL : Nat} {ret : Option FieldType} {hh : List (Nat × Nat × Nat × Nat)}
    (hy : plainName y.cls = true) (hw : ws = Cond.codeWith y cc maxL ret hh :: ws')
    (body : ∀ p e s m args below meth c s₁, BodyLoose p l y (headSpec ws rm) cc maxL ret e s m args below meth c s₁ → c.maxLocals = maxL → Pc args s →
      W p l e (headSpec ws rm).room s m args below meth c s.heap [] 0 0 (vx_MQ below Qc XC args s mc ms free) (entryFrame m args maxL)) : vx_Met l y ws rm Pc Qc XC mc ms free := by
  refine MetFree.of_bodyS (code := cc) (maxLocals := maxL) (ret := ret) hy ?_ ?_
  · intro args s m h hn
    obtain ⟨m9, meth, c, hn9, h1, h2, h3, h4, -, h5, h6, -⟩ := Cond.codeWith_spec (atoms_spec (ws := ws) h _ (by rw [hw]; exact List.mem_cons_self))
    cases hn.symm.trans hn9
    exact ⟨meth, c, h1, h2, h3, h4, h5, h6⟩
  · intro p e s m args below meth c s₁ B hml hP _
    have hh0 : s₁.heap = s.heap := by rw [B.state]; rfl
    obtain ⟨t, a1, o, b1, b2, b3⟩ := body p e s m args below meth c s₁ B hml hP s₁ hh0 (Stand.of_body B)
    exact ⟨t, o, a1, b1, b2, b3⟩
/-! ===== END ===== -/
end
section
def RX0 : String := "TrickFinder$Functions"
def TX0 : u_T := fun k => match k with
  | _ => ("", "", "", false)
def tyX0 : Nat → FieldType := fun k => match k with
  | _ => .int
abbrev wsX00 : List Cond := u_ws RX0 TX0 0
theorem nmX0 : ∀ a, a < 0 → ∀ b, b < 0 → a ≠ b → (TX0 a).2.1 ≠ (TX0 b).2.1 := by decide +kernel
theorem tyX0_ok : ∀ k, k < 0 → parseFieldDescriptor (TX0 k).2.2.1 = some (tyX0 k) := by decide +kernel
abbrev cX0_valueAt : ByteArray := prog_2_method_2_code
def yX0_valueAt : MethodName := ⟨RX0, "valueAt", "(JI)I"⟩
abbrev cX0_constant : ByteArray := prog_2_method_3_code
def yX0_constant : MethodName := ⟨RX0, "constant", "(I)J"⟩
abbrev cX0_made : ByteArray := prog_2_method_4_code
def yX0_made : MethodName := ⟨RX0, "made", "(IJJ)J"⟩
abbrev cX0_twice : ByteArray := prog_2_method_5_code
def yX0_twice : MethodName := ⟨RX0, "twice", "(J)J"⟩
abbrev cX0_sum : ByteArray := prog_2_method_6_code
def yX0_sum : MethodName := ⟨RX0, "sum", "(JJ)J"⟩
abbrev cX0_difference : ByteArray := prog_2_method_7_code
def yX0_difference : MethodName := ⟨RX0, "difference", "(JJ)J"⟩
abbrev cX0_product : ByteArray := prog_2_method_8_code
def yX0_product : MethodName := ⟨RX0, "product", "(JJ)J"⟩
abbrev cX0_after : ByteArray := prog_2_method_9_code
def yX0_after : MethodName := ⟨RX0, "after", "(JJ)J"⟩
abbrev cX0_inverseOf : ByteArray := prog_2_method_10_code
def yX0_inverseOf : MethodName := ⟨RX0, "inverseOf", "(J)J"⟩
abbrev cX0_countDifferences : ByteArray := prog_2_method_11_code
def yX0_countDifferences : MethodName := ⟨RX0, "countDifferences", "(JJ)I"⟩
abbrev cX0_countValues : ByteArray := prog_2_method_12_code
def yX0_countValues : MethodName := ⟨RX0, "countValues", "(J)I"⟩
abbrev cX0_image : ByteArray := prog_2_method_13_code
def yX0_image : MethodName := ⟨RX0, "image", "(JI)I"⟩
abbrev cX0_returningInputs : ByteArray := prog_2_method_14_code
def yX0_returningInputs : MethodName := ⟨RX0, "returningInputs", "(J)I"⟩
abbrev cX0_stepsToReturning : ByteArray := prog_2_method_15_code
def yX0_stepsToReturning : MethodName := ⟨RX0, "stepsToReturning", "(J)I"⟩
abbrev cX0_isLinear : ByteArray := prog_2_method_16_code
def yX0_isLinear : MethodName := ⟨RX0, "isLinear", "(J)Z"⟩
abbrev cX0_isRising : ByteArray := prog_2_method_17_code
def yX0_isRising : MethodName := ⟨RX0, "isRising", "(J)Z"⟩
abbrev cX0_isOfLowerBits : ByteArray := prog_2_method_18_code
def yX0_isOfLowerBits : MethodName := ⟨RX0, "isOfLowerBits", "(J)Z"⟩
abbrev cX0_maskOf : ByteArray := prog_2_method_19_code
def yX0_maskOf : MethodName := ⟨RX0, "maskOf", "(I)J"⟩
def RX1 : String := "TrickFinder$Paper"
def TX1 : u_T := fun k => match k with
  | 0 => ("TrickFinder$Paper", "length", "I", false)
  | _ => ("TrickFinder$Paper", "bytes", "[I", true)
def tyX1 : Nat → FieldType := fun k => match k with
  | 0 => .int
  | _ => .array .int
abbrev wsX10 : List Cond := u_ws RX1 TX1 2
theorem nmX1 : ∀ a, a < 2 → ∀ b, b < 2 → a ≠ b → (TX1 a).2.1 ≠ (TX1 b).2.1 := by decide +kernel
theorem tyX1_ok : ∀ k, k < 2 → parseFieldDescriptor (TX1 k).2.2.1 = some (tyX1 k) := by decide +kernel
abbrev cX1_init : ByteArray := prog_3_method_1_code
def yX1_init : MethodName := ⟨RX1, "<init>", "()V"⟩
abbrev cX1_put : ByteArray := prog_3_method_2_code
def yX1_put : MethodName := ⟨RX1, "put", "(I)V"⟩
abbrev cX1_putEntry : ByteArray := prog_3_method_3_code
def yX1_putEntry : MethodName := ⟨RX1, "putEntry", "(LTrickFinder$Row;II)V"⟩
abbrev cX1_putArgument : ByteArray := prog_3_method_4_code
def yX1_putArgument : MethodName := ⟨RX1, "putArgument", "(LTrickFinder$Row;II)V"⟩
abbrev cX1_putNumber : ByteArray := prog_3_method_5_code
def yX1_putNumber : MethodName := ⟨RX1, "putNumber", "(I)V"⟩
abbrev cX1_addTo : ByteArray := prog_3_method_6_code
def yX1_addTo : MethodName := ⟨RX1, "addTo", "(J)J"⟩
def RX2 : String := "TrickFinder$Row"
def TX2 : u_T := fun k => match k with
  | 0 => ("TrickFinder$Row", "count", "I", false)
  | 1 => ("TrickFinder$Row", "functions", "[J", true)
  | 2 => ("TrickFinder$Row", "operations", "[I", true)
  | 3 => ("TrickFinder$Row", "firsts", "[I", true)
  | 4 => ("TrickFinder$Row", "seconds", "[I", true)
  | 5 => ("TrickFinder$Row", "starts", "[I", true)
  | 6 => ("TrickFinder$Row", "slots", "[I", true)
  | _ => ("TrickFinder$Row", "partsFound", "[I", true)
def tyX2 : Nat → FieldType := fun k => match k with
  | 0 => .int
  | 1 => .array .long
  | 2 => .array .int
  | 3 => .array .int
  | 4 => .array .int
  | 5 => .array .int
  | 6 => .array .int
  | _ => .array .int
abbrev wsX20 : List Cond := u_ws RX2 TX2 8
theorem nmX2 : ∀ a, a < 8 → ∀ b, b < 8 → a ≠ b → (TX2 a).2.1 ≠ (TX2 b).2.1 := by decide +kernel
theorem tyX2_ok : ∀ k, k < 8 → parseFieldDescriptor (TX2 k).2.2.1 = some (tyX2 k) := by decide +kernel
abbrev cX2_init : ByteArray := prog_4_method_1_code
def yX2_init : MethodName := ⟨RX2, "<init>", "()V"⟩
abbrev cX2_has : ByteArray := prog_4_method_2_code
def yX2_has : MethodName := ⟨RX2, "has", "(I)Z"⟩
abbrev cX2_isFull : ByteArray := prog_4_method_3_code
def yX2_isFull : MethodName := ⟨RX2, "isFull", "()Z"⟩
abbrev cX2_make : ByteArray := prog_4_method_4_code
def yX2_make : MethodName := ⟨RX2, "make", "(ILTrickFinder$Settings;)V"⟩
abbrev cX2_makeCost : ByteArray := prog_4_method_5_code
def yX2_makeCost : MethodName := ⟨RX2, "makeCost", "(ILTrickFinder$Settings;)V"⟩
abbrev cX2_addConstants : ByteArray := prog_4_method_6_code
def yX2_addConstants : MethodName := ⟨RX2, "addConstants", "(LTrickFinder$Settings;)V"⟩
abbrev cX2_addOfOne : ByteArray := prog_4_method_7_code
def yX2_addOfOne : MethodName := ⟨RX2, "addOfOne", "(II)V"⟩
abbrev cX2_addOfTwo : ByteArray := prog_4_method_8_code
def yX2_addOfTwo : MethodName := ⟨RX2, "addOfTwo", "(II)V"⟩
abbrev cX2_add : ByteArray := prog_4_method_9_code
def yX2_add : MethodName := ⟨RX2, "add", "(JIII)V"⟩
abbrev cX2_slotOf : ByteArray := prog_4_method_10_code
def yX2_slotOf : MethodName := ⟨RX2, "slotOf", "(J)I"⟩
abbrev cX2_entryWith : ByteArray := prog_4_method_11_code
def yX2_entryWith : MethodName := ⟨RX2, "entryWith", "(J)I"⟩
abbrev cX2_firstAlike : ByteArray := prog_4_method_12_code
def yX2_firstAlike : MethodName := ⟨RX2, "firstAlike", "(JJ)I"⟩
abbrev cX2_firstNearest : ByteArray := prog_4_method_13_code
def yX2_firstNearest : MethodName := ⟨RX2, "firstNearest", "(J)I"⟩
abbrev cX2_countOfCost : ByteArray := prog_4_method_14_code
def yX2_countOfCost : MethodName := ⟨RX2, "countOfCost", "(I)I"⟩
abbrev cX2_costOf : ByteArray := prog_4_method_15_code
def yX2_costOf : MethodName := ⟨RX2, "costOf", "(I)I"⟩
abbrev cX2_sumOfCosts : ByteArray := prog_4_method_16_code
def yX2_sumOfCosts : MethodName := ⟨RX2, "sumOfCosts", "()I"⟩
abbrev cX2_countParts : ByteArray := prog_4_method_17_code
def yX2_countParts : MethodName := ⟨RX2, "countParts", "(I)I"⟩
abbrev cX2_withPart : ByteArray := prog_4_method_18_code
def yX2_withPart : MethodName := ⟨RX2, "withPart", "(II)I"⟩
abbrev cX2_addTo : ByteArray := prog_4_method_19_code
def yX2_addTo : MethodName := ⟨RX2, "addTo", "(J)J"⟩
def RX3 : String := "TrickFinder$Settings"
def TX3 : u_T := fun k => match k with
  | 0 => ("TrickFinder$Settings", "prices", "[I", true)
  | 1 => ("TrickFinder$Settings", "isAllowed", "[Z", true)
  | _ => ("TrickFinder$Settings", "isConstantAllowed", "[Z", true)
def tyX3 : Nat → FieldType := fun k => match k with
  | 0 => .array .int
  | 1 => .array .boolean
  | _ => .array .boolean
abbrev wsX30 : List Cond := u_ws RX3 TX3 3
theorem nmX3 : ∀ a, a < 3 → ∀ b, b < 3 → a ≠ b → (TX3 a).2.1 ≠ (TX3 b).2.1 := by decide +kernel
theorem tyX3_ok : ∀ k, k < 3 → parseFieldDescriptor (TX3 k).2.2.1 = some (tyX3 k) := by decide +kernel
abbrev cX3_init : ByteArray := prog_5_method_1_code
def yX3_init : MethodName := ⟨RX3, "<init>", "()V"⟩
abbrev cX3_priceOfConstants : ByteArray := prog_5_method_2_code
def yX3_priceOfConstants : MethodName := ⟨RX3, "priceOfConstants", "()I"⟩
abbrev cX3_addTo : ByteArray := prog_5_method_3_code
def yX3_addTo : MethodName := ⟨RX3, "addTo", "(J)J"⟩
def RX4 : String := "TrickFinder$Tape"
def TX4 : u_T := fun k => match k with
  | 0 => ("TrickFinder$Tape", "length", "I", false)
  | 1 => ("TrickFinder$Tape", "lastFormula", "J", false)
  | 2 => ("TrickFinder$Tape", "bytes", "[I", true)
  | 3 => ("TrickFinder$Tape", "place", "I", false)
  | _ => ("TrickFinder$Tape", "error", "I", false)
def tyX4 : Nat → FieldType := fun k => match k with
  | 0 => .int
  | 1 => .long
  | 2 => .array .int
  | 3 => .int
  | _ => .int
abbrev wsX40 : List Cond := u_ws RX4 TX4 5
theorem nmX4 : ∀ a, a < 5 → ∀ b, b < 5 → a ≠ b → (TX4 a).2.1 ≠ (TX4 b).2.1 := by decide +kernel
theorem tyX4_ok : ∀ k, k < 5 → parseFieldDescriptor (TX4 k).2.2.1 = some (tyX4 k) := by decide +kernel
abbrev cX4_init : ByteArray := prog_6_method_1_code
def yX4_init : MethodName := ⟨RX4, "<init>", "()V"⟩
abbrev cX4_append : ByteArray := prog_6_method_2_code
def yX4_append : MethodName := ⟨RX4, "append", "(I)V"⟩
abbrev cX4_takeFormula : ByteArray := prog_6_method_3_code
def yX4_takeFormula : MethodName := ⟨RX4, "takeFormula", "()I"⟩
abbrev cX4_hasError : ByteArray := prog_6_method_4_code
def yX4_hasError : MethodName := ⟨RX4, "hasError", "()Z"⟩
abbrev cX4_failAt : ByteArray := prog_6_method_5_code
def yX4_failAt : MethodName := ⟨RX4, "failAt", "(I)J"⟩
abbrev cX4_here : ByteArray := prog_6_method_6_code
def yX4_here : MethodName := ⟨RX4, "here", "()I"⟩
abbrev cX4_next : ByteArray := prog_6_method_7_code
def yX4_next : MethodName := ⟨RX4, "next", "()I"⟩
abbrev cX4_readFormula : ByteArray := prog_6_method_8_code
def yX4_readFormula : MethodName := ⟨RX4, "readFormula", "(I)J"⟩
abbrev cX4_readPart : ByteArray := prog_6_method_9_code
def yX4_readPart : MethodName := ⟨RX4, "readPart", "(I)J"⟩
abbrev cX4_readEnclosed : ByteArray := prog_6_method_10_code
def yX4_readEnclosed : MethodName := ⟨RX4, "readEnclosed", "(I)J"⟩
abbrev cX4_readNumber : ByteArray := prog_6_method_11_code
def yX4_readNumber : MethodName := ⟨RX4, "readNumber", "()J"⟩
abbrev cX4_isDigit : ByteArray := prog_6_method_12_code
def yX4_isDigit : MethodName := ⟨RX4, "isDigit", "(I)Z"⟩
abbrev cX4_operationOf : ByteArray := prog_6_method_13_code
def yX4_operationOf : MethodName := ⟨RX4, "operationOf", "(III)I"⟩
def RX5 : String := "TrickFinder"
def TX5 : u_T := fun k => match k with
  | 0 => ("TrickFinder", "settings", "LTrickFinder$Settings;", true)
  | 1 => ("TrickFinder", "row", "LTrickFinder$Row;", true)
  | 2 => ("TrickFinder", "paper", "LTrickFinder$Paper;", true)
  | _ => ("TrickFinder", "tape", "LTrickFinder$Tape;", true)
def tyX5 : Nat → FieldType := fun k => match k with
  | 0 => .object "TrickFinder$Settings"
  | 1 => .object "TrickFinder$Row"
  | 2 => .object "TrickFinder$Paper"
  | _ => .object "TrickFinder$Tape"
abbrev wsX50 : List Cond := u_ws RX5 TX5 4
theorem nmX5 : ∀ a, a < 4 → ∀ b, b < 4 → a ≠ b → (TX5 a).2.1 ≠ (TX5 b).2.1 := by decide +kernel
theorem tyX5_ok : ∀ k, k < 4 → parseFieldDescriptor (TX5 k).2.2.1 = some (tyX5 k) := by decide +kernel
abbrev cX5_init : ByteArray := prog_1_method_1_code
def yX5_init : MethodName := ⟨RX5, "<init>", "()V"⟩
abbrev cX5_allow : ByteArray := prog_1_method_2_code
def yX5_allow : MethodName := ⟨RX5, "allow", "(IZ)I"⟩
abbrev cX5_setPrice : ByteArray := prog_1_method_3_code
def yX5_setPrice : MethodName := ⟨RX5, "setPrice", "(II)I"⟩
abbrev cX5_setConstant : ByteArray := prog_1_method_4_code
def yX5_setConstant : MethodName := ⟨RX5, "setConstant", "(IZ)I"⟩
abbrev cX5_value : ByteArray := prog_1_method_5_code
def yX5_value : MethodName := ⟨RX5, "value", "(JI)I"⟩
abbrev cX5_apply : ByteArray := prog_1_method_6_code
def yX5_apply : MethodName := ⟨RX5, "apply", "(IJJ)J"⟩
abbrev cX5_compose : ByteArray := prog_1_method_7_code
def yX5_compose : MethodName := ⟨RX5, "compose", "(JJ)J"⟩
abbrev cX5_inverse : ByteArray := prog_1_method_8_code
def yX5_inverse : MethodName := ⟨RX5, "inverse", "(J)J"⟩
abbrev cX5_measure : ByteArray := prog_1_method_9_code
def yX5_measure : MethodName := ⟨RX5, "measure", "(JI)I"⟩
abbrev cX5_is : ByteArray := prog_1_method_10_code
def yX5_is : MethodName := ⟨RX5, "is", "(JI)Z"⟩
abbrev cX5_search : ByteArray := prog_1_method_11_code
def yX5_search : MethodName := ⟨RX5, "search", "(I)I"⟩
abbrev cX5_entries : ByteArray := prog_1_method_12_code
def yX5_entries : MethodName := ⟨RX5, "entries", "()I"⟩
abbrev cX5_ofCost : ByteArray := prog_1_method_13_code
def yX5_ofCost : MethodName := ⟨RX5, "ofCost", "(I)I"⟩
abbrev cX5_function : ByteArray := prog_1_method_14_code
def yX5_function : MethodName := ⟨RX5, "function", "(I)J"⟩
abbrev cX5_entry : ByteArray := prog_1_method_15_code
def yX5_entry : MethodName := ⟨RX5, "entry", "(II)I"⟩
abbrev cX5_find : ByteArray := prog_1_method_16_code
def yX5_find : MethodName := ⟨RX5, "find", "(J)I"⟩
abbrev cX5_fit : ByteArray := prog_1_method_17_code
def yX5_fit : MethodName := ⟨RX5, "fit", "(JI)I"⟩
abbrev cX5_near : ByteArray := prog_1_method_18_code
def yX5_near : MethodName := ⟨RX5, "near", "(J)I"⟩
abbrev cX5_parts : ByteArray := prog_1_method_19_code
def yX5_parts : MethodName := ⟨RX5, "parts", "(I)I"⟩
abbrev cX5_meanCost : ByteArray := prog_1_method_20_code
def yX5_meanCost : MethodName := ⟨RX5, "meanCost", "()D"⟩
abbrev cX5_write : ByteArray := prog_1_method_21_code
def yX5_write : MethodName := ⟨RX5, "write", "(I)I"⟩
abbrev cX5_byteAt : ByteArray := prog_1_method_22_code
def yX5_byteAt : MethodName := ⟨RX5, "byteAt", "(I)I"⟩
abbrev cX5_feed : ByteArray := prog_1_method_23_code
def yX5_feed : MethodName := ⟨RX5, "feed", "(IIIII)I"⟩
abbrev cX5_trim : ByteArray := prog_1_method_24_code
def yX5_trim : MethodName := ⟨RX5, "trim", "(I)I"⟩
abbrev cX5_read : ByteArray := prog_1_method_25_code
def yX5_read : MethodName := ⟨RX5, "read", "()I"⟩
abbrev cX5_result : ByteArray := prog_1_method_26_code
def yX5_result : MethodName := ⟨RX5, "result", "()J"⟩
abbrev cX5_digest : ByteArray := prog_1_method_27_code
def yX5_digest : MethodName := ⟨RX5, "digest", "()J"⟩
abbrev cX5_added : ByteArray := prog_1_method_28_code
def yX5_added : MethodName := ⟨RX5, "added", "(JJ)J"⟩
abbrev cX5_isOperation : ByteArray := prog_1_method_29_code
def yX5_isOperation : MethodName := ⟨RX5, "isOperation", "(I)Z"⟩
abbrev cX5_isInput : ByteArray := prog_1_method_30_code
def yX5_isInput : MethodName := ⟨RX5, "isInput", "(I)Z"⟩
abbrev cX5_isCost : ByteArray := prog_1_method_31_code
def yX5_isCost : MethodName := ⟨RX5, "isCost", "(I)Z"⟩
abbrev cX5_hasTwoArguments : ByteArray := prog_1_method_32_code
def yX5_hasTwoArguments : MethodName := ⟨RX5, "hasTwoArguments", "(I)Z"⟩
abbrev cX5_countOn : ByteArray := prog_1_method_33_code
def yX5_countOn : MethodName := ⟨RX5, "countOn", "([Z)I"⟩
def RX6 : String := "TrickFinderModel"
def TX6 : u_T := fun k => match k with
  | 0 => ("TrickFinderModel", "thrown", "I", false)
  | 1 => ("TrickFinderModel", "prices", "[I", true)
  | 2 => ("TrickFinderModel", "areAllowed", "[Z", true)
  | 3 => ("TrickFinderModel", "constantPrice", "I", false)
  | 4 => ("TrickFinderModel", "areConstants", "[Z", true)
  | 5 => ("TrickFinderModel", "entries", "I", false)
  | 6 => ("TrickFinderModel", "functions", "[J", true)
  | 7 => ("TrickFinderModel", "costs", "[I", true)
  | 8 => ("TrickFinderModel", "ops", "[I", true)
  | 9 => ("TrickFinderModel", "firsts", "[I", true)
  | 10 => ("TrickFinderModel", "seconds", "[I", true)
  | 11 => ("TrickFinderModel", "latest", "[I", true)
  | 12 => ("TrickFinderModel", "ahead", "[I", true)
  | 13 => ("TrickFinderModel", "begins", "[I", true)
  | 14 => ("TrickFinderModel", "paper", "[I", true)
  | 15 => ("TrickFinderModel", "papered", "I", false)
  | 16 => ("TrickFinderModel", "tape", "[I", true)
  | 17 => ("TrickFinderModel", "length", "I", false)
  | 18 => ("TrickFinderModel", "at", "I", false)
  | 19 => ("TrickFinderModel", "isWrong", "Z", false)
  | _ => ("TrickFinderModel", "result", "J", false)
def tyX6 : Nat → FieldType := fun k => match k with
  | 0 => .int
  | 1 => .array .int
  | 2 => .array .boolean
  | 3 => .int
  | 4 => .array .boolean
  | 5 => .int
  | 6 => .array .long
  | 7 => .array .int
  | 8 => .array .int
  | 9 => .array .int
  | 10 => .array .int
  | 11 => .array .int
  | 12 => .array .int
  | 13 => .array .int
  | 14 => .array .int
  | 15 => .int
  | 16 => .array .int
  | 17 => .int
  | 18 => .int
  | 19 => .boolean
  | _ => .long
abbrev wsX60 : List Cond := u_ws RX6 TX6 21
theorem nmX6 : ∀ a, a < 21 → ∀ b, b < 21 → a ≠ b → (TX6 a).2.1 ≠ (TX6 b).2.1 := by decide +kernel
theorem tyX6_ok : ∀ k, k < 21 → parseFieldDescriptor (TX6 k).2.2.1 = some (tyX6 k) := by decide +kernel
abbrev cX6_init : ByteArray := prog_8_method_1_code
def yX6_init : MethodName := ⟨RX6, "<init>", "()V"⟩
abbrev cX6_thrown : ByteArray := prog_8_method_2_code
def yX6_thrown : MethodName := ⟨RX6, "thrown", "()I"⟩
abbrev cX6_no : ByteArray := prog_8_method_3_code
def yX6_no : MethodName := ⟨RX6, "no", "(I)I"⟩
abbrev cX6_isIn : ByteArray := prog_8_method_4_code
def yX6_isIn : MethodName := ⟨RX6, "isIn", "(III)Z"⟩
abbrev cX6_count : ByteArray := prog_8_method_5_code
def yX6_count : MethodName := ⟨RX6, "count", "([Z)I"⟩
abbrev cX6_allow : ByteArray := prog_8_method_6_code
def yX6_allow : MethodName := ⟨RX6, "allow", "(IZ)I"⟩
abbrev cX6_setPrice : ByteArray := prog_8_method_7_code
def yX6_setPrice : MethodName := ⟨RX6, "setPrice", "(II)I"⟩
abbrev cX6_setConstant : ByteArray := prog_8_method_8_code
def yX6_setConstant : MethodName := ⟨RX6, "setConstant", "(IZ)I"⟩
abbrev cX6_at : ByteArray := prog_8_method_9_code
def yX6_at : MethodName := ⟨RX6, "at", "(JI)I"⟩
abbrev cX6_value : ByteArray := prog_8_method_10_code
def yX6_value : MethodName := ⟨RX6, "value", "(JI)I"⟩
abbrev cX6_reckon : ByteArray := prog_8_method_11_code
def yX6_reckon : MethodName := ⟨RX6, "reckon", "(III)I"⟩
abbrev cX6_made : ByteArray := prog_8_method_12_code
def yX6_made : MethodName := ⟨RX6, "made", "(IJJ)J"⟩
abbrev cX6_apply : ByteArray := prog_8_method_13_code
def yX6_apply : MethodName := ⟨RX6, "apply", "(IJJ)J"⟩
abbrev cX6_compose : ByteArray := prog_8_method_14_code
def yX6_compose : MethodName := ⟨RX6, "compose", "(JJ)J"⟩
abbrev cX6_values : ByteArray := prog_8_method_15_code
def yX6_values : MethodName := ⟨RX6, "values", "(J)I"⟩
abbrev cX6_inverse : ByteArray := prog_8_method_16_code
def yX6_inverse : MethodName := ⟨RX6, "inverse", "(J)J"⟩
abbrev cX6_returning : ByteArray := prog_8_method_17_code
def yX6_returning : MethodName := ⟨RX6, "returning", "(J)I"⟩
abbrev cX6_through : ByteArray := prog_8_method_18_code
def yX6_through : MethodName := ⟨RX6, "through", "(JI)I"⟩
abbrev cX6_tail : ByteArray := prog_8_method_19_code
def yX6_tail : MethodName := ⟨RX6, "tail", "(J)I"⟩
abbrev cX6_measure : ByteArray := prog_8_method_20_code
def yX6_measure : MethodName := ⟨RX6, "measure", "(JI)I"⟩
abbrev cX6_isFor : ByteArray := prog_8_method_21_code
def yX6_isFor : MethodName := ⟨RX6, "isFor", "(JIII)Z"⟩
abbrev cX6_is : ByteArray := prog_8_method_22_code
def yX6_is : MethodName := ⟨RX6, "is", "(JI)Z"⟩
abbrev cX6_chain : ByteArray := prog_8_method_23_code
def yX6_chain : MethodName := ⟨RX6, "chain", "(J)I"⟩
abbrev cX6_entryOf : ByteArray := prog_8_method_24_code
def yX6_entryOf : MethodName := ⟨RX6, "entryOf", "(J)I"⟩
abbrev cX6_add : ByteArray := prog_8_method_25_code
def yX6_add : MethodName := ⟨RX6, "add", "(JIIII)V"⟩
abbrev cX6_constant : ByteArray := prog_8_method_26_code
def yX6_constant : MethodName := ⟨RX6, "constant", "(I)J"⟩
abbrev cX6_addAll : ByteArray := prog_8_method_27_code
def yX6_addAll : MethodName := ⟨RX6, "addAll", "(II)V"⟩
abbrev cX6_search : ByteArray := prog_8_method_28_code
def yX6_search : MethodName := ⟨RX6, "search", "(I)I"⟩
abbrev cX6_entries : ByteArray := prog_8_method_29_code
def yX6_entries : MethodName := ⟨RX6, "entries", "()I"⟩
abbrev cX6_ofCost : ByteArray := prog_8_method_30_code
def yX6_ofCost : MethodName := ⟨RX6, "ofCost", "(I)I"⟩
abbrev cX6_isEntry : ByteArray := prog_8_method_31_code
def yX6_isEntry : MethodName := ⟨RX6, "isEntry", "(I)Z"⟩
abbrev cX6_function : ByteArray := prog_8_method_32_code
def yX6_function : MethodName := ⟨RX6, "function", "(I)J"⟩
abbrev cX6_told : ByteArray := prog_8_method_33_code
def yX6_told : MethodName := ⟨RX6, "told", "(II)I"⟩
abbrev cX6_entry : ByteArray := prog_8_method_34_code
def yX6_entry : MethodName := ⟨RX6, "entry", "(II)I"⟩
abbrev cX6_find : ByteArray := prog_8_method_35_code
def yX6_find : MethodName := ⟨RX6, "find", "(J)I"⟩
abbrev cX6_unlike : ByteArray := prog_8_method_36_code
def yX6_unlike : MethodName := ⟨RX6, "unlike", "(JJ)I"⟩
abbrev cX6_fit : ByteArray := prog_8_method_37_code
def yX6_fit : MethodName := ⟨RX6, "fit", "(JI)I"⟩
abbrev cX6_near : ByteArray := prog_8_method_38_code
def yX6_near : MethodName := ⟨RX6, "near", "(J)I"⟩
abbrev cX6_parts : ByteArray := prog_8_method_39_code
def yX6_parts : MethodName := ⟨RX6, "parts", "(I)I"⟩
abbrev cX6_meanCost : ByteArray := prog_8_method_40_code
def yX6_meanCost : MethodName := ⟨RX6, "meanCost", "()D"⟩
abbrev cX6_put : ByteArray := prog_8_method_41_code
def yX6_put : MethodName := ⟨RX6, "put", "(I)V"⟩
abbrev cX6_putArgument : ByteArray := prog_8_method_42_code
def yX6_putArgument : MethodName := ⟨RX6, "putArgument", "(I)V"⟩
abbrev cX6_putEntry : ByteArray := prog_8_method_43_code
def yX6_putEntry : MethodName := ⟨RX6, "putEntry", "(I)V"⟩
abbrev cX6_write : ByteArray := prog_8_method_44_code
def yX6_write : MethodName := ⟨RX6, "write", "(I)I"⟩
abbrev cX6_byteAt : ByteArray := prog_8_method_45_code
def yX6_byteAt : MethodName := ⟨RX6, "byteAt", "(I)I"⟩
abbrev cX6_feed : ByteArray := prog_8_method_46_code
def yX6_feed : MethodName := ⟨RX6, "feed", "(IIIII)I"⟩
abbrev cX6_trim : ByteArray := prog_8_method_47_code
def yX6_trim : MethodName := ⟨RX6, "trim", "(I)I"⟩
abbrev cX6_next : ByteArray := prog_8_method_48_code
def yX6_next : MethodName := ⟨RX6, "next", "()I"⟩
abbrev cX6_wrong : ByteArray := prog_8_method_49_code
def yX6_wrong : MethodName := ⟨RX6, "wrong", "()J"⟩
abbrev cX6_opOf : ByteArray := prog_8_method_50_code
def yX6_opOf : MethodName := ⟨RX6, "opOf", "(III)I"⟩
abbrev cX6_isDigit : ByteArray := prog_8_method_51_code
def yX6_isDigit : MethodName := ⟨RX6, "isDigit", "(I)Z"⟩
abbrev cX6_number : ByteArray := prog_8_method_52_code
def yX6_number : MethodName := ⟨RX6, "number", "()J"⟩
abbrev cX6_part : ByteArray := prog_8_method_53_code
def yX6_part : MethodName := ⟨RX6, "part", "(I)J"⟩
abbrev cX6_formula : ByteArray := prog_8_method_54_code
def yX6_formula : MethodName := ⟨RX6, "formula", "(I)J"⟩
abbrev cX6_read : ByteArray := prog_8_method_55_code
def yX6_read : MethodName := ⟨RX6, "read", "()I"⟩
abbrev cX6_result : ByteArray := prog_8_method_56_code
def yX6_result : MethodName := ⟨RX6, "result", "()J"⟩
abbrev cX6_digest : ByteArray := prog_8_method_57_code
def yX6_digest : MethodName := ⟨RX6, "digest", "()J"⟩
def RJx145de : String := "java/io/Serializable"
def TJx145de : u_T := fun k => match k with
  | _ => ("", "", "", false)
def tyJx145de : Nat → FieldType := fun k => match k with
  | _ => .int
abbrev wsJx145de0 : List Cond := u_ws RJx145de TJx145de 0
theorem nmJx145de : ∀ a, a < 0 → ∀ b, b < 0 → a ≠ b → (TJx145de a).2.1 ≠ (TJx145de b).2.1 := by decide +kernel
theorem tyJx145de_ok : ∀ k, k < 0 → parseFieldDescriptor (TJx145de k).2.2.1 = some (tyJx145de k) := by decide +kernel
def RJ6 : String := "java/lang/Integer"
def TJ6 : u_T := fun k => match k with
  | _ => ("", "", "", false)
def tyJ6 : Nat → FieldType := fun k => match k with
  | _ => .int
abbrev wsJ60 : List Cond := u_ws RJ6 TJ6 0
theorem nmJ6 : ∀ a, a < 0 → ∀ b, b < 0 → a ≠ b → (TJ6 a).2.1 ≠ (TJ6 b).2.1 := by decide +kernel
theorem tyJ6_ok : ∀ k, k < 0 → parseFieldDescriptor (TJ6 k).2.2.1 = some (tyJ6 k) := by decide +kernel
abbrev cJ6_bitCount_0f7a4 : ByteArray := prog_13_method_49_code
def yJ6_bitCount_0f7a4 : MethodName := ⟨RJ6, "bitCount", "(I)I"⟩
def RJ13 : String := "java/lang/Long"
def TJ13 : u_T := fun k => match k with
  | _ => ("", "", "", false)
def tyJ13 : Nat → FieldType := fun k => match k with
  | _ => .int
abbrev wsJ130 : List Cond := u_ws RJ13 TJ13 0
theorem nmJ13 : ∀ a, a < 0 → ∀ b, b < 0 → a ≠ b → (TJ13 a).2.1 ≠ (TJ13 b).2.1 := by decide +kernel
theorem tyJ13_ok : ∀ k, k < 0 → parseFieldDescriptor (TJ13 k).2.2.1 = some (tyJ13 k) := by decide +kernel
abbrev cJ13_bitCount_95d88 : ByteArray := prog_14_method_50_code
def yJ13_bitCount_95d88 : MethodName := ⟨RJ13, "bitCount", "(J)I"⟩
def RJ0 : String := "java/lang/String"
def TJ0 : u_T := fun k => match k with
  | _ => ("", "", "", false)
def tyJ0 : Nat → FieldType := fun k => match k with
  | _ => .int
abbrev wsJ00 : List Cond := u_ws RJ0 TJ0 0
theorem nmJ0 : ∀ a, a < 0 → ∀ b, b < 0 → a ≠ b → (TJ0 a).2.1 ≠ (TJ0 b).2.1 := by decide +kernel
theorem tyJ0_ok : ∀ k, k < 0 → parseFieldDescriptor (TJ0 k).2.2.1 = some (tyJ0 k) := by decide +kernel
def RJ7 : String := "java/util/Arrays"
def TJ7 : u_T := fun k => match k with
  | _ => ("", "", "", false)
def tyJ7 : Nat → FieldType := fun k => match k with
  | _ => .int
abbrev wsJ70 : List Cond := u_ws RJ7 TJ7 0
theorem nmJ7 : ∀ a, a < 0 → ∀ b, b < 0 → a ≠ b → (TJ7 a).2.1 ≠ (TJ7 b).2.1 := by decide +kernel
theorem tyJ7_ok : ∀ k, k < 0 → parseFieldDescriptor (TJ7 k).2.2.1 = some (tyJ7 k) := by decide +kernel
abbrev cJ7_fill_53178 : ByteArray := prog_18_method_103_code
def yJ7_fill_53178 : MethodName := ⟨RJ7, "fill", "([II)V"⟩
def RL : String := "TrickFinderLaw"
abbrev cL_allow : ByteArray := method_3_code
def yL_allow : MethodName := ⟨RL, "allow", "(LTrickFinder;IZ[J)I"⟩
abbrev cL_setPrice : ByteArray := method_4_code
def yL_setPrice : MethodName := ⟨RL, "setPrice", "(LTrickFinder;II[J)I"⟩
abbrev cL_setConstant : ByteArray := method_5_code
def yL_setConstant : MethodName := ⟨RL, "setConstant", "(LTrickFinder;IZ[J)I"⟩
abbrev cL_value : ByteArray := method_6_code
def yL_value : MethodName := ⟨RL, "value", "(LTrickFinder;JI[J)I"⟩
abbrev cL_apply : ByteArray := method_7_code
def yL_apply : MethodName := ⟨RL, "apply", "(LTrickFinder;IJJ[J)I"⟩
abbrev cL_inverse : ByteArray := method_8_code
def yL_inverse : MethodName := ⟨RL, "inverse", "(LTrickFinder;J[J)I"⟩
abbrev cL_measure : ByteArray := method_9_code
def yL_measure : MethodName := ⟨RL, "measure", "(LTrickFinder;JI[J)I"⟩
abbrev cL_is : ByteArray := method_10_code
def yL_is : MethodName := ⟨RL, "is", "(LTrickFinder;JI[J)I"⟩
abbrev cL_search : ByteArray := method_11_code
def yL_search : MethodName := ⟨RL, "search", "(LTrickFinder;I[J)I"⟩
abbrev cL_ofCost : ByteArray := method_12_code
def yL_ofCost : MethodName := ⟨RL, "ofCost", "(LTrickFinder;I[J)I"⟩
abbrev cL_function : ByteArray := method_13_code
def yL_function : MethodName := ⟨RL, "function", "(LTrickFinder;I[J)I"⟩
abbrev cL_entry : ByteArray := method_14_code
def yL_entry : MethodName := ⟨RL, "entry", "(LTrickFinder;II[J)I"⟩
abbrev cL_fit : ByteArray := method_15_code
def yL_fit : MethodName := ⟨RL, "fit", "(LTrickFinder;JI[J)I"⟩
abbrev cL_parts : ByteArray := method_16_code
def yL_parts : MethodName := ⟨RL, "parts", "(LTrickFinder;I[J)I"⟩
abbrev cL_write : ByteArray := method_17_code
def yL_write : MethodName := ⟨RL, "write", "(LTrickFinder;I[J)I"⟩
abbrev cL_byteAt : ByteArray := method_18_code
def yL_byteAt : MethodName := ⟨RL, "byteAt", "(LTrickFinder;I[J)I"⟩
abbrev cL_feed : ByteArray := method_19_code
def yL_feed : MethodName := ⟨RL, "feed", "(LTrickFinder;IIIII[J)I"⟩
abbrev cL_trim : ByteArray := method_20_code
def yL_trim : MethodName := ⟨RL, "trim", "(LTrickFinder;I[J)I"⟩
abbrev cL_law : ByteArray := code
def yL_law : MethodName := ⟨RL, "law", "([I)Z"⟩
def wsX0_valueAt : List Cond := .code yX0_valueAt cX0_valueAt 3 (some .int) :: ([])
def wsX0_constant : List Cond := .code yX0_constant cX0_constant 1 (some .long) :: ([.constantLong RX0 11 (1229782938247303441)])
def wsX0_difference : List Cond := .code yX0_difference cX0_difference 4 (some .long) :: ([.constantLong RX0 31 (-8608480567731124088), .constantLong RX0 23 (8608480567731124087), .constantLong RX0 13 (-1)])
def wsX0_twice : List Cond := .code yX0_twice cX0_twice 2 (some .long) :: ([.constantLong RX0 23 (8608480567731124087)])
def wsX0_sum : List Cond := .code yX0_sum cX0_sum 4 (some .long) :: ([.constantLong RX0 23 (8608480567731124087), .constantLong RX0 31 (-8608480567731124088)])
def wsX0_product : List Cond := .code yX0_product cX0_product 11 (some .long) :: ([.constantLong RX0 11 (1229782938247303441), .constantLong RX0 33 (15), .methodLink RX0 25 yX0_sum, .static yX0_sum, .initialized RX0, .code yX0_sum cX0_sum 4 (some .long), .constantLong RX0 23 (8608480567731124087), .constantLong RX0 31 (-8608480567731124088), .methodLink RX0 19 yX0_twice, .static yX0_twice, .code yX0_twice cX0_twice 2 (some .long)])
def wsX0_made : List Cond := .code yX0_made cX0_made 5 (some .long) :: ([.constantLong RX0 13 (-1), .constantLong RX0 23 (8608480567731124087), .methodLink RX0 15 yX0_difference, .static yX0_difference, .initialized RX0, .code yX0_difference cX0_difference 4 (some .long), .constantLong RX0 31 (-8608480567731124088), .methodLink RX0 19 yX0_twice, .static yX0_twice, .code yX0_twice cX0_twice 2 (some .long), .methodLink RX0 25 yX0_sum, .static yX0_sum, .code yX0_sum cX0_sum 4 (some .long), .methodLink RX0 28 yX0_product, .static yX0_product, .code yX0_product cX0_product 11 (some .long), .constantLong RX0 11 (1229782938247303441), .constantLong RX0 33 (15)])
def wsX0_after : List Cond := .code yX0_after cX0_after 7 (some .long) :: ([.methodLink RX0 35 yX0_valueAt, .static yX0_valueAt, .initialized RX0, .code yX0_valueAt cX0_valueAt 3 (some .int)])
def wsX0_inverseOf : List Cond := .code yX0_inverseOf cX0_inverseOf 5 (some .long) :: ([.methodLink RX0 35 yX0_valueAt, .static yX0_valueAt, .initialized RX0, .code yX0_valueAt cX0_valueAt 3 (some .int)])
def wsJ13_bitCount_95d88 : List Cond := .code yJ13_bitCount_95d88 cJ13_bitCount_95d88 2 (some .int) :: ([.constantLong RJ13 314 (6148914691236517205), .constantLong RJ13 316 (3689348814741910323), .constantLong RJ13 318 (1085102592571150095)])
def wsX0_countDifferences : List Cond := .code yX0_countDifferences cX0_countDifferences 6 (some .int) :: ([.constantLong RX0 11 (1229782938247303441), .methodLink RX0 39 yJ13_bitCount_95d88, .static yJ13_bitCount_95d88, .initialized RJ13, .code yJ13_bitCount_95d88 cJ13_bitCount_95d88 2 (some .int), .constantLong RJ13 314 (6148914691236517205), .constantLong RJ13 316 (3689348814741910323), .constantLong RJ13 318 (1085102592571150095)])
def wsX0_image : List Cond := .code yX0_image cX0_image 5 (some .int) :: ([.methodLink RX0 35 yX0_valueAt, .static yX0_valueAt, .initialized RX0, .code yX0_valueAt cX0_valueAt 3 (some .int)])
def wsJ6_bitCount_0f7a4 : List Cond := .code yJ6_bitCount_0f7a4 cJ6_bitCount_0f7a4 1 (some .int) :: ([.constant RJ6 265 (1431655765), .constant RJ6 266 (858993459), .constant RJ6 267 (252645135)])
def wsX0_countValues : List Cond := .code yX0_countValues cX0_countValues 2 (some .int) :: ([.constant RX0 45 (65535), .methodLink RX0 46 yX0_image, .static yX0_image, .initialized RX0, .code yX0_image cX0_image 5 (some .int), .methodLink RX0 35 yX0_valueAt, .static yX0_valueAt, .code yX0_valueAt cX0_valueAt 3 (some .int), .methodLink RX0 49 yJ6_bitCount_0f7a4, .static yJ6_bitCount_0f7a4, .initialized RJ6, .code yJ6_bitCount_0f7a4 cJ6_bitCount_0f7a4 1 (some .int), .constant RJ6 265 (1431655765), .constant RJ6 266 (858993459), .constant RJ6 267 (252645135)])
def wsX0_returningInputs : List Cond := .code yX0_returningInputs cX0_returningInputs 4 (some .int) :: ([.constant RX0 45 (65535), .methodLink RX0 46 yX0_image, .static yX0_image, .initialized RX0, .code yX0_image cX0_image 5 (some .int), .methodLink RX0 35 yX0_valueAt, .static yX0_valueAt, .code yX0_valueAt cX0_valueAt 3 (some .int)])
def wsX0_stepsToReturning : List Cond := .code yX0_stepsToReturning cX0_stepsToReturning 5 (some .int) :: ([.constant RX0 45 (65535), .methodLink RX0 54 yX0_returningInputs, .static yX0_returningInputs, .initialized RX0, .code yX0_returningInputs cX0_returningInputs 4 (some .int), .methodLink RX0 46 yX0_image, .static yX0_image, .code yX0_image cX0_image 5 (some .int), .methodLink RX0 35 yX0_valueAt, .static yX0_valueAt, .code yX0_valueAt cX0_valueAt 3 (some .int)])
def wsX0_isLinear : List Cond := .code yX0_isLinear cX0_isLinear 4 (some .boolean) :: ([.methodLink RX0 35 yX0_valueAt, .static yX0_valueAt, .initialized RX0, .code yX0_valueAt cX0_valueAt 3 (some .int)])
def wsX0_isRising : List Cond := .code yX0_isRising cX0_isRising 3 (some .boolean) :: ([.methodLink RX0 35 yX0_valueAt, .static yX0_valueAt, .initialized RX0, .code yX0_valueAt cX0_valueAt 3 (some .int)])
def wsX0_isOfLowerBits : List Cond := .code yX0_isOfLowerBits cX0_isOfLowerBits 6 (some .boolean) :: ([.methodLink RX0 35 yX0_valueAt, .static yX0_valueAt, .initialized RX0, .code yX0_valueAt cX0_valueAt 3 (some .int)])
def wsX0_maskOf : List Cond := .code yX0_maskOf cX0_maskOf 4 (some .long) :: ([.constantLong RX0 33 (15)])
def wsX1_init : List Cond := .code yX1_init cX1_init 1 none :: ([.methodLink RX1 3 objectInit, .instanceMethod objectInit, .code objectInit ⟨#[0xb1]⟩ 1 none, .arrayClass .int, .fieldLink RX1 11 "TrickFinder$Paper" "bytes" "[I"] ++ wsX10)
def wsX1_put : List Cond := .code yX1_put cX1_put 2 none :: ([.fieldLink RX1 15 "TrickFinder$Paper" "length" "I", .fieldLink RX1 11 "TrickFinder$Paper" "bytes" "[I"] ++ wsX10)
def wsX2_has : List Cond := .code yX2_has cX2_has 2 (some .boolean) :: ([.fieldLink RX2 40 "TrickFinder$Row" "count" "I"] ++ wsX20)
def wsX5_hasTwoArguments : List Cond := .code yX5_hasTwoArguments cX5_hasTwoArguments 1 (some .boolean) :: ([])
def wsX1_putNumber : List Cond := .code yX1_putNumber cX1_putNumber 2 none :: ([.methodLink RX1 28 yX1_put, .instanceMethod yX1_put, .selects RX1 yX1_put yX1_put, .initialized RX1, .code yX1_put cX1_put 2 none, .fieldLink RX1 15 "TrickFinder$Paper" "length" "I", .fieldLink RX1 11 "TrickFinder$Paper" "bytes" "[I"] ++ wsX10)
def wsX5_isOperation : List Cond := .code yX5_isOperation cX5_isOperation 1 (some .boolean) :: ([])
def wsX1_putArgument_r1 : List Cond := [Cond.fieldLink RX1 25 "TrickFinder$Row" "operations" "[I", Cond.methodLink RX1 19 yX2_has, Cond.instanceMethod yX2_has, Cond.selects RX2 yX2_has yX2_has, Cond.initialized RX2, Cond.code yX2_has cX2_has 2 (some .boolean), Cond.fieldLink RX2 40 "TrickFinder$Row" "count" "I", Cond.static yX5_hasTwoArguments, Cond.initialized RX5, Cond.code yX5_hasTwoArguments cX5_hasTwoArguments 1 (some .boolean), Cond.methodLink RX1 28 yX1_put, Cond.instanceMethod yX1_put, Cond.selects RX1 yX1_put yX1_put, Cond.initialized RX1, Cond.code yX1_put cX1_put 2 none, Cond.fieldLink RX1 15 "TrickFinder$Paper" "length" "I", Cond.fieldLink RX1 11 "TrickFinder$Paper" "bytes" "[I", Cond.methodLink RX1 55 yX1_putEntry, Cond.instanceMethod yX1_putEntry, Cond.selects RX1 yX1_putEntry yX1_putEntry, Cond.code yX1_putEntry cX1_putEntry 5 none, Cond.fieldLink RX1 32 "TrickFinder$Row" "firsts" "[I", Cond.fieldLink RX1 49 "TrickFinder$Row" "seconds" "[I", Cond.methodLink RX1 35 yX1_putNumber]
def wsX1_putArgument_r2 : List Cond := [Cond.instanceMethod yX1_putNumber, Cond.selects RX1 yX1_putNumber yX1_putNumber, Cond.code yX1_putNumber cX1_putNumber 2 none, Cond.methodLink RX1 41 yX1_putArgument, Cond.instanceMethod yX1_putArgument, Cond.selects RX1 yX1_putArgument yX1_putArgument, Cond.static yX5_isOperation, Cond.code yX5_isOperation cX5_isOperation 1 (some .boolean)]
def wsX1_putArgument : List Cond := .code yX1_putArgument cX1_putArgument 5 none :: ((wsX1_putArgument_r1 ++ wsX1_putArgument_r2) ++ wsX20 ++ wsX10)
def wsX1_putEntry_r1 : List Cond := [Cond.fieldLink RX1 25 "TrickFinder$Row" "operations" "[I", Cond.fieldLink RX1 32 "TrickFinder$Row" "firsts" "[I", Cond.fieldLink RX1 49 "TrickFinder$Row" "seconds" "[I", Cond.methodLink RX1 19 yX2_has, Cond.instanceMethod yX2_has, Cond.selects RX2 yX2_has yX2_has, Cond.initialized RX2, Cond.code yX2_has cX2_has 2 (some .boolean), Cond.fieldLink RX2 40 "TrickFinder$Row" "count" "I", Cond.methodLink RX1 28 yX1_put, Cond.instanceMethod yX1_put, Cond.selects RX1 yX1_put yX1_put, Cond.initialized RX1, Cond.code yX1_put cX1_put 2 none, Cond.fieldLink RX1 15 "TrickFinder$Paper" "length" "I", Cond.fieldLink RX1 11 "TrickFinder$Paper" "bytes" "[I", Cond.methodLink RX1 35 yX1_putNumber, Cond.instanceMethod yX1_putNumber, Cond.selects RX1 yX1_putNumber yX1_putNumber, Cond.code yX1_putNumber cX1_putNumber 2 none, Cond.static yX5_hasTwoArguments, Cond.initialized RX5, Cond.code yX5_hasTwoArguments cX5_hasTwoArguments 1 (some .boolean), Cond.methodLink RX1 41 yX1_putArgument]
def wsX1_putEntry_r2 : List Cond := [Cond.instanceMethod yX1_putArgument, Cond.selects RX1 yX1_putArgument yX1_putArgument, Cond.static yX5_isOperation, Cond.code yX5_isOperation cX5_isOperation 1 (some .boolean), Cond.code yX1_putArgument cX1_putArgument 5 none, Cond.methodLink RX1 55 yX1_putEntry, Cond.instanceMethod yX1_putEntry, Cond.selects RX1 yX1_putEntry yX1_putEntry]
def wsX1_putEntry : List Cond := .code yX1_putEntry cX1_putEntry 5 none :: ((wsX1_putEntry_r1 ++ wsX1_putEntry_r2) ++ wsX20 ++ wsX10)
def wsX5_added : List Cond := .code yX5_added cX5_added 4 (some .long) :: ([.constantLong RX5 240 (31)])
def wsX1_addTo : List Cond := .code yX1_addTo cX1_addTo 6 (some .long) :: ([.fieldLink RX1 15 "TrickFinder$Paper" "length" "I", .fieldLink RX1 11 "TrickFinder$Paper" "bytes" "[I", .static yX5_added, .initialized RX5, .code yX5_added cX5_added 4 (some .long), .constantLong RX5 240 (31)] ++ wsX10)
def wsJ7_fill_53178 : List Cond := .code yJ7_fill_53178 cJ7_fill_53178 4 none :: ([])
def wsX2_init : List Cond := .code yX2_init cX2_init 1 none :: ([.methodLink RX2 3 objectInit, .instanceMethod objectInit, .code objectInit ⟨#[0xb1]⟩ 1 none, .arrayClass .long, .fieldLink RX2 11 "TrickFinder$Row" "functions" "[J", .arrayClass .int, .fieldLink RX2 15 "TrickFinder$Row" "operations" "[I", .fieldLink RX2 19 "TrickFinder$Row" "firsts" "[I", .fieldLink RX2 22 "TrickFinder$Row" "seconds" "[I", .fieldLink RX2 25 "TrickFinder$Row" "starts" "[I", .fieldLink RX2 28 "TrickFinder$Row" "slots" "[I", .fieldLink RX2 31 "TrickFinder$Row" "partsFound" "[I", .methodLink RX2 34 yJ7_fill_53178, .static yJ7_fill_53178, .initialized RJ7, .code yJ7_fill_53178 cJ7_fill_53178 4 none] ++ wsX20)
def wsX2_isFull : List Cond := .code yX2_isFull cX2_isFull 1 (some .boolean) :: ([.fieldLink RX2 40 "TrickFinder$Row" "count" "I"] ++ wsX20)
def wsX2_slotOf : List Cond := .code yX2_slotOf cX2_slotOf 6 (some .int) :: ([.constantLong RX2 103 (-7046029254386353131), .fieldLink RX2 28 "TrickFinder$Row" "slots" "[I", .fieldLink RX2 40 "TrickFinder$Row" "count" "I", .fieldLink RX2 11 "TrickFinder$Row" "functions" "[J"] ++ wsX20)
def wsX2_add : List Cond := .code yX2_add cX2_add 7 none :: ([.fieldLink RX2 28 "TrickFinder$Row" "slots" "[I", .fieldLink RX2 40 "TrickFinder$Row" "count" "I", .fieldLink RX2 11 "TrickFinder$Row" "functions" "[J", .fieldLink RX2 15 "TrickFinder$Row" "operations" "[I", .fieldLink RX2 19 "TrickFinder$Row" "firsts" "[I", .fieldLink RX2 22 "TrickFinder$Row" "seconds" "[I", .methodLink RX2 99 yX2_slotOf, .instanceMethod yX2_slotOf, .selects RX2 yX2_slotOf yX2_slotOf, .initialized RX2, .code yX2_slotOf cX2_slotOf 6 (some .int), .constantLong RX2 103 (-7046029254386353131), .methodLink RX2 91 yX2_isFull, .instanceMethod yX2_isFull, .selects RX2 yX2_isFull yX2_isFull, .code yX2_isFull cX2_isFull 1 (some .boolean)] ++ wsX20)
def wsX3_priceOfConstants : List Cond := .code yX3_priceOfConstants cX3_priceOfConstants 1 (some .int) :: ([.fieldLink RX3 9 "TrickFinder$Settings" "prices" "[I"] ++ wsX30)
def wsX2_addConstants_r1 : List Cond := [Cond.fieldLink RX2 82 "TrickFinder$Settings" "isConstantAllowed" "[Z", Cond.methodLink RX2 85 yX0_constant, Cond.static yX0_constant, Cond.initialized RX0, Cond.code yX0_constant cX0_constant 1 (some .long), Cond.constantLong RX0 11 (1229782938247303441), Cond.methodLink RX2 50 yX2_add, Cond.instanceMethod yX2_add, Cond.selects RX2 yX2_add yX2_add, Cond.initialized RX2, Cond.code yX2_add cX2_add 7 none, Cond.fieldLink RX2 28 "TrickFinder$Row" "slots" "[I", Cond.fieldLink RX2 40 "TrickFinder$Row" "count" "I", Cond.fieldLink RX2 11 "TrickFinder$Row" "functions" "[J", Cond.fieldLink RX2 15 "TrickFinder$Row" "operations" "[I", Cond.fieldLink RX2 19 "TrickFinder$Row" "firsts" "[I", Cond.fieldLink RX2 22 "TrickFinder$Row" "seconds" "[I", Cond.methodLink RX2 99 yX2_slotOf, Cond.instanceMethod yX2_slotOf, Cond.selects RX2 yX2_slotOf yX2_slotOf, Cond.code yX2_slotOf cX2_slotOf 6 (some .int), Cond.constantLong RX2 103 (-7046029254386353131), Cond.methodLink RX2 91 yX2_isFull, Cond.instanceMethod yX2_isFull]
def wsX2_addConstants_r2 : List Cond := [Cond.selects RX2 yX2_isFull yX2_isFull, Cond.code yX2_isFull cX2_isFull 1 (some .boolean)]
def wsX2_addConstants : List Cond := .code yX2_addConstants cX2_addConstants 3 none :: ((wsX2_addConstants_r1 ++ wsX2_addConstants_r2) ++ wsX30 ++ wsX20)
def wsX2_addOfTwo_r1 : List Cond := [Cond.fieldLink RX2 25 "TrickFinder$Row" "starts" "[I", Cond.fieldLink RX2 11 "TrickFinder$Row" "functions" "[J", Cond.methodLink RX2 91 yX2_isFull, Cond.instanceMethod yX2_isFull, Cond.selects RX2 yX2_isFull yX2_isFull, Cond.initialized RX2, Cond.code yX2_isFull cX2_isFull 1 (some .boolean), Cond.fieldLink RX2 40 "TrickFinder$Row" "count" "I", Cond.methodLink RX2 95 yX0_made, Cond.static yX0_made, Cond.initialized RX0, Cond.code yX0_made cX0_made 5 (some .long), Cond.constantLong RX0 13 (-1), Cond.constantLong RX0 23 (8608480567731124087), Cond.methodLink RX0 15 yX0_difference, Cond.static yX0_difference, Cond.code yX0_difference cX0_difference 4 (some .long), Cond.constantLong RX0 31 (-8608480567731124088), Cond.methodLink RX0 19 yX0_twice, Cond.static yX0_twice, Cond.code yX0_twice cX0_twice 2 (some .long), Cond.methodLink RX0 25 yX0_sum, Cond.static yX0_sum, Cond.code yX0_sum cX0_sum 4 (some .long)]
def wsX2_addOfTwo_r2 : List Cond := [Cond.methodLink RX0 28 yX0_product, Cond.static yX0_product, Cond.code yX0_product cX0_product 11 (some .long), Cond.constantLong RX0 11 (1229782938247303441), Cond.constantLong RX0 33 (15), Cond.methodLink RX2 50 yX2_add, Cond.instanceMethod yX2_add, Cond.selects RX2 yX2_add yX2_add, Cond.code yX2_add cX2_add 7 none, Cond.fieldLink RX2 28 "TrickFinder$Row" "slots" "[I", Cond.fieldLink RX2 15 "TrickFinder$Row" "operations" "[I", Cond.fieldLink RX2 19 "TrickFinder$Row" "firsts" "[I", Cond.fieldLink RX2 22 "TrickFinder$Row" "seconds" "[I", Cond.methodLink RX2 99 yX2_slotOf, Cond.instanceMethod yX2_slotOf, Cond.selects RX2 yX2_slotOf yX2_slotOf, Cond.code yX2_slotOf cX2_slotOf 6 (some .int), Cond.constantLong RX2 103 (-7046029254386353131)]
def wsX2_addOfTwo : List Cond := .code yX2_addOfTwo cX2_addOfTwo 7 none :: ((wsX2_addOfTwo_r1 ++ wsX2_addOfTwo_r2) ++ wsX20)
def wsX2_addOfOne_r1 : List Cond := [Cond.fieldLink RX2 25 "TrickFinder$Row" "starts" "[I", Cond.fieldLink RX2 11 "TrickFinder$Row" "functions" "[J", Cond.methodLink RX2 91 yX2_isFull, Cond.instanceMethod yX2_isFull, Cond.selects RX2 yX2_isFull yX2_isFull, Cond.initialized RX2, Cond.code yX2_isFull cX2_isFull 1 (some .boolean), Cond.fieldLink RX2 40 "TrickFinder$Row" "count" "I", Cond.methodLink RX2 95 yX0_made, Cond.static yX0_made, Cond.initialized RX0, Cond.code yX0_made cX0_made 5 (some .long), Cond.constantLong RX0 13 (-1), Cond.constantLong RX0 23 (8608480567731124087), Cond.methodLink RX0 15 yX0_difference, Cond.static yX0_difference, Cond.code yX0_difference cX0_difference 4 (some .long), Cond.constantLong RX0 31 (-8608480567731124088), Cond.methodLink RX0 19 yX0_twice, Cond.static yX0_twice, Cond.code yX0_twice cX0_twice 2 (some .long), Cond.methodLink RX0 25 yX0_sum, Cond.static yX0_sum, Cond.code yX0_sum cX0_sum 4 (some .long)]
def wsX2_addOfOne_r2 : List Cond := [Cond.methodLink RX0 28 yX0_product, Cond.static yX0_product, Cond.code yX0_product cX0_product 11 (some .long), Cond.constantLong RX0 11 (1229782938247303441), Cond.constantLong RX0 33 (15), Cond.methodLink RX2 50 yX2_add, Cond.instanceMethod yX2_add, Cond.selects RX2 yX2_add yX2_add, Cond.code yX2_add cX2_add 7 none, Cond.fieldLink RX2 28 "TrickFinder$Row" "slots" "[I", Cond.fieldLink RX2 15 "TrickFinder$Row" "operations" "[I", Cond.fieldLink RX2 19 "TrickFinder$Row" "firsts" "[I", Cond.fieldLink RX2 22 "TrickFinder$Row" "seconds" "[I", Cond.methodLink RX2 99 yX2_slotOf, Cond.instanceMethod yX2_slotOf, Cond.selects RX2 yX2_slotOf yX2_slotOf, Cond.code yX2_slotOf cX2_slotOf 6 (some .int), Cond.constantLong RX2 103 (-7046029254386353131)]
def wsX2_addOfOne : List Cond := .code yX2_addOfOne cX2_addOfOne 5 none :: ((wsX2_addOfOne_r1 ++ wsX2_addOfOne_r2) ++ wsX20)
def wsX2_makeCost_r1 : List Cond := [Cond.constantLong RX2 48 (-81985529216486896), Cond.fieldLink RX2 64 "TrickFinder$Settings" "prices" "[I", Cond.fieldLink RX2 67 "TrickFinder$Settings" "isAllowed" "[Z", Cond.methodLink RX2 50 yX2_add, Cond.instanceMethod yX2_add, Cond.selects RX2 yX2_add yX2_add, Cond.initialized RX2, Cond.code yX2_add cX2_add 7 none, Cond.fieldLink RX2 28 "TrickFinder$Row" "slots" "[I", Cond.fieldLink RX2 40 "TrickFinder$Row" "count" "I", Cond.fieldLink RX2 11 "TrickFinder$Row" "functions" "[J", Cond.fieldLink RX2 15 "TrickFinder$Row" "operations" "[I", Cond.fieldLink RX2 19 "TrickFinder$Row" "firsts" "[I", Cond.fieldLink RX2 22 "TrickFinder$Row" "seconds" "[I", Cond.methodLink RX2 99 yX2_slotOf, Cond.instanceMethod yX2_slotOf, Cond.selects RX2 yX2_slotOf yX2_slotOf, Cond.code yX2_slotOf cX2_slotOf 6 (some .int), Cond.constantLong RX2 103 (-7046029254386353131), Cond.methodLink RX2 91 yX2_isFull, Cond.instanceMethod yX2_isFull, Cond.selects RX2 yX2_isFull yX2_isFull, Cond.code yX2_isFull cX2_isFull 1 (some .boolean), Cond.methodLink RX2 54 yX3_priceOfConstants]
def wsX2_makeCost_r2 : List Cond := [Cond.instanceMethod yX3_priceOfConstants, Cond.selects RX3 yX3_priceOfConstants yX3_priceOfConstants, Cond.initialized RX3, Cond.code yX3_priceOfConstants cX3_priceOfConstants 1 (some .int), Cond.fieldLink RX3 9 "TrickFinder$Settings" "prices" "[I", Cond.methodLink RX2 60 yX2_addConstants, Cond.instanceMethod yX2_addConstants, Cond.selects RX2 yX2_addConstants yX2_addConstants, Cond.code yX2_addConstants cX2_addConstants 3 none, Cond.fieldLink RX2 82 "TrickFinder$Settings" "isConstantAllowed" "[Z", Cond.methodLink RX2 85 yX0_constant, Cond.static yX0_constant, Cond.initialized RX0, Cond.code yX0_constant cX0_constant 1 (some .long), Cond.constantLong RX0 11 (1229782938247303441), Cond.static yX5_hasTwoArguments, Cond.initialized RX5, Cond.code yX5_hasTwoArguments cX5_hasTwoArguments 1 (some .boolean), Cond.methodLink RX2 75 yX2_addOfTwo, Cond.instanceMethod yX2_addOfTwo, Cond.selects RX2 yX2_addOfTwo yX2_addOfTwo, Cond.code yX2_addOfTwo cX2_addOfTwo 7 none, Cond.fieldLink RX2 25 "TrickFinder$Row" "starts" "[I", Cond.methodLink RX2 95 yX0_made]
def wsX2_makeCost_r3 : List Cond := [Cond.static yX0_made, Cond.code yX0_made cX0_made 5 (some .long), Cond.constantLong RX0 13 (-1), Cond.constantLong RX0 23 (8608480567731124087), Cond.methodLink RX0 15 yX0_difference, Cond.static yX0_difference, Cond.code yX0_difference cX0_difference 4 (some .long), Cond.constantLong RX0 31 (-8608480567731124088), Cond.methodLink RX0 19 yX0_twice, Cond.static yX0_twice, Cond.code yX0_twice cX0_twice 2 (some .long), Cond.methodLink RX0 25 yX0_sum, Cond.static yX0_sum, Cond.code yX0_sum cX0_sum 4 (some .long), Cond.methodLink RX0 28 yX0_product, Cond.static yX0_product, Cond.code yX0_product cX0_product 11 (some .long), Cond.constantLong RX0 33 (15), Cond.methodLink RX2 79 yX2_addOfOne, Cond.instanceMethod yX2_addOfOne, Cond.selects RX2 yX2_addOfOne yX2_addOfOne, Cond.code yX2_addOfOne cX2_addOfOne 5 none]
def wsX2_makeCost : List Cond := .code yX2_makeCost cX2_makeCost 5 none :: ((wsX2_makeCost_r1 ++ (wsX2_makeCost_r2 ++ wsX2_makeCost_r3)) ++ wsX30 ++ wsX20)
def wsX2_make_r1 : List Cond := [Cond.fieldLink RX2 40 "TrickFinder$Row" "count" "I", Cond.fieldLink RX2 28 "TrickFinder$Row" "slots" "[I", Cond.fieldLink RX2 25 "TrickFinder$Row" "starts" "[I", Cond.methodLink RX2 34 yJ7_fill_53178, Cond.static yJ7_fill_53178, Cond.initialized RJ7, Cond.code yJ7_fill_53178 cJ7_fill_53178 4 none, Cond.methodLink RX2 44 yX2_makeCost, Cond.instanceMethod yX2_makeCost, Cond.selects RX2 yX2_makeCost yX2_makeCost, Cond.initialized RX2, Cond.code yX2_makeCost cX2_makeCost 5 none, Cond.constantLong RX2 48 (-81985529216486896), Cond.fieldLink RX2 64 "TrickFinder$Settings" "prices" "[I", Cond.fieldLink RX2 67 "TrickFinder$Settings" "isAllowed" "[Z", Cond.methodLink RX2 50 yX2_add, Cond.instanceMethod yX2_add, Cond.selects RX2 yX2_add yX2_add, Cond.code yX2_add cX2_add 7 none, Cond.fieldLink RX2 11 "TrickFinder$Row" "functions" "[J", Cond.fieldLink RX2 15 "TrickFinder$Row" "operations" "[I", Cond.fieldLink RX2 19 "TrickFinder$Row" "firsts" "[I", Cond.fieldLink RX2 22 "TrickFinder$Row" "seconds" "[I", Cond.methodLink RX2 99 yX2_slotOf]
def wsX2_make_r2 : List Cond := [Cond.instanceMethod yX2_slotOf, Cond.selects RX2 yX2_slotOf yX2_slotOf, Cond.code yX2_slotOf cX2_slotOf 6 (some .int), Cond.constantLong RX2 103 (-7046029254386353131), Cond.methodLink RX2 91 yX2_isFull, Cond.instanceMethod yX2_isFull, Cond.selects RX2 yX2_isFull yX2_isFull, Cond.code yX2_isFull cX2_isFull 1 (some .boolean), Cond.methodLink RX2 54 yX3_priceOfConstants, Cond.instanceMethod yX3_priceOfConstants, Cond.selects RX3 yX3_priceOfConstants yX3_priceOfConstants, Cond.initialized RX3, Cond.code yX3_priceOfConstants cX3_priceOfConstants 1 (some .int), Cond.fieldLink RX3 9 "TrickFinder$Settings" "prices" "[I", Cond.methodLink RX2 60 yX2_addConstants, Cond.instanceMethod yX2_addConstants, Cond.selects RX2 yX2_addConstants yX2_addConstants, Cond.code yX2_addConstants cX2_addConstants 3 none, Cond.fieldLink RX2 82 "TrickFinder$Settings" "isConstantAllowed" "[Z", Cond.methodLink RX2 85 yX0_constant, Cond.static yX0_constant, Cond.initialized RX0, Cond.code yX0_constant cX0_constant 1 (some .long), Cond.constantLong RX0 11 (1229782938247303441)]
def wsX2_make_r3 : List Cond := [Cond.static yX5_hasTwoArguments, Cond.initialized RX5, Cond.code yX5_hasTwoArguments cX5_hasTwoArguments 1 (some .boolean), Cond.methodLink RX2 75 yX2_addOfTwo, Cond.instanceMethod yX2_addOfTwo, Cond.selects RX2 yX2_addOfTwo yX2_addOfTwo, Cond.code yX2_addOfTwo cX2_addOfTwo 7 none, Cond.methodLink RX2 95 yX0_made, Cond.static yX0_made, Cond.code yX0_made cX0_made 5 (some .long), Cond.constantLong RX0 13 (-1), Cond.constantLong RX0 23 (8608480567731124087), Cond.methodLink RX0 15 yX0_difference, Cond.static yX0_difference, Cond.code yX0_difference cX0_difference 4 (some .long), Cond.constantLong RX0 31 (-8608480567731124088), Cond.methodLink RX0 19 yX0_twice, Cond.static yX0_twice, Cond.code yX0_twice cX0_twice 2 (some .long), Cond.methodLink RX0 25 yX0_sum, Cond.static yX0_sum, Cond.code yX0_sum cX0_sum 4 (some .long), Cond.methodLink RX0 28 yX0_product, Cond.static yX0_product]
def wsX2_make_r4 : List Cond := [Cond.code yX0_product cX0_product 11 (some .long), Cond.constantLong RX0 33 (15), Cond.methodLink RX2 79 yX2_addOfOne, Cond.instanceMethod yX2_addOfOne, Cond.selects RX2 yX2_addOfOne yX2_addOfOne, Cond.code yX2_addOfOne cX2_addOfOne 5 none]
def wsX2_make : List Cond := .code yX2_make cX2_make 4 none :: ((wsX2_make_r1 ++ (wsX2_make_r2 ++ (wsX2_make_r3 ++ wsX2_make_r4))) ++ wsX20 ++ wsX30)
def wsX2_entryWith : List Cond := .code yX2_entryWith cX2_entryWith 4 (some .int) :: ([.fieldLink RX2 28 "TrickFinder$Row" "slots" "[I", .methodLink RX2 99 yX2_slotOf, .instanceMethod yX2_slotOf, .selects RX2 yX2_slotOf yX2_slotOf, .initialized RX2, .code yX2_slotOf cX2_slotOf 6 (some .int), .constantLong RX2 103 (-7046029254386353131), .fieldLink RX2 40 "TrickFinder$Row" "count" "I", .fieldLink RX2 11 "TrickFinder$Row" "functions" "[J"] ++ wsX20)
def wsX2_firstAlike : List Cond := .code yX2_firstAlike cX2_firstAlike 6 (some .int) :: ([.fieldLink RX2 40 "TrickFinder$Row" "count" "I", .fieldLink RX2 11 "TrickFinder$Row" "functions" "[J"] ++ wsX20)
def wsX2_firstNearest : List Cond := .code yX2_firstNearest cX2_firstNearest 7 (some .int) :: ([.fieldLink RX2 40 "TrickFinder$Row" "count" "I", .fieldLink RX2 11 "TrickFinder$Row" "functions" "[J", .methodLink RX2 105 yX0_countDifferences, .static yX0_countDifferences, .initialized RX0, .code yX0_countDifferences cX0_countDifferences 6 (some .int), .constantLong RX0 11 (1229782938247303441), .methodLink RX0 39 yJ13_bitCount_95d88, .static yJ13_bitCount_95d88, .initialized RJ13, .code yJ13_bitCount_95d88 cJ13_bitCount_95d88 2 (some .int), .constantLong RJ13 314 (6148914691236517205), .constantLong RJ13 316 (3689348814741910323), .constantLong RJ13 318 (1085102592571150095)] ++ wsX20)
def wsX2_countOfCost : List Cond := .code yX2_countOfCost cX2_countOfCost 2 (some .int) :: ([.fieldLink RX2 25 "TrickFinder$Row" "starts" "[I"] ++ wsX20)
def wsX2_costOf : List Cond := .code yX2_costOf cX2_costOf 3 (some .int) :: ([.fieldLink RX2 25 "TrickFinder$Row" "starts" "[I"] ++ wsX20)
def wsX2_sumOfCosts : List Cond := .code yX2_sumOfCosts cX2_sumOfCosts 3 (some .int) :: ([.methodLink RX2 109 yX2_countOfCost, .instanceMethod yX2_countOfCost, .selects RX2 yX2_countOfCost yX2_countOfCost, .initialized RX2, .code yX2_countOfCost cX2_countOfCost 2 (some .int), .fieldLink RX2 25 "TrickFinder$Row" "starts" "[I"] ++ wsX20)
def wsX2_withPart : List Cond := .code yX2_withPart cX2_withPart 4 (some .int) :: ([.fieldLink RX2 31 "TrickFinder$Row" "partsFound" "[I", .methodLink RX2 117 yX2_has, .instanceMethod yX2_has, .selects RX2 yX2_has yX2_has, .initialized RX2, .code yX2_has cX2_has 2 (some .boolean), .fieldLink RX2 40 "TrickFinder$Row" "count" "I"] ++ wsX20)
def wsX2_countParts : List Cond := .code yX2_countParts cX2_countParts 5 (some .int) :: ([.fieldLink RX2 31 "TrickFinder$Row" "partsFound" "[I", .fieldLink RX2 15 "TrickFinder$Row" "operations" "[I", .fieldLink RX2 19 "TrickFinder$Row" "firsts" "[I", .fieldLink RX2 22 "TrickFinder$Row" "seconds" "[I", .methodLink RX2 113 yX2_withPart, .instanceMethod yX2_withPart, .selects RX2 yX2_withPart yX2_withPart, .initialized RX2, .code yX2_withPart cX2_withPart 4 (some .int), .methodLink RX2 117 yX2_has, .instanceMethod yX2_has, .selects RX2 yX2_has yX2_has, .code yX2_has cX2_has 2 (some .boolean), .fieldLink RX2 40 "TrickFinder$Row" "count" "I"] ++ wsX20)
def wsX2_addTo : List Cond := .code yX2_addTo cX2_addTo 6 (some .long) :: ([.fieldLink RX2 40 "TrickFinder$Row" "count" "I", .fieldLink RX2 11 "TrickFinder$Row" "functions" "[J", .fieldLink RX2 15 "TrickFinder$Row" "operations" "[I", .fieldLink RX2 19 "TrickFinder$Row" "firsts" "[I", .fieldLink RX2 22 "TrickFinder$Row" "seconds" "[I", .static yX5_added, .initialized RX5, .code yX5_added cX5_added 4 (some .long), .constantLong RX5 240 (31), .methodLink RX2 124 yX2_costOf, .instanceMethod yX2_costOf, .selects RX2 yX2_costOf yX2_costOf, .initialized RX2, .code yX2_costOf cX2_costOf 3 (some .int), .fieldLink RX2 25 "TrickFinder$Row" "starts" "[I"] ++ wsX20)
def wsX3_init : List Cond := .code yX3_init cX3_init 2 none :: ([.methodLink RX3 3 objectInit, .instanceMethod objectInit, .code objectInit ⟨#[0xb1]⟩ 1 none, .arrayClass .int, .fieldLink RX3 9 "TrickFinder$Settings" "prices" "[I", .arrayClass .boolean, .fieldLink RX3 15 "TrickFinder$Settings" "isAllowed" "[Z", .fieldLink RX3 19 "TrickFinder$Settings" "isConstantAllowed" "[Z", .methodLink RX3 22 yJ7_fill_53178, .static yJ7_fill_53178, .initialized RJ7, .code yJ7_fill_53178 cJ7_fill_53178 4 none] ++ wsX30)
def wsX3_addTo : List Cond := .code yX3_addTo cX3_addTo 9 (some .long) :: ([.fieldLink RX3 9 "TrickFinder$Settings" "prices" "[I", .fieldLink RX3 15 "TrickFinder$Settings" "isAllowed" "[Z", .fieldLink RX3 19 "TrickFinder$Settings" "isConstantAllowed" "[Z", .static yX5_added, .initialized RX5, .code yX5_added cX5_added 4 (some .long), .constantLong RX5 240 (31), .methodLink RX3 32 yX3_priceOfConstants, .instanceMethod yX3_priceOfConstants, .selects RX3 yX3_priceOfConstants yX3_priceOfConstants, .initialized RX3, .code yX3_priceOfConstants cX3_priceOfConstants 1 (some .int)] ++ wsX30)
def wsX4_init : List Cond := .code yX4_init cX4_init 1 none :: ([.methodLink RX4 3 objectInit, .instanceMethod objectInit, .code objectInit ⟨#[0xb1]⟩ 1 none, .arrayClass .int, .fieldLink RX4 11 "TrickFinder$Tape" "bytes" "[I"] ++ wsX40)
def wsX4_append : List Cond := .code yX4_append cX4_append 3 none :: ([.fieldLink RX4 15 "TrickFinder$Tape" "length" "I", .fieldLink RX4 11 "TrickFinder$Tape" "bytes" "[I"] ++ wsX40)
def wsX4_hasError : List Cond := .code yX4_hasError cX4_hasError 1 (some .boolean) :: ([.fieldLink RX4 22 "TrickFinder$Tape" "error" "I"] ++ wsX40)
def wsX4_here : List Cond := .code yX4_here cX4_here 1 (some .int) :: ([.fieldLink RX4 19 "TrickFinder$Tape" "place" "I", .fieldLink RX4 15 "TrickFinder$Tape" "length" "I", .fieldLink RX4 11 "TrickFinder$Tape" "bytes" "[I"] ++ wsX40)
def wsX4_next : List Cond := .code yX4_next cX4_next 1 (some .int) :: ([.fieldLink RX4 19 "TrickFinder$Tape" "place" "I", .fieldLink RX4 15 "TrickFinder$Tape" "length" "I", .methodLink RX4 44 yX4_here, .instanceMethod yX4_here, .selects RX4 yX4_here yX4_here, .initialized RX4, .code yX4_here cX4_here 1 (some .int), .fieldLink RX4 11 "TrickFinder$Tape" "bytes" "[I"] ++ wsX40)
def wsX4_failAt : List Cond := .code yX4_failAt cX4_failAt 2 (some .long) :: ([.fieldLink RX4 22 "TrickFinder$Tape" "error" "I"] ++ wsX40)
def wsX4_operationOf : List Cond := .code yX4_operationOf cX4_operationOf 4 (some .int) :: ([])
def wsX4_isDigit : List Cond := .code yX4_isDigit cX4_isDigit 1 (some .boolean) :: ([])
def wsX4_readNumber : List Cond := .code yX4_readNumber cX4_readNumber 3 (some .long) :: ([.fieldLink RX4 19 "TrickFinder$Tape" "place" "I", .methodLink RX4 44 yX4_here, .instanceMethod yX4_here, .selects RX4 yX4_here yX4_here, .initialized RX4, .code yX4_here cX4_here 1 (some .int), .fieldLink RX4 15 "TrickFinder$Tape" "length" "I", .fieldLink RX4 11 "TrickFinder$Tape" "bytes" "[I", .methodLink RX4 62 yX4_isDigit, .static yX4_isDigit, .code yX4_isDigit cX4_isDigit 1 (some .boolean), .methodLink RX4 73 yX0_constant, .static yX0_constant, .initialized RX0, .code yX0_constant cX0_constant 1 (some .long), .constantLong RX0 11 (1229782938247303441), .methodLink RX4 37 yX4_failAt, .instanceMethod yX4_failAt, .selects RX4 yX4_failAt yX4_failAt, .code yX4_failAt cX4_failAt 2 (some .long), .fieldLink RX4 22 "TrickFinder$Tape" "error" "I"] ++ wsX40)
def wsX4_readEnclosed_r1 : List Cond := [Cond.fieldLink RX4 19 "TrickFinder$Tape" "place" "I", Cond.methodLink RX4 25 yX4_readFormula, Cond.instanceMethod yX4_readFormula, Cond.selects RX4 yX4_readFormula yX4_readFormula, Cond.initialized RX4, Cond.methodLink RX4 29 yX4_hasError, Cond.instanceMethod yX4_hasError, Cond.selects RX4 yX4_hasError yX4_hasError, Cond.code yX4_hasError cX4_hasError 1 (some .boolean), Cond.fieldLink RX4 22 "TrickFinder$Tape" "error" "I", Cond.methodLink RX4 33 yX4_next, Cond.instanceMethod yX4_next, Cond.selects RX4 yX4_next yX4_next, Cond.code yX4_next cX4_next 1 (some .int), Cond.fieldLink RX4 15 "TrickFinder$Tape" "length" "I", Cond.methodLink RX4 44 yX4_here, Cond.instanceMethod yX4_here, Cond.selects RX4 yX4_here yX4_here, Cond.code yX4_here cX4_here 1 (some .int), Cond.fieldLink RX4 11 "TrickFinder$Tape" "bytes" "[I", Cond.methodLink RX4 37 yX4_failAt, Cond.instanceMethod yX4_failAt, Cond.selects RX4 yX4_failAt yX4_failAt, Cond.code yX4_failAt cX4_failAt 2 (some .long)]
def wsX4_readEnclosed_r2 : List Cond := [Cond.code yX4_readFormula cX4_readFormula 7 (some .long), Cond.methodLink RX4 47 yX4_readPart, Cond.instanceMethod yX4_readPart, Cond.selects RX4 yX4_readPart yX4_readPart, Cond.methodLink RX4 50 yX4_operationOf, Cond.static yX4_operationOf, Cond.code yX4_operationOf cX4_operationOf 4 (some .int), Cond.methodLink RX4 54 yX0_made, Cond.static yX0_made, Cond.initialized RX0, Cond.code yX0_made cX0_made 5 (some .long), Cond.constantLong RX0 13 (-1), Cond.constantLong RX0 23 (8608480567731124087), Cond.methodLink RX0 15 yX0_difference, Cond.static yX0_difference, Cond.code yX0_difference cX0_difference 4 (some .long), Cond.constantLong RX0 31 (-8608480567731124088), Cond.methodLink RX0 19 yX0_twice, Cond.static yX0_twice, Cond.code yX0_twice cX0_twice 2 (some .long), Cond.methodLink RX0 25 yX0_sum, Cond.static yX0_sum, Cond.code yX0_sum cX0_sum 4 (some .long), Cond.methodLink RX0 28 yX0_product]
def wsX4_readEnclosed_r3 : List Cond := [Cond.static yX0_product, Cond.code yX0_product cX0_product 11 (some .long), Cond.constantLong RX0 11 (1229782938247303441), Cond.constantLong RX0 33 (15), Cond.code yX4_readPart cX4_readPart 5 (some .long), Cond.constantLong RX4 60 (-81985529216486896), Cond.methodLink RX4 62 yX4_isDigit, Cond.static yX4_isDigit, Cond.code yX4_isDigit cX4_isDigit 1 (some .boolean), Cond.methodLink RX4 66 yX4_readNumber, Cond.instanceMethod yX4_readNumber, Cond.selects RX4 yX4_readNumber yX4_readNumber, Cond.code yX4_readNumber cX4_readNumber 3 (some .long), Cond.methodLink RX4 73 yX0_constant, Cond.static yX0_constant, Cond.code yX0_constant cX0_constant 1 (some .long), Cond.methodLink RX4 70 yX4_readEnclosed, Cond.instanceMethod yX4_readEnclosed, Cond.selects RX4 yX4_readEnclosed yX4_readEnclosed]
def wsX4_readEnclosed : List Cond := .code yX4_readEnclosed cX4_readEnclosed 4 (some .long) :: ((wsX4_readEnclosed_r1 ++ (wsX4_readEnclosed_r2 ++ wsX4_readEnclosed_r3)) ++ wsX40)
def wsX4_readFormula_r1 : List Cond := [Cond.fieldLink RX4 19 "TrickFinder$Tape" "place" "I", Cond.methodLink RX4 47 yX4_readPart, Cond.instanceMethod yX4_readPart, Cond.selects RX4 yX4_readPart yX4_readPart, Cond.initialized RX4, Cond.methodLink RX4 29 yX4_hasError, Cond.instanceMethod yX4_hasError, Cond.selects RX4 yX4_hasError yX4_hasError, Cond.code yX4_hasError cX4_hasError 1 (some .boolean), Cond.fieldLink RX4 22 "TrickFinder$Tape" "error" "I", Cond.methodLink RX4 33 yX4_next, Cond.instanceMethod yX4_next, Cond.selects RX4 yX4_next yX4_next, Cond.code yX4_next cX4_next 1 (some .int), Cond.fieldLink RX4 15 "TrickFinder$Tape" "length" "I", Cond.methodLink RX4 44 yX4_here, Cond.instanceMethod yX4_here, Cond.selects RX4 yX4_here yX4_here, Cond.code yX4_here cX4_here 1 (some .int), Cond.fieldLink RX4 11 "TrickFinder$Tape" "bytes" "[I", Cond.methodLink RX4 50 yX4_operationOf, Cond.static yX4_operationOf, Cond.code yX4_operationOf cX4_operationOf 4 (some .int), Cond.methodLink RX4 54 yX0_made]
def wsX4_readFormula_r2 : List Cond := [Cond.static yX0_made, Cond.initialized RX0, Cond.code yX0_made cX0_made 5 (some .long), Cond.constantLong RX0 13 (-1), Cond.constantLong RX0 23 (8608480567731124087), Cond.methodLink RX0 15 yX0_difference, Cond.static yX0_difference, Cond.code yX0_difference cX0_difference 4 (some .long), Cond.constantLong RX0 31 (-8608480567731124088), Cond.methodLink RX0 19 yX0_twice, Cond.static yX0_twice, Cond.code yX0_twice cX0_twice 2 (some .long), Cond.methodLink RX0 25 yX0_sum, Cond.static yX0_sum, Cond.code yX0_sum cX0_sum 4 (some .long), Cond.methodLink RX0 28 yX0_product, Cond.static yX0_product, Cond.code yX0_product cX0_product 11 (some .long), Cond.constantLong RX0 11 (1229782938247303441), Cond.constantLong RX0 33 (15), Cond.code yX4_readEnclosed cX4_readEnclosed 4 (some .long), Cond.methodLink RX4 25 yX4_readFormula, Cond.instanceMethod yX4_readFormula, Cond.selects RX4 yX4_readFormula yX4_readFormula]
def wsX4_readFormula_r3 : List Cond := [Cond.methodLink RX4 37 yX4_failAt, Cond.instanceMethod yX4_failAt, Cond.selects RX4 yX4_failAt yX4_failAt, Cond.code yX4_failAt cX4_failAt 2 (some .long), Cond.code yX4_readPart cX4_readPart 5 (some .long), Cond.constantLong RX4 60 (-81985529216486896), Cond.methodLink RX4 62 yX4_isDigit, Cond.static yX4_isDigit, Cond.code yX4_isDigit cX4_isDigit 1 (some .boolean), Cond.methodLink RX4 66 yX4_readNumber, Cond.instanceMethod yX4_readNumber, Cond.selects RX4 yX4_readNumber yX4_readNumber, Cond.code yX4_readNumber cX4_readNumber 3 (some .long), Cond.methodLink RX4 73 yX0_constant, Cond.static yX0_constant, Cond.code yX0_constant cX0_constant 1 (some .long), Cond.methodLink RX4 70 yX4_readEnclosed, Cond.instanceMethod yX4_readEnclosed, Cond.selects RX4 yX4_readEnclosed yX4_readEnclosed]
def wsX4_readFormula : List Cond := .code yX4_readFormula cX4_readFormula 7 (some .long) :: ((wsX4_readFormula_r1 ++ (wsX4_readFormula_r2 ++ wsX4_readFormula_r3)) ++ wsX40)
def wsX4_readPart_r1 : List Cond := [Cond.fieldLink RX4 19 "TrickFinder$Tape" "place" "I", Cond.constantLong RX4 60 (-81985529216486896), Cond.methodLink RX4 33 yX4_next, Cond.instanceMethod yX4_next, Cond.selects RX4 yX4_next yX4_next, Cond.initialized RX4, Cond.code yX4_next cX4_next 1 (some .int), Cond.fieldLink RX4 15 "TrickFinder$Tape" "length" "I", Cond.methodLink RX4 44 yX4_here, Cond.instanceMethod yX4_here, Cond.selects RX4 yX4_here yX4_here, Cond.code yX4_here cX4_here 1 (some .int), Cond.fieldLink RX4 11 "TrickFinder$Tape" "bytes" "[I", Cond.methodLink RX4 62 yX4_isDigit, Cond.static yX4_isDigit, Cond.code yX4_isDigit cX4_isDigit 1 (some .boolean), Cond.methodLink RX4 66 yX4_readNumber, Cond.instanceMethod yX4_readNumber, Cond.selects RX4 yX4_readNumber yX4_readNumber, Cond.code yX4_readNumber cX4_readNumber 3 (some .long), Cond.methodLink RX4 73 yX0_constant, Cond.static yX0_constant, Cond.initialized RX0, Cond.code yX0_constant cX0_constant 1 (some .long)]
def wsX4_readPart_r2 : List Cond := [Cond.constantLong RX0 11 (1229782938247303441), Cond.methodLink RX4 37 yX4_failAt, Cond.instanceMethod yX4_failAt, Cond.selects RX4 yX4_failAt yX4_failAt, Cond.code yX4_failAt cX4_failAt 2 (some .long), Cond.fieldLink RX4 22 "TrickFinder$Tape" "error" "I", Cond.methodLink RX4 50 yX4_operationOf, Cond.static yX4_operationOf, Cond.code yX4_operationOf cX4_operationOf 4 (some .int), Cond.methodLink RX4 70 yX4_readEnclosed, Cond.instanceMethod yX4_readEnclosed, Cond.selects RX4 yX4_readEnclosed yX4_readEnclosed, Cond.methodLink RX4 47 yX4_readPart, Cond.instanceMethod yX4_readPart, Cond.selects RX4 yX4_readPart yX4_readPart, Cond.methodLink RX4 54 yX0_made, Cond.static yX0_made, Cond.code yX0_made cX0_made 5 (some .long), Cond.constantLong RX0 13 (-1), Cond.constantLong RX0 23 (8608480567731124087), Cond.methodLink RX0 15 yX0_difference, Cond.static yX0_difference, Cond.code yX0_difference cX0_difference 4 (some .long), Cond.constantLong RX0 31 (-8608480567731124088)]
def wsX4_readPart_r3 : List Cond := [Cond.methodLink RX0 19 yX0_twice, Cond.static yX0_twice, Cond.code yX0_twice cX0_twice 2 (some .long), Cond.methodLink RX0 25 yX0_sum, Cond.static yX0_sum, Cond.code yX0_sum cX0_sum 4 (some .long), Cond.methodLink RX0 28 yX0_product, Cond.static yX0_product, Cond.code yX0_product cX0_product 11 (some .long), Cond.constantLong RX0 33 (15), Cond.code yX4_readEnclosed cX4_readEnclosed 4 (some .long), Cond.methodLink RX4 25 yX4_readFormula, Cond.instanceMethod yX4_readFormula, Cond.selects RX4 yX4_readFormula yX4_readFormula, Cond.methodLink RX4 29 yX4_hasError, Cond.instanceMethod yX4_hasError, Cond.selects RX4 yX4_hasError yX4_hasError, Cond.code yX4_hasError cX4_hasError 1 (some .boolean), Cond.code yX4_readFormula cX4_readFormula 7 (some .long)]
def wsX4_readPart : List Cond := .code yX4_readPart cX4_readPart 5 (some .long) :: ((wsX4_readPart_r1 ++ (wsX4_readPart_r2 ++ wsX4_readPart_r3)) ++ wsX40)
def wsX4_takeFormula_r1 : List Cond := [Cond.fieldLink RX4 19 "TrickFinder$Tape" "place" "I", Cond.fieldLink RX4 22 "TrickFinder$Tape" "error" "I", Cond.fieldLink RX4 15 "TrickFinder$Tape" "length" "I", Cond.fieldLink RX4 40 "TrickFinder$Tape" "lastFormula" "J", Cond.methodLink RX4 25 yX4_readFormula, Cond.instanceMethod yX4_readFormula, Cond.selects RX4 yX4_readFormula yX4_readFormula, Cond.initialized RX4, Cond.code yX4_readFormula cX4_readFormula 7 (some .long), Cond.methodLink RX4 47 yX4_readPart, Cond.instanceMethod yX4_readPart, Cond.selects RX4 yX4_readPart yX4_readPart, Cond.methodLink RX4 29 yX4_hasError, Cond.instanceMethod yX4_hasError, Cond.selects RX4 yX4_hasError yX4_hasError, Cond.code yX4_hasError cX4_hasError 1 (some .boolean), Cond.methodLink RX4 33 yX4_next, Cond.instanceMethod yX4_next, Cond.selects RX4 yX4_next yX4_next, Cond.code yX4_next cX4_next 1 (some .int), Cond.methodLink RX4 44 yX4_here, Cond.instanceMethod yX4_here, Cond.selects RX4 yX4_here yX4_here, Cond.code yX4_here cX4_here 1 (some .int)]
def wsX4_takeFormula_r2 : List Cond := [Cond.fieldLink RX4 11 "TrickFinder$Tape" "bytes" "[I", Cond.methodLink RX4 50 yX4_operationOf, Cond.static yX4_operationOf, Cond.code yX4_operationOf cX4_operationOf 4 (some .int), Cond.methodLink RX4 54 yX0_made, Cond.static yX0_made, Cond.initialized RX0, Cond.code yX0_made cX0_made 5 (some .long), Cond.constantLong RX0 13 (-1), Cond.constantLong RX0 23 (8608480567731124087), Cond.methodLink RX0 15 yX0_difference, Cond.static yX0_difference, Cond.code yX0_difference cX0_difference 4 (some .long), Cond.constantLong RX0 31 (-8608480567731124088), Cond.methodLink RX0 19 yX0_twice, Cond.static yX0_twice, Cond.code yX0_twice cX0_twice 2 (some .long), Cond.methodLink RX0 25 yX0_sum, Cond.static yX0_sum, Cond.code yX0_sum cX0_sum 4 (some .long), Cond.methodLink RX0 28 yX0_product, Cond.static yX0_product, Cond.code yX0_product cX0_product 11 (some .long), Cond.constantLong RX0 11 (1229782938247303441)]
def wsX4_takeFormula_r3 : List Cond := [Cond.constantLong RX0 33 (15), Cond.code yX4_readEnclosed cX4_readEnclosed 4 (some .long), Cond.methodLink RX4 37 yX4_failAt, Cond.instanceMethod yX4_failAt, Cond.selects RX4 yX4_failAt yX4_failAt, Cond.code yX4_failAt cX4_failAt 2 (some .long), Cond.code yX4_readPart cX4_readPart 5 (some .long), Cond.constantLong RX4 60 (-81985529216486896), Cond.methodLink RX4 62 yX4_isDigit, Cond.static yX4_isDigit, Cond.code yX4_isDigit cX4_isDigit 1 (some .boolean), Cond.methodLink RX4 66 yX4_readNumber, Cond.instanceMethod yX4_readNumber, Cond.selects RX4 yX4_readNumber yX4_readNumber, Cond.code yX4_readNumber cX4_readNumber 3 (some .long), Cond.methodLink RX4 73 yX0_constant, Cond.static yX0_constant, Cond.code yX0_constant cX0_constant 1 (some .long), Cond.methodLink RX4 70 yX4_readEnclosed, Cond.instanceMethod yX4_readEnclosed, Cond.selects RX4 yX4_readEnclosed yX4_readEnclosed]
def wsX4_takeFormula : List Cond := .code yX4_takeFormula cX4_takeFormula 3 (some .int) :: ((wsX4_takeFormula_r1 ++ (wsX4_takeFormula_r2 ++ wsX4_takeFormula_r3)) ++ wsX40)
def wsX5_init_r1 : List Cond := [Cond.methodLink RX5 1 objectInit, Cond.instanceMethod objectInit, Cond.code objectInit ⟨#[0xb1]⟩ 1 none, Cond.classLink RX5 7 RX3, Cond.instantiable RX3 3, Cond.initialized RX3, Cond.fieldLink RX5 10 "TrickFinder" "settings" "LTrickFinder$Settings;", Cond.classLink RX5 16 RX2, Cond.instantiable RX2 8, Cond.initialized RX2, Cond.fieldLink RX5 19 "TrickFinder" "row" "LTrickFinder$Row;", Cond.classLink RX5 23 RX1, Cond.instantiable RX1 2, Cond.initialized RX1, Cond.fieldLink RX5 26 "TrickFinder" "paper" "LTrickFinder$Paper;", Cond.classLink RX5 30 RX4, Cond.instantiable RX4 5, Cond.initialized RX4, Cond.fieldLink RX5 33 "TrickFinder" "tape" "LTrickFinder$Tape;", Cond.methodLink RX5 9 yX3_init, Cond.instanceMethod yX3_init, Cond.code yX3_init cX3_init 2 none, Cond.methodLink RX3 3 objectInit, Cond.arrayClass .int]
def wsX5_init_r2 : List Cond := [Cond.fieldLink RX3 9 "TrickFinder$Settings" "prices" "[I", Cond.arrayClass .boolean, Cond.fieldLink RX3 15 "TrickFinder$Settings" "isAllowed" "[Z", Cond.fieldLink RX3 19 "TrickFinder$Settings" "isConstantAllowed" "[Z", Cond.methodLink RX3 22 yJ7_fill_53178, Cond.static yJ7_fill_53178, Cond.initialized RJ7, Cond.code yJ7_fill_53178 cJ7_fill_53178 4 none, Cond.methodLink RX5 18 yX2_init, Cond.instanceMethod yX2_init, Cond.code yX2_init cX2_init 1 none, Cond.methodLink RX2 3 objectInit, Cond.arrayClass .long, Cond.fieldLink RX2 11 "TrickFinder$Row" "functions" "[J", Cond.fieldLink RX2 15 "TrickFinder$Row" "operations" "[I", Cond.fieldLink RX2 19 "TrickFinder$Row" "firsts" "[I", Cond.fieldLink RX2 22 "TrickFinder$Row" "seconds" "[I", Cond.fieldLink RX2 25 "TrickFinder$Row" "starts" "[I", Cond.fieldLink RX2 28 "TrickFinder$Row" "slots" "[I", Cond.fieldLink RX2 31 "TrickFinder$Row" "partsFound" "[I", Cond.methodLink RX2 34 yJ7_fill_53178, Cond.instanceMethod yX1_init, Cond.code yX1_init cX1_init 1 none, Cond.methodLink RX1 3 objectInit]
def wsX5_init_r3 : List Cond := [Cond.fieldLink RX1 11 "TrickFinder$Paper" "bytes" "[I", Cond.instanceMethod yX4_init, Cond.code yX4_init cX4_init 1 none, Cond.methodLink RX4 3 objectInit, Cond.fieldLink RX4 11 "TrickFinder$Tape" "bytes" "[I"]
def wsX5_init : List Cond := .code yX5_init cX5_init 1 none :: ((wsX5_init_r1 ++ (wsX5_init_r2 ++ wsX5_init_r3)) ++ wsX30 ++ wsX50 ++ wsX20 ++ wsX10 ++ wsX40)
def wsX5_countOn : List Cond := .code yX5_countOn cX5_countOn 6 (some .int) :: ([])
def wsX5_allow : List Cond := .code yX5_allow cX5_allow 3 (some .int) :: ([.classLink RX5 41 "java/lang/IndexOutOfBoundsException", .initialized "java/lang/IndexOutOfBoundsException", .fieldLink RX5 10 "TrickFinder" "settings" "LTrickFinder$Settings;", .fieldLink RX5 48 "TrickFinder$Settings" "isAllowed" "[Z", .methodLink RX5 37 yX5_isOperation, .static yX5_isOperation, .initialized RX5, .code yX5_isOperation cX5_isOperation 1 (some .boolean), .methodLink RX5 52 yX5_countOn, .static yX5_countOn, .code yX5_countOn cX5_countOn 6 (some .int)] ++ wsX50 ++ wsX30 ++ (vx_atS RX5 45 "java/lang/IndexOutOfBoundsException" ["java/lang/RuntimeException", "java/lang/Exception"]).filter goodWord)
def wsX5_setPrice : List Cond := .code yX5_setPrice cX5_setPrice 5 (some .int) :: ([.classLink RX5 41 "java/lang/IndexOutOfBoundsException", .initialized "java/lang/IndexOutOfBoundsException", .classLink RX5 56 "java/lang/IllegalArgumentException", .initialized "java/lang/IllegalArgumentException", .fieldLink RX5 10 "TrickFinder" "settings" "LTrickFinder$Settings;", .fieldLink RX5 61 "TrickFinder$Settings" "prices" "[I", .methodLink RX5 37 yX5_isOperation, .static yX5_isOperation, .initialized RX5, .code yX5_isOperation cX5_isOperation 1 (some .boolean)] ++ wsX50 ++ wsX30 ++ (vx_atS RX5 45 "java/lang/IndexOutOfBoundsException" ["java/lang/RuntimeException", "java/lang/Exception"]).filter goodWord ++ (vx_atS RX5 60 "java/lang/IllegalArgumentException" ["java/lang/RuntimeException", "java/lang/Exception"]).filter goodWord)
def wsX5_isInput : List Cond := .code yX5_isInput cX5_isInput 1 (some .boolean) :: ([])
def wsX5_setConstant : List Cond := .code yX5_setConstant cX5_setConstant 3 (some .int) :: ([.classLink RX5 56 "java/lang/IllegalArgumentException", .initialized "java/lang/IllegalArgumentException", .fieldLink RX5 10 "TrickFinder" "settings" "LTrickFinder$Settings;", .fieldLink RX5 70 "TrickFinder$Settings" "isConstantAllowed" "[Z", .methodLink RX5 65 yX5_isInput, .static yX5_isInput, .initialized RX5, .code yX5_isInput cX5_isInput 1 (some .boolean), .methodLink RX5 52 yX5_countOn, .static yX5_countOn, .code yX5_countOn cX5_countOn 6 (some .int)] ++ wsX50 ++ wsX30 ++ (vx_atS RX5 60 "java/lang/IllegalArgumentException" ["java/lang/RuntimeException", "java/lang/Exception"]).filter goodWord)
def wsX5_value : List Cond := .code yX5_value cX5_value 4 (some .int) :: ([.classLink RX5 56 "java/lang/IllegalArgumentException", .initialized "java/lang/IllegalArgumentException", .methodLink RX5 65 yX5_isInput, .static yX5_isInput, .initialized RX5, .code yX5_isInput cX5_isInput 1 (some .boolean), .methodLink RX5 75 yX0_valueAt, .static yX0_valueAt, .initialized RX0, .code yX0_valueAt cX0_valueAt 3 (some .int)] ++ (vx_atS RX5 60 "java/lang/IllegalArgumentException" ["java/lang/RuntimeException", "java/lang/Exception"]).filter goodWord)
def wsX5_apply_r1 : List Cond := [Cond.classLink RX5 41 "java/lang/IndexOutOfBoundsException", Cond.initialized "java/lang/IndexOutOfBoundsException", Cond.methodLink RX5 37 yX5_isOperation, Cond.static yX5_isOperation, Cond.initialized RX5, Cond.code yX5_isOperation cX5_isOperation 1 (some .boolean), Cond.methodLink RX5 81 yX0_made, Cond.static yX0_made, Cond.initialized RX0, Cond.code yX0_made cX0_made 5 (some .long), Cond.constantLong RX0 13 (-1), Cond.constantLong RX0 23 (8608480567731124087), Cond.methodLink RX0 15 yX0_difference, Cond.static yX0_difference, Cond.code yX0_difference cX0_difference 4 (some .long), Cond.constantLong RX0 31 (-8608480567731124088), Cond.methodLink RX0 19 yX0_twice, Cond.static yX0_twice, Cond.code yX0_twice cX0_twice 2 (some .long), Cond.methodLink RX0 25 yX0_sum, Cond.static yX0_sum, Cond.code yX0_sum cX0_sum 4 (some .long), Cond.methodLink RX0 28 yX0_product, Cond.static yX0_product]
def wsX5_apply_r2 : List Cond := [Cond.code yX0_product cX0_product 11 (some .long), Cond.constantLong RX0 11 (1229782938247303441), Cond.constantLong RX0 33 (15)]
def wsX5_apply : List Cond := .code yX5_apply cX5_apply 6 (some .long) :: ((wsX5_apply_r1 ++ wsX5_apply_r2) ++ (vx_atS RX5 45 "java/lang/IndexOutOfBoundsException" ["java/lang/RuntimeException", "java/lang/Exception"]).filter goodWord)
def wsX5_compose : List Cond := .code yX5_compose cX5_compose 5 (some .long) :: ([.methodLink RX5 85 yX0_after, .static yX0_after, .initialized RX0, .code yX0_after cX0_after 7 (some .long), .methodLink RX0 35 yX0_valueAt, .static yX0_valueAt, .code yX0_valueAt cX0_valueAt 3 (some .int)])
def wsX5_inverse : List Cond := .code yX5_inverse cX5_inverse 3 (some .long) :: ([.classLink RX5 93 "java/lang/IllegalStateException", .initialized "java/lang/IllegalStateException", .methodLink RX5 89 yX0_countValues, .static yX0_countValues, .initialized RX0, .code yX0_countValues cX0_countValues 2 (some .int), .constant RX0 45 (65535), .methodLink RX0 46 yX0_image, .static yX0_image, .code yX0_image cX0_image 5 (some .int), .methodLink RX0 35 yX0_valueAt, .static yX0_valueAt, .code yX0_valueAt cX0_valueAt 3 (some .int), .methodLink RX0 49 yJ6_bitCount_0f7a4, .static yJ6_bitCount_0f7a4, .initialized RJ6, .code yJ6_bitCount_0f7a4 cJ6_bitCount_0f7a4 1 (some .int), .constant RJ6 265 (1431655765), .constant RJ6 266 (858993459), .constant RJ6 267 (252645135), .methodLink RX5 98 yX0_inverseOf, .static yX0_inverseOf, .code yX0_inverseOf cX0_inverseOf 5 (some .long)] ++ (vx_atS RX5 97 "java/lang/IllegalStateException" ["java/lang/RuntimeException", "java/lang/Exception"]).filter goodWord)
def wsX5_measure_r1 : List Cond := [Cond.classLink RX5 41 "java/lang/IndexOutOfBoundsException", Cond.initialized "java/lang/IndexOutOfBoundsException", Cond.constantLong RX5 102 (-81985529216486896), Cond.methodLink RX5 104 yX0_countDifferences, Cond.static yX0_countDifferences, Cond.initialized RX0, Cond.code yX0_countDifferences cX0_countDifferences 6 (some .int), Cond.constantLong RX0 11 (1229782938247303441), Cond.methodLink RX0 39 yJ13_bitCount_95d88, Cond.static yJ13_bitCount_95d88, Cond.initialized RJ13, Cond.code yJ13_bitCount_95d88 cJ13_bitCount_95d88 2 (some .int), Cond.constantLong RJ13 314 (6148914691236517205), Cond.constantLong RJ13 316 (3689348814741910323), Cond.constantLong RJ13 318 (1085102592571150095), Cond.methodLink RX5 89 yX0_countValues, Cond.static yX0_countValues, Cond.code yX0_countValues cX0_countValues 2 (some .int), Cond.constant RX0 45 (65535), Cond.methodLink RX0 46 yX0_image, Cond.static yX0_image, Cond.code yX0_image cX0_image 5 (some .int), Cond.methodLink RX0 35 yX0_valueAt, Cond.static yX0_valueAt]
def wsX5_measure_r2 : List Cond := [Cond.code yX0_valueAt cX0_valueAt 3 (some .int), Cond.methodLink RX0 49 yJ6_bitCount_0f7a4, Cond.static yJ6_bitCount_0f7a4, Cond.initialized RJ6, Cond.code yJ6_bitCount_0f7a4 cJ6_bitCount_0f7a4 1 (some .int), Cond.constant RJ6 265 (1431655765), Cond.constant RJ6 266 (858993459), Cond.constant RJ6 267 (252645135), Cond.methodLink RX5 108 yJ13_bitCount_95d88, Cond.methodLink RX5 113 yX0_returningInputs, Cond.static yX0_returningInputs, Cond.code yX0_returningInputs cX0_returningInputs 4 (some .int), Cond.methodLink RX5 116 yJ6_bitCount_0f7a4, Cond.methodLink RX5 121 yX0_stepsToReturning, Cond.static yX0_stepsToReturning, Cond.code yX0_stepsToReturning cX0_stepsToReturning 5 (some .int), Cond.methodLink RX0 54 yX0_returningInputs]
def wsX5_measure : List Cond := .code yX5_measure cX5_measure 4 (some .int) :: ((wsX5_measure_r1 ++ wsX5_measure_r2) ++ (vx_atS RX5 45 "java/lang/IndexOutOfBoundsException" ["java/lang/RuntimeException", "java/lang/Exception"]).filter goodWord)
def wsX5_is : List Cond := .code yX5_is cX5_is 4 (some .boolean) :: ([.classLink RX5 41 "java/lang/IndexOutOfBoundsException", .initialized "java/lang/IndexOutOfBoundsException", .methodLink RX5 126 yX0_isLinear, .static yX0_isLinear, .initialized RX0, .code yX0_isLinear cX0_isLinear 4 (some .boolean), .methodLink RX0 35 yX0_valueAt, .static yX0_valueAt, .code yX0_valueAt cX0_valueAt 3 (some .int), .methodLink RX5 130 yX0_isRising, .static yX0_isRising, .code yX0_isRising cX0_isRising 3 (some .boolean), .methodLink RX5 85 yX0_after, .static yX0_after, .code yX0_after cX0_after 7 (some .long), .methodLink RX5 133 yX0_isOfLowerBits, .static yX0_isOfLowerBits, .code yX0_isOfLowerBits cX0_isOfLowerBits 6 (some .boolean)] ++ (vx_atS RX5 45 "java/lang/IndexOutOfBoundsException" ["java/lang/RuntimeException", "java/lang/Exception"]).filter goodWord)
def wsX5_isCost : List Cond := .code yX5_isCost cX5_isCost 1 (some .boolean) :: ([])
def wsX5_search_r1 : List Cond := [Cond.classLink RX5 56 "java/lang/IllegalArgumentException", Cond.initialized "java/lang/IllegalArgumentException", Cond.fieldLink RX5 19 "TrickFinder" "row" "LTrickFinder$Row;", Cond.fieldLink RX5 10 "TrickFinder" "settings" "LTrickFinder$Settings;", Cond.fieldLink RX5 147 "TrickFinder$Row" "count" "I", Cond.methodLink RX5 138 yX5_isCost, Cond.static yX5_isCost, Cond.initialized RX5, Cond.code yX5_isCost cX5_isCost 1 (some .boolean), Cond.methodLink RX5 143 yX2_make, Cond.instanceMethod yX2_make, Cond.selects RX2 yX2_make yX2_make, Cond.initialized RX2, Cond.code yX2_make cX2_make 4 none, Cond.fieldLink RX2 40 "TrickFinder$Row" "count" "I", Cond.fieldLink RX2 28 "TrickFinder$Row" "slots" "[I", Cond.fieldLink RX2 25 "TrickFinder$Row" "starts" "[I", Cond.methodLink RX2 34 yJ7_fill_53178, Cond.static yJ7_fill_53178, Cond.initialized RJ7, Cond.code yJ7_fill_53178 cJ7_fill_53178 4 none, Cond.methodLink RX2 44 yX2_makeCost, Cond.instanceMethod yX2_makeCost, Cond.selects RX2 yX2_makeCost yX2_makeCost]
def wsX5_search_r2 : List Cond := [Cond.code yX2_makeCost cX2_makeCost 5 none, Cond.constantLong RX2 48 (-81985529216486896), Cond.fieldLink RX2 64 "TrickFinder$Settings" "prices" "[I", Cond.fieldLink RX2 67 "TrickFinder$Settings" "isAllowed" "[Z", Cond.methodLink RX2 50 yX2_add, Cond.instanceMethod yX2_add, Cond.selects RX2 yX2_add yX2_add, Cond.code yX2_add cX2_add 7 none, Cond.fieldLink RX2 11 "TrickFinder$Row" "functions" "[J", Cond.fieldLink RX2 15 "TrickFinder$Row" "operations" "[I", Cond.fieldLink RX2 19 "TrickFinder$Row" "firsts" "[I", Cond.fieldLink RX2 22 "TrickFinder$Row" "seconds" "[I", Cond.methodLink RX2 99 yX2_slotOf, Cond.instanceMethod yX2_slotOf, Cond.selects RX2 yX2_slotOf yX2_slotOf, Cond.code yX2_slotOf cX2_slotOf 6 (some .int), Cond.constantLong RX2 103 (-7046029254386353131), Cond.methodLink RX2 91 yX2_isFull, Cond.instanceMethod yX2_isFull, Cond.selects RX2 yX2_isFull yX2_isFull, Cond.code yX2_isFull cX2_isFull 1 (some .boolean), Cond.methodLink RX2 54 yX3_priceOfConstants, Cond.instanceMethod yX3_priceOfConstants, Cond.selects RX3 yX3_priceOfConstants yX3_priceOfConstants]
def wsX5_search_r3 : List Cond := [Cond.initialized RX3, Cond.code yX3_priceOfConstants cX3_priceOfConstants 1 (some .int), Cond.fieldLink RX3 9 "TrickFinder$Settings" "prices" "[I", Cond.methodLink RX2 60 yX2_addConstants, Cond.instanceMethod yX2_addConstants, Cond.selects RX2 yX2_addConstants yX2_addConstants, Cond.code yX2_addConstants cX2_addConstants 3 none, Cond.fieldLink RX2 82 "TrickFinder$Settings" "isConstantAllowed" "[Z", Cond.methodLink RX2 85 yX0_constant, Cond.static yX0_constant, Cond.initialized RX0, Cond.code yX0_constant cX0_constant 1 (some .long), Cond.constantLong RX0 11 (1229782938247303441), Cond.static yX5_hasTwoArguments, Cond.code yX5_hasTwoArguments cX5_hasTwoArguments 1 (some .boolean), Cond.methodLink RX2 75 yX2_addOfTwo, Cond.instanceMethod yX2_addOfTwo, Cond.selects RX2 yX2_addOfTwo yX2_addOfTwo, Cond.code yX2_addOfTwo cX2_addOfTwo 7 none, Cond.methodLink RX2 95 yX0_made, Cond.static yX0_made, Cond.code yX0_made cX0_made 5 (some .long), Cond.constantLong RX0 13 (-1), Cond.constantLong RX0 23 (8608480567731124087)]
def wsX5_search_r4 : List Cond := [Cond.methodLink RX0 15 yX0_difference, Cond.static yX0_difference, Cond.code yX0_difference cX0_difference 4 (some .long), Cond.constantLong RX0 31 (-8608480567731124088), Cond.methodLink RX0 19 yX0_twice, Cond.static yX0_twice, Cond.code yX0_twice cX0_twice 2 (some .long), Cond.methodLink RX0 25 yX0_sum, Cond.static yX0_sum, Cond.code yX0_sum cX0_sum 4 (some .long), Cond.methodLink RX0 28 yX0_product, Cond.static yX0_product, Cond.code yX0_product cX0_product 11 (some .long), Cond.constantLong RX0 33 (15), Cond.methodLink RX2 79 yX2_addOfOne, Cond.instanceMethod yX2_addOfOne, Cond.selects RX2 yX2_addOfOne yX2_addOfOne, Cond.code yX2_addOfOne cX2_addOfOne 5 none]
def wsX5_search : List Cond := .code yX5_search cX5_search 2 (some .int) :: ((wsX5_search_r1 ++ (wsX5_search_r2 ++ (wsX5_search_r3 ++ wsX5_search_r4))) ++ wsX50 ++ wsX20 ++ wsX30 ++ (vx_atS RX5 60 "java/lang/IllegalArgumentException" ["java/lang/RuntimeException", "java/lang/Exception"]).filter goodWord)
def wsX5_entries : List Cond := .code yX5_entries cX5_entries 1 (some .int) :: ([.fieldLink RX5 19 "TrickFinder" "row" "LTrickFinder$Row;", .fieldLink RX5 147 "TrickFinder$Row" "count" "I"] ++ wsX50 ++ wsX20)
def wsX5_ofCost : List Cond := .code yX5_ofCost cX5_ofCost 2 (some .int) :: ([.classLink RX5 56 "java/lang/IllegalArgumentException", .initialized "java/lang/IllegalArgumentException", .fieldLink RX5 19 "TrickFinder" "row" "LTrickFinder$Row;", .methodLink RX5 138 yX5_isCost, .static yX5_isCost, .initialized RX5, .code yX5_isCost cX5_isCost 1 (some .boolean), .methodLink RX5 153 yX2_countOfCost, .instanceMethod yX2_countOfCost, .selects RX2 yX2_countOfCost yX2_countOfCost, .initialized RX2, .code yX2_countOfCost cX2_countOfCost 2 (some .int), .fieldLink RX2 25 "TrickFinder$Row" "starts" "[I"] ++ wsX50 ++ wsX20 ++ (vx_atS RX5 60 "java/lang/IllegalArgumentException" ["java/lang/RuntimeException", "java/lang/Exception"]).filter goodWord)
def wsX5_function : List Cond := .code yX5_function cX5_function 2 (some .long) :: ([.classLink RX5 41 "java/lang/IndexOutOfBoundsException", .initialized "java/lang/IndexOutOfBoundsException", .fieldLink RX5 19 "TrickFinder" "row" "LTrickFinder$Row;", .fieldLink RX5 161 "TrickFinder$Row" "functions" "[J", .methodLink RX5 156 yX2_has, .instanceMethod yX2_has, .selects RX2 yX2_has yX2_has, .initialized RX2, .code yX2_has cX2_has 2 (some .boolean), .fieldLink RX2 40 "TrickFinder$Row" "count" "I"] ++ wsX50 ++ wsX20 ++ (vx_atS RX5 45 "java/lang/IndexOutOfBoundsException" ["java/lang/RuntimeException", "java/lang/Exception"]).filter goodWord)
def wsX5_entry : List Cond := .code yX5_entry cX5_entry 3 (some .int) :: ([.classLink RX5 41 "java/lang/IndexOutOfBoundsException", .initialized "java/lang/IndexOutOfBoundsException", .fieldLink RX5 19 "TrickFinder" "row" "LTrickFinder$Row;", .fieldLink RX5 168 "TrickFinder$Row" "operations" "[I", .fieldLink RX5 171 "TrickFinder$Row" "firsts" "[I", .fieldLink RX5 174 "TrickFinder$Row" "seconds" "[I", .methodLink RX5 156 yX2_has, .instanceMethod yX2_has, .selects RX2 yX2_has yX2_has, .initialized RX2, .code yX2_has cX2_has 2 (some .boolean), .fieldLink RX2 40 "TrickFinder$Row" "count" "I", .methodLink RX5 165 yX2_costOf, .instanceMethod yX2_costOf, .selects RX2 yX2_costOf yX2_costOf, .code yX2_costOf cX2_costOf 3 (some .int), .fieldLink RX2 25 "TrickFinder$Row" "starts" "[I"] ++ wsX50 ++ wsX20 ++ (vx_atS RX5 45 "java/lang/IndexOutOfBoundsException" ["java/lang/RuntimeException", "java/lang/Exception"]).filter goodWord)
def wsX5_find : List Cond := .code yX5_find cX5_find 3 (some .int) :: ([.fieldLink RX5 19 "TrickFinder" "row" "LTrickFinder$Row;", .methodLink RX5 179 yX2_entryWith, .instanceMethod yX2_entryWith, .selects RX2 yX2_entryWith yX2_entryWith, .initialized RX2, .code yX2_entryWith cX2_entryWith 4 (some .int), .fieldLink RX2 28 "TrickFinder$Row" "slots" "[I", .methodLink RX2 99 yX2_slotOf, .instanceMethod yX2_slotOf, .selects RX2 yX2_slotOf yX2_slotOf, .code yX2_slotOf cX2_slotOf 6 (some .int), .constantLong RX2 103 (-7046029254386353131), .fieldLink RX2 40 "TrickFinder$Row" "count" "I", .fieldLink RX2 11 "TrickFinder$Row" "functions" "[J"] ++ wsX50 ++ wsX20)
def wsX5_fit : List Cond := .code yX5_fit cX5_fit 4 (some .int) :: ([.classLink RX5 56 "java/lang/IllegalArgumentException", .initialized "java/lang/IllegalArgumentException", .constant RX5 182 (65535), .fieldLink RX5 19 "TrickFinder" "row" "LTrickFinder$Row;", .methodLink RX5 185 yX0_maskOf, .static yX0_maskOf, .initialized RX0, .code yX0_maskOf cX0_maskOf 4 (some .long), .constantLong RX0 33 (15), .methodLink RX5 189 yX2_firstAlike, .instanceMethod yX2_firstAlike, .selects RX2 yX2_firstAlike yX2_firstAlike, .initialized RX2, .code yX2_firstAlike cX2_firstAlike 6 (some .int), .fieldLink RX2 40 "TrickFinder$Row" "count" "I", .fieldLink RX2 11 "TrickFinder$Row" "functions" "[J"] ++ wsX50 ++ wsX20 ++ (vx_atS RX5 60 "java/lang/IllegalArgumentException" ["java/lang/RuntimeException", "java/lang/Exception"]).filter goodWord)
def wsX5_near : List Cond := .code yX5_near cX5_near 3 (some .int) :: ([.fieldLink RX5 19 "TrickFinder" "row" "LTrickFinder$Row;", .methodLink RX5 192 yX2_firstNearest, .instanceMethod yX2_firstNearest, .selects RX2 yX2_firstNearest yX2_firstNearest, .initialized RX2, .code yX2_firstNearest cX2_firstNearest 7 (some .int), .fieldLink RX2 40 "TrickFinder$Row" "count" "I", .fieldLink RX2 11 "TrickFinder$Row" "functions" "[J", .methodLink RX2 105 yX0_countDifferences, .static yX0_countDifferences, .initialized RX0, .code yX0_countDifferences cX0_countDifferences 6 (some .int), .constantLong RX0 11 (1229782938247303441), .methodLink RX0 39 yJ13_bitCount_95d88, .static yJ13_bitCount_95d88, .initialized RJ13, .code yJ13_bitCount_95d88 cJ13_bitCount_95d88 2 (some .int), .constantLong RJ13 314 (6148914691236517205), .constantLong RJ13 316 (3689348814741910323), .constantLong RJ13 318 (1085102592571150095)] ++ wsX50 ++ wsX20)
def wsX5_parts : List Cond := .code yX5_parts cX5_parts 2 (some .int) :: ([.classLink RX5 41 "java/lang/IndexOutOfBoundsException", .initialized "java/lang/IndexOutOfBoundsException", .fieldLink RX5 19 "TrickFinder" "row" "LTrickFinder$Row;", .methodLink RX5 156 yX2_has, .instanceMethod yX2_has, .selects RX2 yX2_has yX2_has, .initialized RX2, .code yX2_has cX2_has 2 (some .boolean), .fieldLink RX2 40 "TrickFinder$Row" "count" "I", .methodLink RX5 195 yX2_countParts, .instanceMethod yX2_countParts, .selects RX2 yX2_countParts yX2_countParts, .code yX2_countParts cX2_countParts 5 (some .int), .fieldLink RX2 31 "TrickFinder$Row" "partsFound" "[I", .fieldLink RX2 15 "TrickFinder$Row" "operations" "[I", .fieldLink RX2 19 "TrickFinder$Row" "firsts" "[I", .fieldLink RX2 22 "TrickFinder$Row" "seconds" "[I", .methodLink RX2 113 yX2_withPart, .instanceMethod yX2_withPart, .selects RX2 yX2_withPart yX2_withPart, .code yX2_withPart cX2_withPart 4 (some .int), .methodLink RX2 117 yX2_has] ++ wsX50 ++ wsX20 ++ (vx_atS RX5 45 "java/lang/IndexOutOfBoundsException" ["java/lang/RuntimeException", "java/lang/Exception"]).filter goodWord)
def wsX5_meanCost : List Cond := .code yX5_meanCost cX5_meanCost 1 (some .double) :: ([.fieldLink RX5 19 "TrickFinder" "row" "LTrickFinder$Row;", .fieldLink RX5 147 "TrickFinder$Row" "count" "I", .methodLink RX5 198 yX2_sumOfCosts, .instanceMethod yX2_sumOfCosts, .selects RX2 yX2_sumOfCosts yX2_sumOfCosts, .initialized RX2, .code yX2_sumOfCosts cX2_sumOfCosts 3 (some .int), .methodLink RX2 109 yX2_countOfCost, .instanceMethod yX2_countOfCost, .selects RX2 yX2_countOfCost yX2_countOfCost, .code yX2_countOfCost cX2_countOfCost 2 (some .int), .fieldLink RX2 25 "TrickFinder$Row" "starts" "[I"] ++ wsX50 ++ wsX20)
def wsX5_write_r1 : List Cond := [Cond.classLink RX5 41 "java/lang/IndexOutOfBoundsException", Cond.initialized "java/lang/IndexOutOfBoundsException", Cond.fieldLink RX5 19 "TrickFinder" "row" "LTrickFinder$Row;", Cond.fieldLink RX5 26 "TrickFinder" "paper" "LTrickFinder$Paper;", Cond.fieldLink RX5 202 "TrickFinder$Paper" "length" "I", Cond.methodLink RX5 156 yX2_has, Cond.instanceMethod yX2_has, Cond.selects RX2 yX2_has yX2_has, Cond.initialized RX2, Cond.code yX2_has cX2_has 2 (some .boolean), Cond.fieldLink RX2 40 "TrickFinder$Row" "count" "I", Cond.instanceMethod yX1_putEntry, Cond.initialized RX1, Cond.selects RX1 yX1_putEntry yX1_putEntry, Cond.code yX1_putEntry cX1_putEntry 5 none, Cond.fieldLink RX1 25 "TrickFinder$Row" "operations" "[I", Cond.fieldLink RX1 32 "TrickFinder$Row" "firsts" "[I", Cond.fieldLink RX1 49 "TrickFinder$Row" "seconds" "[I", Cond.methodLink RX1 19 yX2_has, Cond.methodLink RX1 28 yX1_put, Cond.instanceMethod yX1_put, Cond.selects RX1 yX1_put yX1_put, Cond.code yX1_put cX1_put 2 none, Cond.fieldLink RX1 15 "TrickFinder$Paper" "length" "I"]
def wsX5_write_r2 : List Cond := [Cond.fieldLink RX1 11 "TrickFinder$Paper" "bytes" "[I", Cond.methodLink RX1 35 yX1_putNumber, Cond.instanceMethod yX1_putNumber, Cond.selects RX1 yX1_putNumber yX1_putNumber, Cond.code yX1_putNumber cX1_putNumber 2 none, Cond.static yX5_hasTwoArguments, Cond.initialized RX5, Cond.code yX5_hasTwoArguments cX5_hasTwoArguments 1 (some .boolean), Cond.methodLink RX1 41 yX1_putArgument, Cond.instanceMethod yX1_putArgument, Cond.selects RX1 yX1_putArgument yX1_putArgument, Cond.static yX5_isOperation, Cond.code yX5_isOperation cX5_isOperation 1 (some .boolean), Cond.code yX1_putArgument cX1_putArgument 5 none, Cond.methodLink RX1 55 yX1_putEntry]
def wsX5_write : List Cond := .code yX5_write cX5_write 2 (some .int) :: ((wsX5_write_r1 ++ wsX5_write_r2) ++ wsX50 ++ wsX10 ++ wsX20 ++ (vx_atS RX5 45 "java/lang/IndexOutOfBoundsException" ["java/lang/RuntimeException", "java/lang/Exception"]).filter goodWord)
def wsX5_byteAt : List Cond := .code yX5_byteAt cX5_byteAt 2 (some .int) :: ([.classLink RX5 41 "java/lang/IndexOutOfBoundsException", .initialized "java/lang/IndexOutOfBoundsException", .fieldLink RX5 26 "TrickFinder" "paper" "LTrickFinder$Paper;", .fieldLink RX5 202 "TrickFinder$Paper" "length" "I", .fieldLink RX5 211 "TrickFinder$Paper" "bytes" "[I"] ++ wsX50 ++ wsX10 ++ (vx_atS RX5 45 "java/lang/IndexOutOfBoundsException" ["java/lang/RuntimeException", "java/lang/Exception"]).filter goodWord)
def wsX5_feed : List Cond := .code yX5_feed cX5_feed 6 (some .int) :: ([.classLink RX5 93 "java/lang/IllegalStateException", .initialized "java/lang/IllegalStateException", .fieldLink RX5 33 "TrickFinder" "tape" "LTrickFinder$Tape;", .fieldLink RX5 214 "TrickFinder$Tape" "length" "I", .methodLink RX5 217 yX4_append, .instanceMethod yX4_append, .selects RX4 yX4_append yX4_append, .initialized RX4, .code yX4_append cX4_append 3 none, .fieldLink RX4 15 "TrickFinder$Tape" "length" "I", .fieldLink RX4 11 "TrickFinder$Tape" "bytes" "[I"] ++ wsX50 ++ wsX40 ++ (vx_atS RX5 97 "java/lang/IllegalStateException" ["java/lang/RuntimeException", "java/lang/Exception"]).filter goodWord)
def wsX5_trim : List Cond := .code yX5_trim cX5_trim 2 (some .int) :: ([.classLink RX5 56 "java/lang/IllegalArgumentException", .initialized "java/lang/IllegalArgumentException", .fieldLink RX5 33 "TrickFinder" "tape" "LTrickFinder$Tape;", .fieldLink RX5 214 "TrickFinder$Tape" "length" "I"] ++ wsX50 ++ wsX40 ++ (vx_atS RX5 60 "java/lang/IllegalArgumentException" ["java/lang/RuntimeException", "java/lang/Exception"]).filter goodWord)
def wsX5_read_r1 : List Cond := [Cond.fieldLink RX5 33 "TrickFinder" "tape" "LTrickFinder$Tape;", Cond.methodLink RX5 223 yX4_takeFormula, Cond.instanceMethod yX4_takeFormula, Cond.selects RX4 yX4_takeFormula yX4_takeFormula, Cond.initialized RX4, Cond.code yX4_takeFormula cX4_takeFormula 3 (some .int), Cond.fieldLink RX4 19 "TrickFinder$Tape" "place" "I", Cond.fieldLink RX4 22 "TrickFinder$Tape" "error" "I", Cond.fieldLink RX4 15 "TrickFinder$Tape" "length" "I", Cond.fieldLink RX4 40 "TrickFinder$Tape" "lastFormula" "J", Cond.methodLink RX4 25 yX4_readFormula, Cond.instanceMethod yX4_readFormula, Cond.selects RX4 yX4_readFormula yX4_readFormula, Cond.code yX4_readFormula cX4_readFormula 7 (some .long), Cond.methodLink RX4 47 yX4_readPart, Cond.instanceMethod yX4_readPart, Cond.selects RX4 yX4_readPart yX4_readPart, Cond.methodLink RX4 29 yX4_hasError, Cond.instanceMethod yX4_hasError, Cond.selects RX4 yX4_hasError yX4_hasError, Cond.code yX4_hasError cX4_hasError 1 (some .boolean), Cond.methodLink RX4 33 yX4_next, Cond.instanceMethod yX4_next, Cond.selects RX4 yX4_next yX4_next]
def wsX5_read_r2 : List Cond := [Cond.code yX4_next cX4_next 1 (some .int), Cond.methodLink RX4 44 yX4_here, Cond.instanceMethod yX4_here, Cond.selects RX4 yX4_here yX4_here, Cond.code yX4_here cX4_here 1 (some .int), Cond.fieldLink RX4 11 "TrickFinder$Tape" "bytes" "[I", Cond.methodLink RX4 50 yX4_operationOf, Cond.static yX4_operationOf, Cond.code yX4_operationOf cX4_operationOf 4 (some .int), Cond.methodLink RX4 54 yX0_made, Cond.static yX0_made, Cond.initialized RX0, Cond.code yX0_made cX0_made 5 (some .long), Cond.constantLong RX0 13 (-1), Cond.constantLong RX0 23 (8608480567731124087), Cond.methodLink RX0 15 yX0_difference, Cond.static yX0_difference, Cond.code yX0_difference cX0_difference 4 (some .long), Cond.constantLong RX0 31 (-8608480567731124088), Cond.methodLink RX0 19 yX0_twice, Cond.static yX0_twice, Cond.code yX0_twice cX0_twice 2 (some .long), Cond.methodLink RX0 25 yX0_sum, Cond.static yX0_sum]
def wsX5_read_r3 : List Cond := [Cond.code yX0_sum cX0_sum 4 (some .long), Cond.methodLink RX0 28 yX0_product, Cond.static yX0_product, Cond.code yX0_product cX0_product 11 (some .long), Cond.constantLong RX0 11 (1229782938247303441), Cond.constantLong RX0 33 (15), Cond.code yX4_readEnclosed cX4_readEnclosed 4 (some .long), Cond.methodLink RX4 37 yX4_failAt, Cond.instanceMethod yX4_failAt, Cond.selects RX4 yX4_failAt yX4_failAt, Cond.code yX4_failAt cX4_failAt 2 (some .long), Cond.code yX4_readPart cX4_readPart 5 (some .long), Cond.constantLong RX4 60 (-81985529216486896), Cond.methodLink RX4 62 yX4_isDigit, Cond.static yX4_isDigit, Cond.code yX4_isDigit cX4_isDigit 1 (some .boolean), Cond.methodLink RX4 66 yX4_readNumber, Cond.instanceMethod yX4_readNumber, Cond.selects RX4 yX4_readNumber yX4_readNumber, Cond.code yX4_readNumber cX4_readNumber 3 (some .long), Cond.methodLink RX4 73 yX0_constant, Cond.static yX0_constant, Cond.code yX0_constant cX0_constant 1 (some .long), Cond.methodLink RX4 70 yX4_readEnclosed]
def wsX5_read_r4 : List Cond := [Cond.instanceMethod yX4_readEnclosed, Cond.selects RX4 yX4_readEnclosed yX4_readEnclosed]
def wsX5_read : List Cond := .code yX5_read cX5_read 1 (some .int) :: ((wsX5_read_r1 ++ (wsX5_read_r2 ++ (wsX5_read_r3 ++ wsX5_read_r4))) ++ wsX50 ++ wsX40)
def wsX5_result : List Cond := .code yX5_result cX5_result 1 (some .long) :: ([.fieldLink RX5 33 "TrickFinder" "tape" "LTrickFinder$Tape;", .fieldLink RX5 226 "TrickFinder$Tape" "lastFormula" "J"] ++ wsX50 ++ wsX40)
def wsX5_digest_r1 : List Cond := [Cond.fieldLink RX5 10 "TrickFinder" "settings" "LTrickFinder$Settings;", Cond.constantLong RX5 230 (367), Cond.fieldLink RX5 19 "TrickFinder" "row" "LTrickFinder$Row;", Cond.fieldLink RX5 26 "TrickFinder" "paper" "LTrickFinder$Paper;", Cond.fieldLink RX5 33 "TrickFinder" "tape" "LTrickFinder$Tape;", Cond.fieldLink RX5 214 "TrickFinder$Tape" "length" "I", Cond.fieldLink RX5 226 "TrickFinder$Tape" "lastFormula" "J", Cond.methodLink RX5 232 yX3_addTo, Cond.instanceMethod yX3_addTo, Cond.selects RX3 yX3_addTo yX3_addTo, Cond.initialized RX3, Cond.code yX3_addTo cX3_addTo 9 (some .long), Cond.fieldLink RX3 9 "TrickFinder$Settings" "prices" "[I", Cond.fieldLink RX3 15 "TrickFinder$Settings" "isAllowed" "[Z", Cond.fieldLink RX3 19 "TrickFinder$Settings" "isConstantAllowed" "[Z", Cond.static yX5_added, Cond.initialized RX5, Cond.code yX5_added cX5_added 4 (some .long), Cond.constantLong RX5 240 (31), Cond.methodLink RX3 32 yX3_priceOfConstants, Cond.instanceMethod yX3_priceOfConstants, Cond.selects RX3 yX3_priceOfConstants yX3_priceOfConstants, Cond.code yX3_priceOfConstants cX3_priceOfConstants 1 (some .int), Cond.methodLink RX5 235 yX2_addTo]
def wsX5_digest_r2 : List Cond := [Cond.instanceMethod yX2_addTo, Cond.selects RX2 yX2_addTo yX2_addTo, Cond.initialized RX2, Cond.code yX2_addTo cX2_addTo 6 (some .long), Cond.fieldLink RX2 40 "TrickFinder$Row" "count" "I", Cond.fieldLink RX2 11 "TrickFinder$Row" "functions" "[J", Cond.fieldLink RX2 15 "TrickFinder$Row" "operations" "[I", Cond.fieldLink RX2 19 "TrickFinder$Row" "firsts" "[I", Cond.fieldLink RX2 22 "TrickFinder$Row" "seconds" "[I", Cond.methodLink RX2 124 yX2_costOf, Cond.instanceMethod yX2_costOf, Cond.selects RX2 yX2_costOf yX2_costOf, Cond.code yX2_costOf cX2_costOf 3 (some .int), Cond.fieldLink RX2 25 "TrickFinder$Row" "starts" "[I", Cond.methodLink RX5 236 yX1_addTo, Cond.instanceMethod yX1_addTo, Cond.selects RX1 yX1_addTo yX1_addTo, Cond.initialized RX1, Cond.code yX1_addTo cX1_addTo 6 (some .long), Cond.fieldLink RX1 15 "TrickFinder$Paper" "length" "I", Cond.fieldLink RX1 11 "TrickFinder$Paper" "bytes" "[I", Cond.methodLink RX5 237 yX5_added]
def wsX5_digest : List Cond := .code yX5_digest cX5_digest 3 (some .long) :: ((wsX5_digest_r1 ++ wsX5_digest_r2) ++ wsX50 ++ wsX40 ++ wsX30 ++ wsX20 ++ wsX10)
def wsX6_init : List Cond := .code yX6_init cX6_init 2 none :: ([.methodLink RX6 1 objectInit, .instanceMethod objectInit, .code objectInit ⟨#[0xb1]⟩ 1 none, .arrayClass .int, .fieldLink RX6 9 "TrickFinderModel" "prices" "[I", .arrayClass .boolean, .fieldLink RX6 13 "TrickFinderModel" "areAllowed" "[Z", .fieldLink RX6 17 "TrickFinderModel" "constantPrice" "I", .fieldLink RX6 21 "TrickFinderModel" "areConstants" "[Z", .arrayClass .long, .fieldLink RX6 24 "TrickFinderModel" "functions" "[J", .fieldLink RX6 28 "TrickFinderModel" "costs" "[I", .fieldLink RX6 31 "TrickFinderModel" "ops" "[I", .fieldLink RX6 34 "TrickFinderModel" "firsts" "[I", .fieldLink RX6 37 "TrickFinderModel" "seconds" "[I", .fieldLink RX6 40 "TrickFinderModel" "latest" "[I", .fieldLink RX6 43 "TrickFinderModel" "ahead" "[I", .fieldLink RX6 46 "TrickFinderModel" "begins" "[I", .fieldLink RX6 49 "TrickFinderModel" "paper" "[I", .fieldLink RX6 52 "TrickFinderModel" "tape" "[I"] ++ wsX60)
def wsX6_thrown : List Cond := .code yX6_thrown cX6_thrown 1 (some .int) :: ([.fieldLink RX6 55 "TrickFinderModel" "thrown" "I"] ++ wsX60)
def wsX6_no : List Cond := .code yX6_no cX6_no 2 (some .int) :: ([.fieldLink RX6 55 "TrickFinderModel" "thrown" "I"] ++ wsX60)
def wsX6_isIn : List Cond := .code yX6_isIn cX6_isIn 3 (some .boolean) :: ([])
def wsX6_count : List Cond := .code yX6_count cX6_count 6 (some .int) :: ([])
def wsX6_allow : List Cond := .code yX6_allow cX6_allow 3 (some .int) :: ([.fieldLink RX6 55 "TrickFinderModel" "thrown" "I", .fieldLink RX6 13 "TrickFinderModel" "areAllowed" "[Z", .methodLink RX6 58 yX6_isIn, .static yX6_isIn, .initialized RX6, .code yX6_isIn cX6_isIn 3 (some .boolean), .methodLink RX6 62 yX6_no, .instanceMethod yX6_no, .selects RX6 yX6_no yX6_no, .code yX6_no cX6_no 2 (some .int), .methodLink RX6 66 yX6_count, .static yX6_count, .code yX6_count cX6_count 6 (some .int)] ++ wsX60)
def wsX6_setPrice : List Cond := .code yX6_setPrice cX6_setPrice 4 (some .int) :: ([.fieldLink RX6 55 "TrickFinderModel" "thrown" "I", .fieldLink RX6 17 "TrickFinderModel" "constantPrice" "I", .fieldLink RX6 9 "TrickFinderModel" "prices" "[I", .methodLink RX6 58 yX6_isIn, .static yX6_isIn, .initialized RX6, .code yX6_isIn cX6_isIn 3 (some .boolean), .methodLink RX6 62 yX6_no, .instanceMethod yX6_no, .selects RX6 yX6_no yX6_no, .code yX6_no cX6_no 2 (some .int)] ++ wsX60)
def wsX6_setConstant : List Cond := .code yX6_setConstant cX6_setConstant 3 (some .int) :: ([.fieldLink RX6 55 "TrickFinderModel" "thrown" "I", .fieldLink RX6 21 "TrickFinderModel" "areConstants" "[Z", .methodLink RX6 58 yX6_isIn, .static yX6_isIn, .initialized RX6, .code yX6_isIn cX6_isIn 3 (some .boolean), .methodLink RX6 62 yX6_no, .instanceMethod yX6_no, .selects RX6 yX6_no yX6_no, .code yX6_no cX6_no 2 (some .int), .methodLink RX6 66 yX6_count, .static yX6_count, .code yX6_count cX6_count 6 (some .int)] ++ wsX60)
def wsX6_at : List Cond := .code yX6_at cX6_at 3 (some .int) :: ([])
def wsX6_value : List Cond := .code yX6_value cX6_value 4 (some .int) :: ([.fieldLink RX6 55 "TrickFinderModel" "thrown" "I", .methodLink RX6 58 yX6_isIn, .static yX6_isIn, .initialized RX6, .code yX6_isIn cX6_isIn 3 (some .boolean), .methodLink RX6 70 yX6_at, .static yX6_at, .code yX6_at cX6_at 3 (some .int), .methodLink RX6 62 yX6_no, .instanceMethod yX6_no, .selects RX6 yX6_no yX6_no, .code yX6_no cX6_no 2 (some .int)] ++ wsX60)
def wsX6_reckon : List Cond := .code yX6_reckon cX6_reckon 3 (some .int) :: ([])
def wsX6_made : List Cond := .code yX6_made cX6_made 8 (some .long) :: ([.methodLink RX6 70 yX6_at, .static yX6_at, .initialized RX6, .code yX6_at cX6_at 3 (some .int), .methodLink RX6 74 yX6_reckon, .static yX6_reckon, .code yX6_reckon cX6_reckon 3 (some .int)])
def wsX6_apply : List Cond := .code yX6_apply cX6_apply 6 (some .long) :: ([.fieldLink RX6 55 "TrickFinderModel" "thrown" "I", .methodLink RX6 58 yX6_isIn, .static yX6_isIn, .initialized RX6, .code yX6_isIn cX6_isIn 3 (some .boolean), .methodLink RX6 78 yX6_made, .static yX6_made, .code yX6_made cX6_made 8 (some .long), .methodLink RX6 70 yX6_at, .static yX6_at, .code yX6_at cX6_at 3 (some .int), .methodLink RX6 74 yX6_reckon, .static yX6_reckon, .code yX6_reckon cX6_reckon 3 (some .int)] ++ wsX60)
def wsX6_compose : List Cond := .code yX6_compose cX6_compose 8 (some .long) :: ([.fieldLink RX6 55 "TrickFinderModel" "thrown" "I", .methodLink RX6 70 yX6_at, .static yX6_at, .initialized RX6, .code yX6_at cX6_at 3 (some .int)] ++ wsX60)
def wsX6_values : List Cond := .code yX6_values cX6_values 4 (some .int) :: ([.methodLink RX6 70 yX6_at, .static yX6_at, .initialized RX6, .code yX6_at cX6_at 3 (some .int), .methodLink RX6 82 yJ6_bitCount_0f7a4, .static yJ6_bitCount_0f7a4, .initialized RJ6, .code yJ6_bitCount_0f7a4 cJ6_bitCount_0f7a4 1 (some .int), .constant RJ6 265 (1431655765), .constant RJ6 266 (858993459), .constant RJ6 267 (252645135)])
def wsX6_inverse : List Cond := .code yX6_inverse cX6_inverse 6 (some .long) :: ([.fieldLink RX6 55 "TrickFinderModel" "thrown" "I", .methodLink RX6 87 yX6_values, .static yX6_values, .initialized RX6, .code yX6_values cX6_values 4 (some .int), .methodLink RX6 70 yX6_at, .static yX6_at, .code yX6_at cX6_at 3 (some .int), .methodLink RX6 82 yJ6_bitCount_0f7a4, .static yJ6_bitCount_0f7a4, .initialized RJ6, .code yJ6_bitCount_0f7a4 cJ6_bitCount_0f7a4 1 (some .int), .constant RJ6 265 (1431655765), .constant RJ6 266 (858993459), .constant RJ6 267 (252645135)] ++ wsX60)
def wsX6_through : List Cond := .code yX6_through cX6_through 5 (some .int) :: ([.methodLink RX6 70 yX6_at, .static yX6_at, .initialized RX6, .code yX6_at cX6_at 3 (some .int)])
def wsX6_returning : List Cond := .code yX6_returning cX6_returning 4 (some .int) :: ([.constant RX6 91 (65535), .methodLink RX6 92 yX6_through, .static yX6_through, .initialized RX6, .code yX6_through cX6_through 5 (some .int), .methodLink RX6 70 yX6_at, .static yX6_at, .code yX6_at cX6_at 3 (some .int)])
def wsX6_tail : List Cond := .code yX6_tail cX6_tail 4 (some .int) :: ([.constant RX6 91 (65535), .methodLink RX6 95 yX6_returning, .static yX6_returning, .initialized RX6, .code yX6_returning cX6_returning 4 (some .int), .methodLink RX6 92 yX6_through, .static yX6_through, .code yX6_through cX6_through 5 (some .int), .methodLink RX6 70 yX6_at, .static yX6_at, .code yX6_at cX6_at 3 (some .int)])
def wsX6_measure_r1 : List Cond := [Cond.fieldLink RX6 55 "TrickFinderModel" "thrown" "I", Cond.methodLink RX6 58 yX6_isIn, Cond.static yX6_isIn, Cond.initialized RX6, Cond.code yX6_isIn cX6_isIn 3 (some .boolean), Cond.methodLink RX6 62 yX6_no, Cond.instanceMethod yX6_no, Cond.selects RX6 yX6_no yX6_no, Cond.code yX6_no cX6_no 2 (some .int), Cond.methodLink RX6 87 yX6_values, Cond.static yX6_values, Cond.code yX6_values cX6_values 4 (some .int), Cond.methodLink RX6 70 yX6_at, Cond.static yX6_at, Cond.code yX6_at cX6_at 3 (some .int), Cond.methodLink RX6 82 yJ6_bitCount_0f7a4, Cond.static yJ6_bitCount_0f7a4, Cond.initialized RJ6, Cond.code yJ6_bitCount_0f7a4 cJ6_bitCount_0f7a4 1 (some .int), Cond.constant RJ6 265 (1431655765), Cond.constant RJ6 266 (858993459), Cond.constant RJ6 267 (252645135), Cond.methodLink RX6 95 yX6_returning, Cond.static yX6_returning]
def wsX6_measure_r2 : List Cond := [Cond.code yX6_returning cX6_returning 4 (some .int), Cond.constant RX6 91 (65535), Cond.methodLink RX6 92 yX6_through, Cond.static yX6_through, Cond.code yX6_through cX6_through 5 (some .int), Cond.methodLink RX6 98 yX6_tail, Cond.static yX6_tail, Cond.code yX6_tail cX6_tail 4 (some .int)]
def wsX6_measure : List Cond := .code yX6_measure cX6_measure 6 (some .int) :: ((wsX6_measure_r1 ++ wsX6_measure_r2) ++ wsX60)
def wsX6_isFor : List Cond := .code yX6_isFor cX6_isFor 7 (some .boolean) :: ([.methodLink RX6 70 yX6_at, .static yX6_at, .initialized RX6, .code yX6_at cX6_at 3 (some .int)])
def wsX6_is : List Cond := .code yX6_is cX6_is 6 (some .boolean) :: ([.fieldLink RX6 55 "TrickFinderModel" "thrown" "I", .methodLink RX6 58 yX6_isIn, .static yX6_isIn, .initialized RX6, .code yX6_isIn cX6_isIn 3 (some .boolean), .methodLink RX6 101 yX6_isFor, .static yX6_isFor, .code yX6_isFor cX6_isFor 7 (some .boolean), .methodLink RX6 70 yX6_at, .static yX6_at, .code yX6_at cX6_at 3 (some .int)] ++ wsX60)
def wsX6_chain : List Cond := .code yX6_chain cX6_chain 2 (some .int) :: ([.constantLong RX6 105 (1023)])
def wsX6_entryOf : List Cond := .code yX6_entryOf cX6_entryOf 4 (some .int) :: ([.fieldLink RX6 40 "TrickFinderModel" "latest" "[I", .fieldLink RX6 24 "TrickFinderModel" "functions" "[J", .fieldLink RX6 43 "TrickFinderModel" "ahead" "[I", .methodLink RX6 107 yX6_chain, .static yX6_chain, .initialized RX6, .code yX6_chain cX6_chain 2 (some .int), .constantLong RX6 105 (1023)] ++ wsX60)
def wsX6_add : List Cond := .code yX6_add cX6_add 7 none :: ([.fieldLink RX6 110 "TrickFinderModel" "entries" "I", .fieldLink RX6 24 "TrickFinderModel" "functions" "[J", .fieldLink RX6 28 "TrickFinderModel" "costs" "[I", .fieldLink RX6 31 "TrickFinderModel" "ops" "[I", .fieldLink RX6 34 "TrickFinderModel" "firsts" "[I", .fieldLink RX6 37 "TrickFinderModel" "seconds" "[I", .fieldLink RX6 43 "TrickFinderModel" "ahead" "[I", .fieldLink RX6 40 "TrickFinderModel" "latest" "[I", .methodLink RX6 113 yX6_entryOf, .instanceMethod yX6_entryOf, .selects RX6 yX6_entryOf yX6_entryOf, .initialized RX6, .code yX6_entryOf cX6_entryOf 4 (some .int), .methodLink RX6 107 yX6_chain, .static yX6_chain, .code yX6_chain cX6_chain 2 (some .int), .constantLong RX6 105 (1023)] ++ wsX60)
def wsX6_constant : List Cond := .code yX6_constant cX6_constant 1 (some .long) :: ([.constantLong RX6 116 (1229782938247303441)])
def wsX6_addAll_r1 : List Cond := [Cond.fieldLink RX6 9 "TrickFinderModel" "prices" "[I", Cond.fieldLink RX6 46 "TrickFinderModel" "begins" "[I", Cond.fieldLink RX6 24 "TrickFinderModel" "functions" "[J", Cond.fieldLink RX6 110 "TrickFinderModel" "entries" "I", Cond.methodLink RX6 78 yX6_made, Cond.static yX6_made, Cond.initialized RX6, Cond.code yX6_made cX6_made 8 (some .long), Cond.methodLink RX6 70 yX6_at, Cond.static yX6_at, Cond.code yX6_at cX6_at 3 (some .int), Cond.methodLink RX6 74 yX6_reckon, Cond.static yX6_reckon, Cond.code yX6_reckon cX6_reckon 3 (some .int), Cond.methodLink RX6 118 yX6_add, Cond.instanceMethod yX6_add, Cond.selects RX6 yX6_add yX6_add, Cond.code yX6_add cX6_add 7 none, Cond.fieldLink RX6 28 "TrickFinderModel" "costs" "[I", Cond.fieldLink RX6 31 "TrickFinderModel" "ops" "[I", Cond.fieldLink RX6 34 "TrickFinderModel" "firsts" "[I", Cond.fieldLink RX6 37 "TrickFinderModel" "seconds" "[I", Cond.fieldLink RX6 43 "TrickFinderModel" "ahead" "[I", Cond.fieldLink RX6 40 "TrickFinderModel" "latest" "[I"]
def wsX6_addAll_r2 : List Cond := [Cond.methodLink RX6 113 yX6_entryOf, Cond.instanceMethod yX6_entryOf, Cond.selects RX6 yX6_entryOf yX6_entryOf, Cond.code yX6_entryOf cX6_entryOf 4 (some .int), Cond.methodLink RX6 107 yX6_chain, Cond.static yX6_chain, Cond.code yX6_chain cX6_chain 2 (some .int), Cond.constantLong RX6 105 (1023)]
def wsX6_addAll : List Cond := .code yX6_addAll cX6_addAll 7 none :: ((wsX6_addAll_r1 ++ wsX6_addAll_r2) ++ wsX60)
def wsX6_search_r1 : List Cond := [Cond.fieldLink RX6 55 "TrickFinderModel" "thrown" "I", Cond.fieldLink RX6 110 "TrickFinderModel" "entries" "I", Cond.fieldLink RX6 40 "TrickFinderModel" "latest" "[I", Cond.fieldLink RX6 46 "TrickFinderModel" "begins" "[I", Cond.constantLong RX6 122 (-81985529216486896), Cond.fieldLink RX6 17 "TrickFinderModel" "constantPrice" "I", Cond.fieldLink RX6 21 "TrickFinderModel" "areConstants" "[Z", Cond.fieldLink RX6 13 "TrickFinderModel" "areAllowed" "[Z", Cond.fieldLink RX6 9 "TrickFinderModel" "prices" "[I", Cond.methodLink RX6 58 yX6_isIn, Cond.static yX6_isIn, Cond.initialized RX6, Cond.code yX6_isIn cX6_isIn 3 (some .boolean), Cond.methodLink RX6 62 yX6_no, Cond.instanceMethod yX6_no, Cond.selects RX6 yX6_no yX6_no, Cond.code yX6_no cX6_no 2 (some .int), Cond.methodLink RX6 118 yX6_add, Cond.instanceMethod yX6_add, Cond.selects RX6 yX6_add yX6_add, Cond.code yX6_add cX6_add 7 none, Cond.fieldLink RX6 24 "TrickFinderModel" "functions" "[J", Cond.fieldLink RX6 28 "TrickFinderModel" "costs" "[I", Cond.fieldLink RX6 31 "TrickFinderModel" "ops" "[I"]
def wsX6_search_r2 : List Cond := [Cond.fieldLink RX6 34 "TrickFinderModel" "firsts" "[I", Cond.fieldLink RX6 37 "TrickFinderModel" "seconds" "[I", Cond.fieldLink RX6 43 "TrickFinderModel" "ahead" "[I", Cond.methodLink RX6 113 yX6_entryOf, Cond.instanceMethod yX6_entryOf, Cond.selects RX6 yX6_entryOf yX6_entryOf, Cond.code yX6_entryOf cX6_entryOf 4 (some .int), Cond.methodLink RX6 107 yX6_chain, Cond.static yX6_chain, Cond.code yX6_chain cX6_chain 2 (some .int), Cond.constantLong RX6 105 (1023), Cond.methodLink RX6 124 yX6_constant, Cond.static yX6_constant, Cond.code yX6_constant cX6_constant 1 (some .long), Cond.constantLong RX6 116 (1229782938247303441), Cond.methodLink RX6 128 yX6_addAll, Cond.instanceMethod yX6_addAll, Cond.selects RX6 yX6_addAll yX6_addAll, Cond.code yX6_addAll cX6_addAll 7 none, Cond.methodLink RX6 78 yX6_made, Cond.static yX6_made, Cond.code yX6_made cX6_made 8 (some .long), Cond.methodLink RX6 70 yX6_at, Cond.static yX6_at]
def wsX6_search_r3 : List Cond := [Cond.code yX6_at cX6_at 3 (some .int), Cond.methodLink RX6 74 yX6_reckon, Cond.static yX6_reckon, Cond.code yX6_reckon cX6_reckon 3 (some .int)]
def wsX6_search : List Cond := .code yX6_search cX6_search 4 (some .int) :: ((wsX6_search_r1 ++ (wsX6_search_r2 ++ wsX6_search_r3)) ++ wsX60)
def wsX6_entries : List Cond := .code yX6_entries cX6_entries 1 (some .int) :: ([.fieldLink RX6 55 "TrickFinderModel" "thrown" "I", .fieldLink RX6 110 "TrickFinderModel" "entries" "I"] ++ wsX60)
def wsX6_ofCost : List Cond := .code yX6_ofCost cX6_ofCost 4 (some .int) :: ([.fieldLink RX6 55 "TrickFinderModel" "thrown" "I", .fieldLink RX6 110 "TrickFinderModel" "entries" "I", .fieldLink RX6 28 "TrickFinderModel" "costs" "[I", .methodLink RX6 58 yX6_isIn, .static yX6_isIn, .initialized RX6, .code yX6_isIn cX6_isIn 3 (some .boolean), .methodLink RX6 62 yX6_no, .instanceMethod yX6_no, .selects RX6 yX6_no yX6_no, .code yX6_no cX6_no 2 (some .int)] ++ wsX60)
def wsX6_isEntry : List Cond := .code yX6_isEntry cX6_isEntry 2 (some .boolean) :: ([.fieldLink RX6 110 "TrickFinderModel" "entries" "I", .methodLink RX6 58 yX6_isIn, .static yX6_isIn, .initialized RX6, .code yX6_isIn cX6_isIn 3 (some .boolean)] ++ wsX60)
def wsX6_function : List Cond := .code yX6_function cX6_function 2 (some .long) :: ([.fieldLink RX6 55 "TrickFinderModel" "thrown" "I", .fieldLink RX6 24 "TrickFinderModel" "functions" "[J", .methodLink RX6 132 yX6_isEntry, .instanceMethod yX6_isEntry, .selects RX6 yX6_isEntry yX6_isEntry, .initialized RX6, .code yX6_isEntry cX6_isEntry 2 (some .boolean), .fieldLink RX6 110 "TrickFinderModel" "entries" "I", .methodLink RX6 58 yX6_isIn, .static yX6_isIn, .code yX6_isIn cX6_isIn 3 (some .boolean)] ++ wsX60)
def wsX6_told : List Cond := .code yX6_told cX6_told 3 (some .int) :: ([.fieldLink RX6 28 "TrickFinderModel" "costs" "[I", .fieldLink RX6 31 "TrickFinderModel" "ops" "[I", .fieldLink RX6 34 "TrickFinderModel" "firsts" "[I", .fieldLink RX6 37 "TrickFinderModel" "seconds" "[I"] ++ wsX60)
def wsX6_entry : List Cond := .code yX6_entry cX6_entry 3 (some .int) :: ([.fieldLink RX6 55 "TrickFinderModel" "thrown" "I", .methodLink RX6 132 yX6_isEntry, .instanceMethod yX6_isEntry, .selects RX6 yX6_isEntry yX6_isEntry, .initialized RX6, .code yX6_isEntry cX6_isEntry 2 (some .boolean), .fieldLink RX6 110 "TrickFinderModel" "entries" "I", .methodLink RX6 58 yX6_isIn, .static yX6_isIn, .code yX6_isIn cX6_isIn 3 (some .boolean), .methodLink RX6 136 yX6_told, .instanceMethod yX6_told, .selects RX6 yX6_told yX6_told, .code yX6_told cX6_told 3 (some .int), .fieldLink RX6 28 "TrickFinderModel" "costs" "[I", .fieldLink RX6 31 "TrickFinderModel" "ops" "[I", .fieldLink RX6 34 "TrickFinderModel" "firsts" "[I", .fieldLink RX6 37 "TrickFinderModel" "seconds" "[I", .methodLink RX6 62 yX6_no, .instanceMethod yX6_no, .selects RX6 yX6_no yX6_no, .code yX6_no cX6_no 2 (some .int)] ++ wsX60)
def wsX6_find : List Cond := .code yX6_find cX6_find 3 (some .int) :: ([.fieldLink RX6 55 "TrickFinderModel" "thrown" "I", .methodLink RX6 113 yX6_entryOf, .instanceMethod yX6_entryOf, .selects RX6 yX6_entryOf yX6_entryOf, .initialized RX6, .code yX6_entryOf cX6_entryOf 4 (some .int), .fieldLink RX6 40 "TrickFinderModel" "latest" "[I", .fieldLink RX6 24 "TrickFinderModel" "functions" "[J", .fieldLink RX6 43 "TrickFinderModel" "ahead" "[I", .methodLink RX6 107 yX6_chain, .static yX6_chain, .code yX6_chain cX6_chain 2 (some .int), .constantLong RX6 105 (1023)] ++ wsX60)
def wsX6_unlike : List Cond := .code yX6_unlike cX6_unlike 6 (some .int) :: ([.methodLink RX6 70 yX6_at, .static yX6_at, .initialized RX6, .code yX6_at cX6_at 3 (some .int)])
def wsX6_fit : List Cond := .code yX6_fit cX6_fit 5 (some .int) :: ([.fieldLink RX6 55 "TrickFinderModel" "thrown" "I", .constant RX6 91 (65535), .fieldLink RX6 110 "TrickFinderModel" "entries" "I", .fieldLink RX6 24 "TrickFinderModel" "functions" "[J", .methodLink RX6 58 yX6_isIn, .static yX6_isIn, .initialized RX6, .code yX6_isIn cX6_isIn 3 (some .boolean), .methodLink RX6 62 yX6_no, .instanceMethod yX6_no, .selects RX6 yX6_no yX6_no, .code yX6_no cX6_no 2 (some .int), .methodLink RX6 140 yX6_unlike, .static yX6_unlike, .code yX6_unlike cX6_unlike 6 (some .int), .methodLink RX6 70 yX6_at, .static yX6_at, .code yX6_at cX6_at 3 (some .int)] ++ wsX60)
def wsX6_near : List Cond := .code yX6_near cX6_near 7 (some .int) :: ([.fieldLink RX6 55 "TrickFinderModel" "thrown" "I", .fieldLink RX6 110 "TrickFinderModel" "entries" "I", .fieldLink RX6 24 "TrickFinderModel" "functions" "[J", .methodLink RX6 140 yX6_unlike, .static yX6_unlike, .initialized RX6, .code yX6_unlike cX6_unlike 6 (some .int), .methodLink RX6 70 yX6_at, .static yX6_at, .code yX6_at cX6_at 3 (some .int), .methodLink RX6 82 yJ6_bitCount_0f7a4, .static yJ6_bitCount_0f7a4, .initialized RJ6, .code yJ6_bitCount_0f7a4 cJ6_bitCount_0f7a4 1 (some .int), .constant RJ6 265 (1431655765), .constant RJ6 266 (858993459), .constant RJ6 267 (252645135)] ++ wsX60)
def wsX6_parts : List Cond := .code yX6_parts cX6_parts 5 (some .int) :: ([.fieldLink RX6 55 "TrickFinderModel" "thrown" "I", .arrayClass .boolean, .fieldLink RX6 31 "TrickFinderModel" "ops" "[I", .fieldLink RX6 34 "TrickFinderModel" "firsts" "[I", .fieldLink RX6 37 "TrickFinderModel" "seconds" "[I", .methodLink RX6 132 yX6_isEntry, .instanceMethod yX6_isEntry, .selects RX6 yX6_isEntry yX6_isEntry, .initialized RX6, .code yX6_isEntry cX6_isEntry 2 (some .boolean), .fieldLink RX6 110 "TrickFinderModel" "entries" "I", .methodLink RX6 58 yX6_isIn, .static yX6_isIn, .code yX6_isIn cX6_isIn 3 (some .boolean), .methodLink RX6 62 yX6_no, .instanceMethod yX6_no, .selects RX6 yX6_no yX6_no, .code yX6_no cX6_no 2 (some .int)] ++ wsX60)
def wsX6_meanCost : List Cond := .code yX6_meanCost cX6_meanCost 3 (some .double) :: ([.fieldLink RX6 55 "TrickFinderModel" "thrown" "I", .fieldLink RX6 110 "TrickFinderModel" "entries" "I", .fieldLink RX6 28 "TrickFinderModel" "costs" "[I"] ++ wsX60)
def wsX6_put : List Cond := .code yX6_put cX6_put 2 none :: ([.fieldLink RX6 49 "TrickFinderModel" "paper" "[I", .fieldLink RX6 144 "TrickFinderModel" "papered" "I"] ++ wsX60)
def wsX6_putArgument : List Cond := .code yX6_putArgument cX6_putArgument 3 none :: ([.fieldLink RX6 31 "TrickFinderModel" "ops" "[I", .methodLink RX6 147 yX6_put, .instanceMethod yX6_put, .selects RX6 yX6_put yX6_put, .initialized RX6, .code yX6_put cX6_put 2 none, .fieldLink RX6 49 "TrickFinderModel" "paper" "[I", .fieldLink RX6 144 "TrickFinderModel" "papered" "I", .methodLink RX6 151 yX6_putEntry, .instanceMethod yX6_putEntry, .selects RX6 yX6_putEntry yX6_putEntry, .code yX6_putEntry cX6_putEntry 3 none, .fieldLink RX6 34 "TrickFinderModel" "firsts" "[I", .fieldLink RX6 157 "TrickFinderModel" "SIGNS" "[I", .fieldLink RX6 37 "TrickFinderModel" "seconds" "[I", .methodLink RX6 154 yX6_putArgument, .instanceMethod yX6_putArgument, .selects RX6 yX6_putArgument yX6_putArgument] ++ wsX60)
def wsX6_putEntry : List Cond := .code yX6_putEntry cX6_putEntry 3 none :: ([.fieldLink RX6 31 "TrickFinderModel" "ops" "[I", .fieldLink RX6 34 "TrickFinderModel" "firsts" "[I", .fieldLink RX6 157 "TrickFinderModel" "SIGNS" "[I", .fieldLink RX6 37 "TrickFinderModel" "seconds" "[I", .methodLink RX6 147 yX6_put, .instanceMethod yX6_put, .selects RX6 yX6_put yX6_put, .initialized RX6, .code yX6_put cX6_put 2 none, .fieldLink RX6 49 "TrickFinderModel" "paper" "[I", .fieldLink RX6 144 "TrickFinderModel" "papered" "I", .methodLink RX6 154 yX6_putArgument, .instanceMethod yX6_putArgument, .selects RX6 yX6_putArgument yX6_putArgument, .code yX6_putArgument cX6_putArgument 3 none, .methodLink RX6 151 yX6_putEntry, .instanceMethod yX6_putEntry, .selects RX6 yX6_putEntry yX6_putEntry] ++ wsX60)
def wsX6_write_r1 : List Cond := [Cond.fieldLink RX6 55 "TrickFinderModel" "thrown" "I", Cond.fieldLink RX6 144 "TrickFinderModel" "papered" "I", Cond.methodLink RX6 132 yX6_isEntry, Cond.instanceMethod yX6_isEntry, Cond.selects RX6 yX6_isEntry yX6_isEntry, Cond.initialized RX6, Cond.code yX6_isEntry cX6_isEntry 2 (some .boolean), Cond.fieldLink RX6 110 "TrickFinderModel" "entries" "I", Cond.methodLink RX6 58 yX6_isIn, Cond.static yX6_isIn, Cond.code yX6_isIn cX6_isIn 3 (some .boolean), Cond.methodLink RX6 62 yX6_no, Cond.instanceMethod yX6_no, Cond.selects RX6 yX6_no yX6_no, Cond.code yX6_no cX6_no 2 (some .int), Cond.methodLink RX6 151 yX6_putEntry, Cond.instanceMethod yX6_putEntry, Cond.selects RX6 yX6_putEntry yX6_putEntry, Cond.code yX6_putEntry cX6_putEntry 3 none, Cond.fieldLink RX6 31 "TrickFinderModel" "ops" "[I", Cond.fieldLink RX6 34 "TrickFinderModel" "firsts" "[I", Cond.fieldLink RX6 157 "TrickFinderModel" "SIGNS" "[I", Cond.fieldLink RX6 37 "TrickFinderModel" "seconds" "[I", Cond.methodLink RX6 147 yX6_put]
def wsX6_write_r2 : List Cond := [Cond.instanceMethod yX6_put, Cond.selects RX6 yX6_put yX6_put, Cond.code yX6_put cX6_put 2 none, Cond.fieldLink RX6 49 "TrickFinderModel" "paper" "[I", Cond.methodLink RX6 154 yX6_putArgument, Cond.instanceMethod yX6_putArgument, Cond.selects RX6 yX6_putArgument yX6_putArgument, Cond.code yX6_putArgument cX6_putArgument 3 none]
def wsX6_write : List Cond := .code yX6_write cX6_write 2 (some .int) :: ((wsX6_write_r1 ++ wsX6_write_r2) ++ wsX60)
def wsX6_byteAt : List Cond := .code yX6_byteAt cX6_byteAt 2 (some .int) :: ([.fieldLink RX6 55 "TrickFinderModel" "thrown" "I", .fieldLink RX6 144 "TrickFinderModel" "papered" "I", .fieldLink RX6 49 "TrickFinderModel" "paper" "[I", .methodLink RX6 58 yX6_isIn, .static yX6_isIn, .initialized RX6, .code yX6_isIn cX6_isIn 3 (some .boolean), .methodLink RX6 62 yX6_no, .instanceMethod yX6_no, .selects RX6 yX6_no yX6_no, .code yX6_no cX6_no 2 (some .int)] ++ wsX60)
def wsX6_feed : List Cond := .code yX6_feed cX6_feed 12 (some .int) :: ([.fieldLink RX6 55 "TrickFinderModel" "thrown" "I", .fieldLink RX6 160 "TrickFinderModel" "length" "I", .arrayClass .int, .fieldLink RX6 52 "TrickFinderModel" "tape" "[I", .methodLink RX6 62 yX6_no, .instanceMethod yX6_no, .selects RX6 yX6_no yX6_no, .initialized RX6, .code yX6_no cX6_no 2 (some .int)] ++ wsX60)
def wsX6_trim : List Cond := .code yX6_trim cX6_trim 2 (some .int) :: ([.fieldLink RX6 55 "TrickFinderModel" "thrown" "I", .fieldLink RX6 160 "TrickFinderModel" "length" "I", .methodLink RX6 58 yX6_isIn, .static yX6_isIn, .initialized RX6, .code yX6_isIn cX6_isIn 3 (some .boolean), .methodLink RX6 62 yX6_no, .instanceMethod yX6_no, .selects RX6 yX6_no yX6_no, .code yX6_no cX6_no 2 (some .int)] ++ wsX60)
def wsX6_next : List Cond := .code yX6_next cX6_next 1 (some .int) :: ([.fieldLink RX6 163 "TrickFinderModel" "at" "I", .fieldLink RX6 160 "TrickFinderModel" "length" "I", .fieldLink RX6 52 "TrickFinderModel" "tape" "[I"] ++ wsX60)
def wsX6_wrong : List Cond := .code yX6_wrong cX6_wrong 1 (some .long) :: ([.fieldLink RX6 165 "TrickFinderModel" "isWrong" "Z"] ++ wsX60)
def wsX6_opOf : List Cond := .code yX6_opOf cX6_opOf 5 (some .int) :: ([.fieldLink RX6 157 "TrickFinderModel" "SIGNS" "[I"])
def wsX6_isDigit : List Cond := .code yX6_isDigit cX6_isDigit 1 (some .boolean) :: ([.methodLink RX6 58 yX6_isIn, .static yX6_isIn, .initialized RX6, .code yX6_isIn cX6_isIn 3 (some .boolean)])
def wsX6_number : List Cond := .code yX6_number cX6_number 3 (some .long) :: ([.fieldLink RX6 52 "TrickFinderModel" "tape" "[I", .fieldLink RX6 163 "TrickFinderModel" "at" "I", .fieldLink RX6 160 "TrickFinderModel" "length" "I", .methodLink RX6 169 yX6_isDigit, .static yX6_isDigit, .initialized RX6, .code yX6_isDigit cX6_isDigit 1 (some .boolean), .methodLink RX6 58 yX6_isIn, .static yX6_isIn, .code yX6_isIn cX6_isIn 3 (some .boolean), .methodLink RX6 172 yX6_wrong, .instanceMethod yX6_wrong, .selects RX6 yX6_wrong yX6_wrong, .code yX6_wrong cX6_wrong 1 (some .long), .fieldLink RX6 165 "TrickFinderModel" "isWrong" "Z", .methodLink RX6 124 yX6_constant, .static yX6_constant, .code yX6_constant cX6_constant 1 (some .long), .constantLong RX6 116 (1229782938247303441)] ++ wsX60)
def wsX6_formula_r1 : List Cond := [Cond.fieldLink RX6 165 "TrickFinderModel" "isWrong" "Z", Cond.fieldLink RX6 163 "TrickFinderModel" "at" "I", Cond.methodLink RX6 186 yX6_part, Cond.instanceMethod yX6_part, Cond.selects RX6 yX6_part yX6_part, Cond.initialized RX6, Cond.methodLink RX6 176 yX6_next, Cond.instanceMethod yX6_next, Cond.selects RX6 yX6_next yX6_next, Cond.code yX6_next cX6_next 1 (some .int), Cond.fieldLink RX6 160 "TrickFinderModel" "length" "I", Cond.fieldLink RX6 52 "TrickFinderModel" "tape" "[I", Cond.methodLink RX6 183 yX6_opOf, Cond.static yX6_opOf, Cond.code yX6_opOf cX6_opOf 5 (some .int), Cond.fieldLink RX6 157 "TrickFinderModel" "SIGNS" "[I", Cond.methodLink RX6 78 yX6_made, Cond.static yX6_made, Cond.code yX6_made cX6_made 8 (some .long), Cond.methodLink RX6 70 yX6_at, Cond.static yX6_at, Cond.code yX6_at cX6_at 3 (some .int), Cond.methodLink RX6 74 yX6_reckon, Cond.static yX6_reckon]
def wsX6_formula_r2 : List Cond := [Cond.code yX6_reckon cX6_reckon 3 (some .int), Cond.code yX6_part cX6_part 6 (some .long), Cond.constantLong RX6 122 (-81985529216486896), Cond.methodLink RX6 169 yX6_isDigit, Cond.static yX6_isDigit, Cond.code yX6_isDigit cX6_isDigit 1 (some .boolean), Cond.methodLink RX6 58 yX6_isIn, Cond.static yX6_isIn, Cond.code yX6_isIn cX6_isIn 3 (some .boolean), Cond.methodLink RX6 180 yX6_number, Cond.instanceMethod yX6_number, Cond.selects RX6 yX6_number yX6_number, Cond.code yX6_number cX6_number 3 (some .long), Cond.methodLink RX6 172 yX6_wrong, Cond.instanceMethod yX6_wrong, Cond.selects RX6 yX6_wrong yX6_wrong, Cond.code yX6_wrong cX6_wrong 1 (some .long), Cond.methodLink RX6 124 yX6_constant, Cond.static yX6_constant, Cond.code yX6_constant cX6_constant 1 (some .long), Cond.constantLong RX6 116 (1229782938247303441), Cond.methodLink RX6 189 yX6_formula, Cond.instanceMethod yX6_formula, Cond.selects RX6 yX6_formula yX6_formula]
def wsX6_formula : List Cond := .code yX6_formula cX6_formula 7 (some .long) :: ((wsX6_formula_r1 ++ wsX6_formula_r2) ++ wsX60)
def wsX6_part_r1 : List Cond := [Cond.fieldLink RX6 163 "TrickFinderModel" "at" "I", Cond.constantLong RX6 122 (-81985529216486896), Cond.fieldLink RX6 165 "TrickFinderModel" "isWrong" "Z", Cond.methodLink RX6 176 yX6_next, Cond.instanceMethod yX6_next, Cond.selects RX6 yX6_next yX6_next, Cond.initialized RX6, Cond.code yX6_next cX6_next 1 (some .int), Cond.fieldLink RX6 160 "TrickFinderModel" "length" "I", Cond.fieldLink RX6 52 "TrickFinderModel" "tape" "[I", Cond.methodLink RX6 169 yX6_isDigit, Cond.static yX6_isDigit, Cond.code yX6_isDigit cX6_isDigit 1 (some .boolean), Cond.methodLink RX6 58 yX6_isIn, Cond.static yX6_isIn, Cond.code yX6_isIn cX6_isIn 3 (some .boolean), Cond.methodLink RX6 180 yX6_number, Cond.instanceMethod yX6_number, Cond.selects RX6 yX6_number yX6_number, Cond.code yX6_number cX6_number 3 (some .long), Cond.methodLink RX6 172 yX6_wrong, Cond.instanceMethod yX6_wrong, Cond.selects RX6 yX6_wrong yX6_wrong, Cond.code yX6_wrong cX6_wrong 1 (some .long)]
def wsX6_part_r2 : List Cond := [Cond.methodLink RX6 124 yX6_constant, Cond.static yX6_constant, Cond.code yX6_constant cX6_constant 1 (some .long), Cond.constantLong RX6 116 (1229782938247303441), Cond.methodLink RX6 183 yX6_opOf, Cond.static yX6_opOf, Cond.code yX6_opOf cX6_opOf 5 (some .int), Cond.fieldLink RX6 157 "TrickFinderModel" "SIGNS" "[I", Cond.methodLink RX6 186 yX6_part, Cond.instanceMethod yX6_part, Cond.selects RX6 yX6_part yX6_part, Cond.methodLink RX6 78 yX6_made, Cond.static yX6_made, Cond.code yX6_made cX6_made 8 (some .long), Cond.methodLink RX6 70 yX6_at, Cond.static yX6_at, Cond.code yX6_at cX6_at 3 (some .int), Cond.methodLink RX6 74 yX6_reckon, Cond.static yX6_reckon, Cond.code yX6_reckon cX6_reckon 3 (some .int), Cond.methodLink RX6 189 yX6_formula, Cond.instanceMethod yX6_formula, Cond.selects RX6 yX6_formula yX6_formula, Cond.code yX6_formula cX6_formula 7 (some .long)]
def wsX6_part : List Cond := .code yX6_part cX6_part 6 (some .long) :: ((wsX6_part_r1 ++ wsX6_part_r2) ++ wsX60)
def wsX6_read_r1 : List Cond := [Cond.fieldLink RX6 55 "TrickFinderModel" "thrown" "I", Cond.fieldLink RX6 163 "TrickFinderModel" "at" "I", Cond.fieldLink RX6 165 "TrickFinderModel" "isWrong" "Z", Cond.fieldLink RX6 192 "TrickFinderModel" "result" "J", Cond.fieldLink RX6 160 "TrickFinderModel" "length" "I", Cond.methodLink RX6 189 yX6_formula, Cond.instanceMethod yX6_formula, Cond.selects RX6 yX6_formula yX6_formula, Cond.initialized RX6, Cond.code yX6_formula cX6_formula 7 (some .long), Cond.methodLink RX6 186 yX6_part, Cond.instanceMethod yX6_part, Cond.selects RX6 yX6_part yX6_part, Cond.methodLink RX6 176 yX6_next, Cond.instanceMethod yX6_next, Cond.selects RX6 yX6_next yX6_next, Cond.code yX6_next cX6_next 1 (some .int), Cond.fieldLink RX6 52 "TrickFinderModel" "tape" "[I", Cond.methodLink RX6 183 yX6_opOf, Cond.static yX6_opOf, Cond.code yX6_opOf cX6_opOf 5 (some .int), Cond.fieldLink RX6 157 "TrickFinderModel" "SIGNS" "[I", Cond.methodLink RX6 78 yX6_made, Cond.static yX6_made]
def wsX6_read_r2 : List Cond := [Cond.code yX6_made cX6_made 8 (some .long), Cond.methodLink RX6 70 yX6_at, Cond.static yX6_at, Cond.code yX6_at cX6_at 3 (some .int), Cond.methodLink RX6 74 yX6_reckon, Cond.static yX6_reckon, Cond.code yX6_reckon cX6_reckon 3 (some .int), Cond.code yX6_part cX6_part 6 (some .long), Cond.constantLong RX6 122 (-81985529216486896), Cond.methodLink RX6 169 yX6_isDigit, Cond.static yX6_isDigit, Cond.code yX6_isDigit cX6_isDigit 1 (some .boolean), Cond.methodLink RX6 58 yX6_isIn, Cond.static yX6_isIn, Cond.code yX6_isIn cX6_isIn 3 (some .boolean), Cond.methodLink RX6 180 yX6_number, Cond.instanceMethod yX6_number, Cond.selects RX6 yX6_number yX6_number, Cond.code yX6_number cX6_number 3 (some .long), Cond.methodLink RX6 172 yX6_wrong, Cond.instanceMethod yX6_wrong, Cond.selects RX6 yX6_wrong yX6_wrong, Cond.code yX6_wrong cX6_wrong 1 (some .long), Cond.methodLink RX6 124 yX6_constant]
def wsX6_read_r3 : List Cond := [Cond.static yX6_constant, Cond.code yX6_constant cX6_constant 1 (some .long), Cond.constantLong RX6 116 (1229782938247303441)]
def wsX6_read : List Cond := .code yX6_read cX6_read 3 (some .int) :: ((wsX6_read_r1 ++ (wsX6_read_r2 ++ wsX6_read_r3)) ++ wsX60)
def wsX6_result : List Cond := .code yX6_result cX6_result 1 (some .long) :: ([.fieldLink RX6 55 "TrickFinderModel" "thrown" "I", .fieldLink RX6 192 "TrickFinderModel" "result" "J"] ++ wsX60)
def wsX6_digest : List Cond := .code yX6_digest cX6_digest 5 (some .long) :: ([.fieldLink RX6 55 "TrickFinderModel" "thrown" "I", .constantLong RX6 196 (367), .constantLong RX6 198 (31), .fieldLink RX6 9 "TrickFinderModel" "prices" "[I", .fieldLink RX6 13 "TrickFinderModel" "areAllowed" "[Z", .fieldLink RX6 17 "TrickFinderModel" "constantPrice" "I", .fieldLink RX6 21 "TrickFinderModel" "areConstants" "[Z", .fieldLink RX6 110 "TrickFinderModel" "entries" "I", .fieldLink RX6 24 "TrickFinderModel" "functions" "[J", .fieldLink RX6 144 "TrickFinderModel" "papered" "I", .fieldLink RX6 49 "TrickFinderModel" "paper" "[I", .fieldLink RX6 160 "TrickFinderModel" "length" "I", .fieldLink RX6 192 "TrickFinderModel" "result" "J", .methodLink RX6 136 yX6_told, .instanceMethod yX6_told, .selects RX6 yX6_told yX6_told, .initialized RX6, .code yX6_told cX6_told 3 (some .int), .fieldLink RX6 28 "TrickFinderModel" "costs" "[I", .fieldLink RX6 31 "TrickFinderModel" "ops" "[I", .fieldLink RX6 34 "TrickFinderModel" "firsts" "[I", .fieldLink RX6 37 "TrickFinderModel" "seconds" "[I"] ++ wsX60)
def wsL_allow : List Cond := .codeWith yL_allow cL_allow 5 (some .int) [(0, 10, 13, 13)] :: ([.classLink RL 13 "java/lang/IndexOutOfBoundsException", .methodLink RL 7 yX5_allow, .instanceMethod yX5_allow, .selects RX5 yX5_allow yX5_allow, .initialized RX5, .code yX5_allow cX5_allow 3 (some .int), .classLink RX5 41 "java/lang/IndexOutOfBoundsException", .initialized "java/lang/IndexOutOfBoundsException", .fieldLink RX5 10 "TrickFinder" "settings" "LTrickFinder$Settings;", .fieldLink RX5 48 "TrickFinder$Settings" "isAllowed" "[Z", .methodLink RX5 37 yX5_isOperation, .static yX5_isOperation, .code yX5_isOperation cX5_isOperation 1 (some .boolean), .methodLink RX5 52 yX5_countOn, .static yX5_countOn, .code yX5_countOn cX5_countOn 6 (some .int)] ++ wsX50 ++ wsX30 ++ (vx_atS RX5 45 "java/lang/IndexOutOfBoundsException" ["java/lang/RuntimeException", "java/lang/Exception"]).filter goodWord)
def wsL_setPrice : List Cond := .codeWith yL_setPrice cL_setPrice 5 (some .int) [(0, 10, 13, 13), (0, 10, 17, 19)] :: ([.classLink RL 13 "java/lang/IndexOutOfBoundsException", .classLink RL 19 "java/lang/IllegalArgumentException", .methodLink RL 15 yX5_setPrice, .instanceMethod yX5_setPrice, .selects RX5 yX5_setPrice yX5_setPrice, .initialized RX5, .code yX5_setPrice cX5_setPrice 5 (some .int), .classLink RX5 41 "java/lang/IndexOutOfBoundsException", .initialized "java/lang/IndexOutOfBoundsException", .classLink RX5 56 "java/lang/IllegalArgumentException", .initialized "java/lang/IllegalArgumentException", .fieldLink RX5 10 "TrickFinder" "settings" "LTrickFinder$Settings;", .fieldLink RX5 61 "TrickFinder$Settings" "prices" "[I", .methodLink RX5 37 yX5_isOperation, .static yX5_isOperation, .code yX5_isOperation cX5_isOperation 1 (some .boolean)] ++ wsX50 ++ wsX30 ++ (vx_atS RX5 45 "java/lang/IndexOutOfBoundsException" ["java/lang/RuntimeException", "java/lang/Exception"]).filter goodWord ++ (vx_atS RX5 60 "java/lang/IllegalArgumentException" ["java/lang/RuntimeException", "java/lang/Exception"]).filter goodWord)
def wsL_setConstant : List Cond := .codeWith yL_setConstant cL_setConstant 5 (some .int) [(0, 10, 13, 19)] :: ([.classLink RL 19 "java/lang/IllegalArgumentException", .methodLink RL 21 yX5_setConstant, .instanceMethod yX5_setConstant, .selects RX5 yX5_setConstant yX5_setConstant, .initialized RX5, .code yX5_setConstant cX5_setConstant 3 (some .int), .classLink RX5 56 "java/lang/IllegalArgumentException", .initialized "java/lang/IllegalArgumentException", .fieldLink RX5 10 "TrickFinder" "settings" "LTrickFinder$Settings;", .fieldLink RX5 70 "TrickFinder$Settings" "isConstantAllowed" "[Z", .methodLink RX5 65 yX5_isInput, .static yX5_isInput, .code yX5_isInput cX5_isInput 1 (some .boolean), .methodLink RX5 52 yX5_countOn, .static yX5_countOn, .code yX5_countOn cX5_countOn 6 (some .int)] ++ wsX50 ++ wsX30 ++ (vx_atS RX5 60 "java/lang/IllegalArgumentException" ["java/lang/RuntimeException", "java/lang/Exception"]).filter goodWord)
def wsL_value : List Cond := .codeWith yL_value cL_value 6 (some .int) [(0, 11, 14, 19)] :: ([.classLink RL 19 "java/lang/IllegalArgumentException", .methodLink RL 24 yX5_value, .instanceMethod yX5_value, .selects RX5 yX5_value yX5_value, .initialized RX5, .code yX5_value cX5_value 4 (some .int), .classLink RX5 56 "java/lang/IllegalArgumentException", .initialized "java/lang/IllegalArgumentException", .methodLink RX5 65 yX5_isInput, .static yX5_isInput, .code yX5_isInput cX5_isInput 1 (some .boolean), .methodLink RX5 75 yX0_valueAt, .static yX0_valueAt, .initialized RX0, .code yX0_valueAt cX0_valueAt 3 (some .int)] ++ (vx_atS RX5 60 "java/lang/IllegalArgumentException" ["java/lang/RuntimeException", "java/lang/Exception"]).filter goodWord)
def wsL_apply_r1 : List Cond := [Cond.classLink RL 13 "java/lang/IndexOutOfBoundsException", Cond.methodLink RL 28 yX5_apply, Cond.instanceMethod yX5_apply, Cond.selects RX5 yX5_apply yX5_apply, Cond.initialized RX5, Cond.code yX5_apply cX5_apply 6 (some .long), Cond.classLink RX5 41 "java/lang/IndexOutOfBoundsException", Cond.initialized "java/lang/IndexOutOfBoundsException", Cond.methodLink RX5 37 yX5_isOperation, Cond.static yX5_isOperation, Cond.code yX5_isOperation cX5_isOperation 1 (some .boolean), Cond.methodLink RX5 81 yX0_made, Cond.static yX0_made, Cond.initialized RX0, Cond.code yX0_made cX0_made 5 (some .long), Cond.constantLong RX0 13 (-1), Cond.constantLong RX0 23 (8608480567731124087), Cond.methodLink RX0 15 yX0_difference, Cond.static yX0_difference, Cond.code yX0_difference cX0_difference 4 (some .long), Cond.constantLong RX0 31 (-8608480567731124088), Cond.methodLink RX0 19 yX0_twice, Cond.static yX0_twice, Cond.code yX0_twice cX0_twice 2 (some .long)]
def wsL_apply_r2 : List Cond := [Cond.methodLink RX0 25 yX0_sum, Cond.static yX0_sum, Cond.code yX0_sum cX0_sum 4 (some .long), Cond.methodLink RX0 28 yX0_product, Cond.static yX0_product, Cond.code yX0_product cX0_product 11 (some .long), Cond.constantLong RX0 11 (1229782938247303441), Cond.constantLong RX0 33 (15)]
def wsL_apply : List Cond := .codeWith yL_apply cL_apply 8 (some .int) [(0, 12, 15, 13)] :: ((wsL_apply_r1 ++ wsL_apply_r2) ++ (vx_atS RX5 45 "java/lang/IndexOutOfBoundsException" ["java/lang/RuntimeException", "java/lang/Exception"]).filter goodWord)
def wsL_inverse_r1 : List Cond := [Cond.classLink RL 36 "java/lang/IllegalStateException", Cond.methodLink RL 32 yX5_inverse, Cond.instanceMethod yX5_inverse, Cond.selects RX5 yX5_inverse yX5_inverse, Cond.initialized RX5, Cond.code yX5_inverse cX5_inverse 3 (some .long), Cond.classLink RX5 93 "java/lang/IllegalStateException", Cond.initialized "java/lang/IllegalStateException", Cond.methodLink RX5 89 yX0_countValues, Cond.static yX0_countValues, Cond.initialized RX0, Cond.code yX0_countValues cX0_countValues 2 (some .int), Cond.constant RX0 45 (65535), Cond.methodLink RX0 46 yX0_image, Cond.static yX0_image, Cond.code yX0_image cX0_image 5 (some .int), Cond.methodLink RX0 35 yX0_valueAt, Cond.static yX0_valueAt, Cond.code yX0_valueAt cX0_valueAt 3 (some .int), Cond.methodLink RX0 49 yJ6_bitCount_0f7a4, Cond.static yJ6_bitCount_0f7a4, Cond.initialized RJ6, Cond.code yJ6_bitCount_0f7a4 cJ6_bitCount_0f7a4 1 (some .int), Cond.constant RJ6 265 (1431655765)]
def wsL_inverse_r2 : List Cond := [Cond.constant RJ6 266 (858993459), Cond.constant RJ6 267 (252645135), Cond.methodLink RX5 98 yX0_inverseOf, Cond.static yX0_inverseOf, Cond.code yX0_inverseOf cX0_inverseOf 5 (some .long)]
def wsL_inverse : List Cond := .codeWith yL_inverse cL_inverse 5 (some .int) [(0, 8, 11, 36)] :: ((wsL_inverse_r1 ++ wsL_inverse_r2) ++ (vx_atS RX5 97 "java/lang/IllegalStateException" ["java/lang/RuntimeException", "java/lang/Exception"]).filter goodWord)
def wsL_measure_r1 : List Cond := [Cond.classLink RL 13 "java/lang/IndexOutOfBoundsException", Cond.methodLink RL 38 yX5_measure, Cond.instanceMethod yX5_measure, Cond.selects RX5 yX5_measure yX5_measure, Cond.initialized RX5, Cond.code yX5_measure cX5_measure 4 (some .int), Cond.classLink RX5 41 "java/lang/IndexOutOfBoundsException", Cond.initialized "java/lang/IndexOutOfBoundsException", Cond.constantLong RX5 102 (-81985529216486896), Cond.methodLink RX5 104 yX0_countDifferences, Cond.static yX0_countDifferences, Cond.initialized RX0, Cond.code yX0_countDifferences cX0_countDifferences 6 (some .int), Cond.constantLong RX0 11 (1229782938247303441), Cond.methodLink RX0 39 yJ13_bitCount_95d88, Cond.static yJ13_bitCount_95d88, Cond.initialized RJ13, Cond.code yJ13_bitCount_95d88 cJ13_bitCount_95d88 2 (some .int), Cond.constantLong RJ13 314 (6148914691236517205), Cond.constantLong RJ13 316 (3689348814741910323), Cond.constantLong RJ13 318 (1085102592571150095), Cond.methodLink RX5 89 yX0_countValues, Cond.static yX0_countValues, Cond.code yX0_countValues cX0_countValues 2 (some .int)]
def wsL_measure_r2 : List Cond := [Cond.constant RX0 45 (65535), Cond.methodLink RX0 46 yX0_image, Cond.static yX0_image, Cond.code yX0_image cX0_image 5 (some .int), Cond.methodLink RX0 35 yX0_valueAt, Cond.static yX0_valueAt, Cond.code yX0_valueAt cX0_valueAt 3 (some .int), Cond.methodLink RX0 49 yJ6_bitCount_0f7a4, Cond.static yJ6_bitCount_0f7a4, Cond.initialized RJ6, Cond.code yJ6_bitCount_0f7a4 cJ6_bitCount_0f7a4 1 (some .int), Cond.constant RJ6 265 (1431655765), Cond.constant RJ6 266 (858993459), Cond.constant RJ6 267 (252645135), Cond.methodLink RX5 108 yJ13_bitCount_95d88, Cond.methodLink RX5 113 yX0_returningInputs, Cond.static yX0_returningInputs, Cond.code yX0_returningInputs cX0_returningInputs 4 (some .int), Cond.methodLink RX5 116 yJ6_bitCount_0f7a4, Cond.methodLink RX5 121 yX0_stepsToReturning, Cond.static yX0_stepsToReturning, Cond.code yX0_stepsToReturning cX0_stepsToReturning 5 (some .int), Cond.methodLink RX0 54 yX0_returningInputs]
def wsL_measure : List Cond := .codeWith yL_measure cL_measure 6 (some .int) [(0, 11, 14, 13)] :: ((wsL_measure_r1 ++ wsL_measure_r2) ++ (vx_atS RX5 45 "java/lang/IndexOutOfBoundsException" ["java/lang/RuntimeException", "java/lang/Exception"]).filter goodWord)
def wsL_is : List Cond := .codeWith yL_is cL_is 6 (some .int) [(0, 18, 21, 13)] :: ([.classLink RL 13 "java/lang/IndexOutOfBoundsException", .methodLink RL 41 yX5_is, .instanceMethod yX5_is, .selects RX5 yX5_is yX5_is, .initialized RX5, .code yX5_is cX5_is 4 (some .boolean), .classLink RX5 41 "java/lang/IndexOutOfBoundsException", .initialized "java/lang/IndexOutOfBoundsException", .methodLink RX5 126 yX0_isLinear, .static yX0_isLinear, .initialized RX0, .code yX0_isLinear cX0_isLinear 4 (some .boolean), .methodLink RX0 35 yX0_valueAt, .static yX0_valueAt, .code yX0_valueAt cX0_valueAt 3 (some .int), .methodLink RX5 130 yX0_isRising, .static yX0_isRising, .code yX0_isRising cX0_isRising 3 (some .boolean), .methodLink RX5 85 yX0_after, .static yX0_after, .code yX0_after cX0_after 7 (some .long), .methodLink RX5 133 yX0_isOfLowerBits, .static yX0_isOfLowerBits, .code yX0_isOfLowerBits cX0_isOfLowerBits 6 (some .boolean)] ++ (vx_atS RX5 45 "java/lang/IndexOutOfBoundsException" ["java/lang/RuntimeException", "java/lang/Exception"]).filter goodWord)
def wsL_search_r1 : List Cond := [Cond.classLink RL 19 "java/lang/IllegalArgumentException", Cond.methodLink RL 45 yX5_search, Cond.instanceMethod yX5_search, Cond.selects RX5 yX5_search yX5_search, Cond.initialized RX5, Cond.code yX5_search cX5_search 2 (some .int), Cond.classLink RX5 56 "java/lang/IllegalArgumentException", Cond.initialized "java/lang/IllegalArgumentException", Cond.fieldLink RX5 19 "TrickFinder" "row" "LTrickFinder$Row;", Cond.fieldLink RX5 10 "TrickFinder" "settings" "LTrickFinder$Settings;", Cond.fieldLink RX5 147 "TrickFinder$Row" "count" "I", Cond.methodLink RX5 138 yX5_isCost, Cond.static yX5_isCost, Cond.code yX5_isCost cX5_isCost 1 (some .boolean), Cond.methodLink RX5 143 yX2_make, Cond.instanceMethod yX2_make, Cond.selects RX2 yX2_make yX2_make, Cond.initialized RX2, Cond.code yX2_make cX2_make 4 none, Cond.fieldLink RX2 40 "TrickFinder$Row" "count" "I", Cond.fieldLink RX2 28 "TrickFinder$Row" "slots" "[I", Cond.fieldLink RX2 25 "TrickFinder$Row" "starts" "[I", Cond.methodLink RX2 34 yJ7_fill_53178, Cond.static yJ7_fill_53178]
def wsL_search_r2 : List Cond := [Cond.initialized RJ7, Cond.code yJ7_fill_53178 cJ7_fill_53178 4 none, Cond.methodLink RX2 44 yX2_makeCost, Cond.instanceMethod yX2_makeCost, Cond.selects RX2 yX2_makeCost yX2_makeCost, Cond.code yX2_makeCost cX2_makeCost 5 none, Cond.constantLong RX2 48 (-81985529216486896), Cond.fieldLink RX2 64 "TrickFinder$Settings" "prices" "[I", Cond.fieldLink RX2 67 "TrickFinder$Settings" "isAllowed" "[Z", Cond.methodLink RX2 50 yX2_add, Cond.instanceMethod yX2_add, Cond.selects RX2 yX2_add yX2_add, Cond.code yX2_add cX2_add 7 none, Cond.fieldLink RX2 11 "TrickFinder$Row" "functions" "[J", Cond.fieldLink RX2 15 "TrickFinder$Row" "operations" "[I", Cond.fieldLink RX2 19 "TrickFinder$Row" "firsts" "[I", Cond.fieldLink RX2 22 "TrickFinder$Row" "seconds" "[I", Cond.methodLink RX2 99 yX2_slotOf, Cond.instanceMethod yX2_slotOf, Cond.selects RX2 yX2_slotOf yX2_slotOf, Cond.code yX2_slotOf cX2_slotOf 6 (some .int), Cond.constantLong RX2 103 (-7046029254386353131), Cond.methodLink RX2 91 yX2_isFull, Cond.instanceMethod yX2_isFull]
def wsL_search_r3 : List Cond := [Cond.selects RX2 yX2_isFull yX2_isFull, Cond.code yX2_isFull cX2_isFull 1 (some .boolean), Cond.methodLink RX2 54 yX3_priceOfConstants, Cond.instanceMethod yX3_priceOfConstants, Cond.selects RX3 yX3_priceOfConstants yX3_priceOfConstants, Cond.initialized RX3, Cond.code yX3_priceOfConstants cX3_priceOfConstants 1 (some .int), Cond.fieldLink RX3 9 "TrickFinder$Settings" "prices" "[I", Cond.methodLink RX2 60 yX2_addConstants, Cond.instanceMethod yX2_addConstants, Cond.selects RX2 yX2_addConstants yX2_addConstants, Cond.code yX2_addConstants cX2_addConstants 3 none, Cond.fieldLink RX2 82 "TrickFinder$Settings" "isConstantAllowed" "[Z", Cond.methodLink RX2 85 yX0_constant, Cond.static yX0_constant, Cond.initialized RX0, Cond.code yX0_constant cX0_constant 1 (some .long), Cond.constantLong RX0 11 (1229782938247303441), Cond.static yX5_hasTwoArguments, Cond.code yX5_hasTwoArguments cX5_hasTwoArguments 1 (some .boolean), Cond.methodLink RX2 75 yX2_addOfTwo, Cond.instanceMethod yX2_addOfTwo, Cond.selects RX2 yX2_addOfTwo yX2_addOfTwo, Cond.code yX2_addOfTwo cX2_addOfTwo 7 none]
def wsL_search_r4 : List Cond := [Cond.methodLink RX2 95 yX0_made, Cond.static yX0_made, Cond.code yX0_made cX0_made 5 (some .long), Cond.constantLong RX0 13 (-1), Cond.constantLong RX0 23 (8608480567731124087), Cond.methodLink RX0 15 yX0_difference, Cond.static yX0_difference, Cond.code yX0_difference cX0_difference 4 (some .long), Cond.constantLong RX0 31 (-8608480567731124088), Cond.methodLink RX0 19 yX0_twice, Cond.static yX0_twice, Cond.code yX0_twice cX0_twice 2 (some .long), Cond.methodLink RX0 25 yX0_sum, Cond.static yX0_sum, Cond.code yX0_sum cX0_sum 4 (some .long), Cond.methodLink RX0 28 yX0_product, Cond.static yX0_product, Cond.code yX0_product cX0_product 11 (some .long), Cond.constantLong RX0 33 (15), Cond.methodLink RX2 79 yX2_addOfOne, Cond.instanceMethod yX2_addOfOne, Cond.selects RX2 yX2_addOfOne yX2_addOfOne, Cond.code yX2_addOfOne cX2_addOfOne 5 none]
def wsL_search : List Cond := .codeWith yL_search cL_search 4 (some .int) [(0, 9, 12, 19)] :: ((wsL_search_r1 ++ (wsL_search_r2 ++ (wsL_search_r3 ++ wsL_search_r4))) ++ wsX50 ++ wsX20 ++ wsX30 ++ (vx_atS RX5 60 "java/lang/IllegalArgumentException" ["java/lang/RuntimeException", "java/lang/Exception"]).filter goodWord)
def wsL_ofCost : List Cond := .codeWith yL_ofCost cL_ofCost 4 (some .int) [(0, 9, 12, 19)] :: ([.classLink RL 19 "java/lang/IllegalArgumentException", .methodLink RL 49 yX5_ofCost, .instanceMethod yX5_ofCost, .selects RX5 yX5_ofCost yX5_ofCost, .initialized RX5, .code yX5_ofCost cX5_ofCost 2 (some .int), .classLink RX5 56 "java/lang/IllegalArgumentException", .initialized "java/lang/IllegalArgumentException", .fieldLink RX5 19 "TrickFinder" "row" "LTrickFinder$Row;", .methodLink RX5 138 yX5_isCost, .static yX5_isCost, .code yX5_isCost cX5_isCost 1 (some .boolean), .methodLink RX5 153 yX2_countOfCost, .instanceMethod yX2_countOfCost, .selects RX2 yX2_countOfCost yX2_countOfCost, .initialized RX2, .code yX2_countOfCost cX2_countOfCost 2 (some .int), .fieldLink RX2 25 "TrickFinder$Row" "starts" "[I"] ++ wsX50 ++ wsX20 ++ (vx_atS RX5 60 "java/lang/IllegalArgumentException" ["java/lang/RuntimeException", "java/lang/Exception"]).filter goodWord)
def wsL_function : List Cond := .codeWith yL_function cL_function 4 (some .int) [(0, 8, 11, 13)] :: ([.classLink RL 13 "java/lang/IndexOutOfBoundsException", .methodLink RL 52 yX5_function, .instanceMethod yX5_function, .selects RX5 yX5_function yX5_function, .initialized RX5, .code yX5_function cX5_function 2 (some .long), .classLink RX5 41 "java/lang/IndexOutOfBoundsException", .initialized "java/lang/IndexOutOfBoundsException", .fieldLink RX5 19 "TrickFinder" "row" "LTrickFinder$Row;", .fieldLink RX5 161 "TrickFinder$Row" "functions" "[J", .methodLink RX5 156 yX2_has, .instanceMethod yX2_has, .selects RX2 yX2_has yX2_has, .initialized RX2, .code yX2_has cX2_has 2 (some .boolean), .fieldLink RX2 40 "TrickFinder$Row" "count" "I"] ++ wsX50 ++ wsX20 ++ (vx_atS RX5 45 "java/lang/IndexOutOfBoundsException" ["java/lang/RuntimeException", "java/lang/Exception"]).filter goodWord)
def wsL_entry : List Cond := .codeWith yL_entry cL_entry 5 (some .int) [(0, 10, 13, 13)] :: ([.classLink RL 13 "java/lang/IndexOutOfBoundsException", .methodLink RL 56 yX5_entry, .instanceMethod yX5_entry, .selects RX5 yX5_entry yX5_entry, .initialized RX5, .code yX5_entry cX5_entry 3 (some .int), .classLink RX5 41 "java/lang/IndexOutOfBoundsException", .initialized "java/lang/IndexOutOfBoundsException", .fieldLink RX5 19 "TrickFinder" "row" "LTrickFinder$Row;", .fieldLink RX5 168 "TrickFinder$Row" "operations" "[I", .fieldLink RX5 171 "TrickFinder$Row" "firsts" "[I", .fieldLink RX5 174 "TrickFinder$Row" "seconds" "[I", .methodLink RX5 156 yX2_has, .instanceMethod yX2_has, .selects RX2 yX2_has yX2_has, .initialized RX2, .code yX2_has cX2_has 2 (some .boolean), .fieldLink RX2 40 "TrickFinder$Row" "count" "I", .methodLink RX5 165 yX2_costOf, .instanceMethod yX2_costOf, .selects RX2 yX2_costOf yX2_costOf, .code yX2_costOf cX2_costOf 3 (some .int), .fieldLink RX2 25 "TrickFinder$Row" "starts" "[I"] ++ wsX50 ++ wsX20 ++ (vx_atS RX5 45 "java/lang/IndexOutOfBoundsException" ["java/lang/RuntimeException", "java/lang/Exception"]).filter goodWord)
def wsL_fit : List Cond := .codeWith yL_fit cL_fit 6 (some .int) [(0, 11, 14, 19)] :: ([.classLink RL 19 "java/lang/IllegalArgumentException", .methodLink RL 59 yX5_fit, .instanceMethod yX5_fit, .selects RX5 yX5_fit yX5_fit, .initialized RX5, .code yX5_fit cX5_fit 4 (some .int), .classLink RX5 56 "java/lang/IllegalArgumentException", .initialized "java/lang/IllegalArgumentException", .constant RX5 182 (65535), .fieldLink RX5 19 "TrickFinder" "row" "LTrickFinder$Row;", .methodLink RX5 185 yX0_maskOf, .static yX0_maskOf, .initialized RX0, .code yX0_maskOf cX0_maskOf 4 (some .long), .constantLong RX0 33 (15), .methodLink RX5 189 yX2_firstAlike, .instanceMethod yX2_firstAlike, .selects RX2 yX2_firstAlike yX2_firstAlike, .initialized RX2, .code yX2_firstAlike cX2_firstAlike 6 (some .int), .fieldLink RX2 40 "TrickFinder$Row" "count" "I", .fieldLink RX2 11 "TrickFinder$Row" "functions" "[J"] ++ wsX50 ++ wsX20 ++ (vx_atS RX5 60 "java/lang/IllegalArgumentException" ["java/lang/RuntimeException", "java/lang/Exception"]).filter goodWord)
def wsL_parts_r1 : List Cond := [Cond.classLink RL 13 "java/lang/IndexOutOfBoundsException", Cond.methodLink RL 62 yX5_parts, Cond.instanceMethod yX5_parts, Cond.selects RX5 yX5_parts yX5_parts, Cond.initialized RX5, Cond.code yX5_parts cX5_parts 2 (some .int), Cond.classLink RX5 41 "java/lang/IndexOutOfBoundsException", Cond.initialized "java/lang/IndexOutOfBoundsException", Cond.fieldLink RX5 19 "TrickFinder" "row" "LTrickFinder$Row;", Cond.methodLink RX5 156 yX2_has, Cond.instanceMethod yX2_has, Cond.selects RX2 yX2_has yX2_has, Cond.initialized RX2, Cond.code yX2_has cX2_has 2 (some .boolean), Cond.fieldLink RX2 40 "TrickFinder$Row" "count" "I", Cond.methodLink RX5 195 yX2_countParts, Cond.instanceMethod yX2_countParts, Cond.selects RX2 yX2_countParts yX2_countParts, Cond.code yX2_countParts cX2_countParts 5 (some .int), Cond.fieldLink RX2 31 "TrickFinder$Row" "partsFound" "[I", Cond.fieldLink RX2 15 "TrickFinder$Row" "operations" "[I", Cond.fieldLink RX2 19 "TrickFinder$Row" "firsts" "[I", Cond.fieldLink RX2 22 "TrickFinder$Row" "seconds" "[I", Cond.methodLink RX2 113 yX2_withPart]
def wsL_parts_r2 : List Cond := [Cond.instanceMethod yX2_withPart, Cond.selects RX2 yX2_withPart yX2_withPart, Cond.code yX2_withPart cX2_withPart 4 (some .int), Cond.methodLink RX2 117 yX2_has]
def wsL_parts : List Cond := .codeWith yL_parts cL_parts 4 (some .int) [(0, 9, 12, 13)] :: ((wsL_parts_r1 ++ wsL_parts_r2) ++ wsX50 ++ wsX20 ++ (vx_atS RX5 45 "java/lang/IndexOutOfBoundsException" ["java/lang/RuntimeException", "java/lang/Exception"]).filter goodWord)
def wsL_write_r1 : List Cond := [Cond.classLink RL 13 "java/lang/IndexOutOfBoundsException", Cond.methodLink RL 65 yX5_write, Cond.instanceMethod yX5_write, Cond.selects RX5 yX5_write yX5_write, Cond.initialized RX5, Cond.code yX5_write cX5_write 2 (some .int), Cond.classLink RX5 41 "java/lang/IndexOutOfBoundsException", Cond.initialized "java/lang/IndexOutOfBoundsException", Cond.fieldLink RX5 19 "TrickFinder" "row" "LTrickFinder$Row;", Cond.fieldLink RX5 26 "TrickFinder" "paper" "LTrickFinder$Paper;", Cond.fieldLink RX5 202 "TrickFinder$Paper" "length" "I", Cond.methodLink RX5 156 yX2_has, Cond.instanceMethod yX2_has, Cond.selects RX2 yX2_has yX2_has, Cond.initialized RX2, Cond.code yX2_has cX2_has 2 (some .boolean), Cond.fieldLink RX2 40 "TrickFinder$Row" "count" "I", Cond.instanceMethod yX1_putEntry, Cond.initialized RX1, Cond.selects RX1 yX1_putEntry yX1_putEntry, Cond.code yX1_putEntry cX1_putEntry 5 none, Cond.fieldLink RX1 25 "TrickFinder$Row" "operations" "[I", Cond.fieldLink RX1 32 "TrickFinder$Row" "firsts" "[I", Cond.fieldLink RX1 49 "TrickFinder$Row" "seconds" "[I"]
def wsL_write_r2 : List Cond := [Cond.methodLink RX1 19 yX2_has, Cond.methodLink RX1 28 yX1_put, Cond.instanceMethod yX1_put, Cond.selects RX1 yX1_put yX1_put, Cond.code yX1_put cX1_put 2 none, Cond.fieldLink RX1 15 "TrickFinder$Paper" "length" "I", Cond.fieldLink RX1 11 "TrickFinder$Paper" "bytes" "[I", Cond.methodLink RX1 35 yX1_putNumber, Cond.instanceMethod yX1_putNumber, Cond.selects RX1 yX1_putNumber yX1_putNumber, Cond.code yX1_putNumber cX1_putNumber 2 none, Cond.static yX5_hasTwoArguments, Cond.code yX5_hasTwoArguments cX5_hasTwoArguments 1 (some .boolean), Cond.methodLink RX1 41 yX1_putArgument, Cond.instanceMethod yX1_putArgument, Cond.selects RX1 yX1_putArgument yX1_putArgument, Cond.static yX5_isOperation, Cond.code yX5_isOperation cX5_isOperation 1 (some .boolean), Cond.code yX1_putArgument cX1_putArgument 5 none, Cond.methodLink RX1 55 yX1_putEntry]
def wsL_write : List Cond := .codeWith yL_write cL_write 4 (some .int) [(0, 9, 12, 13)] :: ((wsL_write_r1 ++ wsL_write_r2) ++ wsX50 ++ wsX10 ++ wsX20 ++ (vx_atS RX5 45 "java/lang/IndexOutOfBoundsException" ["java/lang/RuntimeException", "java/lang/Exception"]).filter goodWord)
def wsL_byteAt : List Cond := .codeWith yL_byteAt cL_byteAt 4 (some .int) [(0, 9, 12, 13)] :: ([.classLink RL 13 "java/lang/IndexOutOfBoundsException", .methodLink RL 68 yX5_byteAt, .instanceMethod yX5_byteAt, .selects RX5 yX5_byteAt yX5_byteAt, .initialized RX5, .code yX5_byteAt cX5_byteAt 2 (some .int), .classLink RX5 41 "java/lang/IndexOutOfBoundsException", .initialized "java/lang/IndexOutOfBoundsException", .fieldLink RX5 26 "TrickFinder" "paper" "LTrickFinder$Paper;", .fieldLink RX5 202 "TrickFinder$Paper" "length" "I", .fieldLink RX5 211 "TrickFinder$Paper" "bytes" "[I"] ++ wsX50 ++ wsX10 ++ (vx_atS RX5 45 "java/lang/IndexOutOfBoundsException" ["java/lang/RuntimeException", "java/lang/Exception"]).filter goodWord)
def wsL_feed : List Cond := .codeWith yL_feed cL_feed 8 (some .int) [(0, 16, 19, 36)] :: ([.classLink RL 36 "java/lang/IllegalStateException", .methodLink RL 71 yX5_feed, .instanceMethod yX5_feed, .selects RX5 yX5_feed yX5_feed, .initialized RX5, .code yX5_feed cX5_feed 6 (some .int), .classLink RX5 93 "java/lang/IllegalStateException", .initialized "java/lang/IllegalStateException", .fieldLink RX5 33 "TrickFinder" "tape" "LTrickFinder$Tape;", .fieldLink RX5 214 "TrickFinder$Tape" "length" "I", .methodLink RX5 217 yX4_append, .instanceMethod yX4_append, .selects RX4 yX4_append yX4_append, .initialized RX4, .code yX4_append cX4_append 3 none, .fieldLink RX4 15 "TrickFinder$Tape" "length" "I", .fieldLink RX4 11 "TrickFinder$Tape" "bytes" "[I"] ++ wsX50 ++ wsX40 ++ (vx_atS RX5 97 "java/lang/IllegalStateException" ["java/lang/RuntimeException", "java/lang/Exception"]).filter goodWord)
def wsL_trim : List Cond := .codeWith yL_trim cL_trim 4 (some .int) [(0, 9, 12, 19)] :: ([.classLink RL 19 "java/lang/IllegalArgumentException", .methodLink RL 75 yX5_trim, .instanceMethod yX5_trim, .selects RX5 yX5_trim yX5_trim, .initialized RX5, .code yX5_trim cX5_trim 2 (some .int), .classLink RX5 56 "java/lang/IllegalArgumentException", .initialized "java/lang/IllegalArgumentException", .fieldLink RX5 33 "TrickFinder" "tape" "LTrickFinder$Tape;", .fieldLink RX5 214 "TrickFinder$Tape" "length" "I"] ++ wsX50 ++ wsX40 ++ (vx_atS RX5 60 "java/lang/IllegalArgumentException" ["java/lang/RuntimeException", "java/lang/Exception"]).filter goodWord)
def wsL_law0_r1 : List Cond := [Cond.classLink RL 8 RX5, Cond.instantiable RX5 4, Cond.initialized RX5, Cond.classLink RL 79 RX6, Cond.instantiable RX6 21, Cond.initialized RX6, Cond.arrayClass .long, Cond.constantLong RL 99 (4294967295), Cond.methodLink RL 78 yX5_init, Cond.instanceMethod yX5_init, Cond.code yX5_init cX5_init 1 none, Cond.methodLink RX5 1 objectInit, Cond.instanceMethod objectInit, Cond.code objectInit ⟨#[0xb1]⟩ 1 none, Cond.classLink RX5 7 RX3, Cond.instantiable RX3 3, Cond.initialized RX3, Cond.fieldLink RX5 10 "TrickFinder" "settings" "LTrickFinder$Settings;", Cond.classLink RX5 16 RX2, Cond.instantiable RX2 8, Cond.initialized RX2, Cond.fieldLink RX5 19 "TrickFinder" "row" "LTrickFinder$Row;", Cond.classLink RX5 23 RX1, Cond.instantiable RX1 2]
def wsL_law0_r2 : List Cond := [Cond.initialized RX1, Cond.fieldLink RX5 26 "TrickFinder" "paper" "LTrickFinder$Paper;", Cond.classLink RX5 30 RX4, Cond.instantiable RX4 5, Cond.initialized RX4, Cond.fieldLink RX5 33 "TrickFinder" "tape" "LTrickFinder$Tape;", Cond.methodLink RX5 9 yX3_init, Cond.instanceMethod yX3_init, Cond.code yX3_init cX3_init 2 none, Cond.methodLink RX3 3 objectInit, Cond.arrayClass .int, Cond.fieldLink RX3 9 "TrickFinder$Settings" "prices" "[I", Cond.arrayClass .boolean, Cond.fieldLink RX3 15 "TrickFinder$Settings" "isAllowed" "[Z", Cond.fieldLink RX3 19 "TrickFinder$Settings" "isConstantAllowed" "[Z", Cond.methodLink RX3 22 yJ7_fill_53178, Cond.static yJ7_fill_53178, Cond.initialized RJ7, Cond.code yJ7_fill_53178 cJ7_fill_53178 4 none, Cond.methodLink RX5 18 yX2_init, Cond.instanceMethod yX2_init, Cond.code yX2_init cX2_init 1 none, Cond.methodLink RX2 3 objectInit, Cond.fieldLink RX2 11 "TrickFinder$Row" "functions" "[J"]
def wsL_law0_r3 : List Cond := [Cond.fieldLink RX2 15 "TrickFinder$Row" "operations" "[I", Cond.fieldLink RX2 19 "TrickFinder$Row" "firsts" "[I", Cond.fieldLink RX2 22 "TrickFinder$Row" "seconds" "[I", Cond.fieldLink RX2 25 "TrickFinder$Row" "starts" "[I", Cond.fieldLink RX2 28 "TrickFinder$Row" "slots" "[I", Cond.fieldLink RX2 31 "TrickFinder$Row" "partsFound" "[I", Cond.methodLink RX2 34 yJ7_fill_53178, Cond.instanceMethod yX1_init, Cond.code yX1_init cX1_init 1 none, Cond.methodLink RX1 3 objectInit, Cond.fieldLink RX1 11 "TrickFinder$Paper" "bytes" "[I", Cond.instanceMethod yX4_init, Cond.code yX4_init cX4_init 1 none, Cond.methodLink RX4 3 objectInit, Cond.fieldLink RX4 11 "TrickFinder$Tape" "bytes" "[I", Cond.methodLink RL 81 yX6_init, Cond.instanceMethod yX6_init, Cond.code yX6_init cX6_init 2 none, Cond.methodLink RX6 1 objectInit, Cond.fieldLink RX6 9 "TrickFinderModel" "prices" "[I", Cond.fieldLink RX6 13 "TrickFinderModel" "areAllowed" "[Z", Cond.fieldLink RX6 17 "TrickFinderModel" "constantPrice" "I", Cond.fieldLink RX6 21 "TrickFinderModel" "areConstants" "[Z", Cond.fieldLink RX6 24 "TrickFinderModel" "functions" "[J"]
def wsL_law0_r4 : List Cond := [Cond.fieldLink RX6 28 "TrickFinderModel" "costs" "[I", Cond.fieldLink RX6 31 "TrickFinderModel" "ops" "[I", Cond.fieldLink RX6 34 "TrickFinderModel" "firsts" "[I", Cond.fieldLink RX6 37 "TrickFinderModel" "seconds" "[I", Cond.fieldLink RX6 40 "TrickFinderModel" "latest" "[I", Cond.fieldLink RX6 43 "TrickFinderModel" "ahead" "[I", Cond.fieldLink RX6 46 "TrickFinderModel" "begins" "[I", Cond.fieldLink RX6 49 "TrickFinderModel" "paper" "[I", Cond.fieldLink RX6 52 "TrickFinderModel" "tape" "[I", Cond.methodLink RL 82 yL_allow, Cond.static yL_allow, Cond.initialized RL, Cond.codeWith yL_allow cL_allow 5 (some .int) [(0, 10, 13, 13)], Cond.classLink RL 13 "java/lang/IndexOutOfBoundsException", Cond.methodLink RL 7 yX5_allow, Cond.instanceMethod yX5_allow, Cond.selects RX5 yX5_allow yX5_allow, Cond.code yX5_allow cX5_allow 3 (some .int), Cond.classLink RX5 41 "java/lang/IndexOutOfBoundsException", Cond.initialized "java/lang/IndexOutOfBoundsException", Cond.fieldLink RX5 48 "TrickFinder$Settings" "isAllowed" "[Z", Cond.methodLink RX5 37 yX5_isOperation, Cond.static yX5_isOperation, Cond.code yX5_isOperation cX5_isOperation 1 (some .boolean)]
def wsL_law0_r5 : List Cond := [Cond.methodLink RX5 52 yX5_countOn, Cond.static yX5_countOn, Cond.code yX5_countOn cX5_countOn 6 (some .int), Cond.methodLink RL 87 yX6_allow, Cond.instanceMethod yX6_allow, Cond.selects RX6 yX6_allow yX6_allow, Cond.code yX6_allow cX6_allow 3 (some .int), Cond.fieldLink RX6 55 "TrickFinderModel" "thrown" "I", Cond.methodLink RX6 58 yX6_isIn, Cond.static yX6_isIn, Cond.code yX6_isIn cX6_isIn 3 (some .boolean), Cond.methodLink RX6 62 yX6_no, Cond.instanceMethod yX6_no, Cond.selects RX6 yX6_no yX6_no, Cond.code yX6_no cX6_no 2 (some .int), Cond.methodLink RX6 66 yX6_count, Cond.static yX6_count, Cond.code yX6_count cX6_count 6 (some .int), Cond.methodLink RL 88 yX6_thrown, Cond.instanceMethod yX6_thrown, Cond.selects RX6 yX6_thrown yX6_thrown, Cond.code yX6_thrown cX6_thrown 1 (some .int), Cond.methodLink RL 92 yL_setPrice, Cond.static yL_setPrice]
def wsL_law0_r6 : List Cond := [Cond.codeWith yL_setPrice cL_setPrice 5 (some .int) [(0, 10, 13, 13), (0, 10, 17, 19)], Cond.classLink RL 19 "java/lang/IllegalArgumentException", Cond.methodLink RL 15 yX5_setPrice, Cond.instanceMethod yX5_setPrice, Cond.selects RX5 yX5_setPrice yX5_setPrice, Cond.code yX5_setPrice cX5_setPrice 5 (some .int), Cond.classLink RX5 56 "java/lang/IllegalArgumentException", Cond.initialized "java/lang/IllegalArgumentException", Cond.fieldLink RX5 61 "TrickFinder$Settings" "prices" "[I", Cond.methodLink RL 95 yX6_setPrice, Cond.instanceMethod yX6_setPrice, Cond.selects RX6 yX6_setPrice yX6_setPrice, Cond.code yX6_setPrice cX6_setPrice 4 (some .int), Cond.methodLink RL 96 yL_setConstant, Cond.static yL_setConstant, Cond.codeWith yL_setConstant cL_setConstant 5 (some .int) [(0, 10, 13, 19)], Cond.methodLink RL 21 yX5_setConstant, Cond.instanceMethod yX5_setConstant, Cond.selects RX5 yX5_setConstant yX5_setConstant, Cond.code yX5_setConstant cX5_setConstant 3 (some .int), Cond.fieldLink RX5 70 "TrickFinder$Settings" "isConstantAllowed" "[Z", Cond.methodLink RX5 65 yX5_isInput, Cond.static yX5_isInput, Cond.code yX5_isInput cX5_isInput 1 (some .boolean)]
def wsL_law0_r7 : List Cond := [Cond.methodLink RL 98 yX6_setConstant, Cond.instanceMethod yX6_setConstant, Cond.selects RX6 yX6_setConstant yX6_setConstant, Cond.code yX6_setConstant cX6_setConstant 3 (some .int), Cond.methodLink RL 101 yL_value, Cond.static yL_value, Cond.codeWith yL_value cL_value 6 (some .int) [(0, 11, 14, 19)], Cond.methodLink RL 24 yX5_value, Cond.instanceMethod yX5_value, Cond.selects RX5 yX5_value yX5_value, Cond.code yX5_value cX5_value 4 (some .int), Cond.methodLink RX5 75 yX0_valueAt, Cond.static yX0_valueAt, Cond.initialized RX0, Cond.code yX0_valueAt cX0_valueAt 3 (some .int), Cond.methodLink RL 104 yX6_value, Cond.instanceMethod yX6_value, Cond.selects RX6 yX6_value yX6_value, Cond.code yX6_value cX6_value 4 (some .int), Cond.methodLink RX6 70 yX6_at, Cond.static yX6_at, Cond.code yX6_at cX6_at 3 (some .int), Cond.methodLink RL 105 yL_apply, Cond.static yL_apply]
def wsL_law0_r8 : List Cond := [Cond.codeWith yL_apply cL_apply 8 (some .int) [(0, 12, 15, 13)], Cond.methodLink RL 28 yX5_apply, Cond.instanceMethod yX5_apply, Cond.selects RX5 yX5_apply yX5_apply, Cond.code yX5_apply cX5_apply 6 (some .long), Cond.methodLink RX5 81 yX0_made, Cond.static yX0_made, Cond.code yX0_made cX0_made 5 (some .long), Cond.constantLong RX0 13 (-1), Cond.constantLong RX0 23 (8608480567731124087), Cond.methodLink RX0 15 yX0_difference, Cond.static yX0_difference, Cond.code yX0_difference cX0_difference 4 (some .long), Cond.constantLong RX0 31 (-8608480567731124088), Cond.methodLink RX0 19 yX0_twice, Cond.static yX0_twice, Cond.code yX0_twice cX0_twice 2 (some .long), Cond.methodLink RX0 25 yX0_sum, Cond.static yX0_sum, Cond.code yX0_sum cX0_sum 4 (some .long), Cond.methodLink RX0 28 yX0_product, Cond.static yX0_product, Cond.code yX0_product cX0_product 11 (some .long), Cond.constantLong RX0 11 (1229782938247303441)]
def wsL_law0_r9 : List Cond := [Cond.constantLong RX0 33 (15), Cond.methodLink RL 108 yX6_apply, Cond.instanceMethod yX6_apply, Cond.selects RX6 yX6_apply yX6_apply, Cond.code yX6_apply cX6_apply 6 (some .long), Cond.methodLink RX6 78 yX6_made, Cond.static yX6_made, Cond.code yX6_made cX6_made 8 (some .long), Cond.methodLink RX6 74 yX6_reckon, Cond.static yX6_reckon, Cond.code yX6_reckon cX6_reckon 3 (some .int), Cond.methodLink RL 109 yX5_compose, Cond.instanceMethod yX5_compose, Cond.selects RX5 yX5_compose yX5_compose, Cond.code yX5_compose cX5_compose 5 (some .long), Cond.methodLink RX5 85 yX0_after, Cond.static yX0_after, Cond.code yX0_after cX0_after 7 (some .long), Cond.methodLink RX0 35 yX0_valueAt, Cond.methodLink RL 113 yX6_compose, Cond.instanceMethod yX6_compose, Cond.selects RX6 yX6_compose yX6_compose, Cond.code yX6_compose cX6_compose 8 (some .long), Cond.methodLink RL 114 yL_inverse]
def wsL_law0_r10 : List Cond := [Cond.static yL_inverse, Cond.codeWith yL_inverse cL_inverse 5 (some .int) [(0, 8, 11, 36)], Cond.classLink RL 36 "java/lang/IllegalStateException", Cond.methodLink RL 32 yX5_inverse, Cond.instanceMethod yX5_inverse, Cond.selects RX5 yX5_inverse yX5_inverse, Cond.code yX5_inverse cX5_inverse 3 (some .long), Cond.classLink RX5 93 "java/lang/IllegalStateException", Cond.initialized "java/lang/IllegalStateException", Cond.methodLink RX5 89 yX0_countValues, Cond.static yX0_countValues, Cond.code yX0_countValues cX0_countValues 2 (some .int), Cond.constant RX0 45 (65535), Cond.methodLink RX0 46 yX0_image, Cond.static yX0_image, Cond.code yX0_image cX0_image 5 (some .int), Cond.methodLink RX0 49 yJ6_bitCount_0f7a4, Cond.static yJ6_bitCount_0f7a4, Cond.initialized RJ6, Cond.code yJ6_bitCount_0f7a4 cJ6_bitCount_0f7a4 1 (some .int), Cond.constant RJ6 265 (1431655765), Cond.constant RJ6 266 (858993459), Cond.constant RJ6 267 (252645135), Cond.methodLink RX5 98 yX0_inverseOf]
def wsL_law0_r11 : List Cond := [Cond.static yX0_inverseOf, Cond.code yX0_inverseOf cX0_inverseOf 5 (some .long), Cond.methodLink RL 117 yX6_inverse, Cond.instanceMethod yX6_inverse, Cond.selects RX6 yX6_inverse yX6_inverse, Cond.code yX6_inverse cX6_inverse 6 (some .long), Cond.methodLink RX6 87 yX6_values, Cond.static yX6_values, Cond.code yX6_values cX6_values 4 (some .int), Cond.methodLink RX6 82 yJ6_bitCount_0f7a4, Cond.methodLink RL 118 yL_measure, Cond.static yL_measure, Cond.codeWith yL_measure cL_measure 6 (some .int) [(0, 11, 14, 13)], Cond.methodLink RL 38 yX5_measure, Cond.instanceMethod yX5_measure, Cond.selects RX5 yX5_measure yX5_measure, Cond.code yX5_measure cX5_measure 4 (some .int), Cond.constantLong RX5 102 (-81985529216486896), Cond.methodLink RX5 104 yX0_countDifferences, Cond.static yX0_countDifferences, Cond.code yX0_countDifferences cX0_countDifferences 6 (some .int), Cond.methodLink RX0 39 yJ13_bitCount_95d88, Cond.static yJ13_bitCount_95d88, Cond.initialized RJ13]
def wsL_law0_r12 : List Cond := [Cond.code yJ13_bitCount_95d88 cJ13_bitCount_95d88 2 (some .int), Cond.constantLong RJ13 314 (6148914691236517205), Cond.constantLong RJ13 316 (3689348814741910323), Cond.constantLong RJ13 318 (1085102592571150095), Cond.methodLink RX5 108 yJ13_bitCount_95d88, Cond.methodLink RX5 113 yX0_returningInputs, Cond.static yX0_returningInputs, Cond.code yX0_returningInputs cX0_returningInputs 4 (some .int), Cond.methodLink RX5 116 yJ6_bitCount_0f7a4, Cond.methodLink RX5 121 yX0_stepsToReturning, Cond.static yX0_stepsToReturning, Cond.code yX0_stepsToReturning cX0_stepsToReturning 5 (some .int), Cond.methodLink RX0 54 yX0_returningInputs, Cond.methodLink RL 120 yX6_measure, Cond.instanceMethod yX6_measure, Cond.selects RX6 yX6_measure yX6_measure, Cond.code yX6_measure cX6_measure 6 (some .int), Cond.methodLink RX6 95 yX6_returning, Cond.static yX6_returning, Cond.code yX6_returning cX6_returning 4 (some .int), Cond.constant RX6 91 (65535), Cond.methodLink RX6 92 yX6_through, Cond.static yX6_through, Cond.code yX6_through cX6_through 5 (some .int)]
def wsL_law0_r13 : List Cond := [Cond.methodLink RX6 98 yX6_tail, Cond.static yX6_tail, Cond.code yX6_tail cX6_tail 4 (some .int), Cond.methodLink RL 121 yL_is, Cond.static yL_is, Cond.codeWith yL_is cL_is 6 (some .int) [(0, 18, 21, 13)], Cond.methodLink RL 41 yX5_is, Cond.instanceMethod yX5_is, Cond.selects RX5 yX5_is yX5_is, Cond.code yX5_is cX5_is 4 (some .boolean), Cond.methodLink RX5 126 yX0_isLinear, Cond.static yX0_isLinear, Cond.code yX0_isLinear cX0_isLinear 4 (some .boolean), Cond.methodLink RX5 130 yX0_isRising, Cond.static yX0_isRising, Cond.code yX0_isRising cX0_isRising 3 (some .boolean), Cond.methodLink RX5 133 yX0_isOfLowerBits, Cond.static yX0_isOfLowerBits, Cond.code yX0_isOfLowerBits cX0_isOfLowerBits 6 (some .boolean), Cond.methodLink RL 123 yX6_is, Cond.instanceMethod yX6_is, Cond.selects RX6 yX6_is yX6_is, Cond.code yX6_is cX6_is 6 (some .boolean), Cond.methodLink RX6 101 yX6_isFor]
def wsL_law0_r14 : List Cond := [Cond.static yX6_isFor, Cond.code yX6_isFor cX6_isFor 7 (some .boolean), Cond.methodLink RL 124 yL_search, Cond.static yL_search, Cond.codeWith yL_search cL_search 4 (some .int) [(0, 9, 12, 19)], Cond.methodLink RL 45 yX5_search, Cond.instanceMethod yX5_search, Cond.selects RX5 yX5_search yX5_search, Cond.code yX5_search cX5_search 2 (some .int), Cond.fieldLink RX5 147 "TrickFinder$Row" "count" "I", Cond.methodLink RX5 138 yX5_isCost, Cond.static yX5_isCost, Cond.code yX5_isCost cX5_isCost 1 (some .boolean), Cond.methodLink RX5 143 yX2_make, Cond.instanceMethod yX2_make, Cond.selects RX2 yX2_make yX2_make, Cond.code yX2_make cX2_make 4 none, Cond.fieldLink RX2 40 "TrickFinder$Row" "count" "I", Cond.methodLink RX2 44 yX2_makeCost, Cond.instanceMethod yX2_makeCost, Cond.selects RX2 yX2_makeCost yX2_makeCost, Cond.code yX2_makeCost cX2_makeCost 5 none, Cond.constantLong RX2 48 (-81985529216486896), Cond.fieldLink RX2 64 "TrickFinder$Settings" "prices" "[I"]
def wsL_law0_r15 : List Cond := [Cond.fieldLink RX2 67 "TrickFinder$Settings" "isAllowed" "[Z", Cond.methodLink RX2 50 yX2_add, Cond.instanceMethod yX2_add, Cond.selects RX2 yX2_add yX2_add, Cond.code yX2_add cX2_add 7 none, Cond.methodLink RX2 99 yX2_slotOf, Cond.instanceMethod yX2_slotOf, Cond.selects RX2 yX2_slotOf yX2_slotOf, Cond.code yX2_slotOf cX2_slotOf 6 (some .int), Cond.constantLong RX2 103 (-7046029254386353131), Cond.methodLink RX2 91 yX2_isFull, Cond.instanceMethod yX2_isFull, Cond.selects RX2 yX2_isFull yX2_isFull, Cond.code yX2_isFull cX2_isFull 1 (some .boolean), Cond.methodLink RX2 54 yX3_priceOfConstants, Cond.instanceMethod yX3_priceOfConstants, Cond.selects RX3 yX3_priceOfConstants yX3_priceOfConstants, Cond.code yX3_priceOfConstants cX3_priceOfConstants 1 (some .int), Cond.methodLink RX2 60 yX2_addConstants, Cond.instanceMethod yX2_addConstants, Cond.selects RX2 yX2_addConstants yX2_addConstants, Cond.code yX2_addConstants cX2_addConstants 3 none, Cond.fieldLink RX2 82 "TrickFinder$Settings" "isConstantAllowed" "[Z", Cond.methodLink RX2 85 yX0_constant]
def wsL_law0_r16 : List Cond := [Cond.static yX0_constant, Cond.code yX0_constant cX0_constant 1 (some .long), Cond.static yX5_hasTwoArguments, Cond.code yX5_hasTwoArguments cX5_hasTwoArguments 1 (some .boolean), Cond.methodLink RX2 75 yX2_addOfTwo, Cond.instanceMethod yX2_addOfTwo, Cond.selects RX2 yX2_addOfTwo yX2_addOfTwo, Cond.code yX2_addOfTwo cX2_addOfTwo 7 none, Cond.methodLink RX2 95 yX0_made, Cond.methodLink RX2 79 yX2_addOfOne, Cond.instanceMethod yX2_addOfOne, Cond.selects RX2 yX2_addOfOne yX2_addOfOne, Cond.code yX2_addOfOne cX2_addOfOne 5 none, Cond.methodLink RL 127 yX6_search, Cond.instanceMethod yX6_search, Cond.selects RX6 yX6_search yX6_search, Cond.code yX6_search cX6_search 4 (some .int), Cond.fieldLink RX6 110 "TrickFinderModel" "entries" "I", Cond.constantLong RX6 122 (-81985529216486896), Cond.methodLink RX6 118 yX6_add, Cond.instanceMethod yX6_add, Cond.selects RX6 yX6_add yX6_add, Cond.code yX6_add cX6_add 7 none, Cond.methodLink RX6 113 yX6_entryOf]
def wsL_law0_r17 : List Cond := [Cond.instanceMethod yX6_entryOf, Cond.selects RX6 yX6_entryOf yX6_entryOf, Cond.code yX6_entryOf cX6_entryOf 4 (some .int), Cond.methodLink RX6 107 yX6_chain, Cond.static yX6_chain, Cond.code yX6_chain cX6_chain 2 (some .int), Cond.constantLong RX6 105 (1023), Cond.methodLink RX6 124 yX6_constant, Cond.static yX6_constant, Cond.code yX6_constant cX6_constant 1 (some .long), Cond.constantLong RX6 116 (1229782938247303441), Cond.methodLink RX6 128 yX6_addAll, Cond.instanceMethod yX6_addAll, Cond.selects RX6 yX6_addAll yX6_addAll, Cond.code yX6_addAll cX6_addAll 7 none, Cond.methodLink RL 128 yX5_entries, Cond.instanceMethod yX5_entries, Cond.selects RX5 yX5_entries yX5_entries, Cond.code yX5_entries cX5_entries 1 (some .int), Cond.methodLink RL 131 yX6_entries, Cond.instanceMethod yX6_entries, Cond.selects RX6 yX6_entries yX6_entries, Cond.code yX6_entries cX6_entries 1 (some .int), Cond.methodLink RL 132 yL_ofCost]
def wsL_law0_r18 : List Cond := [Cond.static yL_ofCost, Cond.codeWith yL_ofCost cL_ofCost 4 (some .int) [(0, 9, 12, 19)], Cond.methodLink RL 49 yX5_ofCost, Cond.instanceMethod yX5_ofCost, Cond.selects RX5 yX5_ofCost yX5_ofCost, Cond.code yX5_ofCost cX5_ofCost 2 (some .int), Cond.methodLink RX5 153 yX2_countOfCost, Cond.instanceMethod yX2_countOfCost, Cond.selects RX2 yX2_countOfCost yX2_countOfCost, Cond.code yX2_countOfCost cX2_countOfCost 2 (some .int), Cond.methodLink RL 134 yX6_ofCost, Cond.instanceMethod yX6_ofCost, Cond.selects RX6 yX6_ofCost yX6_ofCost, Cond.code yX6_ofCost cX6_ofCost 4 (some .int), Cond.methodLink RL 135 yL_function, Cond.static yL_function, Cond.codeWith yL_function cL_function 4 (some .int) [(0, 8, 11, 13)], Cond.methodLink RL 52 yX5_function, Cond.instanceMethod yX5_function, Cond.selects RX5 yX5_function yX5_function, Cond.code yX5_function cX5_function 2 (some .long), Cond.fieldLink RX5 161 "TrickFinder$Row" "functions" "[J", Cond.methodLink RX5 156 yX2_has, Cond.instanceMethod yX2_has]
def wsL_law0_r19 : List Cond := [Cond.selects RX2 yX2_has yX2_has, Cond.code yX2_has cX2_has 2 (some .boolean), Cond.methodLink RL 137 yX6_function, Cond.instanceMethod yX6_function, Cond.selects RX6 yX6_function yX6_function, Cond.code yX6_function cX6_function 2 (some .long), Cond.methodLink RX6 132 yX6_isEntry, Cond.instanceMethod yX6_isEntry, Cond.selects RX6 yX6_isEntry yX6_isEntry, Cond.code yX6_isEntry cX6_isEntry 2 (some .boolean), Cond.methodLink RL 138 yL_entry, Cond.static yL_entry, Cond.codeWith yL_entry cL_entry 5 (some .int) [(0, 10, 13, 13)], Cond.methodLink RL 56 yX5_entry, Cond.instanceMethod yX5_entry, Cond.selects RX5 yX5_entry yX5_entry, Cond.code yX5_entry cX5_entry 3 (some .int), Cond.fieldLink RX5 168 "TrickFinder$Row" "operations" "[I", Cond.fieldLink RX5 171 "TrickFinder$Row" "firsts" "[I", Cond.fieldLink RX5 174 "TrickFinder$Row" "seconds" "[I", Cond.methodLink RX5 165 yX2_costOf, Cond.instanceMethod yX2_costOf, Cond.selects RX2 yX2_costOf yX2_costOf, Cond.code yX2_costOf cX2_costOf 3 (some .int)]
def wsL_law0_r20 : List Cond := [Cond.methodLink RL 140 yX6_entry, Cond.instanceMethod yX6_entry, Cond.selects RX6 yX6_entry yX6_entry, Cond.code yX6_entry cX6_entry 3 (some .int), Cond.methodLink RX6 136 yX6_told, Cond.instanceMethod yX6_told, Cond.selects RX6 yX6_told yX6_told, Cond.code yX6_told cX6_told 3 (some .int), Cond.methodLink RL 141 yX5_find, Cond.instanceMethod yX5_find, Cond.selects RX5 yX5_find yX5_find, Cond.code yX5_find cX5_find 3 (some .int), Cond.methodLink RX5 179 yX2_entryWith, Cond.instanceMethod yX2_entryWith, Cond.selects RX2 yX2_entryWith yX2_entryWith, Cond.code yX2_entryWith cX2_entryWith 4 (some .int), Cond.methodLink RL 145 yX6_find, Cond.instanceMethod yX6_find, Cond.selects RX6 yX6_find yX6_find, Cond.code yX6_find cX6_find 3 (some .int), Cond.methodLink RL 146 yL_fit, Cond.static yL_fit, Cond.codeWith yL_fit cL_fit 6 (some .int) [(0, 11, 14, 19)], Cond.methodLink RL 59 yX5_fit]
def wsL_law0_r21 : List Cond := [Cond.instanceMethod yX5_fit, Cond.selects RX5 yX5_fit yX5_fit, Cond.code yX5_fit cX5_fit 4 (some .int), Cond.constant RX5 182 (65535), Cond.methodLink RX5 185 yX0_maskOf, Cond.static yX0_maskOf, Cond.code yX0_maskOf cX0_maskOf 4 (some .long), Cond.methodLink RX5 189 yX2_firstAlike, Cond.instanceMethod yX2_firstAlike, Cond.selects RX2 yX2_firstAlike yX2_firstAlike, Cond.code yX2_firstAlike cX2_firstAlike 6 (some .int), Cond.methodLink RL 148 yX6_fit, Cond.instanceMethod yX6_fit, Cond.selects RX6 yX6_fit yX6_fit, Cond.code yX6_fit cX6_fit 5 (some .int), Cond.methodLink RX6 140 yX6_unlike, Cond.static yX6_unlike, Cond.code yX6_unlike cX6_unlike 6 (some .int), Cond.methodLink RL 149 yX5_near, Cond.instanceMethod yX5_near, Cond.selects RX5 yX5_near yX5_near, Cond.code yX5_near cX5_near 3 (some .int), Cond.methodLink RX5 192 yX2_firstNearest, Cond.instanceMethod yX2_firstNearest]
def wsL_law0_r22 : List Cond := [Cond.selects RX2 yX2_firstNearest yX2_firstNearest, Cond.code yX2_firstNearest cX2_firstNearest 7 (some .int), Cond.methodLink RX2 105 yX0_countDifferences, Cond.methodLink RL 152 yX6_near, Cond.instanceMethod yX6_near, Cond.selects RX6 yX6_near yX6_near, Cond.code yX6_near cX6_near 7 (some .int), Cond.methodLink RL 153 yL_parts, Cond.static yL_parts, Cond.codeWith yL_parts cL_parts 4 (some .int) [(0, 9, 12, 13)], Cond.methodLink RL 62 yX5_parts, Cond.instanceMethod yX5_parts, Cond.selects RX5 yX5_parts yX5_parts, Cond.code yX5_parts cX5_parts 2 (some .int), Cond.methodLink RX5 195 yX2_countParts, Cond.instanceMethod yX2_countParts, Cond.selects RX2 yX2_countParts yX2_countParts, Cond.code yX2_countParts cX2_countParts 5 (some .int), Cond.methodLink RX2 113 yX2_withPart, Cond.instanceMethod yX2_withPart, Cond.selects RX2 yX2_withPart yX2_withPart, Cond.code yX2_withPart cX2_withPart 4 (some .int), Cond.methodLink RX2 117 yX2_has, Cond.methodLink RL 155 yX6_parts]
def wsL_law0_r23 : List Cond := [Cond.instanceMethod yX6_parts, Cond.selects RX6 yX6_parts yX6_parts, Cond.code yX6_parts cX6_parts 5 (some .int), Cond.methodLink RL 156 yX5_meanCost, Cond.instanceMethod yX5_meanCost, Cond.selects RX5 yX5_meanCost yX5_meanCost, Cond.code yX5_meanCost cX5_meanCost 1 (some .double), Cond.methodLink RX5 198 yX2_sumOfCosts, Cond.instanceMethod yX2_sumOfCosts, Cond.selects RX2 yX2_sumOfCosts yX2_sumOfCosts, Cond.code yX2_sumOfCosts cX2_sumOfCosts 3 (some .int), Cond.methodLink RX2 109 yX2_countOfCost, Cond.methodLink RL 160 yX6_meanCost, Cond.instanceMethod yX6_meanCost, Cond.selects RX6 yX6_meanCost yX6_meanCost, Cond.code yX6_meanCost cX6_meanCost 3 (some .double), Cond.methodLink RL 161 yL_write, Cond.static yL_write, Cond.codeWith yL_write cL_write 4 (some .int) [(0, 9, 12, 13)], Cond.methodLink RL 65 yX5_write, Cond.instanceMethod yX5_write, Cond.selects RX5 yX5_write yX5_write, Cond.code yX5_write cX5_write 2 (some .int), Cond.fieldLink RX5 202 "TrickFinder$Paper" "length" "I"]
def wsL_law0_r24 : List Cond := [Cond.instanceMethod yX1_putEntry, Cond.selects RX1 yX1_putEntry yX1_putEntry, Cond.code yX1_putEntry cX1_putEntry 5 none, Cond.fieldLink RX1 25 "TrickFinder$Row" "operations" "[I", Cond.fieldLink RX1 32 "TrickFinder$Row" "firsts" "[I", Cond.fieldLink RX1 49 "TrickFinder$Row" "seconds" "[I", Cond.methodLink RX1 19 yX2_has, Cond.methodLink RX1 28 yX1_put, Cond.instanceMethod yX1_put, Cond.selects RX1 yX1_put yX1_put, Cond.code yX1_put cX1_put 2 none, Cond.fieldLink RX1 15 "TrickFinder$Paper" "length" "I", Cond.methodLink RX1 35 yX1_putNumber, Cond.instanceMethod yX1_putNumber, Cond.selects RX1 yX1_putNumber yX1_putNumber, Cond.code yX1_putNumber cX1_putNumber 2 none, Cond.methodLink RX1 41 yX1_putArgument, Cond.instanceMethod yX1_putArgument, Cond.selects RX1 yX1_putArgument yX1_putArgument, Cond.code yX1_putArgument cX1_putArgument 5 none, Cond.methodLink RX1 55 yX1_putEntry, Cond.methodLink RL 163 yX6_write, Cond.instanceMethod yX6_write, Cond.selects RX6 yX6_write yX6_write]
def wsL_law0_r25 : List Cond := [Cond.code yX6_write cX6_write 2 (some .int), Cond.fieldLink RX6 144 "TrickFinderModel" "papered" "I", Cond.methodLink RX6 151 yX6_putEntry, Cond.instanceMethod yX6_putEntry, Cond.selects RX6 yX6_putEntry yX6_putEntry, Cond.code yX6_putEntry cX6_putEntry 3 none, Cond.fieldLink RX6 157 "TrickFinderModel" "SIGNS" "[I", Cond.methodLink RX6 147 yX6_put, Cond.instanceMethod yX6_put, Cond.selects RX6 yX6_put yX6_put, Cond.code yX6_put cX6_put 2 none, Cond.methodLink RX6 154 yX6_putArgument, Cond.instanceMethod yX6_putArgument, Cond.selects RX6 yX6_putArgument yX6_putArgument, Cond.code yX6_putArgument cX6_putArgument 3 none, Cond.methodLink RL 164 yL_byteAt, Cond.static yL_byteAt, Cond.codeWith yL_byteAt cL_byteAt 4 (some .int) [(0, 9, 12, 13)], Cond.methodLink RL 68 yX5_byteAt, Cond.instanceMethod yX5_byteAt, Cond.selects RX5 yX5_byteAt yX5_byteAt, Cond.code yX5_byteAt cX5_byteAt 2 (some .int), Cond.fieldLink RX5 211 "TrickFinder$Paper" "bytes" "[I", Cond.methodLink RL 166 yX6_byteAt]
def wsL_law0_r26 : List Cond := [Cond.instanceMethod yX6_byteAt, Cond.selects RX6 yX6_byteAt yX6_byteAt, Cond.code yX6_byteAt cX6_byteAt 2 (some .int), Cond.methodLink RL 167 yL_feed, Cond.static yL_feed, Cond.codeWith yL_feed cL_feed 8 (some .int) [(0, 16, 19, 36)], Cond.methodLink RL 71 yX5_feed, Cond.instanceMethod yX5_feed, Cond.selects RX5 yX5_feed yX5_feed, Cond.code yX5_feed cX5_feed 6 (some .int), Cond.fieldLink RX5 214 "TrickFinder$Tape" "length" "I", Cond.methodLink RX5 217 yX4_append, Cond.instanceMethod yX4_append, Cond.selects RX4 yX4_append yX4_append, Cond.code yX4_append cX4_append 3 none, Cond.fieldLink RX4 15 "TrickFinder$Tape" "length" "I", Cond.methodLink RL 170 yX6_feed, Cond.instanceMethod yX6_feed, Cond.selects RX6 yX6_feed yX6_feed, Cond.code yX6_feed cX6_feed 12 (some .int), Cond.fieldLink RX6 160 "TrickFinderModel" "length" "I", Cond.methodLink RL 171 yL_trim, Cond.static yL_trim, Cond.codeWith yL_trim cL_trim 4 (some .int) [(0, 9, 12, 19)]]
def wsL_law0_r27 : List Cond := [Cond.methodLink RL 75 yX5_trim, Cond.instanceMethod yX5_trim, Cond.selects RX5 yX5_trim yX5_trim, Cond.code yX5_trim cX5_trim 2 (some .int), Cond.methodLink RL 173 yX6_trim, Cond.instanceMethod yX6_trim, Cond.selects RX6 yX6_trim yX6_trim, Cond.code yX6_trim cX6_trim 2 (some .int), Cond.methodLink RL 174 yX5_read, Cond.instanceMethod yX5_read, Cond.selects RX5 yX5_read yX5_read, Cond.code yX5_read cX5_read 1 (some .int), Cond.methodLink RX5 223 yX4_takeFormula, Cond.instanceMethod yX4_takeFormula, Cond.selects RX4 yX4_takeFormula yX4_takeFormula, Cond.code yX4_takeFormula cX4_takeFormula 3 (some .int), Cond.fieldLink RX4 19 "TrickFinder$Tape" "place" "I", Cond.fieldLink RX4 22 "TrickFinder$Tape" "error" "I", Cond.fieldLink RX4 40 "TrickFinder$Tape" "lastFormula" "J", Cond.methodLink RX4 25 yX4_readFormula, Cond.instanceMethod yX4_readFormula, Cond.selects RX4 yX4_readFormula yX4_readFormula, Cond.code yX4_readFormula cX4_readFormula 7 (some .long), Cond.methodLink RX4 47 yX4_readPart]
def wsL_law0_r28 : List Cond := [Cond.instanceMethod yX4_readPart, Cond.selects RX4 yX4_readPart yX4_readPart, Cond.methodLink RX4 29 yX4_hasError, Cond.instanceMethod yX4_hasError, Cond.selects RX4 yX4_hasError yX4_hasError, Cond.code yX4_hasError cX4_hasError 1 (some .boolean), Cond.methodLink RX4 33 yX4_next, Cond.instanceMethod yX4_next, Cond.selects RX4 yX4_next yX4_next, Cond.code yX4_next cX4_next 1 (some .int), Cond.methodLink RX4 44 yX4_here, Cond.instanceMethod yX4_here, Cond.selects RX4 yX4_here yX4_here, Cond.code yX4_here cX4_here 1 (some .int), Cond.methodLink RX4 50 yX4_operationOf, Cond.static yX4_operationOf, Cond.code yX4_operationOf cX4_operationOf 4 (some .int), Cond.methodLink RX4 54 yX0_made, Cond.code yX4_readEnclosed cX4_readEnclosed 4 (some .long), Cond.methodLink RX4 37 yX4_failAt, Cond.instanceMethod yX4_failAt, Cond.selects RX4 yX4_failAt yX4_failAt, Cond.code yX4_failAt cX4_failAt 2 (some .long), Cond.code yX4_readPart cX4_readPart 5 (some .long)]
def wsL_law0_r29 : List Cond := [Cond.constantLong RX4 60 (-81985529216486896), Cond.methodLink RX4 62 yX4_isDigit, Cond.static yX4_isDigit, Cond.code yX4_isDigit cX4_isDigit 1 (some .boolean), Cond.methodLink RX4 66 yX4_readNumber, Cond.instanceMethod yX4_readNumber, Cond.selects RX4 yX4_readNumber yX4_readNumber, Cond.code yX4_readNumber cX4_readNumber 3 (some .long), Cond.methodLink RX4 73 yX0_constant, Cond.methodLink RX4 70 yX4_readEnclosed, Cond.instanceMethod yX4_readEnclosed, Cond.selects RX4 yX4_readEnclosed yX4_readEnclosed, Cond.methodLink RL 177 yX6_read, Cond.instanceMethod yX6_read, Cond.selects RX6 yX6_read yX6_read, Cond.code yX6_read cX6_read 3 (some .int), Cond.fieldLink RX6 163 "TrickFinderModel" "at" "I", Cond.fieldLink RX6 165 "TrickFinderModel" "isWrong" "Z", Cond.fieldLink RX6 192 "TrickFinderModel" "result" "J", Cond.methodLink RX6 189 yX6_formula, Cond.instanceMethod yX6_formula, Cond.selects RX6 yX6_formula yX6_formula, Cond.code yX6_formula cX6_formula 7 (some .long), Cond.methodLink RX6 186 yX6_part]
def wsL_law0_r30 : List Cond := [Cond.instanceMethod yX6_part, Cond.selects RX6 yX6_part yX6_part, Cond.methodLink RX6 176 yX6_next, Cond.instanceMethod yX6_next, Cond.selects RX6 yX6_next yX6_next, Cond.code yX6_next cX6_next 1 (some .int), Cond.methodLink RX6 183 yX6_opOf, Cond.static yX6_opOf, Cond.code yX6_opOf cX6_opOf 5 (some .int), Cond.code yX6_part cX6_part 6 (some .long), Cond.methodLink RX6 169 yX6_isDigit, Cond.static yX6_isDigit, Cond.code yX6_isDigit cX6_isDigit 1 (some .boolean), Cond.methodLink RX6 180 yX6_number, Cond.instanceMethod yX6_number, Cond.selects RX6 yX6_number yX6_number, Cond.code yX6_number cX6_number 3 (some .long), Cond.methodLink RX6 172 yX6_wrong, Cond.instanceMethod yX6_wrong, Cond.selects RX6 yX6_wrong yX6_wrong, Cond.code yX6_wrong cX6_wrong 1 (some .long), Cond.methodLink RL 178 yX5_result, Cond.instanceMethod yX5_result, Cond.selects RX5 yX5_result yX5_result]
def wsL_law0_r31 : List Cond := [Cond.code yX5_result cX5_result 1 (some .long), Cond.fieldLink RX5 226 "TrickFinder$Tape" "lastFormula" "J", Cond.methodLink RL 182 yX6_result, Cond.instanceMethod yX6_result, Cond.selects RX6 yX6_result yX6_result, Cond.code yX6_result cX6_result 1 (some .long), Cond.methodLink RL 183 yX5_digest, Cond.instanceMethod yX5_digest, Cond.selects RX5 yX5_digest yX5_digest, Cond.code yX5_digest cX5_digest 3 (some .long), Cond.constantLong RX5 230 (367), Cond.methodLink RX5 232 yX3_addTo, Cond.instanceMethod yX3_addTo, Cond.selects RX3 yX3_addTo yX3_addTo, Cond.code yX3_addTo cX3_addTo 9 (some .long), Cond.static yX5_added, Cond.code yX5_added cX5_added 4 (some .long), Cond.constantLong RX5 240 (31), Cond.methodLink RX3 32 yX3_priceOfConstants, Cond.methodLink RX5 235 yX2_addTo, Cond.instanceMethod yX2_addTo, Cond.selects RX2 yX2_addTo yX2_addTo, Cond.code yX2_addTo cX2_addTo 6 (some .long), Cond.methodLink RX2 124 yX2_costOf]
def wsL_law0_r32 : List Cond := [Cond.methodLink RX5 236 yX1_addTo, Cond.instanceMethod yX1_addTo, Cond.selects RX1 yX1_addTo yX1_addTo, Cond.code yX1_addTo cX1_addTo 6 (some .long), Cond.methodLink RX5 237 yX5_added, Cond.methodLink RL 186 yX6_digest, Cond.instanceMethod yX6_digest, Cond.selects RX6 yX6_digest yX6_digest, Cond.code yX6_digest cX6_digest 5 (some .long), Cond.constantLong RX6 196 (367), Cond.constantLong RX6 198 (31)]
def wsL_law0 : List Cond := (wsL_law0_r1 ++ (wsL_law0_r2 ++ (wsL_law0_r3 ++ (wsL_law0_r4 ++ (wsL_law0_r5 ++ (wsL_law0_r6 ++ (wsL_law0_r7 ++ (wsL_law0_r8 ++ (wsL_law0_r9 ++ (wsL_law0_r10 ++ (wsL_law0_r11 ++ (wsL_law0_r12 ++ (wsL_law0_r13 ++ (wsL_law0_r14 ++ (wsL_law0_r15 ++ (wsL_law0_r16 ++ (wsL_law0_r17 ++ (wsL_law0_r18 ++ (wsL_law0_r19 ++ (wsL_law0_r20 ++ (wsL_law0_r21 ++ (wsL_law0_r22 ++ (wsL_law0_r23 ++ (wsL_law0_r24 ++ (wsL_law0_r25 ++ (wsL_law0_r26 ++ (wsL_law0_r27 ++ (wsL_law0_r28 ++ (wsL_law0_r29 ++ (wsL_law0_r30 ++ (wsL_law0_r31 ++ wsL_law0_r32))))))))))))))))))))))))))))))) ++ wsX50 ++ wsX60 ++ wsX30 ++ wsX20 ++ wsX10 ++ wsX40 ++ ([] : List Cond)
def wsL_law : List Cond := wsL_law0 ++ (vx_atS RX5 45 "java/lang/IndexOutOfBoundsException" ["java/lang/RuntimeException", "java/lang/Exception"]).filter goodWord ++ (vx_atS RX5 60 "java/lang/IllegalArgumentException" ["java/lang/RuntimeException", "java/lang/Exception"]).filter goodWord ++ (vx_atS RX5 97 "java/lang/IllegalStateException" ["java/lang/RuntimeException", "java/lang/Exception"]).filter goodWord
abbrev vwCl : List vw_C := [(RX1, TX1, 2), (RX2, TX2, 8), (RX3, TX3, 3), (RX4, TX4, 5), (RX5, TX5, 4), (RX6, TX6, 21)]
end
section
theorem dX0_valueAt_0 : decode cX0_valueAt 0 = .ok (.lload_n 0, 1) := by decide +kernel
theorem dX0_valueAt_1 : decode cX0_valueAt 1 = .ok (.iconst 4, 1) := by decide +kernel
theorem dX0_valueAt_2 : decode cX0_valueAt 2 = .ok (.iload_n 2, 1) := by decide +kernel
theorem dX0_valueAt_3 : decode cX0_valueAt 3 = .ok (.imul, 1) := by decide +kernel
theorem dX0_valueAt_4 : decode cX0_valueAt 4 = .ok (.lushr, 1) := by decide +kernel
theorem dX0_valueAt_5 : decode cX0_valueAt 5 = .ok (.l2i, 1) := by decide +kernel
theorem dX0_valueAt_6 : decode cX0_valueAt 6 = .ok (.bipush 15, 2) := by decide +kernel
theorem dX0_valueAt_8 : decode cX0_valueAt 8 = .ok (.iand, 1) := by decide +kernel
theorem dX0_valueAt_9 : decode cX0_valueAt 9 = .ok (.ireturn, 1) := by decide +kernel
theorem dX0_constant_0 : decode cX0_constant 0 = .ok (.iload_n 0, 1) := by decide +kernel
theorem dX0_constant_1 : decode cX0_constant 1 = .ok (.i2l, 1) := by decide +kernel
theorem dX0_constant_2 : decode cX0_constant 2 = .ok (.ldc2_w 11, 3) := by decide +kernel
theorem dX0_constant_5 : decode cX0_constant 5 = .ok (.lmul, 1) := by decide +kernel
theorem dX0_constant_6 : decode cX0_constant 6 = .ok (.lreturn, 1) := by decide +kernel
set_option maxRecDepth 20000 in
theorem ggX0_made_X0_difference : GoodIn wsX0_made wsX0_difference := goodIn_r _ [6, 7, 2, 1] (by decide +kernel) (by decide +kernel)
set_option maxRecDepth 20000 in
theorem gX0_made_X0_difference : GoodIn wsX0_made (va_wsS RX0 15 yX0_difference wsX0_difference) := goodIn_app (goodIn_of _ (by decide +kernel)) ggX0_made_X0_difference
set_option maxRecDepth 20000 in
theorem ggX0_made_X0_twice : GoodIn wsX0_made wsX0_twice := goodIn_r _ [10, 2] (by decide +kernel) (by decide +kernel)
set_option maxRecDepth 20000 in
theorem gX0_made_X0_twice : GoodIn wsX0_made (va_wsS RX0 19 yX0_twice wsX0_twice) := goodIn_app (goodIn_of _ (by decide +kernel)) ggX0_made_X0_twice
set_option maxRecDepth 20000 in
theorem ggX0_made_X0_sum : GoodIn wsX0_made wsX0_sum := goodIn_r _ [13, 2, 7] (by decide +kernel) (by decide +kernel)
set_option maxRecDepth 20000 in
theorem gX0_made_X0_sum : GoodIn wsX0_made (va_wsS RX0 25 yX0_sum wsX0_sum) := goodIn_app (goodIn_of _ (by decide +kernel)) ggX0_made_X0_sum
set_option maxRecDepth 20000 in
theorem ggX0_made_X0_product : GoodIn wsX0_made wsX0_product := goodIn_r _ [16, 17, 18, 11, 12, 5, 13, 2, 7, 8, 9, 10] (by decide +kernel) (by decide +kernel)
set_option maxRecDepth 20000 in
theorem gX0_made_X0_product : GoodIn wsX0_made (va_wsS RX0 28 yX0_product wsX0_product) := goodIn_app (goodIn_of _ (by decide +kernel)) ggX0_made_X0_product
theorem dX0_made_0 : decode cX0_made 0 = .ok (.iload_n 0, 1) := by decide +kernel
theorem dX0_made_1 : decode cX0_made 1 = .ok (.tableswitch 100 0 8 #[51, 57, 63, 68, 76, 80, 84, 88, 94], 51) := by decide +kernel
theorem dX0_made_52 : decode cX0_made 52 = .ok (.lload_n 1, 1) := by decide +kernel
theorem dX0_made_53 : decode cX0_made 53 = .ok (.ldc2_w 13, 3) := by decide +kernel
theorem dX0_made_56 : decode cX0_made 56 = .ok (.lxor, 1) := by decide +kernel
theorem dX0_made_57 : decode cX0_made 57 = .ok (.lreturn, 1) := by decide +kernel
theorem dX0_made_58 : decode cX0_made 58 = .ok (.lconst 0, 1) := by decide +kernel
theorem dX0_made_59 : decode cX0_made 59 = .ok (.lload_n 1, 1) := by decide +kernel
theorem dX0_made_60 : decode cX0_made 60 = .ok (.invokestatic 15, 3) := by decide +kernel
theorem dX0_made_63 : decode cX0_made 63 = .ok (.lreturn, 1) := by decide +kernel
theorem dX0_made_64 : decode cX0_made 64 = .ok (.lload_n 1, 1) := by decide +kernel
theorem dX0_made_65 : decode cX0_made 65 = .ok (.invokestatic 19, 3) := by decide +kernel
theorem dX0_made_68 : decode cX0_made 68 = .ok (.lreturn, 1) := by decide +kernel
theorem dX0_made_69 : decode cX0_made 69 = .ok (.lload_n 1, 1) := by decide +kernel
theorem dX0_made_70 : decode cX0_made 70 = .ok (.iconst 1, 1) := by decide +kernel
theorem dX0_made_71 : decode cX0_made 71 = .ok (.lushr, 1) := by decide +kernel
theorem dX0_made_72 : decode cX0_made 72 = .ok (.ldc2_w 23, 3) := by decide +kernel
theorem dX0_made_75 : decode cX0_made 75 = .ok (.land, 1) := by decide +kernel
theorem dX0_made_76 : decode cX0_made 76 = .ok (.lreturn, 1) := by decide +kernel
theorem dX0_made_77 : decode cX0_made 77 = .ok (.lload_n 1, 1) := by decide +kernel
theorem dX0_made_78 : decode cX0_made 78 = .ok (.lload_n 3, 1) := by decide +kernel
theorem dX0_made_79 : decode cX0_made 79 = .ok (.land, 1) := by decide +kernel
theorem dX0_made_80 : decode cX0_made 80 = .ok (.lreturn, 1) := by decide +kernel
theorem dX0_made_81 : decode cX0_made 81 = .ok (.lload_n 1, 1) := by decide +kernel
theorem dX0_made_82 : decode cX0_made 82 = .ok (.lload_n 3, 1) := by decide +kernel
theorem dX0_made_83 : decode cX0_made 83 = .ok (.lor, 1) := by decide +kernel
theorem dX0_made_84 : decode cX0_made 84 = .ok (.lreturn, 1) := by decide +kernel
theorem dX0_made_85 : decode cX0_made 85 = .ok (.lload_n 1, 1) := by decide +kernel
theorem dX0_made_86 : decode cX0_made 86 = .ok (.lload_n 3, 1) := by decide +kernel
theorem dX0_made_87 : decode cX0_made 87 = .ok (.lxor, 1) := by decide +kernel
theorem dX0_made_88 : decode cX0_made 88 = .ok (.lreturn, 1) := by decide +kernel
theorem dX0_made_89 : decode cX0_made 89 = .ok (.lload_n 1, 1) := by decide +kernel
theorem dX0_made_90 : decode cX0_made 90 = .ok (.lload_n 3, 1) := by decide +kernel
theorem dX0_made_91 : decode cX0_made 91 = .ok (.invokestatic 25, 3) := by decide +kernel
theorem dX0_made_94 : decode cX0_made 94 = .ok (.lreturn, 1) := by decide +kernel
theorem dX0_made_95 : decode cX0_made 95 = .ok (.lload_n 1, 1) := by decide +kernel
theorem dX0_made_96 : decode cX0_made 96 = .ok (.lload_n 3, 1) := by decide +kernel
theorem dX0_made_97 : decode cX0_made 97 = .ok (.invokestatic 15, 3) := by decide +kernel
theorem dX0_made_100 : decode cX0_made 100 = .ok (.lreturn, 1) := by decide +kernel
theorem dX0_made_101 : decode cX0_made 101 = .ok (.lload_n 1, 1) := by decide +kernel
theorem dX0_made_102 : decode cX0_made 102 = .ok (.lload_n 3, 1) := by decide +kernel
theorem dX0_made_103 : decode cX0_made 103 = .ok (.invokestatic 28, 3) := by decide +kernel
theorem dX0_made_106 : decode cX0_made 106 = .ok (.lreturn, 1) := by decide +kernel
theorem dX0_twice_0 : decode cX0_twice 0 = .ok (.lload_n 0, 1) := by decide +kernel
theorem dX0_twice_1 : decode cX0_twice 1 = .ok (.ldc2_w 23, 3) := by decide +kernel
theorem dX0_twice_4 : decode cX0_twice 4 = .ok (.land, 1) := by decide +kernel
theorem dX0_twice_5 : decode cX0_twice 5 = .ok (.iconst 1, 1) := by decide +kernel
theorem dX0_twice_6 : decode cX0_twice 6 = .ok (.lshl, 1) := by decide +kernel
theorem dX0_twice_7 : decode cX0_twice 7 = .ok (.lreturn, 1) := by decide +kernel
theorem dX0_sum_0 : decode cX0_sum 0 = .ok (.lload_n 0, 1) := by decide +kernel
theorem dX0_sum_1 : decode cX0_sum 1 = .ok (.ldc2_w 23, 3) := by decide +kernel
theorem dX0_sum_4 : decode cX0_sum 4 = .ok (.land, 1) := by decide +kernel
theorem dX0_sum_5 : decode cX0_sum 5 = .ok (.lload_n 2, 1) := by decide +kernel
theorem dX0_sum_6 : decode cX0_sum 6 = .ok (.ldc2_w 23, 3) := by decide +kernel
theorem dX0_sum_9 : decode cX0_sum 9 = .ok (.land, 1) := by decide +kernel
theorem dX0_sum_10 : decode cX0_sum 10 = .ok (.ladd, 1) := by decide +kernel
theorem dX0_sum_11 : decode cX0_sum 11 = .ok (.lload_n 0, 1) := by decide +kernel
theorem dX0_sum_12 : decode cX0_sum 12 = .ok (.lload_n 2, 1) := by decide +kernel
theorem dX0_sum_13 : decode cX0_sum 13 = .ok (.lxor, 1) := by decide +kernel
theorem dX0_sum_14 : decode cX0_sum 14 = .ok (.ldc2_w 31, 3) := by decide +kernel
theorem dX0_sum_17 : decode cX0_sum 17 = .ok (.land, 1) := by decide +kernel
theorem dX0_sum_18 : decode cX0_sum 18 = .ok (.lxor, 1) := by decide +kernel
theorem dX0_sum_19 : decode cX0_sum 19 = .ok (.lreturn, 1) := by decide +kernel
theorem dX0_difference_0 : decode cX0_difference 0 = .ok (.lload_n 0, 1) := by decide +kernel
theorem dX0_difference_1 : decode cX0_difference 1 = .ok (.ldc2_w 31, 3) := by decide +kernel
theorem dX0_difference_4 : decode cX0_difference 4 = .ok (.lor, 1) := by decide +kernel
theorem dX0_difference_5 : decode cX0_difference 5 = .ok (.lload_n 2, 1) := by decide +kernel
theorem dX0_difference_6 : decode cX0_difference 6 = .ok (.ldc2_w 23, 3) := by decide +kernel
theorem dX0_difference_9 : decode cX0_difference 9 = .ok (.land, 1) := by decide +kernel
theorem dX0_difference_10 : decode cX0_difference 10 = .ok (.lsub, 1) := by decide +kernel
theorem dX0_difference_11 : decode cX0_difference 11 = .ok (.lload_n 0, 1) := by decide +kernel
theorem dX0_difference_12 : decode cX0_difference 12 = .ok (.lload_n 2, 1) := by decide +kernel
theorem dX0_difference_13 : decode cX0_difference 13 = .ok (.ldc2_w 13, 3) := by decide +kernel
theorem dX0_difference_16 : decode cX0_difference 16 = .ok (.lxor, 1) := by decide +kernel
theorem dX0_difference_17 : decode cX0_difference 17 = .ok (.lxor, 1) := by decide +kernel
theorem dX0_difference_18 : decode cX0_difference 18 = .ok (.ldc2_w 31, 3) := by decide +kernel
theorem dX0_difference_21 : decode cX0_difference 21 = .ok (.land, 1) := by decide +kernel
theorem dX0_difference_22 : decode cX0_difference 22 = .ok (.lxor, 1) := by decide +kernel
theorem dX0_difference_23 : decode cX0_difference 23 = .ok (.lreturn, 1) := by decide +kernel
set_option maxRecDepth 20000 in
theorem ggX0_product_X0_sum : GoodIn wsX0_product wsX0_sum := goodIn_r _ [6, 7, 8] (by decide +kernel) (by decide +kernel)
set_option maxRecDepth 20000 in
theorem gX0_product_X0_sum : GoodIn wsX0_product (va_wsS RX0 25 yX0_sum wsX0_sum) := goodIn_app (goodIn_of _ (by decide +kernel)) ggX0_product_X0_sum
set_option maxRecDepth 20000 in
theorem ggX0_product_X0_twice : GoodIn wsX0_product wsX0_twice := goodIn_r _ [11, 7] (by decide +kernel) (by decide +kernel)
set_option maxRecDepth 20000 in
theorem gX0_product_X0_twice : GoodIn wsX0_product (va_wsS RX0 19 yX0_twice wsX0_twice) := goodIn_app (goodIn_of _ (by decide +kernel)) ggX0_product_X0_twice
theorem dX0_product_0 : decode cX0_product 0 = .ok (.lconst 0, 1) := by decide +kernel
theorem dX0_product_1 : decode cX0_product 1 = .ok (.lstore 4, 2) := by decide +kernel
theorem dX0_product_3 : decode cX0_product 3 = .ok (.lload_n 0, 1) := by decide +kernel
theorem dX0_product_4 : decode cX0_product 4 = .ok (.lstore 6, 2) := by decide +kernel
theorem dX0_product_6 : decode cX0_product 6 = .ok (.iconst 0, 1) := by decide +kernel
theorem dX0_product_7 : decode cX0_product 7 = .ok (.istore 8, 2) := by decide +kernel
theorem dX0_product_9 : decode cX0_product 9 = .ok (.iload 8, 2) := by decide +kernel
theorem dX0_product_11 : decode cX0_product 11 = .ok (.iconst 4, 1) := by decide +kernel
theorem dX0_product_12 : decode cX0_product 12 = .ok (.if_icmp .ge 42, 3) := by decide +kernel
theorem dX0_product_15 : decode cX0_product 15 = .ok (.lload_n 2, 1) := by decide +kernel
theorem dX0_product_16 : decode cX0_product 16 = .ok (.iload 8, 2) := by decide +kernel
theorem dX0_product_18 : decode cX0_product 18 = .ok (.lushr, 1) := by decide +kernel
theorem dX0_product_19 : decode cX0_product 19 = .ok (.ldc2_w 11, 3) := by decide +kernel
theorem dX0_product_22 : decode cX0_product 22 = .ok (.land, 1) := by decide +kernel
theorem dX0_product_23 : decode cX0_product 23 = .ok (.ldc2_w 33, 3) := by decide +kernel
theorem dX0_product_26 : decode cX0_product 26 = .ok (.lmul, 1) := by decide +kernel
theorem dX0_product_27 : decode cX0_product 27 = .ok (.lstore 9, 2) := by decide +kernel
theorem dX0_product_29 : decode cX0_product 29 = .ok (.lload 4, 2) := by decide +kernel
theorem dX0_product_31 : decode cX0_product 31 = .ok (.lload 6, 2) := by decide +kernel
theorem dX0_product_33 : decode cX0_product 33 = .ok (.lload 9, 2) := by decide +kernel
theorem dX0_product_35 : decode cX0_product 35 = .ok (.land, 1) := by decide +kernel
theorem dX0_product_36 : decode cX0_product 36 = .ok (.invokestatic 25, 3) := by decide +kernel
theorem dX0_product_39 : decode cX0_product 39 = .ok (.lstore 4, 2) := by decide +kernel
theorem dX0_product_41 : decode cX0_product 41 = .ok (.lload 6, 2) := by decide +kernel
theorem dX0_product_43 : decode cX0_product 43 = .ok (.invokestatic 19, 3) := by decide +kernel
theorem dX0_product_46 : decode cX0_product 46 = .ok (.lstore 6, 2) := by decide +kernel
theorem dX0_product_48 : decode cX0_product 48 = .ok (.iinc 8 1, 3) := by decide +kernel
theorem dX0_product_51 : decode cX0_product 51 = .ok (.goto (-42), 3) := by decide +kernel
theorem dX0_product_54 : decode cX0_product 54 = .ok (.lload 4, 2) := by decide +kernel
theorem dX0_product_56 : decode cX0_product 56 = .ok (.lreturn, 1) := by decide +kernel
set_option maxRecDepth 20000 in
theorem ggX0_after_X0_valueAt : GoodIn wsX0_after wsX0_valueAt := goodIn_r _ [4] (by decide +kernel) (by decide +kernel)
set_option maxRecDepth 20000 in
theorem gX0_after_X0_valueAt : GoodIn wsX0_after (va_wsS RX0 35 yX0_valueAt wsX0_valueAt) := goodIn_app (goodIn_of _ (by decide +kernel)) ggX0_after_X0_valueAt
theorem dX0_after_0 : decode cX0_after 0 = .ok (.lconst 0, 1) := by decide +kernel
theorem dX0_after_1 : decode cX0_after 1 = .ok (.lstore 4, 2) := by decide +kernel
theorem dX0_after_3 : decode cX0_after 3 = .ok (.iconst 0, 1) := by decide +kernel
theorem dX0_after_4 : decode cX0_after 4 = .ok (.istore 6, 2) := by decide +kernel
theorem dX0_after_6 : decode cX0_after 6 = .ok (.iload 6, 2) := by decide +kernel
theorem dX0_after_8 : decode cX0_after 8 = .ok (.bipush 16, 2) := by decide +kernel
theorem dX0_after_10 : decode cX0_after 10 = .ok (.if_icmp .ge 30, 3) := by decide +kernel
theorem dX0_after_13 : decode cX0_after 13 = .ok (.lload 4, 2) := by decide +kernel
theorem dX0_after_15 : decode cX0_after 15 = .ok (.lload_n 0, 1) := by decide +kernel
theorem dX0_after_16 : decode cX0_after 16 = .ok (.lload_n 2, 1) := by decide +kernel
theorem dX0_after_17 : decode cX0_after 17 = .ok (.iload 6, 2) := by decide +kernel
theorem dX0_after_19 : decode cX0_after 19 = .ok (.invokestatic 35, 3) := by decide +kernel
theorem dX0_after_22 : decode cX0_after 22 = .ok (.invokestatic 35, 3) := by decide +kernel
theorem dX0_after_25 : decode cX0_after 25 = .ok (.i2l, 1) := by decide +kernel
theorem dX0_after_26 : decode cX0_after 26 = .ok (.iconst 4, 1) := by decide +kernel
theorem dX0_after_27 : decode cX0_after 27 = .ok (.iload 6, 2) := by decide +kernel
theorem dX0_after_29 : decode cX0_after 29 = .ok (.imul, 1) := by decide +kernel
theorem dX0_after_30 : decode cX0_after 30 = .ok (.lshl, 1) := by decide +kernel
theorem dX0_after_31 : decode cX0_after 31 = .ok (.lor, 1) := by decide +kernel
theorem dX0_after_32 : decode cX0_after 32 = .ok (.lstore 4, 2) := by decide +kernel
theorem dX0_after_34 : decode cX0_after 34 = .ok (.iinc 6 1, 3) := by decide +kernel
theorem dX0_after_37 : decode cX0_after 37 = .ok (.goto (-31), 3) := by decide +kernel
theorem dX0_after_40 : decode cX0_after 40 = .ok (.lload 4, 2) := by decide +kernel
theorem dX0_after_42 : decode cX0_after 42 = .ok (.lreturn, 1) := by decide +kernel
set_option maxRecDepth 20000 in
theorem ggX0_inverseOf_X0_valueAt : GoodIn wsX0_inverseOf wsX0_valueAt := goodIn_r _ [4] (by decide +kernel) (by decide +kernel)
set_option maxRecDepth 20000 in
theorem gX0_inverseOf_X0_valueAt : GoodIn wsX0_inverseOf (va_wsS RX0 35 yX0_valueAt wsX0_valueAt) := goodIn_app (goodIn_of _ (by decide +kernel)) ggX0_inverseOf_X0_valueAt
theorem dX0_inverseOf_0 : decode cX0_inverseOf 0 = .ok (.lconst 0, 1) := by decide +kernel
theorem dX0_inverseOf_1 : decode cX0_inverseOf 1 = .ok (.lstore_n 2, 1) := by decide +kernel
theorem dX0_inverseOf_2 : decode cX0_inverseOf 2 = .ok (.iconst 0, 1) := by decide +kernel
theorem dX0_inverseOf_3 : decode cX0_inverseOf 3 = .ok (.istore 4, 2) := by decide +kernel
theorem dX0_inverseOf_5 : decode cX0_inverseOf 5 = .ok (.iload 4, 2) := by decide +kernel
theorem dX0_inverseOf_7 : decode cX0_inverseOf 7 = .ok (.bipush 16, 2) := by decide +kernel
theorem dX0_inverseOf_9 : decode cX0_inverseOf 9 = .ok (.if_icmp .ge 24, 3) := by decide +kernel
theorem dX0_inverseOf_12 : decode cX0_inverseOf 12 = .ok (.lload_n 2, 1) := by decide +kernel
theorem dX0_inverseOf_13 : decode cX0_inverseOf 13 = .ok (.iload 4, 2) := by decide +kernel
theorem dX0_inverseOf_15 : decode cX0_inverseOf 15 = .ok (.i2l, 1) := by decide +kernel
theorem dX0_inverseOf_16 : decode cX0_inverseOf 16 = .ok (.iconst 4, 1) := by decide +kernel
theorem dX0_inverseOf_17 : decode cX0_inverseOf 17 = .ok (.lload_n 0, 1) := by decide +kernel
theorem dX0_inverseOf_18 : decode cX0_inverseOf 18 = .ok (.iload 4, 2) := by decide +kernel
theorem dX0_inverseOf_20 : decode cX0_inverseOf 20 = .ok (.invokestatic 35, 3) := by decide +kernel
theorem dX0_inverseOf_23 : decode cX0_inverseOf 23 = .ok (.imul, 1) := by decide +kernel
theorem dX0_inverseOf_24 : decode cX0_inverseOf 24 = .ok (.lshl, 1) := by decide +kernel
theorem dX0_inverseOf_25 : decode cX0_inverseOf 25 = .ok (.lor, 1) := by decide +kernel
theorem dX0_inverseOf_26 : decode cX0_inverseOf 26 = .ok (.lstore_n 2, 1) := by decide +kernel
theorem dX0_inverseOf_27 : decode cX0_inverseOf 27 = .ok (.iinc 4 1, 3) := by decide +kernel
theorem dX0_inverseOf_30 : decode cX0_inverseOf 30 = .ok (.goto (-25), 3) := by decide +kernel
theorem dX0_inverseOf_33 : decode cX0_inverseOf 33 = .ok (.lload_n 2, 1) := by decide +kernel
theorem dX0_inverseOf_34 : decode cX0_inverseOf 34 = .ok (.lreturn, 1) := by decide +kernel
set_option maxRecDepth 20000 in
theorem ggX0_countDifferences_J13_bitCount_95d88 : GoodIn wsX0_countDifferences wsJ13_bitCount_95d88 := goodIn_r _ [5, 6, 7, 8] (by decide +kernel) (by decide +kernel)
set_option maxRecDepth 20000 in
theorem gX0_countDifferences_J13_bitCount_95d88 : GoodIn wsX0_countDifferences (va_wsS RX0 39 yJ13_bitCount_95d88 wsJ13_bitCount_95d88) := goodIn_app (goodIn_of _ (by decide +kernel)) ggX0_countDifferences_J13_bitCount_95d88
theorem dX0_countDifferences_0 : decode cX0_countDifferences 0 = .ok (.lload_n 0, 1) := by decide +kernel
theorem dX0_countDifferences_1 : decode cX0_countDifferences 1 = .ok (.lload_n 2, 1) := by decide +kernel
theorem dX0_countDifferences_2 : decode cX0_countDifferences 2 = .ok (.lxor, 1) := by decide +kernel
theorem dX0_countDifferences_3 : decode cX0_countDifferences 3 = .ok (.lstore 4, 2) := by decide +kernel
theorem dX0_countDifferences_5 : decode cX0_countDifferences 5 = .ok (.lload 4, 2) := by decide +kernel
theorem dX0_countDifferences_7 : decode cX0_countDifferences 7 = .ok (.lload 4, 2) := by decide +kernel
theorem dX0_countDifferences_9 : decode cX0_countDifferences 9 = .ok (.iconst 2, 1) := by decide +kernel
theorem dX0_countDifferences_10 : decode cX0_countDifferences 10 = .ok (.lushr, 1) := by decide +kernel
theorem dX0_countDifferences_11 : decode cX0_countDifferences 11 = .ok (.lor, 1) := by decide +kernel
theorem dX0_countDifferences_12 : decode cX0_countDifferences 12 = .ok (.lstore 4, 2) := by decide +kernel
theorem dX0_countDifferences_14 : decode cX0_countDifferences 14 = .ok (.lload 4, 2) := by decide +kernel
theorem dX0_countDifferences_16 : decode cX0_countDifferences 16 = .ok (.lload 4, 2) := by decide +kernel
theorem dX0_countDifferences_18 : decode cX0_countDifferences 18 = .ok (.iconst 1, 1) := by decide +kernel
theorem dX0_countDifferences_19 : decode cX0_countDifferences 19 = .ok (.lushr, 1) := by decide +kernel
theorem dX0_countDifferences_20 : decode cX0_countDifferences 20 = .ok (.lor, 1) := by decide +kernel
theorem dX0_countDifferences_21 : decode cX0_countDifferences 21 = .ok (.lstore 4, 2) := by decide +kernel
theorem dX0_countDifferences_23 : decode cX0_countDifferences 23 = .ok (.lload 4, 2) := by decide +kernel
theorem dX0_countDifferences_25 : decode cX0_countDifferences 25 = .ok (.ldc2_w 11, 3) := by decide +kernel
theorem dX0_countDifferences_28 : decode cX0_countDifferences 28 = .ok (.land, 1) := by decide +kernel
theorem dX0_countDifferences_29 : decode cX0_countDifferences 29 = .ok (.invokestatic 39, 3) := by decide +kernel
theorem dX0_countDifferences_32 : decode cX0_countDifferences 32 = .ok (.ireturn, 1) := by decide +kernel
set_option maxRecDepth 20000 in
theorem ggX0_countValues_X0_image : GoodIn wsX0_countValues wsX0_image := goodIn_r _ [5, 6, 7, 4, 8] (by decide +kernel) (by decide +kernel)
set_option maxRecDepth 20000 in
theorem gX0_countValues_X0_image : GoodIn wsX0_countValues (va_wsS RX0 46 yX0_image wsX0_image) := goodIn_app (goodIn_of _ (by decide +kernel)) ggX0_countValues_X0_image
set_option maxRecDepth 20000 in
theorem ggX0_countValues_J6_bitCount_0f7a4 : GoodIn wsX0_countValues wsJ6_bitCount_0f7a4 := goodIn_r _ [12, 13, 14, 15] (by decide +kernel) (by decide +kernel)
set_option maxRecDepth 20000 in
theorem gX0_countValues_J6_bitCount_0f7a4 : GoodIn wsX0_countValues (va_wsS RX0 49 yJ6_bitCount_0f7a4 wsJ6_bitCount_0f7a4) := goodIn_app (goodIn_of _ (by decide +kernel)) ggX0_countValues_J6_bitCount_0f7a4
theorem dX0_countValues_0 : decode cX0_countValues 0 = .ok (.lload_n 0, 1) := by decide +kernel
theorem dX0_countValues_1 : decode cX0_countValues 1 = .ok (.ldc 45, 2) := by decide +kernel
theorem dX0_countValues_3 : decode cX0_countValues 3 = .ok (.invokestatic 46, 3) := by decide +kernel
theorem dX0_countValues_6 : decode cX0_countValues 6 = .ok (.invokestatic 49, 3) := by decide +kernel
theorem dX0_countValues_9 : decode cX0_countValues 9 = .ok (.ireturn, 1) := by decide +kernel
set_option maxRecDepth 20000 in
theorem ggX0_image_X0_valueAt : GoodIn wsX0_image wsX0_valueAt := goodIn_r _ [4] (by decide +kernel) (by decide +kernel)
set_option maxRecDepth 20000 in
theorem gX0_image_X0_valueAt : GoodIn wsX0_image (va_wsS RX0 35 yX0_valueAt wsX0_valueAt) := goodIn_app (goodIn_of _ (by decide +kernel)) ggX0_image_X0_valueAt
theorem dX0_image_0 : decode cX0_image 0 = .ok (.iconst 0, 1) := by decide +kernel
theorem dX0_image_1 : decode cX0_image 1 = .ok (.istore_n 3, 1) := by decide +kernel
theorem dX0_image_2 : decode cX0_image 2 = .ok (.iconst 0, 1) := by decide +kernel
theorem dX0_image_3 : decode cX0_image 3 = .ok (.istore 4, 2) := by decide +kernel
theorem dX0_image_5 : decode cX0_image 5 = .ok (.iload 4, 2) := by decide +kernel
theorem dX0_image_7 : decode cX0_image 7 = .ok (.bipush 16, 2) := by decide +kernel
theorem dX0_image_9 : decode cX0_image 9 = .ok (.if_icmp .ge 30, 3) := by decide +kernel
theorem dX0_image_12 : decode cX0_image 12 = .ok (.iload_n 2, 1) := by decide +kernel
theorem dX0_image_13 : decode cX0_image 13 = .ok (.iload 4, 2) := by decide +kernel
theorem dX0_image_15 : decode cX0_image 15 = .ok (.iushr, 1) := by decide +kernel
theorem dX0_image_16 : decode cX0_image 16 = .ok (.iconst 1, 1) := by decide +kernel
theorem dX0_image_17 : decode cX0_image 17 = .ok (.iand, 1) := by decide +kernel
theorem dX0_image_18 : decode cX0_image 18 = .ok (.iconst 1, 1) := by decide +kernel
theorem dX0_image_19 : decode cX0_image 19 = .ok (.if_icmp .ne 14, 3) := by decide +kernel
theorem dX0_image_22 : decode cX0_image 22 = .ok (.iload_n 3, 1) := by decide +kernel
theorem dX0_image_23 : decode cX0_image 23 = .ok (.iconst 1, 1) := by decide +kernel
theorem dX0_image_24 : decode cX0_image 24 = .ok (.lload_n 0, 1) := by decide +kernel
theorem dX0_image_25 : decode cX0_image 25 = .ok (.iload 4, 2) := by decide +kernel
theorem dX0_image_27 : decode cX0_image 27 = .ok (.invokestatic 35, 3) := by decide +kernel
theorem dX0_image_30 : decode cX0_image 30 = .ok (.ishl, 1) := by decide +kernel
theorem dX0_image_31 : decode cX0_image 31 = .ok (.ior, 1) := by decide +kernel
theorem dX0_image_32 : decode cX0_image 32 = .ok (.istore_n 3, 1) := by decide +kernel
theorem dX0_image_33 : decode cX0_image 33 = .ok (.iinc 4 1, 3) := by decide +kernel
theorem dX0_image_36 : decode cX0_image 36 = .ok (.goto (-31), 3) := by decide +kernel
theorem dX0_image_39 : decode cX0_image 39 = .ok (.iload_n 3, 1) := by decide +kernel
theorem dX0_image_40 : decode cX0_image 40 = .ok (.ireturn, 1) := by decide +kernel
set_option maxRecDepth 20000 in
theorem ggX0_returningInputs_X0_image : GoodIn wsX0_returningInputs wsX0_image := goodIn_r _ [5, 6, 7, 4, 8] (by decide +kernel) (by decide +kernel)
set_option maxRecDepth 20000 in
theorem gX0_returningInputs_X0_image : GoodIn wsX0_returningInputs (va_wsS RX0 46 yX0_image wsX0_image) := goodIn_app (goodIn_of _ (by decide +kernel)) ggX0_returningInputs_X0_image
theorem dX0_returningInputs_0 : decode cX0_returningInputs 0 = .ok (.ldc 45, 2) := by decide +kernel
theorem dX0_returningInputs_2 : decode cX0_returningInputs 2 = .ok (.istore_n 2, 1) := by decide +kernel
theorem dX0_returningInputs_3 : decode cX0_returningInputs 3 = .ok (.iconst 0, 1) := by decide +kernel
theorem dX0_returningInputs_4 : decode cX0_returningInputs 4 = .ok (.istore_n 3, 1) := by decide +kernel
theorem dX0_returningInputs_5 : decode cX0_returningInputs 5 = .ok (.iload_n 3, 1) := by decide +kernel
theorem dX0_returningInputs_6 : decode cX0_returningInputs 6 = .ok (.bipush 16, 2) := by decide +kernel
theorem dX0_returningInputs_8 : decode cX0_returningInputs 8 = .ok (.if_icmp .ge 15, 3) := by decide +kernel
theorem dX0_returningInputs_11 : decode cX0_returningInputs 11 = .ok (.lload_n 0, 1) := by decide +kernel
theorem dX0_returningInputs_12 : decode cX0_returningInputs 12 = .ok (.iload_n 2, 1) := by decide +kernel
theorem dX0_returningInputs_13 : decode cX0_returningInputs 13 = .ok (.invokestatic 46, 3) := by decide +kernel
theorem dX0_returningInputs_16 : decode cX0_returningInputs 16 = .ok (.istore_n 2, 1) := by decide +kernel
theorem dX0_returningInputs_17 : decode cX0_returningInputs 17 = .ok (.iinc 3 1, 3) := by decide +kernel
theorem dX0_returningInputs_20 : decode cX0_returningInputs 20 = .ok (.goto (-15), 3) := by decide +kernel
theorem dX0_returningInputs_23 : decode cX0_returningInputs 23 = .ok (.iload_n 2, 1) := by decide +kernel
theorem dX0_returningInputs_24 : decode cX0_returningInputs 24 = .ok (.ireturn, 1) := by decide +kernel
set_option maxRecDepth 20000 in
theorem ggX0_stepsToReturning_X0_returningInputs : GoodIn wsX0_stepsToReturning wsX0_returningInputs := goodIn_r _ [5, 1, 6, 7, 4, 8, 9, 10, 11] (by decide +kernel) (by decide +kernel)
set_option maxRecDepth 20000 in
theorem gX0_stepsToReturning_X0_returningInputs : GoodIn wsX0_stepsToReturning (va_wsS RX0 54 yX0_returningInputs wsX0_returningInputs) := goodIn_app (goodIn_of _ (by decide +kernel)) ggX0_stepsToReturning_X0_returningInputs
set_option maxRecDepth 20000 in
theorem ggX0_stepsToReturning_X0_image : GoodIn wsX0_stepsToReturning wsX0_image := goodIn_r _ [8, 9, 10, 4, 11] (by decide +kernel) (by decide +kernel)
set_option maxRecDepth 20000 in
theorem gX0_stepsToReturning_X0_image : GoodIn wsX0_stepsToReturning (va_wsS RX0 46 yX0_image wsX0_image) := goodIn_app (goodIn_of _ (by decide +kernel)) ggX0_stepsToReturning_X0_image
theorem dX0_stepsToReturning_0 : decode cX0_stepsToReturning 0 = .ok (.lload_n 0, 1) := by decide +kernel
theorem dX0_stepsToReturning_1 : decode cX0_stepsToReturning 1 = .ok (.invokestatic 54, 3) := by decide +kernel
theorem dX0_stepsToReturning_4 : decode cX0_stepsToReturning 4 = .ok (.istore_n 2, 1) := by decide +kernel
theorem dX0_stepsToReturning_5 : decode cX0_stepsToReturning 5 = .ok (.ldc 45, 2) := by decide +kernel
theorem dX0_stepsToReturning_7 : decode cX0_stepsToReturning 7 = .ok (.istore_n 3, 1) := by decide +kernel
theorem dX0_stepsToReturning_8 : decode cX0_stepsToReturning 8 = .ok (.iconst 0, 1) := by decide +kernel
theorem dX0_stepsToReturning_9 : decode cX0_stepsToReturning 9 = .ok (.istore 4, 2) := by decide +kernel
theorem dX0_stepsToReturning_11 : decode cX0_stepsToReturning 11 = .ok (.iload 4, 2) := by decide +kernel
theorem dX0_stepsToReturning_13 : decode cX0_stepsToReturning 13 = .ok (.bipush 16, 2) := by decide +kernel
theorem dX0_stepsToReturning_15 : decode cX0_stepsToReturning 15 = .ok (.if_icmp .ge 20, 3) := by decide +kernel
theorem dX0_stepsToReturning_18 : decode cX0_stepsToReturning 18 = .ok (.iload_n 3, 1) := by decide +kernel
theorem dX0_stepsToReturning_19 : decode cX0_stepsToReturning 19 = .ok (.iload_n 2, 1) := by decide +kernel
theorem dX0_stepsToReturning_20 : decode cX0_stepsToReturning 20 = .ok (.if_icmp .eq 15, 3) := by decide +kernel
theorem dX0_stepsToReturning_23 : decode cX0_stepsToReturning 23 = .ok (.lload_n 0, 1) := by decide +kernel
theorem dX0_stepsToReturning_24 : decode cX0_stepsToReturning 24 = .ok (.iload_n 3, 1) := by decide +kernel
theorem dX0_stepsToReturning_25 : decode cX0_stepsToReturning 25 = .ok (.invokestatic 46, 3) := by decide +kernel
theorem dX0_stepsToReturning_28 : decode cX0_stepsToReturning 28 = .ok (.istore_n 3, 1) := by decide +kernel
theorem dX0_stepsToReturning_29 : decode cX0_stepsToReturning 29 = .ok (.iinc 4 1, 3) := by decide +kernel
theorem dX0_stepsToReturning_32 : decode cX0_stepsToReturning 32 = .ok (.goto (-21), 3) := by decide +kernel
theorem dX0_stepsToReturning_35 : decode cX0_stepsToReturning 35 = .ok (.iload 4, 2) := by decide +kernel
theorem dX0_stepsToReturning_37 : decode cX0_stepsToReturning 37 = .ok (.ireturn, 1) := by decide +kernel
set_option maxRecDepth 20000 in
theorem ggX0_isLinear_X0_valueAt : GoodIn wsX0_isLinear wsX0_valueAt := goodIn_r _ [4] (by decide +kernel) (by decide +kernel)
set_option maxRecDepth 20000 in
theorem gX0_isLinear_X0_valueAt : GoodIn wsX0_isLinear (va_wsS RX0 35 yX0_valueAt wsX0_valueAt) := goodIn_app (goodIn_of _ (by decide +kernel)) ggX0_isLinear_X0_valueAt
theorem dX0_isLinear_0 : decode cX0_isLinear 0 = .ok (.iconst 0, 1) := by decide +kernel
theorem dX0_isLinear_1 : decode cX0_isLinear 1 = .ok (.istore_n 2, 1) := by decide +kernel
theorem dX0_isLinear_2 : decode cX0_isLinear 2 = .ok (.iload_n 2, 1) := by decide +kernel
theorem dX0_isLinear_3 : decode cX0_isLinear 3 = .ok (.bipush 16, 2) := by decide +kernel
theorem dX0_isLinear_5 : decode cX0_isLinear 5 = .ok (.if_icmp .ge 46, 3) := by decide +kernel
theorem dX0_isLinear_8 : decode cX0_isLinear 8 = .ok (.iconst 0, 1) := by decide +kernel
theorem dX0_isLinear_9 : decode cX0_isLinear 9 = .ok (.istore_n 3, 1) := by decide +kernel
theorem dX0_isLinear_10 : decode cX0_isLinear 10 = .ok (.iload_n 3, 1) := by decide +kernel
theorem dX0_isLinear_11 : decode cX0_isLinear 11 = .ok (.bipush 16, 2) := by decide +kernel
theorem dX0_isLinear_13 : decode cX0_isLinear 13 = .ok (.if_icmp .ge 32, 3) := by decide +kernel
theorem dX0_isLinear_16 : decode cX0_isLinear 16 = .ok (.lload_n 0, 1) := by decide +kernel
theorem dX0_isLinear_17 : decode cX0_isLinear 17 = .ok (.iload_n 2, 1) := by decide +kernel
theorem dX0_isLinear_18 : decode cX0_isLinear 18 = .ok (.iload_n 3, 1) := by decide +kernel
theorem dX0_isLinear_19 : decode cX0_isLinear 19 = .ok (.ixor, 1) := by decide +kernel
theorem dX0_isLinear_20 : decode cX0_isLinear 20 = .ok (.invokestatic 35, 3) := by decide +kernel
theorem dX0_isLinear_23 : decode cX0_isLinear 23 = .ok (.lload_n 0, 1) := by decide +kernel
theorem dX0_isLinear_24 : decode cX0_isLinear 24 = .ok (.iload_n 2, 1) := by decide +kernel
theorem dX0_isLinear_25 : decode cX0_isLinear 25 = .ok (.invokestatic 35, 3) := by decide +kernel
theorem dX0_isLinear_28 : decode cX0_isLinear 28 = .ok (.lload_n 0, 1) := by decide +kernel
theorem dX0_isLinear_29 : decode cX0_isLinear 29 = .ok (.iload_n 3, 1) := by decide +kernel
theorem dX0_isLinear_30 : decode cX0_isLinear 30 = .ok (.invokestatic 35, 3) := by decide +kernel
theorem dX0_isLinear_33 : decode cX0_isLinear 33 = .ok (.ixor, 1) := by decide +kernel
theorem dX0_isLinear_34 : decode cX0_isLinear 34 = .ok (.if_icmp .eq 5, 3) := by decide +kernel
theorem dX0_isLinear_37 : decode cX0_isLinear 37 = .ok (.iconst 0, 1) := by decide +kernel
theorem dX0_isLinear_38 : decode cX0_isLinear 38 = .ok (.ireturn, 1) := by decide +kernel
theorem dX0_isLinear_39 : decode cX0_isLinear 39 = .ok (.iinc 3 1, 3) := by decide +kernel
theorem dX0_isLinear_42 : decode cX0_isLinear 42 = .ok (.goto (-32), 3) := by decide +kernel
theorem dX0_isLinear_45 : decode cX0_isLinear 45 = .ok (.iinc 2 1, 3) := by decide +kernel
theorem dX0_isLinear_48 : decode cX0_isLinear 48 = .ok (.goto (-46), 3) := by decide +kernel
theorem dX0_isLinear_51 : decode cX0_isLinear 51 = .ok (.iconst 1, 1) := by decide +kernel
theorem dX0_isLinear_52 : decode cX0_isLinear 52 = .ok (.ireturn, 1) := by decide +kernel
set_option maxRecDepth 20000 in
theorem ggX0_isRising_X0_valueAt : GoodIn wsX0_isRising wsX0_valueAt := goodIn_r _ [4] (by decide +kernel) (by decide +kernel)
set_option maxRecDepth 20000 in
theorem gX0_isRising_X0_valueAt : GoodIn wsX0_isRising (va_wsS RX0 35 yX0_valueAt wsX0_valueAt) := goodIn_app (goodIn_of _ (by decide +kernel)) ggX0_isRising_X0_valueAt
theorem dX0_isRising_0 : decode cX0_isRising 0 = .ok (.iconst 1, 1) := by decide +kernel
theorem dX0_isRising_1 : decode cX0_isRising 1 = .ok (.istore_n 2, 1) := by decide +kernel
theorem dX0_isRising_2 : decode cX0_isRising 2 = .ok (.iload_n 2, 1) := by decide +kernel
theorem dX0_isRising_3 : decode cX0_isRising 3 = .ok (.bipush 16, 2) := by decide +kernel
theorem dX0_isRising_5 : decode cX0_isRising 5 = .ok (.if_icmp .ge 26, 3) := by decide +kernel
theorem dX0_isRising_8 : decode cX0_isRising 8 = .ok (.lload_n 0, 1) := by decide +kernel
theorem dX0_isRising_9 : decode cX0_isRising 9 = .ok (.iload_n 2, 1) := by decide +kernel
theorem dX0_isRising_10 : decode cX0_isRising 10 = .ok (.invokestatic 35, 3) := by decide +kernel
theorem dX0_isRising_13 : decode cX0_isRising 13 = .ok (.lload_n 0, 1) := by decide +kernel
theorem dX0_isRising_14 : decode cX0_isRising 14 = .ok (.iload_n 2, 1) := by decide +kernel
theorem dX0_isRising_15 : decode cX0_isRising 15 = .ok (.iconst 1, 1) := by decide +kernel
theorem dX0_isRising_16 : decode cX0_isRising 16 = .ok (.isub, 1) := by decide +kernel
theorem dX0_isRising_17 : decode cX0_isRising 17 = .ok (.invokestatic 35, 3) := by decide +kernel
theorem dX0_isRising_20 : decode cX0_isRising 20 = .ok (.if_icmp .ge 5, 3) := by decide +kernel
theorem dX0_isRising_23 : decode cX0_isRising 23 = .ok (.iconst 0, 1) := by decide +kernel
theorem dX0_isRising_24 : decode cX0_isRising 24 = .ok (.ireturn, 1) := by decide +kernel
theorem dX0_isRising_25 : decode cX0_isRising 25 = .ok (.iinc 2 1, 3) := by decide +kernel
theorem dX0_isRising_28 : decode cX0_isRising 28 = .ok (.goto (-26), 3) := by decide +kernel
theorem dX0_isRising_31 : decode cX0_isRising 31 = .ok (.iconst 1, 1) := by decide +kernel
theorem dX0_isRising_32 : decode cX0_isRising 32 = .ok (.ireturn, 1) := by decide +kernel
set_option maxRecDepth 20000 in
theorem ggX0_isOfLowerBits_X0_valueAt : GoodIn wsX0_isOfLowerBits wsX0_valueAt := goodIn_r _ [4] (by decide +kernel) (by decide +kernel)
set_option maxRecDepth 20000 in
theorem gX0_isOfLowerBits_X0_valueAt : GoodIn wsX0_isOfLowerBits (va_wsS RX0 35 yX0_valueAt wsX0_valueAt) := goodIn_app (goodIn_of _ (by decide +kernel)) ggX0_isOfLowerBits_X0_valueAt
theorem dX0_isOfLowerBits_0 : decode cX0_isOfLowerBits 0 = .ok (.iconst 0, 1) := by decide +kernel
theorem dX0_isOfLowerBits_1 : decode cX0_isOfLowerBits 1 = .ok (.istore_n 2, 1) := by decide +kernel
theorem dX0_isOfLowerBits_2 : decode cX0_isOfLowerBits 2 = .ok (.iload_n 2, 1) := by decide +kernel
theorem dX0_isOfLowerBits_3 : decode cX0_isOfLowerBits 3 = .ok (.iconst 4, 1) := by decide +kernel
theorem dX0_isOfLowerBits_4 : decode cX0_isOfLowerBits 4 = .ok (.if_icmp .ge 60, 3) := by decide +kernel
theorem dX0_isOfLowerBits_7 : decode cX0_isOfLowerBits 7 = .ok (.iconst 2, 1) := by decide +kernel
theorem dX0_isOfLowerBits_8 : decode cX0_isOfLowerBits 8 = .ok (.iload_n 2, 1) := by decide +kernel
theorem dX0_isOfLowerBits_9 : decode cX0_isOfLowerBits 9 = .ok (.ishl, 1) := by decide +kernel
theorem dX0_isOfLowerBits_10 : decode cX0_isOfLowerBits 10 = .ok (.iconst 1, 1) := by decide +kernel
theorem dX0_isOfLowerBits_11 : decode cX0_isOfLowerBits 11 = .ok (.isub, 1) := by decide +kernel
theorem dX0_isOfLowerBits_12 : decode cX0_isOfLowerBits 12 = .ok (.istore_n 3, 1) := by decide +kernel
theorem dX0_isOfLowerBits_13 : decode cX0_isOfLowerBits 13 = .ok (.iconst 0, 1) := by decide +kernel
theorem dX0_isOfLowerBits_14 : decode cX0_isOfLowerBits 14 = .ok (.istore 4, 2) := by decide +kernel
theorem dX0_isOfLowerBits_16 : decode cX0_isOfLowerBits 16 = .ok (.iload 4, 2) := by decide +kernel
theorem dX0_isOfLowerBits_18 : decode cX0_isOfLowerBits 18 = .ok (.bipush 16, 2) := by decide +kernel
theorem dX0_isOfLowerBits_20 : decode cX0_isOfLowerBits 20 = .ok (.if_icmp .ge 38, 3) := by decide +kernel
theorem dX0_isOfLowerBits_23 : decode cX0_isOfLowerBits 23 = .ok (.lload_n 0, 1) := by decide +kernel
theorem dX0_isOfLowerBits_24 : decode cX0_isOfLowerBits 24 = .ok (.iload 4, 2) := by decide +kernel
theorem dX0_isOfLowerBits_26 : decode cX0_isOfLowerBits 26 = .ok (.invokestatic 35, 3) := by decide +kernel
theorem dX0_isOfLowerBits_29 : decode cX0_isOfLowerBits 29 = .ok (.lload_n 0, 1) := by decide +kernel
theorem dX0_isOfLowerBits_30 : decode cX0_isOfLowerBits 30 = .ok (.iload 4, 2) := by decide +kernel
theorem dX0_isOfLowerBits_32 : decode cX0_isOfLowerBits 32 = .ok (.iload_n 3, 1) := by decide +kernel
theorem dX0_isOfLowerBits_33 : decode cX0_isOfLowerBits 33 = .ok (.iand, 1) := by decide +kernel
theorem dX0_isOfLowerBits_34 : decode cX0_isOfLowerBits 34 = .ok (.invokestatic 35, 3) := by decide +kernel
theorem dX0_isOfLowerBits_37 : decode cX0_isOfLowerBits 37 = .ok (.ixor, 1) := by decide +kernel
theorem dX0_isOfLowerBits_38 : decode cX0_isOfLowerBits 38 = .ok (.istore 5, 2) := by decide +kernel
theorem dX0_isOfLowerBits_40 : decode cX0_isOfLowerBits 40 = .ok (.iload 5, 2) := by decide +kernel
theorem dX0_isOfLowerBits_42 : decode cX0_isOfLowerBits 42 = .ok (.iload_n 2, 1) := by decide +kernel
theorem dX0_isOfLowerBits_43 : decode cX0_isOfLowerBits 43 = .ok (.iushr, 1) := by decide +kernel
theorem dX0_isOfLowerBits_44 : decode cX0_isOfLowerBits 44 = .ok (.iconst 1, 1) := by decide +kernel
theorem dX0_isOfLowerBits_45 : decode cX0_isOfLowerBits 45 = .ok (.iand, 1) := by decide +kernel
theorem dX0_isOfLowerBits_46 : decode cX0_isOfLowerBits 46 = .ok (.iconst 1, 1) := by decide +kernel
theorem dX0_isOfLowerBits_47 : decode cX0_isOfLowerBits 47 = .ok (.if_icmp .ne 5, 3) := by decide +kernel
theorem dX0_isOfLowerBits_50 : decode cX0_isOfLowerBits 50 = .ok (.iconst 0, 1) := by decide +kernel
theorem dX0_isOfLowerBits_51 : decode cX0_isOfLowerBits 51 = .ok (.ireturn, 1) := by decide +kernel
theorem dX0_isOfLowerBits_52 : decode cX0_isOfLowerBits 52 = .ok (.iinc 4 1, 3) := by decide +kernel
theorem dX0_isOfLowerBits_55 : decode cX0_isOfLowerBits 55 = .ok (.goto (-39), 3) := by decide +kernel
theorem dX0_isOfLowerBits_58 : decode cX0_isOfLowerBits 58 = .ok (.iinc 2 1, 3) := by decide +kernel
theorem dX0_isOfLowerBits_61 : decode cX0_isOfLowerBits 61 = .ok (.goto (-59), 3) := by decide +kernel
theorem dX0_isOfLowerBits_64 : decode cX0_isOfLowerBits 64 = .ok (.iconst 1, 1) := by decide +kernel
theorem dX0_isOfLowerBits_65 : decode cX0_isOfLowerBits 65 = .ok (.ireturn, 1) := by decide +kernel
theorem dX0_maskOf_0 : decode cX0_maskOf 0 = .ok (.lconst 0, 1) := by decide +kernel
theorem dX0_maskOf_1 : decode cX0_maskOf 1 = .ok (.lstore_n 1, 1) := by decide +kernel
theorem dX0_maskOf_2 : decode cX0_maskOf 2 = .ok (.iconst 0, 1) := by decide +kernel
theorem dX0_maskOf_3 : decode cX0_maskOf 3 = .ok (.istore_n 3, 1) := by decide +kernel
theorem dX0_maskOf_4 : decode cX0_maskOf 4 = .ok (.iload_n 3, 1) := by decide +kernel
theorem dX0_maskOf_5 : decode cX0_maskOf 5 = .ok (.bipush 16, 2) := by decide +kernel
theorem dX0_maskOf_7 : decode cX0_maskOf 7 = .ok (.if_icmp .ge 28, 3) := by decide +kernel
theorem dX0_maskOf_10 : decode cX0_maskOf 10 = .ok (.iload_n 0, 1) := by decide +kernel
theorem dX0_maskOf_11 : decode cX0_maskOf 11 = .ok (.iload_n 3, 1) := by decide +kernel
theorem dX0_maskOf_12 : decode cX0_maskOf 12 = .ok (.iushr, 1) := by decide +kernel
theorem dX0_maskOf_13 : decode cX0_maskOf 13 = .ok (.iconst 1, 1) := by decide +kernel
theorem dX0_maskOf_14 : decode cX0_maskOf 14 = .ok (.iand, 1) := by decide +kernel
theorem dX0_maskOf_15 : decode cX0_maskOf 15 = .ok (.iconst 1, 1) := by decide +kernel
theorem dX0_maskOf_16 : decode cX0_maskOf 16 = .ok (.if_icmp .ne 13, 3) := by decide +kernel
theorem dX0_maskOf_19 : decode cX0_maskOf 19 = .ok (.lload_n 1, 1) := by decide +kernel
theorem dX0_maskOf_20 : decode cX0_maskOf 20 = .ok (.ldc2_w 33, 3) := by decide +kernel
theorem dX0_maskOf_23 : decode cX0_maskOf 23 = .ok (.iconst 4, 1) := by decide +kernel
theorem dX0_maskOf_24 : decode cX0_maskOf 24 = .ok (.iload_n 3, 1) := by decide +kernel
theorem dX0_maskOf_25 : decode cX0_maskOf 25 = .ok (.imul, 1) := by decide +kernel
theorem dX0_maskOf_26 : decode cX0_maskOf 26 = .ok (.lshl, 1) := by decide +kernel
theorem dX0_maskOf_27 : decode cX0_maskOf 27 = .ok (.lor, 1) := by decide +kernel
theorem dX0_maskOf_28 : decode cX0_maskOf 28 = .ok (.lstore_n 1, 1) := by decide +kernel
theorem dX0_maskOf_29 : decode cX0_maskOf 29 = .ok (.iinc 3 1, 3) := by decide +kernel
theorem dX0_maskOf_32 : decode cX0_maskOf 32 = .ok (.goto (-28), 3) := by decide +kernel
theorem dX0_maskOf_35 : decode cX0_maskOf 35 = .ok (.lload_n 1, 1) := by decide +kernel
theorem dX0_maskOf_36 : decode cX0_maskOf 36 = .ok (.lreturn, 1) := by decide +kernel
theorem dX1_init_0 : decode cX1_init 0 = .ok (.aload_n 0, 1) := by decide +kernel
theorem dX1_init_1 : decode cX1_init 1 = .ok (.invokespecial 3, 3) := by decide +kernel
theorem dX1_init_4 : decode cX1_init 4 = .ok (.aload_n 0, 1) := by decide +kernel
theorem dX1_init_5 : decode cX1_init 5 = .ok (.bipush 30, 2) := by decide +kernel
theorem dX1_init_7 : decode cX1_init 7 = .ok (.newarray .int, 2) := by decide +kernel
theorem dX1_init_9 : decode cX1_init 9 = .ok (.putfield 11, 3) := by decide +kernel
theorem dX1_init_12 : decode cX1_init 12 = .ok (.return_, 1) := by decide +kernel
theorem dX1_put_0 : decode cX1_put 0 = .ok (.aload_n 0, 1) := by decide +kernel
theorem dX1_put_1 : decode cX1_put 1 = .ok (.getfield 15, 3) := by decide +kernel
theorem dX1_put_4 : decode cX1_put 4 = .ok (.bipush 30, 2) := by decide +kernel
theorem dX1_put_6 : decode cX1_put 6 = .ok (.if_icmp .ge 23, 3) := by decide +kernel
theorem dX1_put_9 : decode cX1_put 9 = .ok (.aload_n 0, 1) := by decide +kernel
theorem dX1_put_10 : decode cX1_put 10 = .ok (.getfield 11, 3) := by decide +kernel
theorem dX1_put_13 : decode cX1_put 13 = .ok (.aload_n 0, 1) := by decide +kernel
theorem dX1_put_14 : decode cX1_put 14 = .ok (.getfield 15, 3) := by decide +kernel
theorem dX1_put_17 : decode cX1_put 17 = .ok (.iload_n 1, 1) := by decide +kernel
theorem dX1_put_18 : decode cX1_put 18 = .ok (.iastore, 1) := by decide +kernel
theorem dX1_put_19 : decode cX1_put 19 = .ok (.aload_n 0, 1) := by decide +kernel
theorem dX1_put_20 : decode cX1_put 20 = .ok (.dup, 1) := by decide +kernel
theorem dX1_put_21 : decode cX1_put 21 = .ok (.getfield 15, 3) := by decide +kernel
theorem dX1_put_24 : decode cX1_put 24 = .ok (.iconst 1, 1) := by decide +kernel
theorem dX1_put_25 : decode cX1_put 25 = .ok (.iadd, 1) := by decide +kernel
theorem dX1_put_26 : decode cX1_put 26 = .ok (.putfield 15, 3) := by decide +kernel
theorem dX1_put_29 : decode cX1_put 29 = .ok (.return_, 1) := by decide +kernel
set_option maxRecDepth 20000 in
theorem ggX1_putEntry_X2_has : GoodIn wsX1_putEntry wsX2_has := goodIn_r _ [8, 9, 33, 34, 35, 36, 37, 38, 39, 40] (by decide +kernel) (by decide +kernel)
set_option maxRecDepth 20000 in
theorem gX1_putEntry_X2_has : GoodIn wsX1_putEntry (wsV RX1 19 RX2 yX2_has wsX2_has) := goodIn_app (goodIn_of _ (by decide +kernel)) ggX1_putEntry_X2_has
set_option maxRecDepth 20000 in
theorem ggX1_putEntry_X1_put : GoodIn wsX1_putEntry wsX1_put := goodIn_r _ [14, 15, 16, 41, 42] (by decide +kernel) (by decide +kernel)
set_option maxRecDepth 20000 in
theorem gX1_putEntry_X1_put : GoodIn wsX1_putEntry (wsV RX1 28 RX1 yX1_put wsX1_put) := goodIn_app (goodIn_of _ (by decide +kernel)) ggX1_putEntry_X1_put
set_option maxRecDepth 20000 in
theorem ggX1_putEntry_X1_putNumber : GoodIn wsX1_putEntry wsX1_putNumber := goodIn_r _ [20, 10, 11, 12, 13, 14, 15, 16, 41, 42] (by decide +kernel) (by decide +kernel)
set_option maxRecDepth 20000 in
theorem gX1_putEntry_X1_putNumber : GoodIn wsX1_putEntry (wsV RX1 35 RX1 yX1_putNumber wsX1_putNumber) := goodIn_app (goodIn_of _ (by decide +kernel)) ggX1_putEntry_X1_putNumber
set_option maxRecDepth 20000 in
theorem ggX1_putEntry_X5_hasTwoArguments : GoodIn wsX1_putEntry wsX5_hasTwoArguments := goodIn_r _ [23] (by decide +kernel) (by decide +kernel)
set_option maxRecDepth 20000 in
theorem gX1_putEntry_X5_hasTwoArguments_n38 : GoodIn wsX1_putEntry (wsX5_hasTwoArguments) := ggX1_putEntry_X5_hasTwoArguments
set_option maxRecDepth 20000 in
theorem ggX1_putEntry_X1_putArgument : GoodIn wsX1_putEntry wsX1_putArgument := goodIn_r _ [29, 1, 4, 5, 6, 7, 8, 9, 21, 22, 23, 10, 11, 12, 13, 14, 15, 16, 30, 31, 32, 0, 2, 3, 17, 18, 19, 20, 24, 25, 26, 27, 28, 33, 34, 35, 36, 37, 38, 39, 40, 41, 42] (by decide +kernel) (by decide +kernel)
set_option maxRecDepth 20000 in
theorem gX1_putEntry_X1_putArgument : GoodIn wsX1_putEntry (wsV RX1 41 RX1 yX1_putArgument wsX1_putArgument) := goodIn_app (goodIn_of _ (by decide +kernel)) ggX1_putEntry_X1_putArgument
set_option maxRecDepth 20000 in
theorem ggX1_putEntry_X5_isOperation : GoodIn wsX1_putEntry wsX5_isOperation := goodIn_r _ [28] (by decide +kernel) (by decide +kernel)
set_option maxRecDepth 20000 in
theorem gX1_putEntry_X5_isOperation_n52 : GoodIn wsX1_putEntry (wsX5_isOperation) := ggX1_putEntry_X5_isOperation
theorem dX1_putEntry_0 : decode cX1_putEntry 0 = .ok (.aload_n 1, 1) := by decide +kernel
theorem dX1_putEntry_1 : decode cX1_putEntry 1 = .ok (.iload_n 2, 1) := by decide +kernel
theorem dX1_putEntry_2 : decode cX1_putEntry 2 = .ok (.invokevirtual 19, 3) := by decide +kernel
theorem dX1_putEntry_5 : decode cX1_putEntry 5 = .ok (.ifCond .eq 9, 3) := by decide +kernel
theorem dX1_putEntry_8 : decode cX1_putEntry 8 = .ok (.iload_n 3, 1) := by decide +kernel
theorem dX1_putEntry_9 : decode cX1_putEntry 9 = .ok (.bipush 6, 2) := by decide +kernel
theorem dX1_putEntry_11 : decode cX1_putEntry 11 = .ok (.if_icmp .le 4, 3) := by decide +kernel
theorem dX1_putEntry_14 : decode cX1_putEntry 14 = .ok (.return_, 1) := by decide +kernel
theorem dX1_putEntry_15 : decode cX1_putEntry 15 = .ok (.aload_n 1, 1) := by decide +kernel
theorem dX1_putEntry_16 : decode cX1_putEntry 16 = .ok (.getfield 25, 3) := by decide +kernel
theorem dX1_putEntry_19 : decode cX1_putEntry 19 = .ok (.iload_n 2, 1) := by decide +kernel
theorem dX1_putEntry_20 : decode cX1_putEntry 20 = .ok (.iaload, 1) := by decide +kernel
theorem dX1_putEntry_21 : decode cX1_putEntry 21 = .ok (.istore 4, 2) := by decide +kernel
theorem dX1_putEntry_23 : decode cX1_putEntry 23 = .ok (.iload 4, 2) := by decide +kernel
theorem dX1_putEntry_25 : decode cX1_putEntry 25 = .ok (.iconst (-1), 1) := by decide +kernel
theorem dX1_putEntry_26 : decode cX1_putEntry 26 = .ok (.if_icmp .ne 12, 3) := by decide +kernel
theorem dX1_putEntry_29 : decode cX1_putEntry 29 = .ok (.aload_n 0, 1) := by decide +kernel
theorem dX1_putEntry_30 : decode cX1_putEntry 30 = .ok (.bipush 120, 2) := by decide +kernel
theorem dX1_putEntry_32 : decode cX1_putEntry 32 = .ok (.invokevirtual 28, 3) := by decide +kernel
theorem dX1_putEntry_35 : decode cX1_putEntry 35 = .ok (.goto 104, 3) := by decide +kernel
theorem dX1_putEntry_38 : decode cX1_putEntry 38 = .ok (.iload 4, 2) := by decide +kernel
theorem dX1_putEntry_40 : decode cX1_putEntry 40 = .ok (.bipush (-2), 2) := by decide +kernel
theorem dX1_putEntry_42 : decode cX1_putEntry 42 = .ok (.if_icmp .ne 16, 3) := by decide +kernel
theorem dX1_putEntry_45 : decode cX1_putEntry 45 = .ok (.aload_n 0, 1) := by decide +kernel
theorem dX1_putEntry_46 : decode cX1_putEntry 46 = .ok (.aload_n 1, 1) := by decide +kernel
theorem dX1_putEntry_47 : decode cX1_putEntry 47 = .ok (.getfield 32, 3) := by decide +kernel
theorem dX1_putEntry_50 : decode cX1_putEntry 50 = .ok (.iload_n 2, 1) := by decide +kernel
theorem dX1_putEntry_51 : decode cX1_putEntry 51 = .ok (.iaload, 1) := by decide +kernel
theorem dX1_putEntry_52 : decode cX1_putEntry 52 = .ok (.invokevirtual 35, 3) := by decide +kernel
theorem dX1_putEntry_55 : decode cX1_putEntry 55 = .ok (.goto 84, 3) := by decide +kernel
theorem dX1_putEntry_58 : decode cX1_putEntry 58 = .ok (.iload 4, 2) := by decide +kernel
theorem dX1_putEntry_60 : decode cX1_putEntry 60 = .ok (.invokestatic 38, 3) := by decide +kernel
theorem dX1_putEntry_63 : decode cX1_putEntry 63 = .ok (.ifCond .eq 44, 3) := by decide +kernel
theorem dX1_putEntry_66 : decode cX1_putEntry 66 = .ok (.aload_n 0, 1) := by decide +kernel
theorem dX1_putEntry_67 : decode cX1_putEntry 67 = .ok (.aload_n 1, 1) := by decide +kernel
theorem dX1_putEntry_68 : decode cX1_putEntry 68 = .ok (.aload_n 1, 1) := by decide +kernel
theorem dX1_putEntry_69 : decode cX1_putEntry 69 = .ok (.getfield 32, 3) := by decide +kernel
theorem dX1_putEntry_72 : decode cX1_putEntry 72 = .ok (.iload_n 2, 1) := by decide +kernel
theorem dX1_putEntry_73 : decode cX1_putEntry 73 = .ok (.iaload, 1) := by decide +kernel
theorem dX1_putEntry_74 : decode cX1_putEntry 74 = .ok (.iload_n 3, 1) := by decide +kernel
theorem dX1_putEntry_75 : decode cX1_putEntry 75 = .ok (.iconst 1, 1) := by decide +kernel
theorem dX1_putEntry_76 : decode cX1_putEntry 76 = .ok (.iadd, 1) := by decide +kernel
theorem dX1_putEntry_77 : decode cX1_putEntry 77 = .ok (.invokevirtual 41, 3) := by decide +kernel
theorem dX1_putEntry_80 : decode cX1_putEntry 80 = .ok (.aload_n 0, 1) := by decide +kernel
theorem dX1_putEntry_81 : decode cX1_putEntry 81 = .ok (.getstatic 45, 3) := by decide +kernel
theorem dX1_putEntry_84 : decode cX1_putEntry 84 = .ok (.iload 4, 2) := by decide +kernel
theorem dX1_putEntry_86 : decode cX1_putEntry 86 = .ok (.caload, 1) := by decide +kernel
theorem dX1_putEntry_87 : decode cX1_putEntry 87 = .ok (.invokevirtual 28, 3) := by decide +kernel
theorem dX1_putEntry_90 : decode cX1_putEntry 90 = .ok (.aload_n 0, 1) := by decide +kernel
theorem dX1_putEntry_91 : decode cX1_putEntry 91 = .ok (.aload_n 1, 1) := by decide +kernel
theorem dX1_putEntry_92 : decode cX1_putEntry 92 = .ok (.aload_n 1, 1) := by decide +kernel
theorem dX1_putEntry_93 : decode cX1_putEntry 93 = .ok (.getfield 49, 3) := by decide +kernel
theorem dX1_putEntry_96 : decode cX1_putEntry 96 = .ok (.iload_n 2, 1) := by decide +kernel
theorem dX1_putEntry_97 : decode cX1_putEntry 97 = .ok (.iaload, 1) := by decide +kernel
theorem dX1_putEntry_98 : decode cX1_putEntry 98 = .ok (.iload_n 3, 1) := by decide +kernel
theorem dX1_putEntry_99 : decode cX1_putEntry 99 = .ok (.iconst 1, 1) := by decide +kernel
theorem dX1_putEntry_100 : decode cX1_putEntry 100 = .ok (.iadd, 1) := by decide +kernel
theorem dX1_putEntry_101 : decode cX1_putEntry 101 = .ok (.invokevirtual 41, 3) := by decide +kernel
theorem dX1_putEntry_104 : decode cX1_putEntry 104 = .ok (.goto 35, 3) := by decide +kernel
theorem dX1_putEntry_107 : decode cX1_putEntry 107 = .ok (.iload 4, 2) := by decide +kernel
theorem dX1_putEntry_109 : decode cX1_putEntry 109 = .ok (.invokestatic 52, 3) := by decide +kernel
theorem dX1_putEntry_112 : decode cX1_putEntry 112 = .ok (.ifCond .eq 27, 3) := by decide +kernel
theorem dX1_putEntry_115 : decode cX1_putEntry 115 = .ok (.aload_n 0, 1) := by decide +kernel
theorem dX1_putEntry_116 : decode cX1_putEntry 116 = .ok (.getstatic 45, 3) := by decide +kernel
theorem dX1_putEntry_119 : decode cX1_putEntry 119 = .ok (.iload 4, 2) := by decide +kernel
theorem dX1_putEntry_121 : decode cX1_putEntry 121 = .ok (.caload, 1) := by decide +kernel
theorem dX1_putEntry_122 : decode cX1_putEntry 122 = .ok (.invokevirtual 28, 3) := by decide +kernel
theorem dX1_putEntry_125 : decode cX1_putEntry 125 = .ok (.aload_n 0, 1) := by decide +kernel
theorem dX1_putEntry_126 : decode cX1_putEntry 126 = .ok (.aload_n 1, 1) := by decide +kernel
theorem dX1_putEntry_127 : decode cX1_putEntry 127 = .ok (.aload_n 1, 1) := by decide +kernel
theorem dX1_putEntry_128 : decode cX1_putEntry 128 = .ok (.getfield 32, 3) := by decide +kernel
theorem dX1_putEntry_131 : decode cX1_putEntry 131 = .ok (.iload_n 2, 1) := by decide +kernel
theorem dX1_putEntry_132 : decode cX1_putEntry 132 = .ok (.iaload, 1) := by decide +kernel
theorem dX1_putEntry_133 : decode cX1_putEntry 133 = .ok (.iload_n 3, 1) := by decide +kernel
theorem dX1_putEntry_134 : decode cX1_putEntry 134 = .ok (.iconst 1, 1) := by decide +kernel
theorem dX1_putEntry_135 : decode cX1_putEntry 135 = .ok (.iadd, 1) := by decide +kernel
theorem dX1_putEntry_136 : decode cX1_putEntry 136 = .ok (.invokevirtual 41, 3) := by decide +kernel
theorem dX1_putEntry_139 : decode cX1_putEntry 139 = .ok (.return_, 1) := by decide +kernel
set_option maxRecDepth 20000 in
theorem ggX1_putArgument_X2_has : GoodIn wsX1_putArgument wsX2_has := goodIn_r _ [6, 7, 33, 34, 35, 36, 37, 38, 39, 40] (by decide +kernel) (by decide +kernel)
set_option maxRecDepth 20000 in
theorem gX1_putArgument_X2_has : GoodIn wsX1_putArgument (wsV RX1 19 RX2 yX2_has wsX2_has) := goodIn_app (goodIn_of _ (by decide +kernel)) ggX1_putArgument_X2_has
set_option maxRecDepth 20000 in
theorem ggX1_putArgument_X5_hasTwoArguments : GoodIn wsX1_putArgument wsX5_hasTwoArguments := goodIn_r _ [10] (by decide +kernel) (by decide +kernel)
set_option maxRecDepth 20000 in
theorem gX1_putArgument_X5_hasTwoArguments_n38 : GoodIn wsX1_putArgument (wsX5_hasTwoArguments) := ggX1_putArgument_X5_hasTwoArguments
set_option maxRecDepth 20000 in
theorem ggX1_putArgument_X1_put : GoodIn wsX1_putArgument wsX1_put := goodIn_r _ [15, 16, 17, 41, 42] (by decide +kernel) (by decide +kernel)
set_option maxRecDepth 20000 in
theorem gX1_putArgument_X1_put : GoodIn wsX1_putArgument (wsV RX1 28 RX1 yX1_put wsX1_put) := goodIn_app (goodIn_of _ (by decide +kernel)) ggX1_putArgument_X1_put
set_option maxRecDepth 20000 in
theorem ggX1_putArgument_X1_putEntry : GoodIn wsX1_putArgument wsX1_putEntry := goodIn_r _ [21, 1, 22, 23, 2, 3, 4, 5, 6, 7, 11, 12, 13, 14, 15, 16, 17, 24, 25, 26, 27, 8, 9, 10, 28, 29, 30, 31, 32, 0, 18, 19, 20, 33, 34, 35, 36, 37, 38, 39, 40, 41, 42] (by decide +kernel) (by decide +kernel)
set_option maxRecDepth 20000 in
theorem gX1_putArgument_X1_putEntry : GoodIn wsX1_putArgument (wsV RX1 55 RX1 yX1_putEntry wsX1_putEntry) := goodIn_app (goodIn_of _ (by decide +kernel)) ggX1_putArgument_X1_putEntry
theorem dX1_putArgument_0 : decode cX1_putArgument 0 = .ok (.aload_n 1, 1) := by decide +kernel
theorem dX1_putArgument_1 : decode cX1_putArgument 1 = .ok (.iload_n 2, 1) := by decide +kernel
theorem dX1_putArgument_2 : decode cX1_putArgument 2 = .ok (.invokevirtual 19, 3) := by decide +kernel
theorem dX1_putArgument_5 : decode cX1_putArgument 5 = .ok (.ifCond .eq 19, 3) := by decide +kernel
theorem dX1_putArgument_8 : decode cX1_putArgument 8 = .ok (.aload_n 1, 1) := by decide +kernel
theorem dX1_putArgument_9 : decode cX1_putArgument 9 = .ok (.getfield 25, 3) := by decide +kernel
theorem dX1_putArgument_12 : decode cX1_putArgument 12 = .ok (.iload_n 2, 1) := by decide +kernel
theorem dX1_putArgument_13 : decode cX1_putArgument 13 = .ok (.iaload, 1) := by decide +kernel
theorem dX1_putArgument_14 : decode cX1_putArgument 14 = .ok (.invokestatic 38, 3) := by decide +kernel
theorem dX1_putArgument_17 : decode cX1_putArgument 17 = .ok (.ifCond .eq 7, 3) := by decide +kernel
theorem dX1_putArgument_20 : decode cX1_putArgument 20 = .ok (.iconst 1, 1) := by decide +kernel
theorem dX1_putArgument_21 : decode cX1_putArgument 21 = .ok (.goto 4, 3) := by decide +kernel
theorem dX1_putArgument_24 : decode cX1_putArgument 24 = .ok (.iconst 0, 1) := by decide +kernel
theorem dX1_putArgument_25 : decode cX1_putArgument 25 = .ok (.istore 4, 2) := by decide +kernel
theorem dX1_putArgument_27 : decode cX1_putArgument 27 = .ok (.iload 4, 2) := by decide +kernel
theorem dX1_putArgument_29 : decode cX1_putArgument 29 = .ok (.ifCond .eq 9, 3) := by decide +kernel
theorem dX1_putArgument_32 : decode cX1_putArgument 32 = .ok (.aload_n 0, 1) := by decide +kernel
theorem dX1_putArgument_33 : decode cX1_putArgument 33 = .ok (.bipush 40, 2) := by decide +kernel
theorem dX1_putArgument_35 : decode cX1_putArgument 35 = .ok (.invokevirtual 28, 3) := by decide +kernel
theorem dX1_putArgument_38 : decode cX1_putArgument 38 = .ok (.aload_n 0, 1) := by decide +kernel
theorem dX1_putArgument_39 : decode cX1_putArgument 39 = .ok (.aload_n 1, 1) := by decide +kernel
theorem dX1_putArgument_40 : decode cX1_putArgument 40 = .ok (.iload_n 2, 1) := by decide +kernel
theorem dX1_putArgument_41 : decode cX1_putArgument 41 = .ok (.iload_n 3, 1) := by decide +kernel
theorem dX1_putArgument_42 : decode cX1_putArgument 42 = .ok (.invokevirtual 55, 3) := by decide +kernel
theorem dX1_putArgument_45 : decode cX1_putArgument 45 = .ok (.iload 4, 2) := by decide +kernel
theorem dX1_putArgument_47 : decode cX1_putArgument 47 = .ok (.ifCond .eq 9, 3) := by decide +kernel
theorem dX1_putArgument_50 : decode cX1_putArgument 50 = .ok (.aload_n 0, 1) := by decide +kernel
theorem dX1_putArgument_51 : decode cX1_putArgument 51 = .ok (.bipush 41, 2) := by decide +kernel
theorem dX1_putArgument_53 : decode cX1_putArgument 53 = .ok (.invokevirtual 28, 3) := by decide +kernel
theorem dX1_putArgument_56 : decode cX1_putArgument 56 = .ok (.return_, 1) := by decide +kernel
set_option maxRecDepth 20000 in
theorem ggX1_putNumber_X1_put : GoodIn wsX1_putNumber wsX1_put := goodIn_r _ [5, 6, 7, 8, 9] (by decide +kernel) (by decide +kernel)
set_option maxRecDepth 20000 in
theorem gX1_putNumber_X1_put : GoodIn wsX1_putNumber (wsV RX1 28 RX1 yX1_put wsX1_put) := goodIn_app (goodIn_of _ (by decide +kernel)) ggX1_putNumber_X1_put
theorem dX1_putNumber_0 : decode cX1_putNumber 0 = .ok (.iload_n 1, 1) := by decide +kernel
theorem dX1_putNumber_1 : decode cX1_putNumber 1 = .ok (.bipush 10, 2) := by decide +kernel
theorem dX1_putNumber_3 : decode cX1_putNumber 3 = .ok (.if_icmp .lt 14, 3) := by decide +kernel
theorem dX1_putNumber_6 : decode cX1_putNumber 6 = .ok (.aload_n 0, 1) := by decide +kernel
theorem dX1_putNumber_7 : decode cX1_putNumber 7 = .ok (.bipush 48, 2) := by decide +kernel
theorem dX1_putNumber_9 : decode cX1_putNumber 9 = .ok (.iload_n 1, 1) := by decide +kernel
theorem dX1_putNumber_10 : decode cX1_putNumber 10 = .ok (.bipush 10, 2) := by decide +kernel
theorem dX1_putNumber_12 : decode cX1_putNumber 12 = .ok (.idiv, 1) := by decide +kernel
theorem dX1_putNumber_13 : decode cX1_putNumber 13 = .ok (.iadd, 1) := by decide +kernel
theorem dX1_putNumber_14 : decode cX1_putNumber 14 = .ok (.invokevirtual 28, 3) := by decide +kernel
theorem dX1_putNumber_17 : decode cX1_putNumber 17 = .ok (.aload_n 0, 1) := by decide +kernel
theorem dX1_putNumber_18 : decode cX1_putNumber 18 = .ok (.bipush 48, 2) := by decide +kernel
theorem dX1_putNumber_20 : decode cX1_putNumber 20 = .ok (.iload_n 1, 1) := by decide +kernel
theorem dX1_putNumber_21 : decode cX1_putNumber 21 = .ok (.bipush 10, 2) := by decide +kernel
theorem dX1_putNumber_23 : decode cX1_putNumber 23 = .ok (.irem, 1) := by decide +kernel
theorem dX1_putNumber_24 : decode cX1_putNumber 24 = .ok (.iadd, 1) := by decide +kernel
theorem dX1_putNumber_25 : decode cX1_putNumber 25 = .ok (.invokevirtual 28, 3) := by decide +kernel
theorem dX1_putNumber_28 : decode cX1_putNumber 28 = .ok (.return_, 1) := by decide +kernel
set_option maxRecDepth 20000 in
theorem ggX1_addTo_X5_added : GoodIn wsX1_addTo wsX5_added := goodIn_r _ [5, 6] (by decide +kernel) (by decide +kernel)
set_option maxRecDepth 20000 in
theorem gX1_addTo_X5_added_n58 : GoodIn wsX1_addTo (wsX5_added) := ggX1_addTo_X5_added
theorem dX1_addTo_0 : decode cX1_addTo 0 = .ok (.lload_n 1, 1) := by decide +kernel
theorem dX1_addTo_1 : decode cX1_addTo 1 = .ok (.aload_n 0, 1) := by decide +kernel
theorem dX1_addTo_2 : decode cX1_addTo 2 = .ok (.getfield 15, 3) := by decide +kernel
theorem dX1_addTo_5 : decode cX1_addTo 5 = .ok (.i2l, 1) := by decide +kernel
theorem dX1_addTo_6 : decode cX1_addTo 6 = .ok (.invokestatic 58, 3) := by decide +kernel
theorem dX1_addTo_9 : decode cX1_addTo 9 = .ok (.lstore_n 3, 1) := by decide +kernel
theorem dX1_addTo_10 : decode cX1_addTo 10 = .ok (.iconst 0, 1) := by decide +kernel
theorem dX1_addTo_11 : decode cX1_addTo 11 = .ok (.istore 5, 2) := by decide +kernel
theorem dX1_addTo_13 : decode cX1_addTo 13 = .ok (.iload 5, 2) := by decide +kernel
theorem dX1_addTo_15 : decode cX1_addTo 15 = .ok (.aload_n 0, 1) := by decide +kernel
theorem dX1_addTo_16 : decode cX1_addTo 16 = .ok (.getfield 15, 3) := by decide +kernel
theorem dX1_addTo_19 : decode cX1_addTo 19 = .ok (.if_icmp .ge 22, 3) := by decide +kernel
theorem dX1_addTo_22 : decode cX1_addTo 22 = .ok (.lload_n 3, 1) := by decide +kernel
theorem dX1_addTo_23 : decode cX1_addTo 23 = .ok (.aload_n 0, 1) := by decide +kernel
theorem dX1_addTo_24 : decode cX1_addTo 24 = .ok (.getfield 11, 3) := by decide +kernel
theorem dX1_addTo_27 : decode cX1_addTo 27 = .ok (.iload 5, 2) := by decide +kernel
theorem dX1_addTo_29 : decode cX1_addTo 29 = .ok (.iaload, 1) := by decide +kernel
theorem dX1_addTo_30 : decode cX1_addTo 30 = .ok (.i2l, 1) := by decide +kernel
theorem dX1_addTo_31 : decode cX1_addTo 31 = .ok (.invokestatic 58, 3) := by decide +kernel
theorem dX1_addTo_34 : decode cX1_addTo 34 = .ok (.lstore_n 3, 1) := by decide +kernel
theorem dX1_addTo_35 : decode cX1_addTo 35 = .ok (.iinc 5 1, 3) := by decide +kernel
theorem dX1_addTo_38 : decode cX1_addTo 38 = .ok (.goto (-25), 3) := by decide +kernel
theorem dX1_addTo_41 : decode cX1_addTo 41 = .ok (.lload_n 3, 1) := by decide +kernel
theorem dX1_addTo_42 : decode cX1_addTo 42 = .ok (.lreturn, 1) := by decide +kernel
set_option maxRecDepth 20000 in
theorem ggX2_init_J7_fill_53178 : GoodIn wsX2_init wsJ7_fill_53178 := goodIn_r _ [16] (by decide +kernel) (by decide +kernel)
set_option maxRecDepth 20000 in
theorem gX2_init_J7_fill_53178 : GoodIn wsX2_init (va_wsS RX2 34 yJ7_fill_53178 wsJ7_fill_53178) := goodIn_app (goodIn_of _ (by decide +kernel)) ggX2_init_J7_fill_53178
theorem dX2_init_0 : decode cX2_init 0 = .ok (.aload_n 0, 1) := by decide +kernel
theorem dX2_init_1 : decode cX2_init 1 = .ok (.invokespecial 3, 3) := by decide +kernel
theorem dX2_init_4 : decode cX2_init 4 = .ok (.aload_n 0, 1) := by decide +kernel
theorem dX2_init_5 : decode cX2_init 5 = .ok (.sipush 2000, 3) := by decide +kernel
theorem dX2_init_8 : decode cX2_init 8 = .ok (.newarray .long, 2) := by decide +kernel
theorem dX2_init_10 : decode cX2_init 10 = .ok (.putfield 11, 3) := by decide +kernel
theorem dX2_init_13 : decode cX2_init 13 = .ok (.aload_n 0, 1) := by decide +kernel
theorem dX2_init_14 : decode cX2_init 14 = .ok (.sipush 2000, 3) := by decide +kernel
theorem dX2_init_17 : decode cX2_init 17 = .ok (.newarray .int, 2) := by decide +kernel
theorem dX2_init_19 : decode cX2_init 19 = .ok (.putfield 15, 3) := by decide +kernel
theorem dX2_init_22 : decode cX2_init 22 = .ok (.aload_n 0, 1) := by decide +kernel
theorem dX2_init_23 : decode cX2_init 23 = .ok (.sipush 2000, 3) := by decide +kernel
theorem dX2_init_26 : decode cX2_init 26 = .ok (.newarray .int, 2) := by decide +kernel
theorem dX2_init_28 : decode cX2_init 28 = .ok (.putfield 19, 3) := by decide +kernel
theorem dX2_init_31 : decode cX2_init 31 = .ok (.aload_n 0, 1) := by decide +kernel
theorem dX2_init_32 : decode cX2_init 32 = .ok (.sipush 2000, 3) := by decide +kernel
theorem dX2_init_35 : decode cX2_init 35 = .ok (.newarray .int, 2) := by decide +kernel
theorem dX2_init_37 : decode cX2_init 37 = .ok (.putfield 22, 3) := by decide +kernel
theorem dX2_init_40 : decode cX2_init 40 = .ok (.aload_n 0, 1) := by decide +kernel
theorem dX2_init_41 : decode cX2_init 41 = .ok (.bipush 8, 2) := by decide +kernel
theorem dX2_init_43 : decode cX2_init 43 = .ok (.newarray .int, 2) := by decide +kernel
theorem dX2_init_45 : decode cX2_init 45 = .ok (.putfield 25, 3) := by decide +kernel
theorem dX2_init_48 : decode cX2_init 48 = .ok (.aload_n 0, 1) := by decide +kernel
theorem dX2_init_49 : decode cX2_init 49 = .ok (.sipush 4096, 3) := by decide +kernel
theorem dX2_init_52 : decode cX2_init 52 = .ok (.newarray .int, 2) := by decide +kernel
theorem dX2_init_54 : decode cX2_init 54 = .ok (.putfield 28, 3) := by decide +kernel
theorem dX2_init_57 : decode cX2_init 57 = .ok (.aload_n 0, 1) := by decide +kernel
theorem dX2_init_58 : decode cX2_init 58 = .ok (.bipush 13, 2) := by decide +kernel
theorem dX2_init_60 : decode cX2_init 60 = .ok (.newarray .int, 2) := by decide +kernel
theorem dX2_init_62 : decode cX2_init 62 = .ok (.putfield 31, 3) := by decide +kernel
theorem dX2_init_65 : decode cX2_init 65 = .ok (.aload_n 0, 1) := by decide +kernel
theorem dX2_init_66 : decode cX2_init 66 = .ok (.getfield 28, 3) := by decide +kernel
theorem dX2_init_69 : decode cX2_init 69 = .ok (.iconst (-1), 1) := by decide +kernel
theorem dX2_init_70 : decode cX2_init 70 = .ok (.invokestatic 34, 3) := by decide +kernel
theorem dX2_init_73 : decode cX2_init 73 = .ok (.return_, 1) := by decide +kernel
theorem dX2_has_0 : decode cX2_has 0 = .ok (.iload_n 1, 1) := by decide +kernel
theorem dX2_has_1 : decode cX2_has 1 = .ok (.ifCond .lt 15, 3) := by decide +kernel
theorem dX2_has_4 : decode cX2_has 4 = .ok (.iload_n 1, 1) := by decide +kernel
theorem dX2_has_5 : decode cX2_has 5 = .ok (.aload_n 0, 1) := by decide +kernel
theorem dX2_has_6 : decode cX2_has 6 = .ok (.getfield 40, 3) := by decide +kernel
theorem dX2_has_9 : decode cX2_has 9 = .ok (.if_icmp .ge 7, 3) := by decide +kernel
theorem dX2_has_12 : decode cX2_has 12 = .ok (.iconst 1, 1) := by decide +kernel
theorem dX2_has_13 : decode cX2_has 13 = .ok (.goto 4, 3) := by decide +kernel
theorem dX2_has_16 : decode cX2_has 16 = .ok (.iconst 0, 1) := by decide +kernel
theorem dX2_has_17 : decode cX2_has 17 = .ok (.ireturn, 1) := by decide +kernel
theorem dX2_isFull_0 : decode cX2_isFull 0 = .ok (.aload_n 0, 1) := by decide +kernel
theorem dX2_isFull_1 : decode cX2_isFull 1 = .ok (.getfield 40, 3) := by decide +kernel
theorem dX2_isFull_4 : decode cX2_isFull 4 = .ok (.sipush 2000, 3) := by decide +kernel
theorem dX2_isFull_7 : decode cX2_isFull 7 = .ok (.if_icmp .lt 7, 3) := by decide +kernel
theorem dX2_isFull_10 : decode cX2_isFull 10 = .ok (.iconst 1, 1) := by decide +kernel
theorem dX2_isFull_11 : decode cX2_isFull 11 = .ok (.goto 4, 3) := by decide +kernel
theorem dX2_isFull_14 : decode cX2_isFull 14 = .ok (.iconst 0, 1) := by decide +kernel
theorem dX2_isFull_15 : decode cX2_isFull 15 = .ok (.ireturn, 1) := by decide +kernel
set_option maxRecDepth 20000 in
theorem ggX2_make_J7_fill_53178 : GoodIn wsX2_make wsJ7_fill_53178 := goodIn_r _ [7] (by decide +kernel) (by decide +kernel)
set_option maxRecDepth 20000 in
theorem gX2_make_J7_fill_53178 : GoodIn wsX2_make (va_wsS RX2 34 yJ7_fill_53178 wsJ7_fill_53178) := goodIn_app (goodIn_of _ (by decide +kernel)) ggX2_make_J7_fill_53178
set_option maxRecDepth 20000 in
theorem ggX2_make_X2_makeCost : GoodIn wsX2_make wsX2_makeCost := goodIn_r _ [12, 13, 14, 15, 16, 17, 18, 11, 19, 2, 1, 20, 21, 22, 23, 24, 25, 26, 27, 28, 29, 30, 31, 32, 33, 34, 35, 36, 37, 38, 39, 40, 41, 42, 43, 44, 45, 46, 47, 48, 49, 50, 51, 52, 53, 54, 55, 3, 56, 57, 58, 59, 60, 61, 62, 63, 64, 65, 66, 67, 68, 69, 70, 71, 72, 73, 74, 75, 76, 77, 78, 87, 88, 89, 79, 80, 81, 82, 83, 84, 85, 86] (by decide +kernel) (by decide +kernel)
set_option maxRecDepth 20000 in
theorem gX2_make_X2_makeCost : GoodIn wsX2_make (wsV RX2 44 RX2 yX2_makeCost wsX2_makeCost) := goodIn_app (goodIn_of _ (by decide +kernel)) ggX2_make_X2_makeCost
theorem dX2_make_0 : decode cX2_make 0 = .ok (.aload_n 0, 1) := by decide +kernel
theorem dX2_make_1 : decode cX2_make 1 = .ok (.iconst 0, 1) := by decide +kernel
theorem dX2_make_2 : decode cX2_make 2 = .ok (.putfield 40, 3) := by decide +kernel
theorem dX2_make_5 : decode cX2_make 5 = .ok (.aload_n 0, 1) := by decide +kernel
theorem dX2_make_6 : decode cX2_make 6 = .ok (.getfield 28, 3) := by decide +kernel
theorem dX2_make_9 : decode cX2_make 9 = .ok (.iconst (-1), 1) := by decide +kernel
theorem dX2_make_10 : decode cX2_make 10 = .ok (.invokestatic 34, 3) := by decide +kernel
theorem dX2_make_13 : decode cX2_make 13 = .ok (.iconst 0, 1) := by decide +kernel
theorem dX2_make_14 : decode cX2_make 14 = .ok (.istore_n 3, 1) := by decide +kernel
theorem dX2_make_15 : decode cX2_make 15 = .ok (.iload_n 3, 1) := by decide +kernel
theorem dX2_make_16 : decode cX2_make 16 = .ok (.aload_n 0, 1) := by decide +kernel
theorem dX2_make_17 : decode cX2_make 17 = .ok (.getfield 25, 3) := by decide +kernel
theorem dX2_make_20 : decode cX2_make 20 = .ok (.arraylength, 1) := by decide +kernel
theorem dX2_make_21 : decode cX2_make 21 = .ok (.if_icmp .ge 36, 3) := by decide +kernel
theorem dX2_make_24 : decode cX2_make 24 = .ok (.aload_n 0, 1) := by decide +kernel
theorem dX2_make_25 : decode cX2_make 25 = .ok (.getfield 25, 3) := by decide +kernel
theorem dX2_make_28 : decode cX2_make 28 = .ok (.iload_n 3, 1) := by decide +kernel
theorem dX2_make_29 : decode cX2_make 29 = .ok (.aload_n 0, 1) := by decide +kernel
theorem dX2_make_30 : decode cX2_make 30 = .ok (.getfield 40, 3) := by decide +kernel
theorem dX2_make_33 : decode cX2_make 33 = .ok (.iastore, 1) := by decide +kernel
theorem dX2_make_34 : decode cX2_make 34 = .ok (.iload_n 3, 1) := by decide +kernel
theorem dX2_make_35 : decode cX2_make 35 = .ok (.iload_n 1, 1) := by decide +kernel
theorem dX2_make_36 : decode cX2_make 36 = .ok (.if_icmp .gt 15, 3) := by decide +kernel
theorem dX2_make_39 : decode cX2_make 39 = .ok (.iload_n 3, 1) := by decide +kernel
theorem dX2_make_40 : decode cX2_make 40 = .ok (.bipush 6, 2) := by decide +kernel
theorem dX2_make_42 : decode cX2_make 42 = .ok (.if_icmp .gt 9, 3) := by decide +kernel
theorem dX2_make_45 : decode cX2_make 45 = .ok (.aload_n 0, 1) := by decide +kernel
theorem dX2_make_46 : decode cX2_make 46 = .ok (.iload_n 3, 1) := by decide +kernel
theorem dX2_make_47 : decode cX2_make 47 = .ok (.aload_n 2, 1) := by decide +kernel
theorem dX2_make_48 : decode cX2_make 48 = .ok (.invokevirtual 44, 3) := by decide +kernel
theorem dX2_make_51 : decode cX2_make 51 = .ok (.iinc 3 1, 3) := by decide +kernel
theorem dX2_make_54 : decode cX2_make 54 = .ok (.goto (-39), 3) := by decide +kernel
theorem dX2_make_57 : decode cX2_make 57 = .ok (.return_, 1) := by decide +kernel
set_option maxRecDepth 20000 in
theorem ggX2_makeCost_X2_add : GoodIn wsX2_makeCost wsX2_add := goodIn_r _ [8, 9, 10, 11, 12, 13, 14, 15, 16, 17, 7, 18, 19, 20, 21, 22, 23, 74, 75, 76, 77, 78, 79, 80, 81] (by decide +kernel) (by decide +kernel)
set_option maxRecDepth 20000 in
theorem gX2_makeCost_X2_add : GoodIn wsX2_makeCost (wsV RX2 50 RX2 yX2_add wsX2_add) := goodIn_app (goodIn_of _ (by decide +kernel)) ggX2_makeCost_X2_add
set_option maxRecDepth 20000 in
theorem ggX2_makeCost_X3_priceOfConstants : GoodIn wsX2_makeCost wsX3_priceOfConstants := goodIn_r _ [28, 29, 71, 72, 73] (by decide +kernel) (by decide +kernel)
set_option maxRecDepth 20000 in
theorem gX2_makeCost_X3_priceOfConstants : GoodIn wsX2_makeCost (wsV RX2 54 RX3 yX3_priceOfConstants wsX3_priceOfConstants) := goodIn_app (goodIn_of _ (by decide +kernel)) ggX2_makeCost_X3_priceOfConstants
set_option maxRecDepth 20000 in
theorem ggX2_makeCost_X2_addConstants : GoodIn wsX2_makeCost wsX2_addConstants := goodIn_r _ [33, 34, 35, 36, 37, 38, 39, 4, 5, 6, 7, 8, 9, 10, 11, 12, 13, 14, 15, 16, 17, 18, 19, 20, 21, 22, 23, 71, 72, 73, 74, 75, 76, 77, 78, 79, 80, 81] (by decide +kernel) (by decide +kernel)
set_option maxRecDepth 20000 in
theorem gX2_makeCost_X2_addConstants : GoodIn wsX2_makeCost (wsV RX2 60 RX2 yX2_addConstants wsX2_addConstants) := goodIn_app (goodIn_of _ (by decide +kernel)) ggX2_makeCost_X2_addConstants
set_option maxRecDepth 20000 in
theorem ggX2_makeCost_X5_hasTwoArguments : GoodIn wsX2_makeCost wsX5_hasTwoArguments := goodIn_r _ [42] (by decide +kernel) (by decide +kernel)
set_option maxRecDepth 20000 in
theorem gX2_makeCost_X5_hasTwoArguments_n71 : GoodIn wsX2_makeCost (wsX5_hasTwoArguments) := ggX2_makeCost_X5_hasTwoArguments
set_option maxRecDepth 20000 in
theorem ggX2_makeCost_X2_addOfTwo : GoodIn wsX2_makeCost wsX2_addOfTwo := goodIn_r _ [46, 47, 11, 20, 21, 22, 7, 23, 10, 48, 49, 37, 50, 51, 52, 53, 54, 55, 56, 57, 58, 59, 60, 61, 62, 63, 64, 65, 39, 66, 4, 5, 6, 8, 9, 12, 13, 14, 15, 16, 17, 18, 19, 74, 75, 76, 77, 78, 79, 80, 81] (by decide +kernel) (by decide +kernel)
set_option maxRecDepth 20000 in
theorem gX2_makeCost_X2_addOfTwo : GoodIn wsX2_makeCost (wsV RX2 75 RX2 yX2_addOfTwo wsX2_addOfTwo) := goodIn_app (goodIn_of _ (by decide +kernel)) ggX2_makeCost_X2_addOfTwo
set_option maxRecDepth 20000 in
theorem ggX2_makeCost_X2_addOfOne : GoodIn wsX2_makeCost wsX2_addOfOne := goodIn_r _ [70, 47, 11, 20, 21, 22, 7, 23, 10, 48, 49, 37, 50, 51, 52, 53, 54, 55, 56, 57, 58, 59, 60, 61, 62, 63, 64, 65, 39, 66, 4, 5, 6, 8, 9, 12, 13, 14, 15, 16, 17, 18, 19, 74, 75, 76, 77, 78, 79, 80, 81] (by decide +kernel) (by decide +kernel)
set_option maxRecDepth 20000 in
theorem gX2_makeCost_X2_addOfOne : GoodIn wsX2_makeCost (wsV RX2 79 RX2 yX2_addOfOne wsX2_addOfOne) := goodIn_app (goodIn_of _ (by decide +kernel)) ggX2_makeCost_X2_addOfOne
theorem dX2_makeCost_0 : decode cX2_makeCost 0 = .ok (.iload_n 1, 1) := by decide +kernel
theorem dX2_makeCost_1 : decode cX2_makeCost 1 = .ok (.ifCond .ne 13, 3) := by decide +kernel
theorem dX2_makeCost_4 : decode cX2_makeCost 4 = .ok (.aload_n 0, 1) := by decide +kernel
theorem dX2_makeCost_5 : decode cX2_makeCost 5 = .ok (.ldc2_w 48, 3) := by decide +kernel
theorem dX2_makeCost_8 : decode cX2_makeCost 8 = .ok (.iconst (-1), 1) := by decide +kernel
theorem dX2_makeCost_9 : decode cX2_makeCost 9 = .ok (.iconst (-1), 1) := by decide +kernel
theorem dX2_makeCost_10 : decode cX2_makeCost 10 = .ok (.iconst (-1), 1) := by decide +kernel
theorem dX2_makeCost_11 : decode cX2_makeCost 11 = .ok (.invokevirtual 50, 3) := by decide +kernel
theorem dX2_makeCost_14 : decode cX2_makeCost 14 = .ok (.iload_n 1, 1) := by decide +kernel
theorem dX2_makeCost_15 : decode cX2_makeCost 15 = .ok (.aload_n 2, 1) := by decide +kernel
theorem dX2_makeCost_16 : decode cX2_makeCost 16 = .ok (.invokevirtual 54, 3) := by decide +kernel
theorem dX2_makeCost_19 : decode cX2_makeCost 19 = .ok (.if_icmp .ne 8, 3) := by decide +kernel
theorem dX2_makeCost_22 : decode cX2_makeCost 22 = .ok (.aload_n 0, 1) := by decide +kernel
theorem dX2_makeCost_23 : decode cX2_makeCost 23 = .ok (.aload_n 2, 1) := by decide +kernel
theorem dX2_makeCost_24 : decode cX2_makeCost 24 = .ok (.invokevirtual 60, 3) := by decide +kernel
theorem dX2_makeCost_27 : decode cX2_makeCost 27 = .ok (.iconst 0, 1) := by decide +kernel
theorem dX2_makeCost_28 : decode cX2_makeCost 28 = .ok (.istore_n 3, 1) := by decide +kernel
theorem dX2_makeCost_29 : decode cX2_makeCost 29 = .ok (.iload_n 3, 1) := by decide +kernel
theorem dX2_makeCost_30 : decode cX2_makeCost 30 = .ok (.bipush 10, 2) := by decide +kernel
theorem dX2_makeCost_32 : decode cX2_makeCost 32 = .ok (.if_icmp .ge 60, 3) := by decide +kernel
theorem dX2_makeCost_35 : decode cX2_makeCost 35 = .ok (.iload_n 1, 1) := by decide +kernel
theorem dX2_makeCost_36 : decode cX2_makeCost 36 = .ok (.aload_n 2, 1) := by decide +kernel
theorem dX2_makeCost_37 : decode cX2_makeCost 37 = .ok (.getfield 64, 3) := by decide +kernel
theorem dX2_makeCost_40 : decode cX2_makeCost 40 = .ok (.iload_n 3, 1) := by decide +kernel
theorem dX2_makeCost_41 : decode cX2_makeCost 41 = .ok (.iaload, 1) := by decide +kernel
theorem dX2_makeCost_42 : decode cX2_makeCost 42 = .ok (.isub, 1) := by decide +kernel
theorem dX2_makeCost_43 : decode cX2_makeCost 43 = .ok (.istore 4, 2) := by decide +kernel
theorem dX2_makeCost_45 : decode cX2_makeCost 45 = .ok (.aload_n 2, 1) := by decide +kernel
theorem dX2_makeCost_46 : decode cX2_makeCost 46 = .ok (.getfield 67, 3) := by decide +kernel
theorem dX2_makeCost_49 : decode cX2_makeCost 49 = .ok (.iload_n 3, 1) := by decide +kernel
theorem dX2_makeCost_50 : decode cX2_makeCost 50 = .ok (.baload, 1) := by decide +kernel
theorem dX2_makeCost_51 : decode cX2_makeCost 51 = .ok (.ifCond .eq 35, 3) := by decide +kernel
theorem dX2_makeCost_54 : decode cX2_makeCost 54 = .ok (.iload 4, 2) := by decide +kernel
theorem dX2_makeCost_56 : decode cX2_makeCost 56 = .ok (.ifCond .ge 6, 3) := by decide +kernel
theorem dX2_makeCost_59 : decode cX2_makeCost 59 = .ok (.goto 27, 3) := by decide +kernel
theorem dX2_makeCost_62 : decode cX2_makeCost 62 = .ok (.iload_n 3, 1) := by decide +kernel
theorem dX2_makeCost_63 : decode cX2_makeCost 63 = .ok (.invokestatic 71, 3) := by decide +kernel
theorem dX2_makeCost_66 : decode cX2_makeCost 66 = .ok (.ifCond .eq 13, 3) := by decide +kernel
theorem dX2_makeCost_69 : decode cX2_makeCost 69 = .ok (.aload_n 0, 1) := by decide +kernel
theorem dX2_makeCost_70 : decode cX2_makeCost 70 = .ok (.iload_n 3, 1) := by decide +kernel
theorem dX2_makeCost_71 : decode cX2_makeCost 71 = .ok (.iload 4, 2) := by decide +kernel
theorem dX2_makeCost_73 : decode cX2_makeCost 73 = .ok (.invokevirtual 75, 3) := by decide +kernel
theorem dX2_makeCost_76 : decode cX2_makeCost 76 = .ok (.goto 10, 3) := by decide +kernel
theorem dX2_makeCost_79 : decode cX2_makeCost 79 = .ok (.aload_n 0, 1) := by decide +kernel
theorem dX2_makeCost_80 : decode cX2_makeCost 80 = .ok (.iload_n 3, 1) := by decide +kernel
theorem dX2_makeCost_81 : decode cX2_makeCost 81 = .ok (.iload 4, 2) := by decide +kernel
theorem dX2_makeCost_83 : decode cX2_makeCost 83 = .ok (.invokevirtual 79, 3) := by decide +kernel
theorem dX2_makeCost_86 : decode cX2_makeCost 86 = .ok (.iinc 3 1, 3) := by decide +kernel
theorem dX2_makeCost_89 : decode cX2_makeCost 89 = .ok (.goto (-60), 3) := by decide +kernel
theorem dX2_makeCost_92 : decode cX2_makeCost 92 = .ok (.return_, 1) := by decide +kernel
set_option maxRecDepth 20000 in
theorem ggX2_addConstants_X0_constant : GoodIn wsX2_addConstants wsX0_constant := goodIn_r _ [5, 6] (by decide +kernel) (by decide +kernel)
set_option maxRecDepth 20000 in
theorem gX2_addConstants_X0_constant : GoodIn wsX2_addConstants (va_wsS RX2 85 yX0_constant wsX0_constant) := goodIn_app (goodIn_of _ (by decide +kernel)) ggX2_addConstants_X0_constant
set_option maxRecDepth 20000 in
theorem ggX2_addConstants_X2_add : GoodIn wsX2_addConstants wsX2_add := goodIn_r _ [11, 12, 13, 14, 15, 16, 17, 18, 19, 20, 10, 21, 22, 23, 24, 25, 26, 30, 31, 32, 33, 34, 35, 36, 37] (by decide +kernel) (by decide +kernel)
set_option maxRecDepth 20000 in
theorem gX2_addConstants_X2_add : GoodIn wsX2_addConstants (wsV RX2 50 RX2 yX2_add wsX2_add) := goodIn_app (goodIn_of _ (by decide +kernel)) ggX2_addConstants_X2_add
theorem dX2_addConstants_0 : decode cX2_addConstants 0 = .ok (.iconst 0, 1) := by decide +kernel
theorem dX2_addConstants_1 : decode cX2_addConstants 1 = .ok (.istore_n 2, 1) := by decide +kernel
theorem dX2_addConstants_2 : decode cX2_addConstants 2 = .ok (.iload_n 2, 1) := by decide +kernel
theorem dX2_addConstants_3 : decode cX2_addConstants 3 = .ok (.bipush 16, 2) := by decide +kernel
theorem dX2_addConstants_5 : decode cX2_addConstants 5 = .ok (.if_icmp .ge 30, 3) := by decide +kernel
theorem dX2_addConstants_8 : decode cX2_addConstants 8 = .ok (.aload_n 1, 1) := by decide +kernel
theorem dX2_addConstants_9 : decode cX2_addConstants 9 = .ok (.getfield 82, 3) := by decide +kernel
theorem dX2_addConstants_12 : decode cX2_addConstants 12 = .ok (.iload_n 2, 1) := by decide +kernel
theorem dX2_addConstants_13 : decode cX2_addConstants 13 = .ok (.baload, 1) := by decide +kernel
theorem dX2_addConstants_14 : decode cX2_addConstants 14 = .ok (.ifCond .eq 15, 3) := by decide +kernel
theorem dX2_addConstants_17 : decode cX2_addConstants 17 = .ok (.aload_n 0, 1) := by decide +kernel
theorem dX2_addConstants_18 : decode cX2_addConstants 18 = .ok (.iload_n 2, 1) := by decide +kernel
theorem dX2_addConstants_19 : decode cX2_addConstants 19 = .ok (.invokestatic 85, 3) := by decide +kernel
theorem dX2_addConstants_22 : decode cX2_addConstants 22 = .ok (.bipush (-2), 2) := by decide +kernel
theorem dX2_addConstants_24 : decode cX2_addConstants 24 = .ok (.iload_n 2, 1) := by decide +kernel
theorem dX2_addConstants_25 : decode cX2_addConstants 25 = .ok (.iconst (-1), 1) := by decide +kernel
theorem dX2_addConstants_26 : decode cX2_addConstants 26 = .ok (.invokevirtual 50, 3) := by decide +kernel
theorem dX2_addConstants_29 : decode cX2_addConstants 29 = .ok (.iinc 2 1, 3) := by decide +kernel
theorem dX2_addConstants_32 : decode cX2_addConstants 32 = .ok (.goto (-30), 3) := by decide +kernel
theorem dX2_addConstants_35 : decode cX2_addConstants 35 = .ok (.return_, 1) := by decide +kernel
set_option maxRecDepth 20000 in
theorem ggX2_addOfOne_X2_isFull : GoodIn wsX2_addOfOne wsX2_isFull := goodIn_r _ [7, 8, 43, 44, 45, 46, 47, 48, 49, 50] (by decide +kernel) (by decide +kernel)
set_option maxRecDepth 20000 in
theorem gX2_addOfOne_X2_isFull : GoodIn wsX2_addOfOne (wsV RX2 91 RX2 yX2_isFull wsX2_isFull) := goodIn_app (goodIn_of _ (by decide +kernel)) ggX2_addOfOne_X2_isFull
set_option maxRecDepth 20000 in
theorem ggX2_addOfOne_X0_made : GoodIn wsX2_addOfOne wsX0_made := goodIn_r _ [12, 13, 14, 15, 16, 11, 17, 18, 19, 20, 21, 22, 23, 24, 25, 26, 27, 28, 29] (by decide +kernel) (by decide +kernel)
set_option maxRecDepth 20000 in
theorem gX2_addOfOne_X0_made : GoodIn wsX2_addOfOne (va_wsS RX2 95 yX0_made wsX0_made) := goodIn_app (goodIn_of _ (by decide +kernel)) ggX2_addOfOne_X0_made
set_option maxRecDepth 20000 in
theorem ggX2_addOfOne_X2_add : GoodIn wsX2_addOfOne wsX2_add := goodIn_r _ [33, 34, 8, 2, 35, 36, 37, 38, 39, 40, 6, 41, 42, 3, 4, 5, 7, 43, 44, 45, 46, 47, 48, 49, 50] (by decide +kernel) (by decide +kernel)
set_option maxRecDepth 20000 in
theorem gX2_addOfOne_X2_add : GoodIn wsX2_addOfOne (wsV RX2 50 RX2 yX2_add wsX2_add) := goodIn_app (goodIn_of _ (by decide +kernel)) ggX2_addOfOne_X2_add
theorem dX2_addOfOne_0 : decode cX2_addOfOne 0 = .ok (.aload_n 0, 1) := by decide +kernel
theorem dX2_addOfOne_1 : decode cX2_addOfOne 1 = .ok (.getfield 25, 3) := by decide +kernel
theorem dX2_addOfOne_4 : decode cX2_addOfOne 4 = .ok (.iload_n 2, 1) := by decide +kernel
theorem dX2_addOfOne_5 : decode cX2_addOfOne 5 = .ok (.iconst 1, 1) := by decide +kernel
theorem dX2_addOfOne_6 : decode cX2_addOfOne 6 = .ok (.iadd, 1) := by decide +kernel
theorem dX2_addOfOne_7 : decode cX2_addOfOne 7 = .ok (.iaload, 1) := by decide +kernel
theorem dX2_addOfOne_8 : decode cX2_addOfOne 8 = .ok (.istore_n 3, 1) := by decide +kernel
theorem dX2_addOfOne_9 : decode cX2_addOfOne 9 = .ok (.aload_n 0, 1) := by decide +kernel
theorem dX2_addOfOne_10 : decode cX2_addOfOne 10 = .ok (.getfield 25, 3) := by decide +kernel
theorem dX2_addOfOne_13 : decode cX2_addOfOne 13 = .ok (.iload_n 2, 1) := by decide +kernel
theorem dX2_addOfOne_14 : decode cX2_addOfOne 14 = .ok (.iaload, 1) := by decide +kernel
theorem dX2_addOfOne_15 : decode cX2_addOfOne 15 = .ok (.istore 4, 2) := by decide +kernel
theorem dX2_addOfOne_17 : decode cX2_addOfOne 17 = .ok (.iload 4, 2) := by decide +kernel
theorem dX2_addOfOne_19 : decode cX2_addOfOne 19 = .ok (.iload_n 3, 1) := by decide +kernel
theorem dX2_addOfOne_20 : decode cX2_addOfOne 20 = .ok (.if_icmp .ge 36, 3) := by decide +kernel
theorem dX2_addOfOne_23 : decode cX2_addOfOne 23 = .ok (.aload_n 0, 1) := by decide +kernel
theorem dX2_addOfOne_24 : decode cX2_addOfOne 24 = .ok (.invokevirtual 91, 3) := by decide +kernel
theorem dX2_addOfOne_27 : decode cX2_addOfOne 27 = .ok (.ifCond .ne 29, 3) := by decide +kernel
theorem dX2_addOfOne_30 : decode cX2_addOfOne 30 = .ok (.aload_n 0, 1) := by decide +kernel
theorem dX2_addOfOne_31 : decode cX2_addOfOne 31 = .ok (.iload_n 1, 1) := by decide +kernel
theorem dX2_addOfOne_32 : decode cX2_addOfOne 32 = .ok (.aload_n 0, 1) := by decide +kernel
theorem dX2_addOfOne_33 : decode cX2_addOfOne 33 = .ok (.getfield 11, 3) := by decide +kernel
theorem dX2_addOfOne_36 : decode cX2_addOfOne 36 = .ok (.iload 4, 2) := by decide +kernel
theorem dX2_addOfOne_38 : decode cX2_addOfOne 38 = .ok (.laload, 1) := by decide +kernel
theorem dX2_addOfOne_39 : decode cX2_addOfOne 39 = .ok (.lconst 0, 1) := by decide +kernel
theorem dX2_addOfOne_40 : decode cX2_addOfOne 40 = .ok (.invokestatic 95, 3) := by decide +kernel
theorem dX2_addOfOne_43 : decode cX2_addOfOne 43 = .ok (.iload_n 1, 1) := by decide +kernel
theorem dX2_addOfOne_44 : decode cX2_addOfOne 44 = .ok (.iload 4, 2) := by decide +kernel
theorem dX2_addOfOne_46 : decode cX2_addOfOne 46 = .ok (.iconst (-1), 1) := by decide +kernel
theorem dX2_addOfOne_47 : decode cX2_addOfOne 47 = .ok (.invokevirtual 50, 3) := by decide +kernel
theorem dX2_addOfOne_50 : decode cX2_addOfOne 50 = .ok (.iinc 4 1, 3) := by decide +kernel
theorem dX2_addOfOne_53 : decode cX2_addOfOne 53 = .ok (.goto (-36), 3) := by decide +kernel
theorem dX2_addOfOne_56 : decode cX2_addOfOne 56 = .ok (.return_, 1) := by decide +kernel
set_option maxRecDepth 20000 in
theorem ggX2_addOfTwo_X2_isFull : GoodIn wsX2_addOfTwo wsX2_isFull := goodIn_r _ [7, 8, 43, 44, 45, 46, 47, 48, 49, 50] (by decide +kernel) (by decide +kernel)
set_option maxRecDepth 20000 in
theorem gX2_addOfTwo_X2_isFull : GoodIn wsX2_addOfTwo (wsV RX2 91 RX2 yX2_isFull wsX2_isFull) := goodIn_app (goodIn_of _ (by decide +kernel)) ggX2_addOfTwo_X2_isFull
set_option maxRecDepth 20000 in
theorem ggX2_addOfTwo_X0_made : GoodIn wsX2_addOfTwo wsX0_made := goodIn_r _ [12, 13, 14, 15, 16, 11, 17, 18, 19, 20, 21, 22, 23, 24, 25, 26, 27, 28, 29] (by decide +kernel) (by decide +kernel)
set_option maxRecDepth 20000 in
theorem gX2_addOfTwo_X0_made : GoodIn wsX2_addOfTwo (va_wsS RX2 95 yX0_made wsX0_made) := goodIn_app (goodIn_of _ (by decide +kernel)) ggX2_addOfTwo_X0_made
set_option maxRecDepth 20000 in
theorem ggX2_addOfTwo_X2_add : GoodIn wsX2_addOfTwo wsX2_add := goodIn_r _ [33, 34, 8, 2, 35, 36, 37, 38, 39, 40, 6, 41, 42, 3, 4, 5, 7, 43, 44, 45, 46, 47, 48, 49, 50] (by decide +kernel) (by decide +kernel)
set_option maxRecDepth 20000 in
theorem gX2_addOfTwo_X2_add : GoodIn wsX2_addOfTwo (wsV RX2 50 RX2 yX2_add wsX2_add) := goodIn_app (goodIn_of _ (by decide +kernel)) ggX2_addOfTwo_X2_add
theorem dX2_addOfTwo_0 : decode cX2_addOfTwo 0 = .ok (.iconst 0, 1) := by decide +kernel
theorem dX2_addOfTwo_1 : decode cX2_addOfTwo 1 = .ok (.istore_n 3, 1) := by decide +kernel
theorem dX2_addOfTwo_2 : decode cX2_addOfTwo 2 = .ok (.iload_n 3, 1) := by decide +kernel
theorem dX2_addOfTwo_3 : decode cX2_addOfTwo 3 = .ok (.iload_n 2, 1) := by decide +kernel
theorem dX2_addOfTwo_4 : decode cX2_addOfTwo 4 = .ok (.if_icmp .gt 112, 3) := by decide +kernel
theorem dX2_addOfTwo_7 : decode cX2_addOfTwo 7 = .ok (.aload_n 0, 1) := by decide +kernel
theorem dX2_addOfTwo_8 : decode cX2_addOfTwo 8 = .ok (.getfield 25, 3) := by decide +kernel
theorem dX2_addOfTwo_11 : decode cX2_addOfTwo 11 = .ok (.iload_n 3, 1) := by decide +kernel
theorem dX2_addOfTwo_12 : decode cX2_addOfTwo 12 = .ok (.iaload, 1) := by decide +kernel
theorem dX2_addOfTwo_13 : decode cX2_addOfTwo 13 = .ok (.istore 4, 2) := by decide +kernel
theorem dX2_addOfTwo_15 : decode cX2_addOfTwo 15 = .ok (.iload 4, 2) := by decide +kernel
theorem dX2_addOfTwo_17 : decode cX2_addOfTwo 17 = .ok (.aload_n 0, 1) := by decide +kernel
theorem dX2_addOfTwo_18 : decode cX2_addOfTwo 18 = .ok (.getfield 25, 3) := by decide +kernel
theorem dX2_addOfTwo_21 : decode cX2_addOfTwo 21 = .ok (.iload_n 3, 1) := by decide +kernel
theorem dX2_addOfTwo_22 : decode cX2_addOfTwo 22 = .ok (.iconst 1, 1) := by decide +kernel
theorem dX2_addOfTwo_23 : decode cX2_addOfTwo 23 = .ok (.iadd, 1) := by decide +kernel
theorem dX2_addOfTwo_24 : decode cX2_addOfTwo 24 = .ok (.iaload, 1) := by decide +kernel
theorem dX2_addOfTwo_25 : decode cX2_addOfTwo 25 = .ok (.if_icmp .ge 85, 3) := by decide +kernel
theorem dX2_addOfTwo_28 : decode cX2_addOfTwo 28 = .ok (.aload_n 0, 1) := by decide +kernel
theorem dX2_addOfTwo_29 : decode cX2_addOfTwo 29 = .ok (.invokevirtual 91, 3) := by decide +kernel
theorem dX2_addOfTwo_32 : decode cX2_addOfTwo 32 = .ok (.ifCond .ne 78, 3) := by decide +kernel
theorem dX2_addOfTwo_35 : decode cX2_addOfTwo 35 = .ok (.aload_n 0, 1) := by decide +kernel
theorem dX2_addOfTwo_36 : decode cX2_addOfTwo 36 = .ok (.getfield 25, 3) := by decide +kernel
theorem dX2_addOfTwo_39 : decode cX2_addOfTwo 39 = .ok (.iload_n 2, 1) := by decide +kernel
theorem dX2_addOfTwo_40 : decode cX2_addOfTwo 40 = .ok (.iload_n 3, 1) := by decide +kernel
theorem dX2_addOfTwo_41 : decode cX2_addOfTwo 41 = .ok (.isub, 1) := by decide +kernel
theorem dX2_addOfTwo_42 : decode cX2_addOfTwo 42 = .ok (.iconst 1, 1) := by decide +kernel
theorem dX2_addOfTwo_43 : decode cX2_addOfTwo 43 = .ok (.iadd, 1) := by decide +kernel
theorem dX2_addOfTwo_44 : decode cX2_addOfTwo 44 = .ok (.iaload, 1) := by decide +kernel
theorem dX2_addOfTwo_45 : decode cX2_addOfTwo 45 = .ok (.istore 5, 2) := by decide +kernel
theorem dX2_addOfTwo_47 : decode cX2_addOfTwo 47 = .ok (.aload_n 0, 1) := by decide +kernel
theorem dX2_addOfTwo_48 : decode cX2_addOfTwo 48 = .ok (.getfield 25, 3) := by decide +kernel
theorem dX2_addOfTwo_51 : decode cX2_addOfTwo 51 = .ok (.iload_n 2, 1) := by decide +kernel
theorem dX2_addOfTwo_52 : decode cX2_addOfTwo 52 = .ok (.iload_n 3, 1) := by decide +kernel
theorem dX2_addOfTwo_53 : decode cX2_addOfTwo 53 = .ok (.isub, 1) := by decide +kernel
theorem dX2_addOfTwo_54 : decode cX2_addOfTwo 54 = .ok (.iaload, 1) := by decide +kernel
theorem dX2_addOfTwo_55 : decode cX2_addOfTwo 55 = .ok (.istore 6, 2) := by decide +kernel
theorem dX2_addOfTwo_57 : decode cX2_addOfTwo 57 = .ok (.iload 6, 2) := by decide +kernel
theorem dX2_addOfTwo_59 : decode cX2_addOfTwo 59 = .ok (.iload 5, 2) := by decide +kernel
theorem dX2_addOfTwo_61 : decode cX2_addOfTwo 61 = .ok (.if_icmp .ge 43, 3) := by decide +kernel
theorem dX2_addOfTwo_64 : decode cX2_addOfTwo 64 = .ok (.aload_n 0, 1) := by decide +kernel
theorem dX2_addOfTwo_65 : decode cX2_addOfTwo 65 = .ok (.invokevirtual 91, 3) := by decide +kernel
theorem dX2_addOfTwo_68 : decode cX2_addOfTwo 68 = .ok (.ifCond .ne 36, 3) := by decide +kernel
theorem dX2_addOfTwo_71 : decode cX2_addOfTwo 71 = .ok (.aload_n 0, 1) := by decide +kernel
theorem dX2_addOfTwo_72 : decode cX2_addOfTwo 72 = .ok (.iload_n 1, 1) := by decide +kernel
theorem dX2_addOfTwo_73 : decode cX2_addOfTwo 73 = .ok (.aload_n 0, 1) := by decide +kernel
theorem dX2_addOfTwo_74 : decode cX2_addOfTwo 74 = .ok (.getfield 11, 3) := by decide +kernel
theorem dX2_addOfTwo_77 : decode cX2_addOfTwo 77 = .ok (.iload 4, 2) := by decide +kernel
theorem dX2_addOfTwo_79 : decode cX2_addOfTwo 79 = .ok (.laload, 1) := by decide +kernel
theorem dX2_addOfTwo_80 : decode cX2_addOfTwo 80 = .ok (.aload_n 0, 1) := by decide +kernel
theorem dX2_addOfTwo_81 : decode cX2_addOfTwo 81 = .ok (.getfield 11, 3) := by decide +kernel
theorem dX2_addOfTwo_84 : decode cX2_addOfTwo 84 = .ok (.iload 6, 2) := by decide +kernel
theorem dX2_addOfTwo_86 : decode cX2_addOfTwo 86 = .ok (.laload, 1) := by decide +kernel
theorem dX2_addOfTwo_87 : decode cX2_addOfTwo 87 = .ok (.invokestatic 95, 3) := by decide +kernel
theorem dX2_addOfTwo_90 : decode cX2_addOfTwo 90 = .ok (.iload_n 1, 1) := by decide +kernel
theorem dX2_addOfTwo_91 : decode cX2_addOfTwo 91 = .ok (.iload 4, 2) := by decide +kernel
theorem dX2_addOfTwo_93 : decode cX2_addOfTwo 93 = .ok (.iload 6, 2) := by decide +kernel
theorem dX2_addOfTwo_95 : decode cX2_addOfTwo 95 = .ok (.invokevirtual 50, 3) := by decide +kernel
theorem dX2_addOfTwo_98 : decode cX2_addOfTwo 98 = .ok (.iinc 6 1, 3) := by decide +kernel
theorem dX2_addOfTwo_101 : decode cX2_addOfTwo 101 = .ok (.goto (-44), 3) := by decide +kernel
theorem dX2_addOfTwo_104 : decode cX2_addOfTwo 104 = .ok (.iinc 4 1, 3) := by decide +kernel
theorem dX2_addOfTwo_107 : decode cX2_addOfTwo 107 = .ok (.goto (-92), 3) := by decide +kernel
theorem dX2_addOfTwo_110 : decode cX2_addOfTwo 110 = .ok (.iinc 3 1, 3) := by decide +kernel
theorem dX2_addOfTwo_113 : decode cX2_addOfTwo 113 = .ok (.goto (-111), 3) := by decide +kernel
theorem dX2_addOfTwo_116 : decode cX2_addOfTwo 116 = .ok (.return_, 1) := by decide +kernel
set_option maxRecDepth 20000 in
theorem ggX2_add_X2_slotOf : GoodIn wsX2_add wsX2_slotOf := goodIn_r _ [11, 12, 1, 2, 3, 17, 18, 19, 20, 21, 22, 23, 24] (by decide +kernel) (by decide +kernel)
set_option maxRecDepth 20000 in
theorem gX2_add_X2_slotOf : GoodIn wsX2_add (wsV RX2 99 RX2 yX2_slotOf wsX2_slotOf) := goodIn_app (goodIn_of _ (by decide +kernel)) ggX2_add_X2_slotOf
set_option maxRecDepth 20000 in
theorem ggX2_add_X2_isFull : GoodIn wsX2_add wsX2_isFull := goodIn_r _ [16, 2, 17, 18, 19, 20, 21, 22, 23, 24] (by decide +kernel) (by decide +kernel)
set_option maxRecDepth 20000 in
theorem gX2_add_X2_isFull : GoodIn wsX2_add (wsV RX2 91 RX2 yX2_isFull wsX2_isFull) := goodIn_app (goodIn_of _ (by decide +kernel)) ggX2_add_X2_isFull
theorem dX2_add_0 : decode cX2_add 0 = .ok (.aload_n 0, 1) := by decide +kernel
theorem dX2_add_1 : decode cX2_add 1 = .ok (.lload_n 1, 1) := by decide +kernel
theorem dX2_add_2 : decode cX2_add 2 = .ok (.invokevirtual 99, 3) := by decide +kernel
theorem dX2_add_5 : decode cX2_add 5 = .ok (.istore 6, 2) := by decide +kernel
theorem dX2_add_7 : decode cX2_add 7 = .ok (.aload_n 0, 1) := by decide +kernel
theorem dX2_add_8 : decode cX2_add 8 = .ok (.invokevirtual 91, 3) := by decide +kernel
theorem dX2_add_11 : decode cX2_add 11 = .ok (.ifCond .ne 20, 3) := by decide +kernel
theorem dX2_add_14 : decode cX2_add 14 = .ok (.iload 6, 2) := by decide +kernel
theorem dX2_add_16 : decode cX2_add 16 = .ok (.iconst (-1), 1) := by decide +kernel
theorem dX2_add_17 : decode cX2_add 17 = .ok (.if_icmp .eq 14, 3) := by decide +kernel
theorem dX2_add_20 : decode cX2_add 20 = .ok (.aload_n 0, 1) := by decide +kernel
theorem dX2_add_21 : decode cX2_add 21 = .ok (.getfield 28, 3) := by decide +kernel
theorem dX2_add_24 : decode cX2_add 24 = .ok (.iload 6, 2) := by decide +kernel
theorem dX2_add_26 : decode cX2_add 26 = .ok (.iaload, 1) := by decide +kernel
theorem dX2_add_27 : decode cX2_add 27 = .ok (.iconst (-1), 1) := by decide +kernel
theorem dX2_add_28 : decode cX2_add 28 = .ok (.if_icmp .eq 4, 3) := by decide +kernel
theorem dX2_add_31 : decode cX2_add 31 = .ok (.return_, 1) := by decide +kernel
theorem dX2_add_32 : decode cX2_add 32 = .ok (.aload_n 0, 1) := by decide +kernel
theorem dX2_add_33 : decode cX2_add 33 = .ok (.getfield 28, 3) := by decide +kernel
theorem dX2_add_36 : decode cX2_add 36 = .ok (.iload 6, 2) := by decide +kernel
theorem dX2_add_38 : decode cX2_add 38 = .ok (.aload_n 0, 1) := by decide +kernel
theorem dX2_add_39 : decode cX2_add 39 = .ok (.getfield 40, 3) := by decide +kernel
theorem dX2_add_42 : decode cX2_add 42 = .ok (.iastore, 1) := by decide +kernel
theorem dX2_add_43 : decode cX2_add 43 = .ok (.aload_n 0, 1) := by decide +kernel
theorem dX2_add_44 : decode cX2_add 44 = .ok (.getfield 11, 3) := by decide +kernel
theorem dX2_add_47 : decode cX2_add 47 = .ok (.aload_n 0, 1) := by decide +kernel
theorem dX2_add_48 : decode cX2_add 48 = .ok (.getfield 40, 3) := by decide +kernel
theorem dX2_add_51 : decode cX2_add 51 = .ok (.lload_n 1, 1) := by decide +kernel
theorem dX2_add_52 : decode cX2_add 52 = .ok (.lastore, 1) := by decide +kernel
theorem dX2_add_53 : decode cX2_add 53 = .ok (.aload_n 0, 1) := by decide +kernel
theorem dX2_add_54 : decode cX2_add 54 = .ok (.getfield 15, 3) := by decide +kernel
theorem dX2_add_57 : decode cX2_add 57 = .ok (.aload_n 0, 1) := by decide +kernel
theorem dX2_add_58 : decode cX2_add 58 = .ok (.getfield 40, 3) := by decide +kernel
theorem dX2_add_61 : decode cX2_add 61 = .ok (.iload_n 3, 1) := by decide +kernel
theorem dX2_add_62 : decode cX2_add 62 = .ok (.iastore, 1) := by decide +kernel
theorem dX2_add_63 : decode cX2_add 63 = .ok (.aload_n 0, 1) := by decide +kernel
theorem dX2_add_64 : decode cX2_add 64 = .ok (.getfield 19, 3) := by decide +kernel
theorem dX2_add_67 : decode cX2_add 67 = .ok (.aload_n 0, 1) := by decide +kernel
theorem dX2_add_68 : decode cX2_add 68 = .ok (.getfield 40, 3) := by decide +kernel
theorem dX2_add_71 : decode cX2_add 71 = .ok (.iload 4, 2) := by decide +kernel
theorem dX2_add_73 : decode cX2_add 73 = .ok (.iastore, 1) := by decide +kernel
theorem dX2_add_74 : decode cX2_add 74 = .ok (.aload_n 0, 1) := by decide +kernel
theorem dX2_add_75 : decode cX2_add 75 = .ok (.getfield 22, 3) := by decide +kernel
theorem dX2_add_78 : decode cX2_add 78 = .ok (.aload_n 0, 1) := by decide +kernel
theorem dX2_add_79 : decode cX2_add 79 = .ok (.getfield 40, 3) := by decide +kernel
theorem dX2_add_82 : decode cX2_add 82 = .ok (.iload 5, 2) := by decide +kernel
theorem dX2_add_84 : decode cX2_add 84 = .ok (.iastore, 1) := by decide +kernel
theorem dX2_add_85 : decode cX2_add 85 = .ok (.aload_n 0, 1) := by decide +kernel
theorem dX2_add_86 : decode cX2_add 86 = .ok (.dup, 1) := by decide +kernel
theorem dX2_add_87 : decode cX2_add 87 = .ok (.getfield 40, 3) := by decide +kernel
theorem dX2_add_90 : decode cX2_add 90 = .ok (.iconst 1, 1) := by decide +kernel
theorem dX2_add_91 : decode cX2_add 91 = .ok (.iadd, 1) := by decide +kernel
theorem dX2_add_92 : decode cX2_add 92 = .ok (.putfield 40, 3) := by decide +kernel
theorem dX2_add_95 : decode cX2_add 95 = .ok (.return_, 1) := by decide +kernel
theorem dX2_slotOf_0 : decode cX2_slotOf 0 = .ok (.lload_n 1, 1) := by decide +kernel
theorem dX2_slotOf_1 : decode cX2_slotOf 1 = .ok (.ldc2_w 103, 3) := by decide +kernel
theorem dX2_slotOf_4 : decode cX2_slotOf 4 = .ok (.lmul, 1) := by decide +kernel
theorem dX2_slotOf_5 : decode cX2_slotOf 5 = .ok (.bipush 52, 2) := by decide +kernel
theorem dX2_slotOf_7 : decode cX2_slotOf 7 = .ok (.lushr, 1) := by decide +kernel
theorem dX2_slotOf_8 : decode cX2_slotOf 8 = .ok (.l2i, 1) := by decide +kernel
theorem dX2_slotOf_9 : decode cX2_slotOf 9 = .ok (.istore_n 3, 1) := by decide +kernel
theorem dX2_slotOf_10 : decode cX2_slotOf 10 = .ok (.iconst 0, 1) := by decide +kernel
theorem dX2_slotOf_11 : decode cX2_slotOf 11 = .ok (.istore 4, 2) := by decide +kernel
theorem dX2_slotOf_13 : decode cX2_slotOf 13 = .ok (.iload 4, 2) := by decide +kernel
theorem dX2_slotOf_15 : decode cX2_slotOf 15 = .ok (.sipush 4096, 3) := by decide +kernel
theorem dX2_slotOf_18 : decode cX2_slotOf 18 = .ok (.if_icmp .ge 53, 3) := by decide +kernel
theorem dX2_slotOf_21 : decode cX2_slotOf 21 = .ok (.aload_n 0, 1) := by decide +kernel
theorem dX2_slotOf_22 : decode cX2_slotOf 22 = .ok (.getfield 28, 3) := by decide +kernel
theorem dX2_slotOf_25 : decode cX2_slotOf 25 = .ok (.iload_n 3, 1) := by decide +kernel
theorem dX2_slotOf_26 : decode cX2_slotOf 26 = .ok (.iaload, 1) := by decide +kernel
theorem dX2_slotOf_27 : decode cX2_slotOf 27 = .ok (.istore 5, 2) := by decide +kernel
theorem dX2_slotOf_29 : decode cX2_slotOf 29 = .ok (.iload 5, 2) := by decide +kernel
theorem dX2_slotOf_31 : decode cX2_slotOf 31 = .ok (.ifCond .lt 24, 3) := by decide +kernel
theorem dX2_slotOf_34 : decode cX2_slotOf 34 = .ok (.iload 5, 2) := by decide +kernel
theorem dX2_slotOf_36 : decode cX2_slotOf 36 = .ok (.aload_n 0, 1) := by decide +kernel
theorem dX2_slotOf_37 : decode cX2_slotOf 37 = .ok (.getfield 40, 3) := by decide +kernel
theorem dX2_slotOf_40 : decode cX2_slotOf 40 = .ok (.if_icmp .ge 15, 3) := by decide +kernel
theorem dX2_slotOf_43 : decode cX2_slotOf 43 = .ok (.aload_n 0, 1) := by decide +kernel
theorem dX2_slotOf_44 : decode cX2_slotOf 44 = .ok (.getfield 11, 3) := by decide +kernel
theorem dX2_slotOf_47 : decode cX2_slotOf 47 = .ok (.iload 5, 2) := by decide +kernel
theorem dX2_slotOf_49 : decode cX2_slotOf 49 = .ok (.laload, 1) := by decide +kernel
theorem dX2_slotOf_50 : decode cX2_slotOf 50 = .ok (.lload_n 1, 1) := by decide +kernel
theorem dX2_slotOf_51 : decode cX2_slotOf 51 = .ok (.lcmp, 1) := by decide +kernel
theorem dX2_slotOf_52 : decode cX2_slotOf 52 = .ok (.ifCond .ne 5, 3) := by decide +kernel
theorem dX2_slotOf_55 : decode cX2_slotOf 55 = .ok (.iload_n 3, 1) := by decide +kernel
theorem dX2_slotOf_56 : decode cX2_slotOf 56 = .ok (.ireturn, 1) := by decide +kernel
theorem dX2_slotOf_57 : decode cX2_slotOf 57 = .ok (.iload_n 3, 1) := by decide +kernel
theorem dX2_slotOf_58 : decode cX2_slotOf 58 = .ok (.iconst 1, 1) := by decide +kernel
theorem dX2_slotOf_59 : decode cX2_slotOf 59 = .ok (.iadd, 1) := by decide +kernel
theorem dX2_slotOf_60 : decode cX2_slotOf 60 = .ok (.sipush 4096, 3) := by decide +kernel
theorem dX2_slotOf_63 : decode cX2_slotOf 63 = .ok (.irem, 1) := by decide +kernel
theorem dX2_slotOf_64 : decode cX2_slotOf 64 = .ok (.istore_n 3, 1) := by decide +kernel
theorem dX2_slotOf_65 : decode cX2_slotOf 65 = .ok (.iinc 4 1, 3) := by decide +kernel
theorem dX2_slotOf_68 : decode cX2_slotOf 68 = .ok (.goto (-55), 3) := by decide +kernel
theorem dX2_slotOf_71 : decode cX2_slotOf 71 = .ok (.iconst (-1), 1) := by decide +kernel
theorem dX2_slotOf_72 : decode cX2_slotOf 72 = .ok (.ireturn, 1) := by decide +kernel
set_option maxRecDepth 20000 in
theorem ggX2_entryWith_X2_slotOf : GoodIn wsX2_entryWith wsX2_slotOf := goodIn_r _ [6, 7, 1, 8, 9, 10, 11, 12, 13, 14, 15, 16, 17] (by decide +kernel) (by decide +kernel)
set_option maxRecDepth 20000 in
theorem gX2_entryWith_X2_slotOf : GoodIn wsX2_entryWith (wsV RX2 99 RX2 yX2_slotOf wsX2_slotOf) := goodIn_app (goodIn_of _ (by decide +kernel)) ggX2_entryWith_X2_slotOf
theorem dX2_entryWith_0 : decode cX2_entryWith 0 = .ok (.aload_n 0, 1) := by decide +kernel
theorem dX2_entryWith_1 : decode cX2_entryWith 1 = .ok (.lload_n 1, 1) := by decide +kernel
theorem dX2_entryWith_2 : decode cX2_entryWith 2 = .ok (.invokevirtual 99, 3) := by decide +kernel
theorem dX2_entryWith_5 : decode cX2_entryWith 5 = .ok (.istore_n 3, 1) := by decide +kernel
theorem dX2_entryWith_6 : decode cX2_entryWith 6 = .ok (.iload_n 3, 1) := by decide +kernel
theorem dX2_entryWith_7 : decode cX2_entryWith 7 = .ok (.iconst (-1), 1) := by decide +kernel
theorem dX2_entryWith_8 : decode cX2_entryWith 8 = .ok (.if_icmp .ne 7, 3) := by decide +kernel
theorem dX2_entryWith_11 : decode cX2_entryWith 11 = .ok (.iconst (-1), 1) := by decide +kernel
theorem dX2_entryWith_12 : decode cX2_entryWith 12 = .ok (.goto 9, 3) := by decide +kernel
theorem dX2_entryWith_15 : decode cX2_entryWith 15 = .ok (.aload_n 0, 1) := by decide +kernel
theorem dX2_entryWith_16 : decode cX2_entryWith 16 = .ok (.getfield 28, 3) := by decide +kernel
theorem dX2_entryWith_19 : decode cX2_entryWith 19 = .ok (.iload_n 3, 1) := by decide +kernel
theorem dX2_entryWith_20 : decode cX2_entryWith 20 = .ok (.iaload, 1) := by decide +kernel
theorem dX2_entryWith_21 : decode cX2_entryWith 21 = .ok (.ireturn, 1) := by decide +kernel
theorem dX2_firstAlike_0 : decode cX2_firstAlike 0 = .ok (.iconst 0, 1) := by decide +kernel
theorem dX2_firstAlike_1 : decode cX2_firstAlike 1 = .ok (.istore 5, 2) := by decide +kernel
theorem dX2_firstAlike_3 : decode cX2_firstAlike 3 = .ok (.iload 5, 2) := by decide +kernel
theorem dX2_firstAlike_5 : decode cX2_firstAlike 5 = .ok (.aload_n 0, 1) := by decide +kernel
theorem dX2_firstAlike_6 : decode cX2_firstAlike 6 = .ok (.getfield 40, 3) := by decide +kernel
theorem dX2_firstAlike_9 : decode cX2_firstAlike 9 = .ok (.if_icmp .ge 28, 3) := by decide +kernel
theorem dX2_firstAlike_12 : decode cX2_firstAlike 12 = .ok (.aload_n 0, 1) := by decide +kernel
theorem dX2_firstAlike_13 : decode cX2_firstAlike 13 = .ok (.getfield 11, 3) := by decide +kernel
theorem dX2_firstAlike_16 : decode cX2_firstAlike 16 = .ok (.iload 5, 2) := by decide +kernel
theorem dX2_firstAlike_18 : decode cX2_firstAlike 18 = .ok (.laload, 1) := by decide +kernel
theorem dX2_firstAlike_19 : decode cX2_firstAlike 19 = .ok (.lload_n 1, 1) := by decide +kernel
theorem dX2_firstAlike_20 : decode cX2_firstAlike 20 = .ok (.lxor, 1) := by decide +kernel
theorem dX2_firstAlike_21 : decode cX2_firstAlike 21 = .ok (.lload_n 3, 1) := by decide +kernel
theorem dX2_firstAlike_22 : decode cX2_firstAlike 22 = .ok (.land, 1) := by decide +kernel
theorem dX2_firstAlike_23 : decode cX2_firstAlike 23 = .ok (.lconst 0, 1) := by decide +kernel
theorem dX2_firstAlike_24 : decode cX2_firstAlike 24 = .ok (.lcmp, 1) := by decide +kernel
theorem dX2_firstAlike_25 : decode cX2_firstAlike 25 = .ok (.ifCond .ne 6, 3) := by decide +kernel
theorem dX2_firstAlike_28 : decode cX2_firstAlike 28 = .ok (.iload 5, 2) := by decide +kernel
theorem dX2_firstAlike_30 : decode cX2_firstAlike 30 = .ok (.ireturn, 1) := by decide +kernel
theorem dX2_firstAlike_31 : decode cX2_firstAlike 31 = .ok (.iinc 5 1, 3) := by decide +kernel
theorem dX2_firstAlike_34 : decode cX2_firstAlike 34 = .ok (.goto (-31), 3) := by decide +kernel
theorem dX2_firstAlike_37 : decode cX2_firstAlike 37 = .ok (.iconst (-1), 1) := by decide +kernel
theorem dX2_firstAlike_38 : decode cX2_firstAlike 38 = .ok (.ireturn, 1) := by decide +kernel
set_option maxRecDepth 20000 in
theorem ggX2_firstNearest_X0_countDifferences : GoodIn wsX2_firstNearest wsX0_countDifferences := goodIn_r _ [6, 7, 8, 9, 10, 11, 12, 13, 14] (by decide +kernel) (by decide +kernel)
set_option maxRecDepth 20000 in
theorem gX2_firstNearest_X0_countDifferences : GoodIn wsX2_firstNearest (va_wsS RX2 105 yX0_countDifferences wsX0_countDifferences) := goodIn_app (goodIn_of _ (by decide +kernel)) ggX2_firstNearest_X0_countDifferences
theorem dX2_firstNearest_0 : decode cX2_firstNearest 0 = .ok (.iconst (-1), 1) := by decide +kernel
theorem dX2_firstNearest_1 : decode cX2_firstNearest 1 = .ok (.istore_n 3, 1) := by decide +kernel
theorem dX2_firstNearest_2 : decode cX2_firstNearest 2 = .ok (.bipush 17, 2) := by decide +kernel
theorem dX2_firstNearest_4 : decode cX2_firstNearest 4 = .ok (.istore 4, 2) := by decide +kernel
theorem dX2_firstNearest_6 : decode cX2_firstNearest 6 = .ok (.iconst 0, 1) := by decide +kernel
theorem dX2_firstNearest_7 : decode cX2_firstNearest 7 = .ok (.istore 5, 2) := by decide +kernel
theorem dX2_firstNearest_9 : decode cX2_firstNearest 9 = .ok (.iload 5, 2) := by decide +kernel
theorem dX2_firstNearest_11 : decode cX2_firstNearest 11 = .ok (.aload_n 0, 1) := by decide +kernel
theorem dX2_firstNearest_12 : decode cX2_firstNearest 12 = .ok (.getfield 40, 3) := by decide +kernel
theorem dX2_firstNearest_15 : decode cX2_firstNearest 15 = .ok (.if_icmp .ge 36, 3) := by decide +kernel
theorem dX2_firstNearest_18 : decode cX2_firstNearest 18 = .ok (.aload_n 0, 1) := by decide +kernel
theorem dX2_firstNearest_19 : decode cX2_firstNearest 19 = .ok (.getfield 11, 3) := by decide +kernel
theorem dX2_firstNearest_22 : decode cX2_firstNearest 22 = .ok (.iload 5, 2) := by decide +kernel
theorem dX2_firstNearest_24 : decode cX2_firstNearest 24 = .ok (.laload, 1) := by decide +kernel
theorem dX2_firstNearest_25 : decode cX2_firstNearest 25 = .ok (.lload_n 1, 1) := by decide +kernel
theorem dX2_firstNearest_26 : decode cX2_firstNearest 26 = .ok (.invokestatic 105, 3) := by decide +kernel
theorem dX2_firstNearest_29 : decode cX2_firstNearest 29 = .ok (.istore 6, 2) := by decide +kernel
theorem dX2_firstNearest_31 : decode cX2_firstNearest 31 = .ok (.iload 6, 2) := by decide +kernel
theorem dX2_firstNearest_33 : decode cX2_firstNearest 33 = .ok (.iload 4, 2) := by decide +kernel
theorem dX2_firstNearest_35 : decode cX2_firstNearest 35 = .ok (.if_icmp .ge 10, 3) := by decide +kernel
theorem dX2_firstNearest_38 : decode cX2_firstNearest 38 = .ok (.iload 6, 2) := by decide +kernel
theorem dX2_firstNearest_40 : decode cX2_firstNearest 40 = .ok (.istore 4, 2) := by decide +kernel
theorem dX2_firstNearest_42 : decode cX2_firstNearest 42 = .ok (.iload 5, 2) := by decide +kernel
theorem dX2_firstNearest_44 : decode cX2_firstNearest 44 = .ok (.istore_n 3, 1) := by decide +kernel
theorem dX2_firstNearest_45 : decode cX2_firstNearest 45 = .ok (.iinc 5 1, 3) := by decide +kernel
theorem dX2_firstNearest_48 : decode cX2_firstNearest 48 = .ok (.goto (-39), 3) := by decide +kernel
theorem dX2_firstNearest_51 : decode cX2_firstNearest 51 = .ok (.iload_n 3, 1) := by decide +kernel
theorem dX2_firstNearest_52 : decode cX2_firstNearest 52 = .ok (.ireturn, 1) := by decide +kernel
theorem dX2_countOfCost_0 : decode cX2_countOfCost 0 = .ok (.aload_n 0, 1) := by decide +kernel
theorem dX2_countOfCost_1 : decode cX2_countOfCost 1 = .ok (.getfield 25, 3) := by decide +kernel
theorem dX2_countOfCost_4 : decode cX2_countOfCost 4 = .ok (.iload_n 1, 1) := by decide +kernel
theorem dX2_countOfCost_5 : decode cX2_countOfCost 5 = .ok (.iconst 1, 1) := by decide +kernel
theorem dX2_countOfCost_6 : decode cX2_countOfCost 6 = .ok (.iadd, 1) := by decide +kernel
theorem dX2_countOfCost_7 : decode cX2_countOfCost 7 = .ok (.iaload, 1) := by decide +kernel
theorem dX2_countOfCost_8 : decode cX2_countOfCost 8 = .ok (.aload_n 0, 1) := by decide +kernel
theorem dX2_countOfCost_9 : decode cX2_countOfCost 9 = .ok (.getfield 25, 3) := by decide +kernel
theorem dX2_countOfCost_12 : decode cX2_countOfCost 12 = .ok (.iload_n 1, 1) := by decide +kernel
theorem dX2_countOfCost_13 : decode cX2_countOfCost 13 = .ok (.iaload, 1) := by decide +kernel
theorem dX2_countOfCost_14 : decode cX2_countOfCost 14 = .ok (.isub, 1) := by decide +kernel
theorem dX2_countOfCost_15 : decode cX2_countOfCost 15 = .ok (.ireturn, 1) := by decide +kernel
theorem dX2_costOf_0 : decode cX2_costOf 0 = .ok (.iconst 0, 1) := by decide +kernel
theorem dX2_costOf_1 : decode cX2_costOf 1 = .ok (.istore_n 2, 1) := by decide +kernel
theorem dX2_costOf_2 : decode cX2_costOf 2 = .ok (.iload_n 2, 1) := by decide +kernel
theorem dX2_costOf_3 : decode cX2_costOf 3 = .ok (.bipush 6, 2) := by decide +kernel
theorem dX2_costOf_5 : decode cX2_costOf 5 = .ok (.if_icmp .ge 21, 3) := by decide +kernel
theorem dX2_costOf_8 : decode cX2_costOf 8 = .ok (.aload_n 0, 1) := by decide +kernel
theorem dX2_costOf_9 : decode cX2_costOf 9 = .ok (.getfield 25, 3) := by decide +kernel
theorem dX2_costOf_12 : decode cX2_costOf 12 = .ok (.iload_n 2, 1) := by decide +kernel
theorem dX2_costOf_13 : decode cX2_costOf 13 = .ok (.iconst 1, 1) := by decide +kernel
theorem dX2_costOf_14 : decode cX2_costOf 14 = .ok (.iadd, 1) := by decide +kernel
theorem dX2_costOf_15 : decode cX2_costOf 15 = .ok (.iaload, 1) := by decide +kernel
theorem dX2_costOf_16 : decode cX2_costOf 16 = .ok (.iload_n 1, 1) := by decide +kernel
theorem dX2_costOf_17 : decode cX2_costOf 17 = .ok (.if_icmp .gt 9, 3) := by decide +kernel
theorem dX2_costOf_20 : decode cX2_costOf 20 = .ok (.iinc 2 1, 3) := by decide +kernel
theorem dX2_costOf_23 : decode cX2_costOf 23 = .ok (.goto (-21), 3) := by decide +kernel
theorem dX2_costOf_26 : decode cX2_costOf 26 = .ok (.iload_n 2, 1) := by decide +kernel
theorem dX2_costOf_27 : decode cX2_costOf 27 = .ok (.ireturn, 1) := by decide +kernel
set_option maxRecDepth 20000 in
theorem ggX2_sumOfCosts_X2_countOfCost : GoodIn wsX2_sumOfCosts wsX2_countOfCost := goodIn_r _ [5, 6, 7, 8, 9, 10, 11, 12, 13, 14] (by decide +kernel) (by decide +kernel)
set_option maxRecDepth 20000 in
theorem gX2_sumOfCosts_X2_countOfCost : GoodIn wsX2_sumOfCosts (wsV RX2 109 RX2 yX2_countOfCost wsX2_countOfCost) := goodIn_app (goodIn_of _ (by decide +kernel)) ggX2_sumOfCosts_X2_countOfCost
theorem dX2_sumOfCosts_0 : decode cX2_sumOfCosts 0 = .ok (.iconst 0, 1) := by decide +kernel
theorem dX2_sumOfCosts_1 : decode cX2_sumOfCosts 1 = .ok (.istore_n 1, 1) := by decide +kernel
theorem dX2_sumOfCosts_2 : decode cX2_sumOfCosts 2 = .ok (.iconst 0, 1) := by decide +kernel
theorem dX2_sumOfCosts_3 : decode cX2_sumOfCosts 3 = .ok (.istore_n 2, 1) := by decide +kernel
theorem dX2_sumOfCosts_4 : decode cX2_sumOfCosts 4 = .ok (.iload_n 2, 1) := by decide +kernel
theorem dX2_sumOfCosts_5 : decode cX2_sumOfCosts 5 = .ok (.bipush 6, 2) := by decide +kernel
theorem dX2_sumOfCosts_7 : decode cX2_sumOfCosts 7 = .ok (.if_icmp .gt 19, 3) := by decide +kernel
theorem dX2_sumOfCosts_10 : decode cX2_sumOfCosts 10 = .ok (.iload_n 1, 1) := by decide +kernel
theorem dX2_sumOfCosts_11 : decode cX2_sumOfCosts 11 = .ok (.iload_n 2, 1) := by decide +kernel
theorem dX2_sumOfCosts_12 : decode cX2_sumOfCosts 12 = .ok (.aload_n 0, 1) := by decide +kernel
theorem dX2_sumOfCosts_13 : decode cX2_sumOfCosts 13 = .ok (.iload_n 2, 1) := by decide +kernel
theorem dX2_sumOfCosts_14 : decode cX2_sumOfCosts 14 = .ok (.invokevirtual 109, 3) := by decide +kernel
theorem dX2_sumOfCosts_17 : decode cX2_sumOfCosts 17 = .ok (.imul, 1) := by decide +kernel
theorem dX2_sumOfCosts_18 : decode cX2_sumOfCosts 18 = .ok (.iadd, 1) := by decide +kernel
theorem dX2_sumOfCosts_19 : decode cX2_sumOfCosts 19 = .ok (.istore_n 1, 1) := by decide +kernel
theorem dX2_sumOfCosts_20 : decode cX2_sumOfCosts 20 = .ok (.iinc 2 1, 3) := by decide +kernel
theorem dX2_sumOfCosts_23 : decode cX2_sumOfCosts 23 = .ok (.goto (-19), 3) := by decide +kernel
theorem dX2_sumOfCosts_26 : decode cX2_sumOfCosts 26 = .ok (.iload_n 1, 1) := by decide +kernel
theorem dX2_sumOfCosts_27 : decode cX2_sumOfCosts 27 = .ok (.ireturn, 1) := by decide +kernel
set_option maxRecDepth 20000 in
theorem ggX2_countParts_X2_withPart : GoodIn wsX2_countParts wsX2_withPart := goodIn_r _ [9, 1, 10, 11, 12, 8, 13, 14, 15, 16, 17, 18, 19, 20, 21, 22] (by decide +kernel) (by decide +kernel)
set_option maxRecDepth 20000 in
theorem gX2_countParts_X2_withPart : GoodIn wsX2_countParts (wsV RX2 113 RX2 yX2_withPart wsX2_withPart) := goodIn_app (goodIn_of _ (by decide +kernel)) ggX2_countParts_X2_withPart
theorem dX2_countParts_0 : decode cX2_countParts 0 = .ok (.aload_n 0, 1) := by decide +kernel
theorem dX2_countParts_1 : decode cX2_countParts 1 = .ok (.iconst 0, 1) := by decide +kernel
theorem dX2_countParts_2 : decode cX2_countParts 2 = .ok (.iload_n 1, 1) := by decide +kernel
theorem dX2_countParts_3 : decode cX2_countParts 3 = .ok (.invokevirtual 113, 3) := by decide +kernel
theorem dX2_countParts_6 : decode cX2_countParts 6 = .ok (.istore_n 2, 1) := by decide +kernel
theorem dX2_countParts_7 : decode cX2_countParts 7 = .ok (.iconst 0, 1) := by decide +kernel
theorem dX2_countParts_8 : decode cX2_countParts 8 = .ok (.istore_n 3, 1) := by decide +kernel
theorem dX2_countParts_9 : decode cX2_countParts 9 = .ok (.iload_n 3, 1) := by decide +kernel
theorem dX2_countParts_10 : decode cX2_countParts 10 = .ok (.iload_n 2, 1) := by decide +kernel
theorem dX2_countParts_11 : decode cX2_countParts 11 = .ok (.if_icmp .ge 53, 3) := by decide +kernel
theorem dX2_countParts_14 : decode cX2_countParts 14 = .ok (.aload_n 0, 1) := by decide +kernel
theorem dX2_countParts_15 : decode cX2_countParts 15 = .ok (.getfield 31, 3) := by decide +kernel
theorem dX2_countParts_18 : decode cX2_countParts 18 = .ok (.iload_n 3, 1) := by decide +kernel
theorem dX2_countParts_19 : decode cX2_countParts 19 = .ok (.iaload, 1) := by decide +kernel
theorem dX2_countParts_20 : decode cX2_countParts 20 = .ok (.istore 4, 2) := by decide +kernel
theorem dX2_countParts_22 : decode cX2_countParts 22 = .ok (.aload_n 0, 1) := by decide +kernel
theorem dX2_countParts_23 : decode cX2_countParts 23 = .ok (.getfield 15, 3) := by decide +kernel
theorem dX2_countParts_26 : decode cX2_countParts 26 = .ok (.iload 4, 2) := by decide +kernel
theorem dX2_countParts_28 : decode cX2_countParts 28 = .ok (.iaload, 1) := by decide +kernel
theorem dX2_countParts_29 : decode cX2_countParts 29 = .ok (.ifCond .lt 29, 3) := by decide +kernel
theorem dX2_countParts_32 : decode cX2_countParts 32 = .ok (.aload_n 0, 1) := by decide +kernel
theorem dX2_countParts_33 : decode cX2_countParts 33 = .ok (.iload_n 2, 1) := by decide +kernel
theorem dX2_countParts_34 : decode cX2_countParts 34 = .ok (.aload_n 0, 1) := by decide +kernel
theorem dX2_countParts_35 : decode cX2_countParts 35 = .ok (.getfield 19, 3) := by decide +kernel
theorem dX2_countParts_38 : decode cX2_countParts 38 = .ok (.iload 4, 2) := by decide +kernel
theorem dX2_countParts_40 : decode cX2_countParts 40 = .ok (.iaload, 1) := by decide +kernel
theorem dX2_countParts_41 : decode cX2_countParts 41 = .ok (.invokevirtual 113, 3) := by decide +kernel
theorem dX2_countParts_44 : decode cX2_countParts 44 = .ok (.istore_n 2, 1) := by decide +kernel
theorem dX2_countParts_45 : decode cX2_countParts 45 = .ok (.aload_n 0, 1) := by decide +kernel
theorem dX2_countParts_46 : decode cX2_countParts 46 = .ok (.iload_n 2, 1) := by decide +kernel
theorem dX2_countParts_47 : decode cX2_countParts 47 = .ok (.aload_n 0, 1) := by decide +kernel
theorem dX2_countParts_48 : decode cX2_countParts 48 = .ok (.getfield 22, 3) := by decide +kernel
theorem dX2_countParts_51 : decode cX2_countParts 51 = .ok (.iload 4, 2) := by decide +kernel
theorem dX2_countParts_53 : decode cX2_countParts 53 = .ok (.iaload, 1) := by decide +kernel
theorem dX2_countParts_54 : decode cX2_countParts 54 = .ok (.invokevirtual 113, 3) := by decide +kernel
theorem dX2_countParts_57 : decode cX2_countParts 57 = .ok (.istore_n 2, 1) := by decide +kernel
theorem dX2_countParts_58 : decode cX2_countParts 58 = .ok (.iinc 3 1, 3) := by decide +kernel
theorem dX2_countParts_61 : decode cX2_countParts 61 = .ok (.goto (-52), 3) := by decide +kernel
theorem dX2_countParts_64 : decode cX2_countParts 64 = .ok (.iload_n 2, 1) := by decide +kernel
theorem dX2_countParts_65 : decode cX2_countParts 65 = .ok (.ireturn, 1) := by decide +kernel
set_option maxRecDepth 20000 in
theorem ggX2_withPart_X2_has : GoodIn wsX2_withPart wsX2_has := goodIn_r _ [6, 7, 8, 9, 10, 11, 12, 13, 14, 15] (by decide +kernel) (by decide +kernel)
set_option maxRecDepth 20000 in
theorem gX2_withPart_X2_has : GoodIn wsX2_withPart (wsV RX2 117 RX2 yX2_has wsX2_has) := goodIn_app (goodIn_of _ (by decide +kernel)) ggX2_withPart_X2_has
theorem dX2_withPart_0 : decode cX2_withPart 0 = .ok (.aload_n 0, 1) := by decide +kernel
theorem dX2_withPart_1 : decode cX2_withPart 1 = .ok (.iload_n 2, 1) := by decide +kernel
theorem dX2_withPart_2 : decode cX2_withPart 2 = .ok (.invokevirtual 117, 3) := by decide +kernel
theorem dX2_withPart_5 : decode cX2_withPart 5 = .ok (.ifCond .eq 9, 3) := by decide +kernel
theorem dX2_withPart_8 : decode cX2_withPart 8 = .ok (.iload_n 1, 1) := by decide +kernel
theorem dX2_withPart_9 : decode cX2_withPart 9 = .ok (.bipush 13, 2) := by decide +kernel
theorem dX2_withPart_11 : decode cX2_withPart 11 = .ok (.if_icmp .lt 5, 3) := by decide +kernel
theorem dX2_withPart_14 : decode cX2_withPart 14 = .ok (.iload_n 1, 1) := by decide +kernel
theorem dX2_withPart_15 : decode cX2_withPart 15 = .ok (.ireturn, 1) := by decide +kernel
theorem dX2_withPart_16 : decode cX2_withPart 16 = .ok (.iconst 0, 1) := by decide +kernel
theorem dX2_withPart_17 : decode cX2_withPart 17 = .ok (.istore_n 3, 1) := by decide +kernel
theorem dX2_withPart_18 : decode cX2_withPart 18 = .ok (.iload_n 3, 1) := by decide +kernel
theorem dX2_withPart_19 : decode cX2_withPart 19 = .ok (.iload_n 1, 1) := by decide +kernel
theorem dX2_withPart_20 : decode cX2_withPart 20 = .ok (.if_icmp .ge 21, 3) := by decide +kernel
theorem dX2_withPart_23 : decode cX2_withPart 23 = .ok (.aload_n 0, 1) := by decide +kernel
theorem dX2_withPart_24 : decode cX2_withPart 24 = .ok (.getfield 31, 3) := by decide +kernel
theorem dX2_withPart_27 : decode cX2_withPart 27 = .ok (.iload_n 3, 1) := by decide +kernel
theorem dX2_withPart_28 : decode cX2_withPart 28 = .ok (.iaload, 1) := by decide +kernel
theorem dX2_withPart_29 : decode cX2_withPart 29 = .ok (.iload_n 2, 1) := by decide +kernel
theorem dX2_withPart_30 : decode cX2_withPart 30 = .ok (.if_icmp .ne 5, 3) := by decide +kernel
theorem dX2_withPart_33 : decode cX2_withPart 33 = .ok (.iload_n 1, 1) := by decide +kernel
theorem dX2_withPart_34 : decode cX2_withPart 34 = .ok (.ireturn, 1) := by decide +kernel
theorem dX2_withPart_35 : decode cX2_withPart 35 = .ok (.iinc 3 1, 3) := by decide +kernel
theorem dX2_withPart_38 : decode cX2_withPart 38 = .ok (.goto (-20), 3) := by decide +kernel
theorem dX2_withPart_41 : decode cX2_withPart 41 = .ok (.aload_n 0, 1) := by decide +kernel
theorem dX2_withPart_42 : decode cX2_withPart 42 = .ok (.getfield 31, 3) := by decide +kernel
theorem dX2_withPart_45 : decode cX2_withPart 45 = .ok (.iload_n 1, 1) := by decide +kernel
theorem dX2_withPart_46 : decode cX2_withPart 46 = .ok (.iload_n 2, 1) := by decide +kernel
theorem dX2_withPart_47 : decode cX2_withPart 47 = .ok (.iastore, 1) := by decide +kernel
theorem dX2_withPart_48 : decode cX2_withPart 48 = .ok (.iload_n 1, 1) := by decide +kernel
theorem dX2_withPart_49 : decode cX2_withPart 49 = .ok (.iconst 1, 1) := by decide +kernel
theorem dX2_withPart_50 : decode cX2_withPart 50 = .ok (.iadd, 1) := by decide +kernel
theorem dX2_withPart_51 : decode cX2_withPart 51 = .ok (.ireturn, 1) := by decide +kernel
set_option maxRecDepth 20000 in
theorem ggX2_addTo_X5_added : GoodIn wsX2_addTo wsX5_added := goodIn_r _ [8, 9] (by decide +kernel) (by decide +kernel)
set_option maxRecDepth 20000 in
theorem gX2_addTo_X5_added_n120 : GoodIn wsX2_addTo (wsX5_added) := ggX2_addTo_X5_added
set_option maxRecDepth 20000 in
theorem ggX2_addTo_X2_costOf : GoodIn wsX2_addTo wsX2_costOf := goodIn_r _ [14, 15, 16, 17, 18, 19, 20, 21, 22, 23] (by decide +kernel) (by decide +kernel)
set_option maxRecDepth 20000 in
theorem gX2_addTo_X2_costOf : GoodIn wsX2_addTo (wsV RX2 124 RX2 yX2_costOf wsX2_costOf) := goodIn_app (goodIn_of _ (by decide +kernel)) ggX2_addTo_X2_costOf
theorem dX2_addTo_0 : decode cX2_addTo 0 = .ok (.lload_n 1, 1) := by decide +kernel
theorem dX2_addTo_1 : decode cX2_addTo 1 = .ok (.aload_n 0, 1) := by decide +kernel
theorem dX2_addTo_2 : decode cX2_addTo 2 = .ok (.getfield 40, 3) := by decide +kernel
theorem dX2_addTo_5 : decode cX2_addTo 5 = .ok (.i2l, 1) := by decide +kernel
theorem dX2_addTo_6 : decode cX2_addTo 6 = .ok (.invokestatic 120, 3) := by decide +kernel
theorem dX2_addTo_9 : decode cX2_addTo 9 = .ok (.lstore_n 3, 1) := by decide +kernel
theorem dX2_addTo_10 : decode cX2_addTo 10 = .ok (.iconst 0, 1) := by decide +kernel
theorem dX2_addTo_11 : decode cX2_addTo 11 = .ok (.istore 5, 2) := by decide +kernel
theorem dX2_addTo_13 : decode cX2_addTo 13 = .ok (.iload 5, 2) := by decide +kernel
theorem dX2_addTo_15 : decode cX2_addTo 15 = .ok (.aload_n 0, 1) := by decide +kernel
theorem dX2_addTo_16 : decode cX2_addTo 16 = .ok (.getfield 40, 3) := by decide +kernel
theorem dX2_addTo_19 : decode cX2_addTo 19 = .ok (.if_icmp .ge 72, 3) := by decide +kernel
theorem dX2_addTo_22 : decode cX2_addTo 22 = .ok (.lload_n 3, 1) := by decide +kernel
theorem dX2_addTo_23 : decode cX2_addTo 23 = .ok (.aload_n 0, 1) := by decide +kernel
theorem dX2_addTo_24 : decode cX2_addTo 24 = .ok (.getfield 11, 3) := by decide +kernel
theorem dX2_addTo_27 : decode cX2_addTo 27 = .ok (.iload 5, 2) := by decide +kernel
theorem dX2_addTo_29 : decode cX2_addTo 29 = .ok (.laload, 1) := by decide +kernel
theorem dX2_addTo_30 : decode cX2_addTo 30 = .ok (.invokestatic 120, 3) := by decide +kernel
theorem dX2_addTo_33 : decode cX2_addTo 33 = .ok (.lstore_n 3, 1) := by decide +kernel
theorem dX2_addTo_34 : decode cX2_addTo 34 = .ok (.lload_n 3, 1) := by decide +kernel
theorem dX2_addTo_35 : decode cX2_addTo 35 = .ok (.aload_n 0, 1) := by decide +kernel
theorem dX2_addTo_36 : decode cX2_addTo 36 = .ok (.iload 5, 2) := by decide +kernel
theorem dX2_addTo_38 : decode cX2_addTo 38 = .ok (.invokevirtual 124, 3) := by decide +kernel
theorem dX2_addTo_41 : decode cX2_addTo 41 = .ok (.i2l, 1) := by decide +kernel
theorem dX2_addTo_42 : decode cX2_addTo 42 = .ok (.invokestatic 120, 3) := by decide +kernel
theorem dX2_addTo_45 : decode cX2_addTo 45 = .ok (.lstore_n 3, 1) := by decide +kernel
theorem dX2_addTo_46 : decode cX2_addTo 46 = .ok (.lload_n 3, 1) := by decide +kernel
theorem dX2_addTo_47 : decode cX2_addTo 47 = .ok (.aload_n 0, 1) := by decide +kernel
theorem dX2_addTo_48 : decode cX2_addTo 48 = .ok (.getfield 15, 3) := by decide +kernel
theorem dX2_addTo_51 : decode cX2_addTo 51 = .ok (.iload 5, 2) := by decide +kernel
theorem dX2_addTo_53 : decode cX2_addTo 53 = .ok (.iaload, 1) := by decide +kernel
theorem dX2_addTo_54 : decode cX2_addTo 54 = .ok (.i2l, 1) := by decide +kernel
theorem dX2_addTo_55 : decode cX2_addTo 55 = .ok (.invokestatic 120, 3) := by decide +kernel
theorem dX2_addTo_58 : decode cX2_addTo 58 = .ok (.lstore_n 3, 1) := by decide +kernel
theorem dX2_addTo_59 : decode cX2_addTo 59 = .ok (.lload_n 3, 1) := by decide +kernel
theorem dX2_addTo_60 : decode cX2_addTo 60 = .ok (.aload_n 0, 1) := by decide +kernel
theorem dX2_addTo_61 : decode cX2_addTo 61 = .ok (.getfield 19, 3) := by decide +kernel
theorem dX2_addTo_64 : decode cX2_addTo 64 = .ok (.iload 5, 2) := by decide +kernel
theorem dX2_addTo_66 : decode cX2_addTo 66 = .ok (.iaload, 1) := by decide +kernel
theorem dX2_addTo_67 : decode cX2_addTo 67 = .ok (.i2l, 1) := by decide +kernel
theorem dX2_addTo_68 : decode cX2_addTo 68 = .ok (.invokestatic 120, 3) := by decide +kernel
theorem dX2_addTo_71 : decode cX2_addTo 71 = .ok (.lstore_n 3, 1) := by decide +kernel
theorem dX2_addTo_72 : decode cX2_addTo 72 = .ok (.lload_n 3, 1) := by decide +kernel
theorem dX2_addTo_73 : decode cX2_addTo 73 = .ok (.aload_n 0, 1) := by decide +kernel
theorem dX2_addTo_74 : decode cX2_addTo 74 = .ok (.getfield 22, 3) := by decide +kernel
theorem dX2_addTo_77 : decode cX2_addTo 77 = .ok (.iload 5, 2) := by decide +kernel
theorem dX2_addTo_79 : decode cX2_addTo 79 = .ok (.iaload, 1) := by decide +kernel
theorem dX2_addTo_80 : decode cX2_addTo 80 = .ok (.i2l, 1) := by decide +kernel
theorem dX2_addTo_81 : decode cX2_addTo 81 = .ok (.invokestatic 120, 3) := by decide +kernel
theorem dX2_addTo_84 : decode cX2_addTo 84 = .ok (.lstore_n 3, 1) := by decide +kernel
theorem dX2_addTo_85 : decode cX2_addTo 85 = .ok (.iinc 5 1, 3) := by decide +kernel
theorem dX2_addTo_88 : decode cX2_addTo 88 = .ok (.goto (-75), 3) := by decide +kernel
theorem dX2_addTo_91 : decode cX2_addTo 91 = .ok (.lload_n 3, 1) := by decide +kernel
theorem dX2_addTo_92 : decode cX2_addTo 92 = .ok (.lreturn, 1) := by decide +kernel
set_option maxRecDepth 20000 in
theorem ggX3_init_J7_fill_53178 : GoodIn wsX3_init wsJ7_fill_53178 := goodIn_r _ [12] (by decide +kernel) (by decide +kernel)
set_option maxRecDepth 20000 in
theorem gX3_init_J7_fill_53178 : GoodIn wsX3_init (va_wsS RX3 22 yJ7_fill_53178 wsJ7_fill_53178) := goodIn_app (goodIn_of _ (by decide +kernel)) ggX3_init_J7_fill_53178
theorem dX3_init_0 : decode cX3_init 0 = .ok (.aload_n 0, 1) := by decide +kernel
theorem dX3_init_1 : decode cX3_init 1 = .ok (.invokespecial 3, 3) := by decide +kernel
theorem dX3_init_4 : decode cX3_init 4 = .ok (.aload_n 0, 1) := by decide +kernel
theorem dX3_init_5 : decode cX3_init 5 = .ok (.bipush 11, 2) := by decide +kernel
theorem dX3_init_7 : decode cX3_init 7 = .ok (.newarray .int, 2) := by decide +kernel
theorem dX3_init_9 : decode cX3_init 9 = .ok (.putfield 9, 3) := by decide +kernel
theorem dX3_init_12 : decode cX3_init 12 = .ok (.aload_n 0, 1) := by decide +kernel
theorem dX3_init_13 : decode cX3_init 13 = .ok (.bipush 10, 2) := by decide +kernel
theorem dX3_init_15 : decode cX3_init 15 = .ok (.newarray .boolean, 2) := by decide +kernel
theorem dX3_init_17 : decode cX3_init 17 = .ok (.putfield 15, 3) := by decide +kernel
theorem dX3_init_20 : decode cX3_init 20 = .ok (.aload_n 0, 1) := by decide +kernel
theorem dX3_init_21 : decode cX3_init 21 = .ok (.bipush 16, 2) := by decide +kernel
theorem dX3_init_23 : decode cX3_init 23 = .ok (.newarray .boolean, 2) := by decide +kernel
theorem dX3_init_25 : decode cX3_init 25 = .ok (.putfield 19, 3) := by decide +kernel
theorem dX3_init_28 : decode cX3_init 28 = .ok (.aload_n 0, 1) := by decide +kernel
theorem dX3_init_29 : decode cX3_init 29 = .ok (.getfield 9, 3) := by decide +kernel
theorem dX3_init_32 : decode cX3_init 32 = .ok (.iconst 1, 1) := by decide +kernel
theorem dX3_init_33 : decode cX3_init 33 = .ok (.invokestatic 22, 3) := by decide +kernel
theorem dX3_init_36 : decode cX3_init 36 = .ok (.iconst 0, 1) := by decide +kernel
theorem dX3_init_37 : decode cX3_init 37 = .ok (.istore_n 1, 1) := by decide +kernel
theorem dX3_init_38 : decode cX3_init 38 = .ok (.iload_n 1, 1) := by decide +kernel
theorem dX3_init_39 : decode cX3_init 39 = .ok (.bipush 9, 2) := by decide +kernel
theorem dX3_init_41 : decode cX3_init 41 = .ok (.if_icmp .ge 16, 3) := by decide +kernel
theorem dX3_init_44 : decode cX3_init 44 = .ok (.aload_n 0, 1) := by decide +kernel
theorem dX3_init_45 : decode cX3_init 45 = .ok (.getfield 15, 3) := by decide +kernel
theorem dX3_init_48 : decode cX3_init 48 = .ok (.iload_n 1, 1) := by decide +kernel
theorem dX3_init_49 : decode cX3_init 49 = .ok (.iconst 1, 1) := by decide +kernel
theorem dX3_init_50 : decode cX3_init 50 = .ok (.bastore, 1) := by decide +kernel
theorem dX3_init_51 : decode cX3_init 51 = .ok (.iinc 1 1, 3) := by decide +kernel
theorem dX3_init_54 : decode cX3_init 54 = .ok (.goto (-16), 3) := by decide +kernel
theorem dX3_init_57 : decode cX3_init 57 = .ok (.aload_n 0, 1) := by decide +kernel
theorem dX3_init_58 : decode cX3_init 58 = .ok (.getfield 19, 3) := by decide +kernel
theorem dX3_init_61 : decode cX3_init 61 = .ok (.iconst 1, 1) := by decide +kernel
theorem dX3_init_62 : decode cX3_init 62 = .ok (.iconst 1, 1) := by decide +kernel
theorem dX3_init_63 : decode cX3_init 63 = .ok (.bastore, 1) := by decide +kernel
theorem dX3_init_64 : decode cX3_init 64 = .ok (.return_, 1) := by decide +kernel
theorem dX3_priceOfConstants_0 : decode cX3_priceOfConstants 0 = .ok (.aload_n 0, 1) := by decide +kernel
theorem dX3_priceOfConstants_1 : decode cX3_priceOfConstants 1 = .ok (.getfield 9, 3) := by decide +kernel
theorem dX3_priceOfConstants_4 : decode cX3_priceOfConstants 4 = .ok (.bipush 10, 2) := by decide +kernel
theorem dX3_priceOfConstants_6 : decode cX3_priceOfConstants 6 = .ok (.iaload, 1) := by decide +kernel
theorem dX3_priceOfConstants_7 : decode cX3_priceOfConstants 7 = .ok (.ireturn, 1) := by decide +kernel
set_option maxRecDepth 20000 in
theorem ggX3_addTo_X5_added : GoodIn wsX3_addTo wsX5_added := goodIn_r _ [6, 7] (by decide +kernel) (by decide +kernel)
set_option maxRecDepth 20000 in
theorem gX3_addTo_X5_added_n28 : GoodIn wsX3_addTo (wsX5_added) := ggX3_addTo_X5_added
set_option maxRecDepth 20000 in
theorem ggX3_addTo_X3_priceOfConstants : GoodIn wsX3_addTo wsX3_priceOfConstants := goodIn_r _ [12, 1, 13, 14, 15] (by decide +kernel) (by decide +kernel)
set_option maxRecDepth 20000 in
theorem gX3_addTo_X3_priceOfConstants : GoodIn wsX3_addTo (wsV RX3 32 RX3 yX3_priceOfConstants wsX3_priceOfConstants) := goodIn_app (goodIn_of _ (by decide +kernel)) ggX3_addTo_X3_priceOfConstants
theorem dX3_addTo_0 : decode cX3_addTo 0 = .ok (.lload_n 1, 1) := by decide +kernel
theorem dX3_addTo_1 : decode cX3_addTo 1 = .ok (.lstore_n 3, 1) := by decide +kernel
theorem dX3_addTo_2 : decode cX3_addTo 2 = .ok (.iconst 0, 1) := by decide +kernel
theorem dX3_addTo_3 : decode cX3_addTo 3 = .ok (.istore 5, 2) := by decide +kernel
theorem dX3_addTo_5 : decode cX3_addTo 5 = .ok (.iload 5, 2) := by decide +kernel
theorem dX3_addTo_7 : decode cX3_addTo 7 = .ok (.bipush 10, 2) := by decide +kernel
theorem dX3_addTo_9 : decode cX3_addTo 9 = .ok (.if_icmp .ge 42, 3) := by decide +kernel
theorem dX3_addTo_12 : decode cX3_addTo 12 = .ok (.lload_n 3, 1) := by decide +kernel
theorem dX3_addTo_13 : decode cX3_addTo 13 = .ok (.aload_n 0, 1) := by decide +kernel
theorem dX3_addTo_14 : decode cX3_addTo 14 = .ok (.getfield 9, 3) := by decide +kernel
theorem dX3_addTo_17 : decode cX3_addTo 17 = .ok (.iload 5, 2) := by decide +kernel
theorem dX3_addTo_19 : decode cX3_addTo 19 = .ok (.iaload, 1) := by decide +kernel
theorem dX3_addTo_20 : decode cX3_addTo 20 = .ok (.i2l, 1) := by decide +kernel
theorem dX3_addTo_21 : decode cX3_addTo 21 = .ok (.invokestatic 28, 3) := by decide +kernel
theorem dX3_addTo_24 : decode cX3_addTo 24 = .ok (.lstore_n 3, 1) := by decide +kernel
theorem dX3_addTo_25 : decode cX3_addTo 25 = .ok (.lload_n 3, 1) := by decide +kernel
theorem dX3_addTo_26 : decode cX3_addTo 26 = .ok (.aload_n 0, 1) := by decide +kernel
theorem dX3_addTo_27 : decode cX3_addTo 27 = .ok (.getfield 15, 3) := by decide +kernel
theorem dX3_addTo_30 : decode cX3_addTo 30 = .ok (.iload 5, 2) := by decide +kernel
theorem dX3_addTo_32 : decode cX3_addTo 32 = .ok (.baload, 1) := by decide +kernel
theorem dX3_addTo_33 : decode cX3_addTo 33 = .ok (.ifCond .eq 7, 3) := by decide +kernel
theorem dX3_addTo_36 : decode cX3_addTo 36 = .ok (.lconst 1, 1) := by decide +kernel
theorem dX3_addTo_37 : decode cX3_addTo 37 = .ok (.goto 4, 3) := by decide +kernel
theorem dX3_addTo_40 : decode cX3_addTo 40 = .ok (.lconst 0, 1) := by decide +kernel
theorem dX3_addTo_41 : decode cX3_addTo 41 = .ok (.invokestatic 28, 3) := by decide +kernel
theorem dX3_addTo_44 : decode cX3_addTo 44 = .ok (.lstore_n 3, 1) := by decide +kernel
theorem dX3_addTo_45 : decode cX3_addTo 45 = .ok (.iinc 5 1, 3) := by decide +kernel
theorem dX3_addTo_48 : decode cX3_addTo 48 = .ok (.goto (-43), 3) := by decide +kernel
theorem dX3_addTo_51 : decode cX3_addTo 51 = .ok (.lload_n 3, 1) := by decide +kernel
theorem dX3_addTo_52 : decode cX3_addTo 52 = .ok (.aload_n 0, 1) := by decide +kernel
theorem dX3_addTo_53 : decode cX3_addTo 53 = .ok (.invokevirtual 32, 3) := by decide +kernel
theorem dX3_addTo_56 : decode cX3_addTo 56 = .ok (.i2l, 1) := by decide +kernel
theorem dX3_addTo_57 : decode cX3_addTo 57 = .ok (.invokestatic 28, 3) := by decide +kernel
theorem dX3_addTo_60 : decode cX3_addTo 60 = .ok (.lstore_n 3, 1) := by decide +kernel
theorem dX3_addTo_61 : decode cX3_addTo 61 = .ok (.aload_n 0, 1) := by decide +kernel
theorem dX3_addTo_62 : decode cX3_addTo 62 = .ok (.getfield 19, 3) := by decide +kernel
theorem dX3_addTo_65 : decode cX3_addTo 65 = .ok (.astore 5, 2) := by decide +kernel
theorem dX3_addTo_67 : decode cX3_addTo 67 = .ok (.aload 5, 2) := by decide +kernel
theorem dX3_addTo_69 : decode cX3_addTo 69 = .ok (.arraylength, 1) := by decide +kernel
theorem dX3_addTo_70 : decode cX3_addTo 70 = .ok (.istore 6, 2) := by decide +kernel
theorem dX3_addTo_72 : decode cX3_addTo 72 = .ok (.iconst 0, 1) := by decide +kernel
theorem dX3_addTo_73 : decode cX3_addTo 73 = .ok (.istore 7, 2) := by decide +kernel
theorem dX3_addTo_75 : decode cX3_addTo 75 = .ok (.iload 7, 2) := by decide +kernel
theorem dX3_addTo_77 : decode cX3_addTo 77 = .ok (.iload 6, 2) := by decide +kernel
theorem dX3_addTo_79 : decode cX3_addTo 79 = .ok (.if_icmp .ge 31, 3) := by decide +kernel
theorem dX3_addTo_82 : decode cX3_addTo 82 = .ok (.aload 5, 2) := by decide +kernel
theorem dX3_addTo_84 : decode cX3_addTo 84 = .ok (.iload 7, 2) := by decide +kernel
theorem dX3_addTo_86 : decode cX3_addTo 86 = .ok (.baload, 1) := by decide +kernel
theorem dX3_addTo_87 : decode cX3_addTo 87 = .ok (.istore 8, 2) := by decide +kernel
theorem dX3_addTo_89 : decode cX3_addTo 89 = .ok (.lload_n 3, 1) := by decide +kernel
theorem dX3_addTo_90 : decode cX3_addTo 90 = .ok (.iload 8, 2) := by decide +kernel
theorem dX3_addTo_92 : decode cX3_addTo 92 = .ok (.ifCond .eq 7, 3) := by decide +kernel
theorem dX3_addTo_95 : decode cX3_addTo 95 = .ok (.lconst 1, 1) := by decide +kernel
theorem dX3_addTo_96 : decode cX3_addTo 96 = .ok (.goto 4, 3) := by decide +kernel
theorem dX3_addTo_99 : decode cX3_addTo 99 = .ok (.lconst 0, 1) := by decide +kernel
theorem dX3_addTo_100 : decode cX3_addTo 100 = .ok (.invokestatic 28, 3) := by decide +kernel
theorem dX3_addTo_103 : decode cX3_addTo 103 = .ok (.lstore_n 3, 1) := by decide +kernel
theorem dX3_addTo_104 : decode cX3_addTo 104 = .ok (.iinc 7 1, 3) := by decide +kernel
theorem dX3_addTo_107 : decode cX3_addTo 107 = .ok (.goto (-32), 3) := by decide +kernel
theorem dX3_addTo_110 : decode cX3_addTo 110 = .ok (.lload_n 3, 1) := by decide +kernel
theorem dX3_addTo_111 : decode cX3_addTo 111 = .ok (.lreturn, 1) := by decide +kernel
end
section
theorem dX4_init_0 : decode cX4_init 0 = .ok (.aload_n 0, 1) := by decide +kernel
theorem dX4_init_1 : decode cX4_init 1 = .ok (.invokespecial 3, 3) := by decide +kernel
theorem dX4_init_4 : decode cX4_init 4 = .ok (.aload_n 0, 1) := by decide +kernel
theorem dX4_init_5 : decode cX4_init 5 = .ok (.sipush 300, 3) := by decide +kernel
theorem dX4_init_8 : decode cX4_init 8 = .ok (.newarray .int, 2) := by decide +kernel
theorem dX4_init_10 : decode cX4_init 10 = .ok (.putfield 11, 3) := by decide +kernel
theorem dX4_init_13 : decode cX4_init 13 = .ok (.return_, 1) := by decide +kernel
theorem dX4_append_0 : decode cX4_append 0 = .ok (.bipush 24, 2) := by decide +kernel
theorem dX4_append_2 : decode cX4_append 2 = .ok (.istore_n 2, 1) := by decide +kernel
theorem dX4_append_3 : decode cX4_append 3 = .ok (.iload_n 2, 1) := by decide +kernel
theorem dX4_append_4 : decode cX4_append 4 = .ok (.ifCond .lt 45, 3) := by decide +kernel
theorem dX4_append_7 : decode cX4_append 7 = .ok (.aload_n 0, 1) := by decide +kernel
theorem dX4_append_8 : decode cX4_append 8 = .ok (.getfield 15, 3) := by decide +kernel
theorem dX4_append_11 : decode cX4_append 11 = .ok (.sipush 300, 3) := by decide +kernel
theorem dX4_append_14 : decode cX4_append 14 = .ok (.if_icmp .ge 35, 3) := by decide +kernel
theorem dX4_append_17 : decode cX4_append 17 = .ok (.aload_n 0, 1) := by decide +kernel
theorem dX4_append_18 : decode cX4_append 18 = .ok (.getfield 11, 3) := by decide +kernel
theorem dX4_append_21 : decode cX4_append 21 = .ok (.aload_n 0, 1) := by decide +kernel
theorem dX4_append_22 : decode cX4_append 22 = .ok (.getfield 15, 3) := by decide +kernel
theorem dX4_append_25 : decode cX4_append 25 = .ok (.iload_n 1, 1) := by decide +kernel
theorem dX4_append_26 : decode cX4_append 26 = .ok (.iload_n 2, 1) := by decide +kernel
theorem dX4_append_27 : decode cX4_append 27 = .ok (.iushr, 1) := by decide +kernel
theorem dX4_append_28 : decode cX4_append 28 = .ok (.sipush 255, 3) := by decide +kernel
theorem dX4_append_31 : decode cX4_append 31 = .ok (.iand, 1) := by decide +kernel
theorem dX4_append_32 : decode cX4_append 32 = .ok (.iastore, 1) := by decide +kernel
theorem dX4_append_33 : decode cX4_append 33 = .ok (.aload_n 0, 1) := by decide +kernel
theorem dX4_append_34 : decode cX4_append 34 = .ok (.dup, 1) := by decide +kernel
theorem dX4_append_35 : decode cX4_append 35 = .ok (.getfield 15, 3) := by decide +kernel
theorem dX4_append_38 : decode cX4_append 38 = .ok (.iconst 1, 1) := by decide +kernel
theorem dX4_append_39 : decode cX4_append 39 = .ok (.iadd, 1) := by decide +kernel
theorem dX4_append_40 : decode cX4_append 40 = .ok (.putfield 15, 3) := by decide +kernel
theorem dX4_append_43 : decode cX4_append 43 = .ok (.iinc 2 (-8), 3) := by decide +kernel
theorem dX4_append_46 : decode cX4_append 46 = .ok (.goto (-43), 3) := by decide +kernel
theorem dX4_append_49 : decode cX4_append 49 = .ok (.return_, 1) := by decide +kernel
set_option maxRecDepth 20000 in
theorem ggX4_takeFormula_X4_readFormula : GoodIn wsX4_takeFormula wsX4_readFormula := goodIn_r _ [9, 1, 10, 11, 12, 8, 13, 14, 15, 16, 2, 17, 18, 19, 20, 3, 21, 22, 23, 24, 25, 26, 27, 28, 29, 30, 31, 32, 33, 34, 35, 36, 37, 38, 39, 40, 41, 42, 43, 44, 45, 46, 47, 48, 49, 50, 5, 6, 7, 51, 52, 53, 54, 55, 56, 57, 58, 59, 60, 61, 62, 63, 64, 65, 66, 67, 68, 69, 70, 71, 72, 73, 74] (by decide +kernel) (by decide +kernel)
set_option maxRecDepth 20000 in
theorem gX4_takeFormula_X4_readFormula : GoodIn wsX4_takeFormula (wsV RX4 25 RX4 yX4_readFormula wsX4_readFormula) := goodIn_app (goodIn_of _ (by decide +kernel)) ggX4_takeFormula_X4_readFormula
set_option maxRecDepth 20000 in
theorem ggX4_takeFormula_X4_hasError : GoodIn wsX4_takeFormula wsX4_hasError := goodIn_r _ [16, 2, 70, 71, 72, 73, 74] (by decide +kernel) (by decide +kernel)
set_option maxRecDepth 20000 in
theorem gX4_takeFormula_X4_hasError : GoodIn wsX4_takeFormula (wsV RX4 29 RX4 yX4_hasError wsX4_hasError) := goodIn_app (goodIn_of _ (by decide +kernel)) ggX4_takeFormula_X4_hasError
set_option maxRecDepth 20000 in
theorem ggX4_takeFormula_X4_next : GoodIn wsX4_takeFormula wsX4_next := goodIn_r _ [20, 1, 3, 21, 22, 23, 8, 24, 25, 70, 71, 72, 73, 74] (by decide +kernel) (by decide +kernel)
set_option maxRecDepth 20000 in
theorem gX4_takeFormula_X4_next : GoodIn wsX4_takeFormula (wsV RX4 33 RX4 yX4_next wsX4_next) := goodIn_app (goodIn_of _ (by decide +kernel)) ggX4_takeFormula_X4_next
set_option maxRecDepth 20000 in
theorem ggX4_takeFormula_X4_failAt : GoodIn wsX4_takeFormula wsX4_failAt := goodIn_r _ [54, 2, 70, 71, 72, 73, 74] (by decide +kernel) (by decide +kernel)
set_option maxRecDepth 20000 in
theorem gX4_takeFormula_X4_failAt : GoodIn wsX4_takeFormula (wsV RX4 37 RX4 yX4_failAt wsX4_failAt) := goodIn_app (goodIn_of _ (by decide +kernel)) ggX4_takeFormula_X4_failAt
theorem dX4_takeFormula_0 : decode cX4_takeFormula 0 = .ok (.aload_n 0, 1) := by decide +kernel
theorem dX4_takeFormula_1 : decode cX4_takeFormula 1 = .ok (.iconst 0, 1) := by decide +kernel
theorem dX4_takeFormula_2 : decode cX4_takeFormula 2 = .ok (.putfield 19, 3) := by decide +kernel
theorem dX4_takeFormula_5 : decode cX4_takeFormula 5 = .ok (.aload_n 0, 1) := by decide +kernel
theorem dX4_takeFormula_6 : decode cX4_takeFormula 6 = .ok (.iconst (-1), 1) := by decide +kernel
theorem dX4_takeFormula_7 : decode cX4_takeFormula 7 = .ok (.putfield 22, 3) := by decide +kernel
theorem dX4_takeFormula_10 : decode cX4_takeFormula 10 = .ok (.aload_n 0, 1) := by decide +kernel
theorem dX4_takeFormula_11 : decode cX4_takeFormula 11 = .ok (.iconst 0, 1) := by decide +kernel
theorem dX4_takeFormula_12 : decode cX4_takeFormula 12 = .ok (.invokevirtual 25, 3) := by decide +kernel
theorem dX4_takeFormula_15 : decode cX4_takeFormula 15 = .ok (.lstore_n 1, 1) := by decide +kernel
theorem dX4_takeFormula_16 : decode cX4_takeFormula 16 = .ok (.aload_n 0, 1) := by decide +kernel
theorem dX4_takeFormula_17 : decode cX4_takeFormula 17 = .ok (.invokevirtual 29, 3) := by decide +kernel
theorem dX4_takeFormula_20 : decode cX4_takeFormula 20 = .ok (.ifCond .ne 20, 3) := by decide +kernel
theorem dX4_takeFormula_23 : decode cX4_takeFormula 23 = .ok (.aload_n 0, 1) := by decide +kernel
theorem dX4_takeFormula_24 : decode cX4_takeFormula 24 = .ok (.invokevirtual 33, 3) := by decide +kernel
theorem dX4_takeFormula_27 : decode cX4_takeFormula 27 = .ok (.iconst (-1), 1) := by decide +kernel
theorem dX4_takeFormula_28 : decode cX4_takeFormula 28 = .ok (.if_icmp .eq 12, 3) := by decide +kernel
theorem dX4_takeFormula_31 : decode cX4_takeFormula 31 = .ok (.aload_n 0, 1) := by decide +kernel
theorem dX4_takeFormula_32 : decode cX4_takeFormula 32 = .ok (.aload_n 0, 1) := by decide +kernel
theorem dX4_takeFormula_33 : decode cX4_takeFormula 33 = .ok (.getfield 19, 3) := by decide +kernel
theorem dX4_takeFormula_36 : decode cX4_takeFormula 36 = .ok (.invokevirtual 37, 3) := by decide +kernel
theorem dX4_takeFormula_39 : decode cX4_takeFormula 39 = .ok (.pop2, 1) := by decide +kernel
theorem dX4_takeFormula_40 : decode cX4_takeFormula 40 = .ok (.aload_n 0, 1) := by decide +kernel
theorem dX4_takeFormula_41 : decode cX4_takeFormula 41 = .ok (.iconst 0, 1) := by decide +kernel
theorem dX4_takeFormula_42 : decode cX4_takeFormula 42 = .ok (.putfield 15, 3) := by decide +kernel
theorem dX4_takeFormula_45 : decode cX4_takeFormula 45 = .ok (.aload_n 0, 1) := by decide +kernel
theorem dX4_takeFormula_46 : decode cX4_takeFormula 46 = .ok (.invokevirtual 29, 3) := by decide +kernel
theorem dX4_takeFormula_49 : decode cX4_takeFormula 49 = .ok (.ifCond .ne 8, 3) := by decide +kernel
theorem dX4_takeFormula_52 : decode cX4_takeFormula 52 = .ok (.aload_n 0, 1) := by decide +kernel
theorem dX4_takeFormula_53 : decode cX4_takeFormula 53 = .ok (.lload_n 1, 1) := by decide +kernel
theorem dX4_takeFormula_54 : decode cX4_takeFormula 54 = .ok (.putfield 40, 3) := by decide +kernel
theorem dX4_takeFormula_57 : decode cX4_takeFormula 57 = .ok (.aload_n 0, 1) := by decide +kernel
theorem dX4_takeFormula_58 : decode cX4_takeFormula 58 = .ok (.getfield 22, 3) := by decide +kernel
theorem dX4_takeFormula_61 : decode cX4_takeFormula 61 = .ok (.ireturn, 1) := by decide +kernel
theorem dX4_hasError_0 : decode cX4_hasError 0 = .ok (.aload_n 0, 1) := by decide +kernel
theorem dX4_hasError_1 : decode cX4_hasError 1 = .ok (.getfield 22, 3) := by decide +kernel
theorem dX4_hasError_4 : decode cX4_hasError 4 = .ok (.iconst (-1), 1) := by decide +kernel
theorem dX4_hasError_5 : decode cX4_hasError 5 = .ok (.if_icmp .eq 7, 3) := by decide +kernel
theorem dX4_hasError_8 : decode cX4_hasError 8 = .ok (.iconst 1, 1) := by decide +kernel
theorem dX4_hasError_9 : decode cX4_hasError 9 = .ok (.goto 4, 3) := by decide +kernel
theorem dX4_hasError_12 : decode cX4_hasError 12 = .ok (.iconst 0, 1) := by decide +kernel
theorem dX4_hasError_13 : decode cX4_hasError 13 = .ok (.ireturn, 1) := by decide +kernel
theorem dX4_failAt_0 : decode cX4_failAt 0 = .ok (.aload_n 0, 1) := by decide +kernel
theorem dX4_failAt_1 : decode cX4_failAt 1 = .ok (.iload_n 1, 1) := by decide +kernel
theorem dX4_failAt_2 : decode cX4_failAt 2 = .ok (.putfield 22, 3) := by decide +kernel
theorem dX4_failAt_5 : decode cX4_failAt 5 = .ok (.lconst 0, 1) := by decide +kernel
theorem dX4_failAt_6 : decode cX4_failAt 6 = .ok (.lreturn, 1) := by decide +kernel
theorem dX4_here_0 : decode cX4_here 0 = .ok (.aload_n 0, 1) := by decide +kernel
theorem dX4_here_1 : decode cX4_here 1 = .ok (.getfield 19, 3) := by decide +kernel
theorem dX4_here_4 : decode cX4_here 4 = .ok (.aload_n 0, 1) := by decide +kernel
theorem dX4_here_5 : decode cX4_here 5 = .ok (.getfield 15, 3) := by decide +kernel
theorem dX4_here_8 : decode cX4_here 8 = .ok (.if_icmp .ge 25, 3) := by decide +kernel
theorem dX4_here_11 : decode cX4_here 11 = .ok (.aload_n 0, 1) := by decide +kernel
theorem dX4_here_12 : decode cX4_here 12 = .ok (.getfield 19, 3) := by decide +kernel
theorem dX4_here_15 : decode cX4_here 15 = .ok (.sipush 300, 3) := by decide +kernel
theorem dX4_here_18 : decode cX4_here 18 = .ok (.if_icmp .ge 15, 3) := by decide +kernel
theorem dX4_here_21 : decode cX4_here 21 = .ok (.aload_n 0, 1) := by decide +kernel
theorem dX4_here_22 : decode cX4_here 22 = .ok (.getfield 11, 3) := by decide +kernel
theorem dX4_here_25 : decode cX4_here 25 = .ok (.aload_n 0, 1) := by decide +kernel
theorem dX4_here_26 : decode cX4_here 26 = .ok (.getfield 19, 3) := by decide +kernel
theorem dX4_here_29 : decode cX4_here 29 = .ok (.iaload, 1) := by decide +kernel
theorem dX4_here_30 : decode cX4_here 30 = .ok (.goto 4, 3) := by decide +kernel
theorem dX4_here_33 : decode cX4_here 33 = .ok (.iconst (-1), 1) := by decide +kernel
theorem dX4_here_34 : decode cX4_here 34 = .ok (.ireturn, 1) := by decide +kernel
set_option maxRecDepth 20000 in
theorem ggX4_next_X4_here : GoodIn wsX4_next wsX4_here := goodIn_r _ [7, 1, 2, 8, 9, 10, 11, 12, 13] (by decide +kernel) (by decide +kernel)
set_option maxRecDepth 20000 in
theorem gX4_next_X4_here : GoodIn wsX4_next (wsV RX4 44 RX4 yX4_here wsX4_here) := goodIn_app (goodIn_of _ (by decide +kernel)) ggX4_next_X4_here
theorem dX4_next_0 : decode cX4_next 0 = .ok (.aload_n 0, 1) := by decide +kernel
theorem dX4_next_1 : decode cX4_next 1 = .ok (.getfield 19, 3) := by decide +kernel
theorem dX4_next_4 : decode cX4_next 4 = .ok (.aload_n 0, 1) := by decide +kernel
theorem dX4_next_5 : decode cX4_next 5 = .ok (.getfield 15, 3) := by decide +kernel
theorem dX4_next_8 : decode cX4_next 8 = .ok (.if_icmp .ge 25, 3) := by decide +kernel
theorem dX4_next_11 : decode cX4_next 11 = .ok (.aload_n 0, 1) := by decide +kernel
theorem dX4_next_12 : decode cX4_next 12 = .ok (.invokevirtual 44, 3) := by decide +kernel
theorem dX4_next_15 : decode cX4_next 15 = .ok (.bipush 32, 2) := by decide +kernel
theorem dX4_next_17 : decode cX4_next 17 = .ok (.if_icmp .ne 16, 3) := by decide +kernel
theorem dX4_next_20 : decode cX4_next 20 = .ok (.aload_n 0, 1) := by decide +kernel
theorem dX4_next_21 : decode cX4_next 21 = .ok (.dup, 1) := by decide +kernel
theorem dX4_next_22 : decode cX4_next 22 = .ok (.getfield 19, 3) := by decide +kernel
theorem dX4_next_25 : decode cX4_next 25 = .ok (.iconst 1, 1) := by decide +kernel
theorem dX4_next_26 : decode cX4_next 26 = .ok (.iadd, 1) := by decide +kernel
theorem dX4_next_27 : decode cX4_next 27 = .ok (.putfield 19, 3) := by decide +kernel
theorem dX4_next_30 : decode cX4_next 30 = .ok (.goto (-30), 3) := by decide +kernel
theorem dX4_next_33 : decode cX4_next 33 = .ok (.aload_n 0, 1) := by decide +kernel
theorem dX4_next_34 : decode cX4_next 34 = .ok (.invokevirtual 44, 3) := by decide +kernel
theorem dX4_next_37 : decode cX4_next 37 = .ok (.ireturn, 1) := by decide +kernel
set_option maxRecDepth 20000 in
theorem ggX4_readFormula_X4_readPart : GoodIn wsX4_readFormula wsX4_readPart := goodIn_r _ [53, 1, 54, 11, 12, 13, 5, 14, 15, 16, 17, 18, 19, 20, 55, 56, 57, 58, 59, 60, 61, 62, 63, 26, 64, 43, 49, 50, 51, 52, 10, 21, 22, 23, 65, 66, 67, 2, 3, 4, 24, 25, 27, 28, 29, 30, 31, 32, 33, 34, 35, 36, 37, 38, 39, 40, 41, 42, 44, 45, 46, 47, 48, 6, 7, 8, 9, 0, 68, 69, 70, 71, 72] (by decide +kernel) (by decide +kernel)
set_option maxRecDepth 20000 in
theorem gX4_readFormula_X4_readPart : GoodIn wsX4_readFormula (wsV RX4 47 RX4 yX4_readPart wsX4_readPart) := goodIn_app (goodIn_of _ (by decide +kernel)) ggX4_readFormula_X4_readPart
set_option maxRecDepth 20000 in
theorem ggX4_readFormula_X4_hasError : GoodIn wsX4_readFormula wsX4_hasError := goodIn_r _ [9, 10, 68, 69, 70, 71, 72] (by decide +kernel) (by decide +kernel)
set_option maxRecDepth 20000 in
theorem gX4_readFormula_X4_hasError : GoodIn wsX4_readFormula (wsV RX4 29 RX4 yX4_hasError wsX4_hasError) := goodIn_app (goodIn_of _ (by decide +kernel)) ggX4_readFormula_X4_hasError
set_option maxRecDepth 20000 in
theorem ggX4_readFormula_X4_next : GoodIn wsX4_readFormula wsX4_next := goodIn_r _ [14, 1, 15, 16, 17, 18, 5, 19, 20, 68, 69, 70, 71, 72] (by decide +kernel) (by decide +kernel)
set_option maxRecDepth 20000 in
theorem gX4_readFormula_X4_next : GoodIn wsX4_readFormula (wsV RX4 33 RX4 yX4_next wsX4_next) := goodIn_app (goodIn_of _ (by decide +kernel)) ggX4_readFormula_X4_next
set_option maxRecDepth 20000 in
theorem ggX4_readFormula_X4_operationOf : GoodIn wsX4_readFormula wsX4_operationOf := goodIn_r _ [23] (by decide +kernel) (by decide +kernel)
set_option maxRecDepth 20000 in
theorem gX4_readFormula_X4_operationOf : GoodIn wsX4_readFormula (va_wsS RX4 50 yX4_operationOf wsX4_operationOf) := goodIn_app (goodIn_of _ (by decide +kernel)) ggX4_readFormula_X4_operationOf
set_option maxRecDepth 20000 in
theorem ggX4_readFormula_X0_made : GoodIn wsX4_readFormula wsX0_made := goodIn_r _ [27, 28, 29, 30, 31, 26, 32, 33, 34, 35, 36, 37, 38, 39, 40, 41, 42, 43, 44] (by decide +kernel) (by decide +kernel)
set_option maxRecDepth 20000 in
theorem gX4_readFormula_X0_made : GoodIn wsX4_readFormula (va_wsS RX4 54 yX0_made wsX0_made) := goodIn_app (goodIn_of _ (by decide +kernel)) ggX4_readFormula_X0_made
theorem dX4_readFormula_0 : decode cX4_readFormula 0 = .ok (.aload_n 0, 1) := by decide +kernel
theorem dX4_readFormula_1 : decode cX4_readFormula 1 = .ok (.iload_n 1, 1) := by decide +kernel
theorem dX4_readFormula_2 : decode cX4_readFormula 2 = .ok (.invokevirtual 47, 3) := by decide +kernel
theorem dX4_readFormula_5 : decode cX4_readFormula 5 = .ok (.lstore_n 2, 1) := by decide +kernel
theorem dX4_readFormula_6 : decode cX4_readFormula 6 = .ok (.aload_n 0, 1) := by decide +kernel
theorem dX4_readFormula_7 : decode cX4_readFormula 7 = .ok (.invokevirtual 29, 3) := by decide +kernel
theorem dX4_readFormula_10 : decode cX4_readFormula 10 = .ok (.ifCond .eq 5, 3) := by decide +kernel
theorem dX4_readFormula_13 : decode cX4_readFormula 13 = .ok (.lconst 0, 1) := by decide +kernel
theorem dX4_readFormula_14 : decode cX4_readFormula 14 = .ok (.lreturn, 1) := by decide +kernel
theorem dX4_readFormula_15 : decode cX4_readFormula 15 = .ok (.aload_n 0, 1) := by decide +kernel
theorem dX4_readFormula_16 : decode cX4_readFormula 16 = .ok (.invokevirtual 33, 3) := by decide +kernel
theorem dX4_readFormula_19 : decode cX4_readFormula 19 = .ok (.iconst 4, 1) := by decide +kernel
theorem dX4_readFormula_20 : decode cX4_readFormula 20 = .ok (.bipush 10, 2) := by decide +kernel
theorem dX4_readFormula_22 : decode cX4_readFormula 22 = .ok (.invokestatic 50, 3) := by decide +kernel
theorem dX4_readFormula_25 : decode cX4_readFormula 25 = .ok (.istore 4, 2) := by decide +kernel
theorem dX4_readFormula_27 : decode cX4_readFormula 27 = .ok (.iload 4, 2) := by decide +kernel
theorem dX4_readFormula_29 : decode cX4_readFormula 29 = .ok (.iconst (-1), 1) := by decide +kernel
theorem dX4_readFormula_30 : decode cX4_readFormula 30 = .ok (.if_icmp .ne 5, 3) := by decide +kernel
theorem dX4_readFormula_33 : decode cX4_readFormula 33 = .ok (.lload_n 2, 1) := by decide +kernel
theorem dX4_readFormula_34 : decode cX4_readFormula 34 = .ok (.lreturn, 1) := by decide +kernel
theorem dX4_readFormula_35 : decode cX4_readFormula 35 = .ok (.aload_n 0, 1) := by decide +kernel
theorem dX4_readFormula_36 : decode cX4_readFormula 36 = .ok (.dup, 1) := by decide +kernel
theorem dX4_readFormula_37 : decode cX4_readFormula 37 = .ok (.getfield 19, 3) := by decide +kernel
theorem dX4_readFormula_40 : decode cX4_readFormula 40 = .ok (.iconst 1, 1) := by decide +kernel
theorem dX4_readFormula_41 : decode cX4_readFormula 41 = .ok (.iadd, 1) := by decide +kernel
theorem dX4_readFormula_42 : decode cX4_readFormula 42 = .ok (.putfield 19, 3) := by decide +kernel
theorem dX4_readFormula_45 : decode cX4_readFormula 45 = .ok (.aload_n 0, 1) := by decide +kernel
theorem dX4_readFormula_46 : decode cX4_readFormula 46 = .ok (.iload_n 1, 1) := by decide +kernel
theorem dX4_readFormula_47 : decode cX4_readFormula 47 = .ok (.invokevirtual 47, 3) := by decide +kernel
theorem dX4_readFormula_50 : decode cX4_readFormula 50 = .ok (.lstore 5, 2) := by decide +kernel
theorem dX4_readFormula_52 : decode cX4_readFormula 52 = .ok (.aload_n 0, 1) := by decide +kernel
theorem dX4_readFormula_53 : decode cX4_readFormula 53 = .ok (.invokevirtual 29, 3) := by decide +kernel
theorem dX4_readFormula_56 : decode cX4_readFormula 56 = .ok (.ifCond .eq 7, 3) := by decide +kernel
theorem dX4_readFormula_59 : decode cX4_readFormula 59 = .ok (.lconst 0, 1) := by decide +kernel
theorem dX4_readFormula_60 : decode cX4_readFormula 60 = .ok (.goto 11, 3) := by decide +kernel
theorem dX4_readFormula_63 : decode cX4_readFormula 63 = .ok (.iload 4, 2) := by decide +kernel
theorem dX4_readFormula_65 : decode cX4_readFormula 65 = .ok (.lload_n 2, 1) := by decide +kernel
theorem dX4_readFormula_66 : decode cX4_readFormula 66 = .ok (.lload 5, 2) := by decide +kernel
theorem dX4_readFormula_68 : decode cX4_readFormula 68 = .ok (.invokestatic 54, 3) := by decide +kernel
theorem dX4_readFormula_71 : decode cX4_readFormula 71 = .ok (.lreturn, 1) := by decide +kernel
set_option maxRecDepth 20000 in
theorem ggX4_readPart_X4_next : GoodIn wsX4_readPart wsX4_next := goodIn_r _ [7, 1, 8, 9, 10, 11, 6, 12, 13, 68, 69, 70, 71, 72] (by decide +kernel) (by decide +kernel)
set_option maxRecDepth 20000 in
theorem gX4_readPart_X4_next : GoodIn wsX4_readPart (wsV RX4 33 RX4 yX4_next wsX4_next) := goodIn_app (goodIn_of _ (by decide +kernel)) ggX4_readPart_X4_next
set_option maxRecDepth 20000 in
theorem ggX4_readPart_X4_isDigit : GoodIn wsX4_readPart wsX4_isDigit := goodIn_r _ [16] (by decide +kernel) (by decide +kernel)
set_option maxRecDepth 20000 in
theorem gX4_readPart_X4_isDigit : GoodIn wsX4_readPart (va_wsS RX4 62 yX4_isDigit wsX4_isDigit) := goodIn_app (goodIn_of _ (by decide +kernel)) ggX4_readPart_X4_isDigit
set_option maxRecDepth 20000 in
theorem ggX4_readPart_X4_readNumber : GoodIn wsX4_readPart wsX4_readNumber := goodIn_r _ [20, 1, 9, 10, 11, 6, 12, 8, 13, 14, 15, 16, 21, 22, 23, 24, 25, 26, 27, 28, 29, 30, 68, 69, 70, 71, 72] (by decide +kernel) (by decide +kernel)
set_option maxRecDepth 20000 in
theorem gX4_readPart_X4_readNumber : GoodIn wsX4_readPart (wsV RX4 66 RX4 yX4_readNumber wsX4_readNumber) := goodIn_app (goodIn_of _ (by decide +kernel)) ggX4_readPart_X4_readNumber
set_option maxRecDepth 20000 in
theorem ggX4_readPart_X4_operationOf : GoodIn wsX4_readPart wsX4_operationOf := goodIn_r _ [33] (by decide +kernel) (by decide +kernel)
set_option maxRecDepth 20000 in
theorem gX4_readPart_X4_operationOf : GoodIn wsX4_readPart (va_wsS RX4 50 yX4_operationOf wsX4_operationOf) := goodIn_app (goodIn_of _ (by decide +kernel)) ggX4_readPart_X4_operationOf
set_option maxRecDepth 20000 in
theorem ggX4_readPart_X4_failAt : GoodIn wsX4_readPart wsX4_failAt := goodIn_r _ [29, 30, 68, 69, 70, 71, 72] (by decide +kernel) (by decide +kernel)
set_option maxRecDepth 20000 in
theorem gX4_readPart_X4_failAt : GoodIn wsX4_readPart (wsV RX4 37 RX4 yX4_failAt wsX4_failAt) := goodIn_app (goodIn_of _ (by decide +kernel)) ggX4_readPart_X4_failAt
set_option maxRecDepth 20000 in
theorem ggX4_readPart_X4_readEnclosed : GoodIn wsX4_readPart wsX4_readEnclosed := goodIn_r _ [59, 1, 60, 61, 62, 6, 63, 64, 65, 66, 30, 3, 4, 5, 7, 8, 9, 10, 11, 12, 13, 26, 27, 28, 29, 67, 37, 38, 39, 31, 32, 33, 40, 41, 23, 42, 43, 44, 45, 46, 47, 48, 49, 50, 51, 52, 53, 54, 55, 56, 57, 25, 58, 0, 2, 14, 15, 16, 17, 18, 19, 20, 21, 22, 24, 34, 35, 36, 68, 69, 70, 71, 72] (by decide +kernel) (by decide +kernel)
set_option maxRecDepth 20000 in
theorem gX4_readPart_X4_readEnclosed : GoodIn wsX4_readPart (wsV RX4 70 RX4 yX4_readEnclosed wsX4_readEnclosed) := goodIn_app (goodIn_of _ (by decide +kernel)) ggX4_readPart_X4_readEnclosed
set_option maxRecDepth 20000 in
theorem ggX4_readPart_X4_readPart : GoodIn wsX4_readPart wsX4_readPart := goodIn_r _ [0, 1, 2, 3, 4, 5, 6, 7, 8, 9, 10, 11, 12, 13, 14, 15, 16, 17, 18, 19, 20, 21, 22, 23, 24, 25, 26, 27, 28, 29, 30, 31, 32, 33, 34, 35, 36, 37, 38, 39, 40, 41, 42, 43, 44, 45, 46, 47, 48, 49, 50, 51, 52, 53, 54, 55, 56, 57, 58, 59, 60, 61, 62, 63, 64, 65, 66, 67, 68, 69, 70, 71, 72] (by decide +kernel) (by decide +kernel)
set_option maxRecDepth 20000 in
theorem gX4_readPart_X4_readPart : GoodIn wsX4_readPart (wsV RX4 47 RX4 yX4_readPart wsX4_readPart) := goodIn_app (goodIn_of _ (by decide +kernel)) ggX4_readPart_X4_readPart
set_option maxRecDepth 20000 in
theorem ggX4_readPart_X0_made : GoodIn wsX4_readPart wsX0_made := goodIn_r _ [42, 43, 44, 45, 46, 23, 47, 48, 49, 50, 51, 52, 53, 54, 55, 56, 57, 25, 58] (by decide +kernel) (by decide +kernel)
set_option maxRecDepth 20000 in
theorem gX4_readPart_X0_made : GoodIn wsX4_readPart (va_wsS RX4 54 yX0_made wsX0_made) := goodIn_app (goodIn_of _ (by decide +kernel)) ggX4_readPart_X0_made
theorem dX4_readPart_0 : decode cX4_readPart 0 = .ok (.aload_n 0, 1) := by decide +kernel
theorem dX4_readPart_1 : decode cX4_readPart 1 = .ok (.invokevirtual 33, 3) := by decide +kernel
theorem dX4_readPart_4 : decode cX4_readPart 4 = .ok (.istore_n 2, 1) := by decide +kernel
theorem dX4_readPart_5 : decode cX4_readPart 5 = .ok (.iload_n 2, 1) := by decide +kernel
theorem dX4_readPart_6 : decode cX4_readPart 6 = .ok (.bipush 120, 2) := by decide +kernel
theorem dX4_readPart_8 : decode cX4_readPart 8 = .ok (.if_icmp .ne 17, 3) := by decide +kernel
theorem dX4_readPart_11 : decode cX4_readPart 11 = .ok (.aload_n 0, 1) := by decide +kernel
theorem dX4_readPart_12 : decode cX4_readPart 12 = .ok (.dup, 1) := by decide +kernel
theorem dX4_readPart_13 : decode cX4_readPart 13 = .ok (.getfield 19, 3) := by decide +kernel
theorem dX4_readPart_16 : decode cX4_readPart 16 = .ok (.iconst 1, 1) := by decide +kernel
theorem dX4_readPart_17 : decode cX4_readPart 17 = .ok (.iadd, 1) := by decide +kernel
theorem dX4_readPart_18 : decode cX4_readPart 18 = .ok (.putfield 19, 3) := by decide +kernel
theorem dX4_readPart_21 : decode cX4_readPart 21 = .ok (.ldc2_w 60, 3) := by decide +kernel
theorem dX4_readPart_24 : decode cX4_readPart 24 = .ok (.lreturn, 1) := by decide +kernel
theorem dX4_readPart_25 : decode cX4_readPart 25 = .ok (.iload_n 2, 1) := by decide +kernel
theorem dX4_readPart_26 : decode cX4_readPart 26 = .ok (.invokestatic 62, 3) := by decide +kernel
theorem dX4_readPart_29 : decode cX4_readPart 29 = .ok (.ifCond .eq 8, 3) := by decide +kernel
theorem dX4_readPart_32 : decode cX4_readPart 32 = .ok (.aload_n 0, 1) := by decide +kernel
theorem dX4_readPart_33 : decode cX4_readPart 33 = .ok (.invokevirtual 66, 3) := by decide +kernel
theorem dX4_readPart_36 : decode cX4_readPart 36 = .ok (.lreturn, 1) := by decide +kernel
theorem dX4_readPart_37 : decode cX4_readPart 37 = .ok (.iload_n 2, 1) := by decide +kernel
theorem dX4_readPart_38 : decode cX4_readPart 38 = .ok (.iconst 0, 1) := by decide +kernel
theorem dX4_readPart_39 : decode cX4_readPart 39 = .ok (.iconst 4, 1) := by decide +kernel
theorem dX4_readPart_40 : decode cX4_readPart 40 = .ok (.invokestatic 50, 3) := by decide +kernel
theorem dX4_readPart_43 : decode cX4_readPart 43 = .ok (.istore_n 3, 1) := by decide +kernel
theorem dX4_readPart_44 : decode cX4_readPart 44 = .ok (.iload_n 2, 1) := by decide +kernel
theorem dX4_readPart_45 : decode cX4_readPart 45 = .ok (.bipush 40, 2) := by decide +kernel
theorem dX4_readPart_47 : decode cX4_readPart 47 = .ok (.if_icmp .ne 7, 3) := by decide +kernel
theorem dX4_readPart_50 : decode cX4_readPart 50 = .ok (.iconst 1, 1) := by decide +kernel
theorem dX4_readPart_51 : decode cX4_readPart 51 = .ok (.goto 4, 3) := by decide +kernel
theorem dX4_readPart_54 : decode cX4_readPart 54 = .ok (.iconst 0, 1) := by decide +kernel
theorem dX4_readPart_55 : decode cX4_readPart 55 = .ok (.istore 4, 2) := by decide +kernel
theorem dX4_readPart_57 : decode cX4_readPart 57 = .ok (.iload 4, 2) := by decide +kernel
theorem dX4_readPart_59 : decode cX4_readPart 59 = .ok (.ifCond .ne 8, 3) := by decide +kernel
theorem dX4_readPart_62 : decode cX4_readPart 62 = .ok (.iload_n 3, 1) := by decide +kernel
theorem dX4_readPart_63 : decode cX4_readPart 63 = .ok (.iconst (-1), 1) := by decide +kernel
theorem dX4_readPart_64 : decode cX4_readPart 64 = .ok (.if_icmp .eq 9, 3) := by decide +kernel
theorem dX4_readPart_67 : decode cX4_readPart 67 = .ok (.iload_n 1, 1) := by decide +kernel
theorem dX4_readPart_68 : decode cX4_readPart 68 = .ok (.bipush 20, 2) := by decide +kernel
theorem dX4_readPart_70 : decode cX4_readPart 70 = .ok (.if_icmp .lt 12, 3) := by decide +kernel
theorem dX4_readPart_73 : decode cX4_readPart 73 = .ok (.aload_n 0, 1) := by decide +kernel
theorem dX4_readPart_74 : decode cX4_readPart 74 = .ok (.aload_n 0, 1) := by decide +kernel
theorem dX4_readPart_75 : decode cX4_readPart 75 = .ok (.getfield 19, 3) := by decide +kernel
theorem dX4_readPart_78 : decode cX4_readPart 78 = .ok (.invokevirtual 37, 3) := by decide +kernel
theorem dX4_readPart_81 : decode cX4_readPart 81 = .ok (.lreturn, 1) := by decide +kernel
theorem dX4_readPart_82 : decode cX4_readPart 82 = .ok (.aload_n 0, 1) := by decide +kernel
theorem dX4_readPart_83 : decode cX4_readPart 83 = .ok (.dup, 1) := by decide +kernel
theorem dX4_readPart_84 : decode cX4_readPart 84 = .ok (.getfield 19, 3) := by decide +kernel
theorem dX4_readPart_87 : decode cX4_readPart 87 = .ok (.iconst 1, 1) := by decide +kernel
theorem dX4_readPart_88 : decode cX4_readPart 88 = .ok (.iadd, 1) := by decide +kernel
theorem dX4_readPart_89 : decode cX4_readPart 89 = .ok (.putfield 19, 3) := by decide +kernel
theorem dX4_readPart_92 : decode cX4_readPart 92 = .ok (.iload 4, 2) := by decide +kernel
theorem dX4_readPart_94 : decode cX4_readPart 94 = .ok (.ifCond .eq 13, 3) := by decide +kernel
theorem dX4_readPart_97 : decode cX4_readPart 97 = .ok (.aload_n 0, 1) := by decide +kernel
theorem dX4_readPart_98 : decode cX4_readPart 98 = .ok (.iload_n 1, 1) := by decide +kernel
theorem dX4_readPart_99 : decode cX4_readPart 99 = .ok (.iconst 1, 1) := by decide +kernel
theorem dX4_readPart_100 : decode cX4_readPart 100 = .ok (.iadd, 1) := by decide +kernel
theorem dX4_readPart_101 : decode cX4_readPart 101 = .ok (.invokevirtual 70, 3) := by decide +kernel
theorem dX4_readPart_104 : decode cX4_readPart 104 = .ok (.goto 15, 3) := by decide +kernel
theorem dX4_readPart_107 : decode cX4_readPart 107 = .ok (.iload_n 3, 1) := by decide +kernel
theorem dX4_readPart_108 : decode cX4_readPart 108 = .ok (.aload_n 0, 1) := by decide +kernel
theorem dX4_readPart_109 : decode cX4_readPart 109 = .ok (.iload_n 1, 1) := by decide +kernel
theorem dX4_readPart_110 : decode cX4_readPart 110 = .ok (.iconst 1, 1) := by decide +kernel
theorem dX4_readPart_111 : decode cX4_readPart 111 = .ok (.iadd, 1) := by decide +kernel
theorem dX4_readPart_112 : decode cX4_readPart 112 = .ok (.invokevirtual 47, 3) := by decide +kernel
theorem dX4_readPart_115 : decode cX4_readPart 115 = .ok (.lconst 0, 1) := by decide +kernel
theorem dX4_readPart_116 : decode cX4_readPart 116 = .ok (.invokestatic 54, 3) := by decide +kernel
theorem dX4_readPart_119 : decode cX4_readPart 119 = .ok (.lreturn, 1) := by decide +kernel
set_option maxRecDepth 20000 in
theorem ggX4_readEnclosed_X4_readFormula : GoodIn wsX4_readEnclosed wsX4_readFormula := goodIn_r _ [25, 1, 26, 27, 28, 5, 6, 7, 8, 9, 10, 11, 12, 13, 14, 15, 16, 17, 18, 19, 20, 29, 30, 31, 32, 33, 34, 35, 36, 37, 38, 39, 40, 41, 42, 43, 44, 45, 46, 47, 48, 49, 50, 51, 52, 0, 2, 3, 4, 21, 22, 23, 24, 53, 54, 55, 56, 57, 58, 59, 60, 61, 62, 63, 64, 65, 66, 67, 68, 69, 70, 71, 72] (by decide +kernel) (by decide +kernel)
set_option maxRecDepth 20000 in
theorem gX4_readEnclosed_X4_readFormula : GoodIn wsX4_readEnclosed (wsV RX4 25 RX4 yX4_readFormula wsX4_readFormula) := goodIn_app (goodIn_of _ (by decide +kernel)) ggX4_readEnclosed_X4_readFormula
set_option maxRecDepth 20000 in
theorem ggX4_readEnclosed_X4_hasError : GoodIn wsX4_readEnclosed wsX4_hasError := goodIn_r _ [9, 10, 68, 69, 70, 71, 72] (by decide +kernel) (by decide +kernel)
set_option maxRecDepth 20000 in
theorem gX4_readEnclosed_X4_hasError : GoodIn wsX4_readEnclosed (wsV RX4 29 RX4 yX4_hasError wsX4_hasError) := goodIn_app (goodIn_of _ (by decide +kernel)) ggX4_readEnclosed_X4_hasError
set_option maxRecDepth 20000 in
theorem ggX4_readEnclosed_X4_next : GoodIn wsX4_readEnclosed wsX4_next := goodIn_r _ [14, 1, 15, 16, 17, 18, 5, 19, 20, 68, 69, 70, 71, 72] (by decide +kernel) (by decide +kernel)
set_option maxRecDepth 20000 in
theorem gX4_readEnclosed_X4_next : GoodIn wsX4_readEnclosed (wsV RX4 33 RX4 yX4_next wsX4_next) := goodIn_app (goodIn_of _ (by decide +kernel)) ggX4_readEnclosed_X4_next
set_option maxRecDepth 20000 in
theorem ggX4_readEnclosed_X4_failAt : GoodIn wsX4_readEnclosed wsX4_failAt := goodIn_r _ [24, 10, 68, 69, 70, 71, 72] (by decide +kernel) (by decide +kernel)
set_option maxRecDepth 20000 in
theorem gX4_readEnclosed_X4_failAt : GoodIn wsX4_readEnclosed (wsV RX4 37 RX4 yX4_failAt wsX4_failAt) := goodIn_app (goodIn_of _ (by decide +kernel)) ggX4_readEnclosed_X4_failAt
theorem dX4_readEnclosed_0 : decode cX4_readEnclosed 0 = .ok (.aload_n 0, 1) := by decide +kernel
theorem dX4_readEnclosed_1 : decode cX4_readEnclosed 1 = .ok (.iload_n 1, 1) := by decide +kernel
theorem dX4_readEnclosed_2 : decode cX4_readEnclosed 2 = .ok (.invokevirtual 25, 3) := by decide +kernel
theorem dX4_readEnclosed_5 : decode cX4_readEnclosed 5 = .ok (.lstore_n 2, 1) := by decide +kernel
theorem dX4_readEnclosed_6 : decode cX4_readEnclosed 6 = .ok (.aload_n 0, 1) := by decide +kernel
theorem dX4_readEnclosed_7 : decode cX4_readEnclosed 7 = .ok (.invokevirtual 29, 3) := by decide +kernel
theorem dX4_readEnclosed_10 : decode cX4_readEnclosed 10 = .ok (.ifCond .eq 5, 3) := by decide +kernel
theorem dX4_readEnclosed_13 : decode cX4_readEnclosed 13 = .ok (.lconst 0, 1) := by decide +kernel
theorem dX4_readEnclosed_14 : decode cX4_readEnclosed 14 = .ok (.lreturn, 1) := by decide +kernel
theorem dX4_readEnclosed_15 : decode cX4_readEnclosed 15 = .ok (.aload_n 0, 1) := by decide +kernel
theorem dX4_readEnclosed_16 : decode cX4_readEnclosed 16 = .ok (.invokevirtual 33, 3) := by decide +kernel
theorem dX4_readEnclosed_19 : decode cX4_readEnclosed 19 = .ok (.bipush 41, 2) := by decide +kernel
theorem dX4_readEnclosed_21 : decode cX4_readEnclosed 21 = .ok (.if_icmp .eq 12, 3) := by decide +kernel
theorem dX4_readEnclosed_24 : decode cX4_readEnclosed 24 = .ok (.aload_n 0, 1) := by decide +kernel
theorem dX4_readEnclosed_25 : decode cX4_readEnclosed 25 = .ok (.aload_n 0, 1) := by decide +kernel
theorem dX4_readEnclosed_26 : decode cX4_readEnclosed 26 = .ok (.getfield 19, 3) := by decide +kernel
theorem dX4_readEnclosed_29 : decode cX4_readEnclosed 29 = .ok (.invokevirtual 37, 3) := by decide +kernel
theorem dX4_readEnclosed_32 : decode cX4_readEnclosed 32 = .ok (.lreturn, 1) := by decide +kernel
theorem dX4_readEnclosed_33 : decode cX4_readEnclosed 33 = .ok (.aload_n 0, 1) := by decide +kernel
theorem dX4_readEnclosed_34 : decode cX4_readEnclosed 34 = .ok (.dup, 1) := by decide +kernel
theorem dX4_readEnclosed_35 : decode cX4_readEnclosed 35 = .ok (.getfield 19, 3) := by decide +kernel
theorem dX4_readEnclosed_38 : decode cX4_readEnclosed 38 = .ok (.iconst 1, 1) := by decide +kernel
theorem dX4_readEnclosed_39 : decode cX4_readEnclosed 39 = .ok (.iadd, 1) := by decide +kernel
theorem dX4_readEnclosed_40 : decode cX4_readEnclosed 40 = .ok (.putfield 19, 3) := by decide +kernel
theorem dX4_readEnclosed_43 : decode cX4_readEnclosed 43 = .ok (.lload_n 2, 1) := by decide +kernel
theorem dX4_readEnclosed_44 : decode cX4_readEnclosed 44 = .ok (.lreturn, 1) := by decide +kernel
set_option maxRecDepth 20000 in
theorem ggX4_readNumber_X4_here : GoodIn wsX4_readNumber wsX4_here := goodIn_r _ [6, 1, 7, 8, 22, 23, 24, 25, 26] (by decide +kernel) (by decide +kernel)
set_option maxRecDepth 20000 in
theorem gX4_readNumber_X4_here : GoodIn wsX4_readNumber (wsV RX4 44 RX4 yX4_here wsX4_here) := goodIn_app (goodIn_of _ (by decide +kernel)) ggX4_readNumber_X4_here
set_option maxRecDepth 20000 in
theorem ggX4_readNumber_X4_isDigit : GoodIn wsX4_readNumber wsX4_isDigit := goodIn_r _ [11] (by decide +kernel) (by decide +kernel)
set_option maxRecDepth 20000 in
theorem gX4_readNumber_X4_isDigit : GoodIn wsX4_readNumber (va_wsS RX4 62 yX4_isDigit wsX4_isDigit) := goodIn_app (goodIn_of _ (by decide +kernel)) ggX4_readNumber_X4_isDigit
set_option maxRecDepth 20000 in
theorem ggX4_readNumber_X0_constant : GoodIn wsX4_readNumber wsX0_constant := goodIn_r _ [15, 16] (by decide +kernel) (by decide +kernel)
set_option maxRecDepth 20000 in
theorem gX4_readNumber_X0_constant : GoodIn wsX4_readNumber (va_wsS RX4 73 yX0_constant wsX0_constant) := goodIn_app (goodIn_of _ (by decide +kernel)) ggX4_readNumber_X0_constant
set_option maxRecDepth 20000 in
theorem ggX4_readNumber_X4_failAt : GoodIn wsX4_readNumber wsX4_failAt := goodIn_r _ [20, 21, 22, 23, 24, 25, 26] (by decide +kernel) (by decide +kernel)
set_option maxRecDepth 20000 in
theorem gX4_readNumber_X4_failAt : GoodIn wsX4_readNumber (wsV RX4 37 RX4 yX4_failAt wsX4_failAt) := goodIn_app (goodIn_of _ (by decide +kernel)) ggX4_readNumber_X4_failAt
theorem dX4_readNumber_0 : decode cX4_readNumber 0 = .ok (.aload_n 0, 1) := by decide +kernel
theorem dX4_readNumber_1 : decode cX4_readNumber 1 = .ok (.getfield 19, 3) := by decide +kernel
theorem dX4_readNumber_4 : decode cX4_readNumber 4 = .ok (.istore_n 1, 1) := by decide +kernel
theorem dX4_readNumber_5 : decode cX4_readNumber 5 = .ok (.aload_n 0, 1) := by decide +kernel
theorem dX4_readNumber_6 : decode cX4_readNumber 6 = .ok (.invokevirtual 44, 3) := by decide +kernel
theorem dX4_readNumber_9 : decode cX4_readNumber 9 = .ok (.bipush 48, 2) := by decide +kernel
theorem dX4_readNumber_11 : decode cX4_readNumber 11 = .ok (.isub, 1) := by decide +kernel
theorem dX4_readNumber_12 : decode cX4_readNumber 12 = .ok (.istore_n 2, 1) := by decide +kernel
theorem dX4_readNumber_13 : decode cX4_readNumber 13 = .ok (.aload_n 0, 1) := by decide +kernel
theorem dX4_readNumber_14 : decode cX4_readNumber 14 = .ok (.dup, 1) := by decide +kernel
theorem dX4_readNumber_15 : decode cX4_readNumber 15 = .ok (.getfield 19, 3) := by decide +kernel
theorem dX4_readNumber_18 : decode cX4_readNumber 18 = .ok (.iconst 1, 1) := by decide +kernel
theorem dX4_readNumber_19 : decode cX4_readNumber 19 = .ok (.iadd, 1) := by decide +kernel
theorem dX4_readNumber_20 : decode cX4_readNumber 20 = .ok (.putfield 19, 3) := by decide +kernel
theorem dX4_readNumber_23 : decode cX4_readNumber 23 = .ok (.aload_n 0, 1) := by decide +kernel
theorem dX4_readNumber_24 : decode cX4_readNumber 24 = .ok (.invokevirtual 44, 3) := by decide +kernel
theorem dX4_readNumber_27 : decode cX4_readNumber 27 = .ok (.invokestatic 62, 3) := by decide +kernel
theorem dX4_readNumber_30 : decode cX4_readNumber 30 = .ok (.ifCond .eq 26, 3) := by decide +kernel
theorem dX4_readNumber_33 : decode cX4_readNumber 33 = .ok (.iload_n 2, 1) := by decide +kernel
theorem dX4_readNumber_34 : decode cX4_readNumber 34 = .ok (.bipush 10, 2) := by decide +kernel
theorem dX4_readNumber_36 : decode cX4_readNumber 36 = .ok (.imul, 1) := by decide +kernel
theorem dX4_readNumber_37 : decode cX4_readNumber 37 = .ok (.aload_n 0, 1) := by decide +kernel
theorem dX4_readNumber_38 : decode cX4_readNumber 38 = .ok (.invokevirtual 44, 3) := by decide +kernel
theorem dX4_readNumber_41 : decode cX4_readNumber 41 = .ok (.iadd, 1) := by decide +kernel
theorem dX4_readNumber_42 : decode cX4_readNumber 42 = .ok (.bipush 48, 2) := by decide +kernel
theorem dX4_readNumber_44 : decode cX4_readNumber 44 = .ok (.isub, 1) := by decide +kernel
theorem dX4_readNumber_45 : decode cX4_readNumber 45 = .ok (.istore_n 2, 1) := by decide +kernel
theorem dX4_readNumber_46 : decode cX4_readNumber 46 = .ok (.aload_n 0, 1) := by decide +kernel
theorem dX4_readNumber_47 : decode cX4_readNumber 47 = .ok (.dup, 1) := by decide +kernel
theorem dX4_readNumber_48 : decode cX4_readNumber 48 = .ok (.getfield 19, 3) := by decide +kernel
theorem dX4_readNumber_51 : decode cX4_readNumber 51 = .ok (.iconst 1, 1) := by decide +kernel
theorem dX4_readNumber_52 : decode cX4_readNumber 52 = .ok (.iadd, 1) := by decide +kernel
theorem dX4_readNumber_53 : decode cX4_readNumber 53 = .ok (.putfield 19, 3) := by decide +kernel
theorem dX4_readNumber_56 : decode cX4_readNumber 56 = .ok (.iload_n 2, 1) := by decide +kernel
theorem dX4_readNumber_57 : decode cX4_readNumber 57 = .ok (.bipush 16, 2) := by decide +kernel
theorem dX4_readNumber_59 : decode cX4_readNumber 59 = .ok (.if_icmp .ge 10, 3) := by decide +kernel
theorem dX4_readNumber_62 : decode cX4_readNumber 62 = .ok (.iload_n 2, 1) := by decide +kernel
theorem dX4_readNumber_63 : decode cX4_readNumber 63 = .ok (.invokestatic 73, 3) := by decide +kernel
theorem dX4_readNumber_66 : decode cX4_readNumber 66 = .ok (.goto 8, 3) := by decide +kernel
theorem dX4_readNumber_69 : decode cX4_readNumber 69 = .ok (.aload_n 0, 1) := by decide +kernel
theorem dX4_readNumber_70 : decode cX4_readNumber 70 = .ok (.iload_n 1, 1) := by decide +kernel
theorem dX4_readNumber_71 : decode cX4_readNumber 71 = .ok (.invokevirtual 37, 3) := by decide +kernel
theorem dX4_readNumber_74 : decode cX4_readNumber 74 = .ok (.lreturn, 1) := by decide +kernel
theorem dX4_isDigit_0 : decode cX4_isDigit 0 = .ok (.iload_n 0, 1) := by decide +kernel
theorem dX4_isDigit_1 : decode cX4_isDigit 1 = .ok (.bipush 48, 2) := by decide +kernel
theorem dX4_isDigit_3 : decode cX4_isDigit 3 = .ok (.if_icmp .lt 13, 3) := by decide +kernel
theorem dX4_isDigit_6 : decode cX4_isDigit 6 = .ok (.iload_n 0, 1) := by decide +kernel
theorem dX4_isDigit_7 : decode cX4_isDigit 7 = .ok (.bipush 57, 2) := by decide +kernel
theorem dX4_isDigit_9 : decode cX4_isDigit 9 = .ok (.if_icmp .gt 7, 3) := by decide +kernel
theorem dX4_isDigit_12 : decode cX4_isDigit 12 = .ok (.iconst 1, 1) := by decide +kernel
theorem dX4_isDigit_13 : decode cX4_isDigit 13 = .ok (.goto 4, 3) := by decide +kernel
theorem dX4_isDigit_16 : decode cX4_isDigit 16 = .ok (.iconst 0, 1) := by decide +kernel
theorem dX4_isDigit_17 : decode cX4_isDigit 17 = .ok (.ireturn, 1) := by decide +kernel
theorem dX4_operationOf_0 : decode cX4_operationOf 0 = .ok (.iload_n 1, 1) := by decide +kernel
theorem dX4_operationOf_1 : decode cX4_operationOf 1 = .ok (.istore_n 3, 1) := by decide +kernel
theorem dX4_operationOf_2 : decode cX4_operationOf 2 = .ok (.iload_n 3, 1) := by decide +kernel
theorem dX4_operationOf_3 : decode cX4_operationOf 3 = .ok (.iload_n 2, 1) := by decide +kernel
theorem dX4_operationOf_4 : decode cX4_operationOf 4 = .ok (.if_icmp .ge 26, 3) := by decide +kernel
theorem dX4_operationOf_7 : decode cX4_operationOf 7 = .ok (.iload_n 3, 1) := by decide +kernel
theorem dX4_operationOf_8 : decode cX4_operationOf 8 = .ok (.bipush 10, 2) := by decide +kernel
theorem dX4_operationOf_10 : decode cX4_operationOf 10 = .ok (.if_icmp .ge 20, 3) := by decide +kernel
theorem dX4_operationOf_13 : decode cX4_operationOf 13 = .ok (.getstatic 76, 3) := by decide +kernel
theorem dX4_operationOf_16 : decode cX4_operationOf 16 = .ok (.iload_n 3, 1) := by decide +kernel
theorem dX4_operationOf_17 : decode cX4_operationOf 17 = .ok (.caload, 1) := by decide +kernel
theorem dX4_operationOf_18 : decode cX4_operationOf 18 = .ok (.iload_n 0, 1) := by decide +kernel
theorem dX4_operationOf_19 : decode cX4_operationOf 19 = .ok (.if_icmp .ne 5, 3) := by decide +kernel
theorem dX4_operationOf_22 : decode cX4_operationOf 22 = .ok (.iload_n 3, 1) := by decide +kernel
theorem dX4_operationOf_23 : decode cX4_operationOf 23 = .ok (.ireturn, 1) := by decide +kernel
theorem dX4_operationOf_24 : decode cX4_operationOf 24 = .ok (.iinc 3 1, 3) := by decide +kernel
theorem dX4_operationOf_27 : decode cX4_operationOf 27 = .ok (.goto (-25), 3) := by decide +kernel
theorem dX4_operationOf_30 : decode cX4_operationOf 30 = .ok (.iconst (-1), 1) := by decide +kernel
theorem dX4_operationOf_31 : decode cX4_operationOf 31 = .ok (.ireturn, 1) := by decide +kernel
set_option maxRecDepth 20000 in
theorem ggX5_init_X3_init : GoodIn wsX5_init wsX3_init := goodIn_r _ [22, 23, 2, 3, 24, 25, 26, 27, 28, 29, 30, 31, 32, 54, 55, 56] (by decide +kernel) (by decide +kernel)
set_option maxRecDepth 20000 in
theorem gX5_init_X3_init : GoodIn wsX5_init (wsX3_init) := ggX5_init_X3_init
set_option maxRecDepth 20000 in
theorem ggX5_init_X2_init : GoodIn wsX5_init wsX2_init := goodIn_r _ [35, 36, 2, 3, 37, 38, 24, 39, 40, 41, 42, 43, 44, 45, 30, 31, 32, 61, 62, 63, 64, 65, 66, 67, 68] (by decide +kernel) (by decide +kernel)
set_option maxRecDepth 20000 in
theorem gX5_init_X2_init : GoodIn wsX5_init (wsX2_init) := ggX5_init_X2_init
set_option maxRecDepth 20000 in
theorem ggX5_init_X1_init : GoodIn wsX5_init wsX1_init := goodIn_r _ [47, 48, 2, 3, 24, 49, 69, 70] (by decide +kernel) (by decide +kernel)
set_option maxRecDepth 20000 in
theorem gX5_init_X1_init_n25 : GoodIn wsX5_init (wsX1_init) := ggX5_init_X1_init
set_option maxRecDepth 20000 in
theorem ggX5_init_X4_init : GoodIn wsX5_init wsX4_init := goodIn_r _ [51, 52, 2, 3, 24, 53, 71, 72, 73, 74, 75] (by decide +kernel) (by decide +kernel)
set_option maxRecDepth 20000 in
theorem gX5_init_X4_init_n32 : GoodIn wsX5_init (wsX4_init) := ggX5_init_X4_init
theorem dX5_init_0 : decode cX5_init 0 = .ok (.aload_n 0, 1) := by decide +kernel
theorem dX5_init_1 : decode cX5_init 1 = .ok (.invokespecial 1, 3) := by decide +kernel
theorem dX5_init_4 : decode cX5_init 4 = .ok (.aload_n 0, 1) := by decide +kernel
theorem dX5_init_5 : decode cX5_init 5 = .ok (.new 7, 3) := by decide +kernel
theorem dX5_init_8 : decode cX5_init 8 = .ok (.dup, 1) := by decide +kernel
theorem dX5_init_9 : decode cX5_init 9 = .ok (.invokespecial 9, 3) := by decide +kernel
theorem dX5_init_12 : decode cX5_init 12 = .ok (.putfield 10, 3) := by decide +kernel
theorem dX5_init_15 : decode cX5_init 15 = .ok (.aload_n 0, 1) := by decide +kernel
theorem dX5_init_16 : decode cX5_init 16 = .ok (.new 16, 3) := by decide +kernel
theorem dX5_init_19 : decode cX5_init 19 = .ok (.dup, 1) := by decide +kernel
theorem dX5_init_20 : decode cX5_init 20 = .ok (.invokespecial 18, 3) := by decide +kernel
theorem dX5_init_23 : decode cX5_init 23 = .ok (.putfield 19, 3) := by decide +kernel
theorem dX5_init_26 : decode cX5_init 26 = .ok (.aload_n 0, 1) := by decide +kernel
theorem dX5_init_27 : decode cX5_init 27 = .ok (.new 23, 3) := by decide +kernel
theorem dX5_init_30 : decode cX5_init 30 = .ok (.dup, 1) := by decide +kernel
theorem dX5_init_31 : decode cX5_init 31 = .ok (.invokespecial 25, 3) := by decide +kernel
theorem dX5_init_34 : decode cX5_init 34 = .ok (.putfield 26, 3) := by decide +kernel
theorem dX5_init_37 : decode cX5_init 37 = .ok (.aload_n 0, 1) := by decide +kernel
theorem dX5_init_38 : decode cX5_init 38 = .ok (.new 30, 3) := by decide +kernel
theorem dX5_init_41 : decode cX5_init 41 = .ok (.dup, 1) := by decide +kernel
theorem dX5_init_42 : decode cX5_init 42 = .ok (.invokespecial 32, 3) := by decide +kernel
theorem dX5_init_45 : decode cX5_init 45 = .ok (.putfield 33, 3) := by decide +kernel
theorem dX5_init_48 : decode cX5_init 48 = .ok (.return_, 1) := by decide +kernel
set_option maxRecDepth 20000 in
theorem ggX5_allow_X5_isOperation : GoodIn wsX5_allow wsX5_isOperation := goodIn_r _ [8] (by decide +kernel) (by decide +kernel)
set_option maxRecDepth 20000 in
theorem gX5_allow_X5_isOperation : GoodIn wsX5_allow (va_wsS RX5 37 yX5_isOperation wsX5_isOperation) := goodIn_app (goodIn_of _ (by decide +kernel)) ggX5_allow_X5_isOperation
set_option maxRecDepth 20000 in
theorem ggX5_allow_X5_countOn : GoodIn wsX5_allow wsX5_countOn := goodIn_r _ [11] (by decide +kernel) (by decide +kernel)
set_option maxRecDepth 20000 in
theorem gX5_allow_X5_countOn : GoodIn wsX5_allow (va_wsS RX5 52 yX5_countOn wsX5_countOn) := goodIn_app (goodIn_of _ (by decide +kernel)) ggX5_allow_X5_countOn
theorem dX5_allow_0 : decode cX5_allow 0 = .ok (.iload_n 1, 1) := by decide +kernel
theorem dX5_allow_1 : decode cX5_allow 1 = .ok (.invokestatic 37, 3) := by decide +kernel
theorem dX5_allow_4 : decode cX5_allow 4 = .ok (.ifCond .ne 13, 3) := by decide +kernel
theorem dX5_allow_7 : decode cX5_allow 7 = .ok (.new 41, 3) := by decide +kernel
theorem dX5_allow_10 : decode cX5_allow 10 = .ok (.dup, 1) := by decide +kernel
theorem dX5_allow_11 : decode cX5_allow 11 = .ok (.ldc 43, 2) := by decide +kernel
theorem dX5_allow_13 : decode cX5_allow 13 = .ok (.invokespecial 45, 3) := by decide +kernel
theorem dX5_allow_16 : decode cX5_allow 16 = .ok (.athrow, 1) := by decide +kernel
theorem dX5_allow_17 : decode cX5_allow 17 = .ok (.aload_n 0, 1) := by decide +kernel
theorem dX5_allow_18 : decode cX5_allow 18 = .ok (.getfield 10, 3) := by decide +kernel
theorem dX5_allow_21 : decode cX5_allow 21 = .ok (.getfield 48, 3) := by decide +kernel
theorem dX5_allow_24 : decode cX5_allow 24 = .ok (.iload_n 1, 1) := by decide +kernel
theorem dX5_allow_25 : decode cX5_allow 25 = .ok (.iload_n 2, 1) := by decide +kernel
theorem dX5_allow_26 : decode cX5_allow 26 = .ok (.bastore, 1) := by decide +kernel
theorem dX5_allow_27 : decode cX5_allow 27 = .ok (.aload_n 0, 1) := by decide +kernel
theorem dX5_allow_28 : decode cX5_allow 28 = .ok (.getfield 10, 3) := by decide +kernel
theorem dX5_allow_31 : decode cX5_allow 31 = .ok (.getfield 48, 3) := by decide +kernel
theorem dX5_allow_34 : decode cX5_allow 34 = .ok (.invokestatic 52, 3) := by decide +kernel
theorem dX5_allow_37 : decode cX5_allow 37 = .ok (.ireturn, 1) := by decide +kernel
set_option maxRecDepth 20000 in
theorem ggX5_setPrice_X5_isOperation : GoodIn wsX5_setPrice wsX5_isOperation := goodIn_r _ [10] (by decide +kernel) (by decide +kernel)
set_option maxRecDepth 20000 in
theorem gX5_setPrice_X5_isOperation : GoodIn wsX5_setPrice (va_wsS RX5 37 yX5_isOperation wsX5_isOperation) := goodIn_app (goodIn_of _ (by decide +kernel)) ggX5_setPrice_X5_isOperation
theorem dX5_setPrice_0 : decode cX5_setPrice 0 = .ok (.iload_n 1, 1) := by decide +kernel
theorem dX5_setPrice_1 : decode cX5_setPrice 1 = .ok (.invokestatic 37, 3) := by decide +kernel
theorem dX5_setPrice_4 : decode cX5_setPrice 4 = .ok (.ifCond .ne 19, 3) := by decide +kernel
theorem dX5_setPrice_7 : decode cX5_setPrice 7 = .ok (.iload_n 1, 1) := by decide +kernel
theorem dX5_setPrice_8 : decode cX5_setPrice 8 = .ok (.bipush 10, 2) := by decide +kernel
theorem dX5_setPrice_10 : decode cX5_setPrice 10 = .ok (.if_icmp .eq 13, 3) := by decide +kernel
theorem dX5_setPrice_13 : decode cX5_setPrice 13 = .ok (.new 41, 3) := by decide +kernel
theorem dX5_setPrice_16 : decode cX5_setPrice 16 = .ok (.dup, 1) := by decide +kernel
theorem dX5_setPrice_17 : decode cX5_setPrice 17 = .ok (.ldc 43, 2) := by decide +kernel
theorem dX5_setPrice_19 : decode cX5_setPrice 19 = .ok (.invokespecial 45, 3) := by decide +kernel
theorem dX5_setPrice_22 : decode cX5_setPrice 22 = .ok (.athrow, 1) := by decide +kernel
theorem dX5_setPrice_23 : decode cX5_setPrice 23 = .ok (.iload_n 1, 1) := by decide +kernel
theorem dX5_setPrice_24 : decode cX5_setPrice 24 = .ok (.bipush 10, 2) := by decide +kernel
theorem dX5_setPrice_26 : decode cX5_setPrice 26 = .ok (.if_icmp .ne 7, 3) := by decide +kernel
theorem dX5_setPrice_29 : decode cX5_setPrice 29 = .ok (.iconst 0, 1) := by decide +kernel
theorem dX5_setPrice_30 : decode cX5_setPrice 30 = .ok (.goto 4, 3) := by decide +kernel
theorem dX5_setPrice_33 : decode cX5_setPrice 33 = .ok (.iconst 1, 1) := by decide +kernel
theorem dX5_setPrice_34 : decode cX5_setPrice 34 = .ok (.istore_n 3, 1) := by decide +kernel
theorem dX5_setPrice_35 : decode cX5_setPrice 35 = .ok (.iload_n 2, 1) := by decide +kernel
theorem dX5_setPrice_36 : decode cX5_setPrice 36 = .ok (.iload_n 3, 1) := by decide +kernel
theorem dX5_setPrice_37 : decode cX5_setPrice 37 = .ok (.if_icmp .lt 8, 3) := by decide +kernel
theorem dX5_setPrice_40 : decode cX5_setPrice 40 = .ok (.iload_n 2, 1) := by decide +kernel
theorem dX5_setPrice_41 : decode cX5_setPrice 41 = .ok (.iconst 5, 1) := by decide +kernel
theorem dX5_setPrice_42 : decode cX5_setPrice 42 = .ok (.if_icmp .le 13, 3) := by decide +kernel
theorem dX5_setPrice_45 : decode cX5_setPrice 45 = .ok (.new 56, 3) := by decide +kernel
theorem dX5_setPrice_48 : decode cX5_setPrice 48 = .ok (.dup, 1) := by decide +kernel
theorem dX5_setPrice_49 : decode cX5_setPrice 49 = .ok (.ldc 58, 2) := by decide +kernel
theorem dX5_setPrice_51 : decode cX5_setPrice 51 = .ok (.invokespecial 60, 3) := by decide +kernel
theorem dX5_setPrice_54 : decode cX5_setPrice 54 = .ok (.athrow, 1) := by decide +kernel
theorem dX5_setPrice_55 : decode cX5_setPrice 55 = .ok (.aload_n 0, 1) := by decide +kernel
theorem dX5_setPrice_56 : decode cX5_setPrice 56 = .ok (.getfield 10, 3) := by decide +kernel
theorem dX5_setPrice_59 : decode cX5_setPrice 59 = .ok (.getfield 61, 3) := by decide +kernel
theorem dX5_setPrice_62 : decode cX5_setPrice 62 = .ok (.iload_n 1, 1) := by decide +kernel
theorem dX5_setPrice_63 : decode cX5_setPrice 63 = .ok (.iaload, 1) := by decide +kernel
theorem dX5_setPrice_64 : decode cX5_setPrice 64 = .ok (.istore 4, 2) := by decide +kernel
theorem dX5_setPrice_66 : decode cX5_setPrice 66 = .ok (.aload_n 0, 1) := by decide +kernel
theorem dX5_setPrice_67 : decode cX5_setPrice 67 = .ok (.getfield 10, 3) := by decide +kernel
theorem dX5_setPrice_70 : decode cX5_setPrice 70 = .ok (.getfield 61, 3) := by decide +kernel
theorem dX5_setPrice_73 : decode cX5_setPrice 73 = .ok (.iload_n 1, 1) := by decide +kernel
theorem dX5_setPrice_74 : decode cX5_setPrice 74 = .ok (.iload_n 2, 1) := by decide +kernel
theorem dX5_setPrice_75 : decode cX5_setPrice 75 = .ok (.iastore, 1) := by decide +kernel
theorem dX5_setPrice_76 : decode cX5_setPrice 76 = .ok (.iload 4, 2) := by decide +kernel
theorem dX5_setPrice_78 : decode cX5_setPrice 78 = .ok (.ireturn, 1) := by decide +kernel
set_option maxRecDepth 20000 in
theorem ggX5_setConstant_X5_isInput : GoodIn wsX5_setConstant wsX5_isInput := goodIn_r _ [8] (by decide +kernel) (by decide +kernel)
set_option maxRecDepth 20000 in
theorem gX5_setConstant_X5_isInput : GoodIn wsX5_setConstant (va_wsS RX5 65 yX5_isInput wsX5_isInput) := goodIn_app (goodIn_of _ (by decide +kernel)) ggX5_setConstant_X5_isInput
set_option maxRecDepth 20000 in
theorem ggX5_setConstant_X5_countOn : GoodIn wsX5_setConstant wsX5_countOn := goodIn_r _ [11] (by decide +kernel) (by decide +kernel)
set_option maxRecDepth 20000 in
theorem gX5_setConstant_X5_countOn : GoodIn wsX5_setConstant (va_wsS RX5 52 yX5_countOn wsX5_countOn) := goodIn_app (goodIn_of _ (by decide +kernel)) ggX5_setConstant_X5_countOn
theorem dX5_setConstant_0 : decode cX5_setConstant 0 = .ok (.iload_n 1, 1) := by decide +kernel
theorem dX5_setConstant_1 : decode cX5_setConstant 1 = .ok (.invokestatic 65, 3) := by decide +kernel
theorem dX5_setConstant_4 : decode cX5_setConstant 4 = .ok (.ifCond .ne 13, 3) := by decide +kernel
theorem dX5_setConstant_7 : decode cX5_setConstant 7 = .ok (.new 56, 3) := by decide +kernel
theorem dX5_setConstant_10 : decode cX5_setConstant 10 = .ok (.dup, 1) := by decide +kernel
theorem dX5_setConstant_11 : decode cX5_setConstant 11 = .ok (.ldc 68, 2) := by decide +kernel
theorem dX5_setConstant_13 : decode cX5_setConstant 13 = .ok (.invokespecial 60, 3) := by decide +kernel
theorem dX5_setConstant_16 : decode cX5_setConstant 16 = .ok (.athrow, 1) := by decide +kernel
theorem dX5_setConstant_17 : decode cX5_setConstant 17 = .ok (.aload_n 0, 1) := by decide +kernel
theorem dX5_setConstant_18 : decode cX5_setConstant 18 = .ok (.getfield 10, 3) := by decide +kernel
theorem dX5_setConstant_21 : decode cX5_setConstant 21 = .ok (.getfield 70, 3) := by decide +kernel
theorem dX5_setConstant_24 : decode cX5_setConstant 24 = .ok (.iload_n 1, 1) := by decide +kernel
theorem dX5_setConstant_25 : decode cX5_setConstant 25 = .ok (.iload_n 2, 1) := by decide +kernel
theorem dX5_setConstant_26 : decode cX5_setConstant 26 = .ok (.bastore, 1) := by decide +kernel
theorem dX5_setConstant_27 : decode cX5_setConstant 27 = .ok (.aload_n 0, 1) := by decide +kernel
theorem dX5_setConstant_28 : decode cX5_setConstant 28 = .ok (.getfield 10, 3) := by decide +kernel
theorem dX5_setConstant_31 : decode cX5_setConstant 31 = .ok (.getfield 70, 3) := by decide +kernel
theorem dX5_setConstant_34 : decode cX5_setConstant 34 = .ok (.invokestatic 52, 3) := by decide +kernel
theorem dX5_setConstant_37 : decode cX5_setConstant 37 = .ok (.ireturn, 1) := by decide +kernel
set_option maxRecDepth 20000 in
theorem ggX5_value_X5_isInput : GoodIn wsX5_value wsX5_isInput := goodIn_r _ [6] (by decide +kernel) (by decide +kernel)
set_option maxRecDepth 20000 in
theorem gX5_value_X5_isInput : GoodIn wsX5_value (va_wsS RX5 65 yX5_isInput wsX5_isInput) := goodIn_app (goodIn_of _ (by decide +kernel)) ggX5_value_X5_isInput
set_option maxRecDepth 20000 in
theorem ggX5_value_X0_valueAt : GoodIn wsX5_value wsX0_valueAt := goodIn_r _ [10] (by decide +kernel) (by decide +kernel)
set_option maxRecDepth 20000 in
theorem gX5_value_X0_valueAt : GoodIn wsX5_value (va_wsS RX5 75 yX0_valueAt wsX0_valueAt) := goodIn_app (goodIn_of _ (by decide +kernel)) ggX5_value_X0_valueAt
theorem dX5_value_0 : decode cX5_value 0 = .ok (.iload_n 3, 1) := by decide +kernel
theorem dX5_value_1 : decode cX5_value 1 = .ok (.invokestatic 65, 3) := by decide +kernel
theorem dX5_value_4 : decode cX5_value 4 = .ok (.ifCond .ne 13, 3) := by decide +kernel
theorem dX5_value_7 : decode cX5_value 7 = .ok (.new 56, 3) := by decide +kernel
theorem dX5_value_10 : decode cX5_value 10 = .ok (.dup, 1) := by decide +kernel
theorem dX5_value_11 : decode cX5_value 11 = .ok (.ldc 73, 2) := by decide +kernel
theorem dX5_value_13 : decode cX5_value 13 = .ok (.invokespecial 60, 3) := by decide +kernel
theorem dX5_value_16 : decode cX5_value 16 = .ok (.athrow, 1) := by decide +kernel
theorem dX5_value_17 : decode cX5_value 17 = .ok (.lload_n 1, 1) := by decide +kernel
theorem dX5_value_18 : decode cX5_value 18 = .ok (.iload_n 3, 1) := by decide +kernel
theorem dX5_value_19 : decode cX5_value 19 = .ok (.invokestatic 75, 3) := by decide +kernel
theorem dX5_value_22 : decode cX5_value 22 = .ok (.ireturn, 1) := by decide +kernel
set_option maxRecDepth 20000 in
theorem ggX5_apply_X5_isOperation : GoodIn wsX5_apply wsX5_isOperation := goodIn_r _ [6] (by decide +kernel) (by decide +kernel)
set_option maxRecDepth 20000 in
theorem gX5_apply_X5_isOperation : GoodIn wsX5_apply (va_wsS RX5 37 yX5_isOperation wsX5_isOperation) := goodIn_app (goodIn_of _ (by decide +kernel)) ggX5_apply_X5_isOperation
set_option maxRecDepth 20000 in
theorem ggX5_apply_X0_made : GoodIn wsX5_apply wsX0_made := goodIn_r _ [10, 11, 12, 13, 14, 9, 15, 16, 17, 18, 19, 20, 21, 22, 23, 24, 25, 26, 27] (by decide +kernel) (by decide +kernel)
set_option maxRecDepth 20000 in
theorem gX5_apply_X0_made : GoodIn wsX5_apply (va_wsS RX5 81 yX0_made wsX0_made) := goodIn_app (goodIn_of _ (by decide +kernel)) ggX5_apply_X0_made
theorem dX5_apply_0 : decode cX5_apply 0 = .ok (.iload_n 1, 1) := by decide +kernel
theorem dX5_apply_1 : decode cX5_apply 1 = .ok (.invokestatic 37, 3) := by decide +kernel
theorem dX5_apply_4 : decode cX5_apply 4 = .ok (.ifCond .ne 13, 3) := by decide +kernel
theorem dX5_apply_7 : decode cX5_apply 7 = .ok (.new 41, 3) := by decide +kernel
theorem dX5_apply_10 : decode cX5_apply 10 = .ok (.dup, 1) := by decide +kernel
theorem dX5_apply_11 : decode cX5_apply 11 = .ok (.ldc 43, 2) := by decide +kernel
theorem dX5_apply_13 : decode cX5_apply 13 = .ok (.invokespecial 45, 3) := by decide +kernel
theorem dX5_apply_16 : decode cX5_apply 16 = .ok (.athrow, 1) := by decide +kernel
theorem dX5_apply_17 : decode cX5_apply 17 = .ok (.iload_n 1, 1) := by decide +kernel
theorem dX5_apply_18 : decode cX5_apply 18 = .ok (.lload_n 2, 1) := by decide +kernel
theorem dX5_apply_19 : decode cX5_apply 19 = .ok (.lload 4, 2) := by decide +kernel
theorem dX5_apply_21 : decode cX5_apply 21 = .ok (.invokestatic 81, 3) := by decide +kernel
theorem dX5_apply_24 : decode cX5_apply 24 = .ok (.lreturn, 1) := by decide +kernel
set_option maxRecDepth 20000 in
theorem ggX5_compose_X0_after : GoodIn wsX5_compose wsX0_after := goodIn_r _ [4, 5, 6, 3, 7] (by decide +kernel) (by decide +kernel)
set_option maxRecDepth 20000 in
theorem gX5_compose_X0_after : GoodIn wsX5_compose (va_wsS RX5 85 yX0_after wsX0_after) := goodIn_app (goodIn_of _ (by decide +kernel)) ggX5_compose_X0_after
theorem dX5_compose_0 : decode cX5_compose 0 = .ok (.lload_n 1, 1) := by decide +kernel
theorem dX5_compose_1 : decode cX5_compose 1 = .ok (.lload_n 3, 1) := by decide +kernel
theorem dX5_compose_2 : decode cX5_compose 2 = .ok (.invokestatic 85, 3) := by decide +kernel
theorem dX5_compose_5 : decode cX5_compose 5 = .ok (.lreturn, 1) := by decide +kernel
set_option maxRecDepth 20000 in
theorem ggX5_inverse_X0_countValues : GoodIn wsX5_inverse wsX0_countValues := goodIn_r _ [6, 7, 8, 9, 5, 10, 11, 12, 13, 14, 15, 16, 17, 18, 19, 20] (by decide +kernel) (by decide +kernel)
set_option maxRecDepth 20000 in
theorem gX5_inverse_X0_countValues : GoodIn wsX5_inverse (va_wsS RX5 89 yX0_countValues wsX0_countValues) := goodIn_app (goodIn_of _ (by decide +kernel)) ggX5_inverse_X0_countValues
set_option maxRecDepth 20000 in
theorem ggX5_inverse_X0_inverseOf : GoodIn wsX5_inverse wsX0_inverseOf := goodIn_r _ [23, 11, 12, 5, 13] (by decide +kernel) (by decide +kernel)
set_option maxRecDepth 20000 in
theorem gX5_inverse_X0_inverseOf : GoodIn wsX5_inverse (va_wsS RX5 98 yX0_inverseOf wsX0_inverseOf) := goodIn_app (goodIn_of _ (by decide +kernel)) ggX5_inverse_X0_inverseOf
theorem dX5_inverse_0 : decode cX5_inverse 0 = .ok (.lload_n 1, 1) := by decide +kernel
theorem dX5_inverse_1 : decode cX5_inverse 1 = .ok (.invokestatic 89, 3) := by decide +kernel
theorem dX5_inverse_4 : decode cX5_inverse 4 = .ok (.bipush 16, 2) := by decide +kernel
theorem dX5_inverse_6 : decode cX5_inverse 6 = .ok (.if_icmp .ge 13, 3) := by decide +kernel
theorem dX5_inverse_9 : decode cX5_inverse 9 = .ok (.new 93, 3) := by decide +kernel
theorem dX5_inverse_12 : decode cX5_inverse 12 = .ok (.dup, 1) := by decide +kernel
theorem dX5_inverse_13 : decode cX5_inverse 13 = .ok (.ldc 95, 2) := by decide +kernel
theorem dX5_inverse_15 : decode cX5_inverse 15 = .ok (.invokespecial 97, 3) := by decide +kernel
theorem dX5_inverse_18 : decode cX5_inverse 18 = .ok (.athrow, 1) := by decide +kernel
theorem dX5_inverse_19 : decode cX5_inverse 19 = .ok (.lload_n 1, 1) := by decide +kernel
theorem dX5_inverse_20 : decode cX5_inverse 20 = .ok (.invokestatic 98, 3) := by decide +kernel
theorem dX5_inverse_23 : decode cX5_inverse 23 = .ok (.lreturn, 1) := by decide +kernel
set_option maxRecDepth 20000 in
theorem ggX5_measure_X0_countDifferences : GoodIn wsX5_measure wsX0_countDifferences := goodIn_r _ [7, 8, 9, 10, 11, 12, 13, 14, 15] (by decide +kernel) (by decide +kernel)
set_option maxRecDepth 20000 in
theorem gX5_measure_X0_countDifferences : GoodIn wsX5_measure (va_wsS RX5 104 yX0_countDifferences wsX0_countDifferences) := goodIn_app (goodIn_of _ (by decide +kernel)) ggX5_measure_X0_countDifferences
set_option maxRecDepth 20000 in
theorem ggX5_measure_X0_countValues : GoodIn wsX5_measure wsX0_countValues := goodIn_r _ [18, 19, 20, 21, 6, 22, 23, 24, 25, 26, 27, 28, 29, 30, 31, 32] (by decide +kernel) (by decide +kernel)
set_option maxRecDepth 20000 in
theorem gX5_measure_X0_countValues : GoodIn wsX5_measure (va_wsS RX5 89 yX0_countValues wsX0_countValues) := goodIn_app (goodIn_of _ (by decide +kernel)) ggX5_measure_X0_countValues
set_option maxRecDepth 20000 in
theorem ggX5_measure_J13_bitCount_95d88 : GoodIn wsX5_measure wsJ13_bitCount_95d88 := goodIn_r _ [12, 13, 14, 15] (by decide +kernel) (by decide +kernel)
set_option maxRecDepth 20000 in
theorem gX5_measure_J13_bitCount_95d88 : GoodIn wsX5_measure (va_wsS RX5 108 yJ13_bitCount_95d88 wsJ13_bitCount_95d88) := goodIn_app (goodIn_of _ (by decide +kernel)) ggX5_measure_J13_bitCount_95d88
set_option maxRecDepth 20000 in
theorem ggX5_measure_X0_returningInputs : GoodIn wsX5_measure wsX0_returningInputs := goodIn_r _ [36, 19, 20, 21, 6, 22, 23, 24, 25] (by decide +kernel) (by decide +kernel)
set_option maxRecDepth 20000 in
theorem gX5_measure_X0_returningInputs : GoodIn wsX5_measure (va_wsS RX5 113 yX0_returningInputs wsX0_returningInputs) := goodIn_app (goodIn_of _ (by decide +kernel)) ggX5_measure_X0_returningInputs
set_option maxRecDepth 20000 in
theorem ggX5_measure_J6_bitCount_0f7a4 : GoodIn wsX5_measure wsJ6_bitCount_0f7a4 := goodIn_r _ [29, 30, 31, 32] (by decide +kernel) (by decide +kernel)
set_option maxRecDepth 20000 in
theorem gX5_measure_J6_bitCount_0f7a4 : GoodIn wsX5_measure (va_wsS RX5 116 yJ6_bitCount_0f7a4 wsJ6_bitCount_0f7a4) := goodIn_app (goodIn_of _ (by decide +kernel)) ggX5_measure_J6_bitCount_0f7a4
set_option maxRecDepth 20000 in
theorem ggX5_measure_X0_stepsToReturning : GoodIn wsX5_measure wsX0_stepsToReturning := goodIn_r _ [40, 19, 41, 35, 6, 36, 20, 21, 22, 23, 24, 25] (by decide +kernel) (by decide +kernel)
set_option maxRecDepth 20000 in
theorem gX5_measure_X0_stepsToReturning : GoodIn wsX5_measure (va_wsS RX5 121 yX0_stepsToReturning wsX0_stepsToReturning) := goodIn_app (goodIn_of _ (by decide +kernel)) ggX5_measure_X0_stepsToReturning
theorem dX5_measure_0 : decode cX5_measure 0 = .ok (.iload_n 3, 1) := by decide +kernel
theorem dX5_measure_1 : decode cX5_measure 1 = .ok (.tableswitch 73 0 4 #[35, 46, 51, 60, 68], 35) := by decide +kernel
theorem dX5_measure_36 : decode cX5_measure 36 = .ok (.bipush 16, 2) := by decide +kernel
theorem dX5_measure_38 : decode cX5_measure 38 = .ok (.lload_n 1, 1) := by decide +kernel
theorem dX5_measure_39 : decode cX5_measure 39 = .ok (.ldc2_w 102, 3) := by decide +kernel
theorem dX5_measure_42 : decode cX5_measure 42 = .ok (.invokestatic 104, 3) := by decide +kernel
theorem dX5_measure_45 : decode cX5_measure 45 = .ok (.isub, 1) := by decide +kernel
theorem dX5_measure_46 : decode cX5_measure 46 = .ok (.ireturn, 1) := by decide +kernel
theorem dX5_measure_47 : decode cX5_measure 47 = .ok (.lload_n 1, 1) := by decide +kernel
theorem dX5_measure_48 : decode cX5_measure 48 = .ok (.invokestatic 89, 3) := by decide +kernel
theorem dX5_measure_51 : decode cX5_measure 51 = .ok (.ireturn, 1) := by decide +kernel
theorem dX5_measure_52 : decode cX5_measure 52 = .ok (.lload_n 1, 1) := by decide +kernel
theorem dX5_measure_53 : decode cX5_measure 53 = .ok (.ldc2_w 102, 3) := by decide +kernel
theorem dX5_measure_56 : decode cX5_measure 56 = .ok (.lxor, 1) := by decide +kernel
theorem dX5_measure_57 : decode cX5_measure 57 = .ok (.invokestatic 108, 3) := by decide +kernel
theorem dX5_measure_60 : decode cX5_measure 60 = .ok (.ireturn, 1) := by decide +kernel
theorem dX5_measure_61 : decode cX5_measure 61 = .ok (.lload_n 1, 1) := by decide +kernel
theorem dX5_measure_62 : decode cX5_measure 62 = .ok (.invokestatic 113, 3) := by decide +kernel
theorem dX5_measure_65 : decode cX5_measure 65 = .ok (.invokestatic 116, 3) := by decide +kernel
theorem dX5_measure_68 : decode cX5_measure 68 = .ok (.ireturn, 1) := by decide +kernel
theorem dX5_measure_69 : decode cX5_measure 69 = .ok (.lload_n 1, 1) := by decide +kernel
theorem dX5_measure_70 : decode cX5_measure 70 = .ok (.invokestatic 121, 3) := by decide +kernel
theorem dX5_measure_73 : decode cX5_measure 73 = .ok (.ireturn, 1) := by decide +kernel
theorem dX5_measure_74 : decode cX5_measure 74 = .ok (.new 41, 3) := by decide +kernel
theorem dX5_measure_77 : decode cX5_measure 77 = .ok (.dup, 1) := by decide +kernel
theorem dX5_measure_78 : decode cX5_measure 78 = .ok (.ldc 124, 2) := by decide +kernel
theorem dX5_measure_80 : decode cX5_measure 80 = .ok (.invokespecial 45, 3) := by decide +kernel
theorem dX5_measure_83 : decode cX5_measure 83 = .ok (.athrow, 1) := by decide +kernel
set_option maxRecDepth 20000 in
theorem ggX5_is_X0_isLinear : GoodIn wsX5_is wsX0_isLinear := goodIn_r _ [6, 7, 8, 5, 9] (by decide +kernel) (by decide +kernel)
set_option maxRecDepth 20000 in
theorem gX5_is_X0_isLinear : GoodIn wsX5_is (va_wsS RX5 126 yX0_isLinear wsX0_isLinear) := goodIn_app (goodIn_of _ (by decide +kernel)) ggX5_is_X0_isLinear
set_option maxRecDepth 20000 in
theorem ggX5_is_X0_isRising : GoodIn wsX5_is wsX0_isRising := goodIn_r _ [12, 7, 8, 5, 9] (by decide +kernel) (by decide +kernel)
set_option maxRecDepth 20000 in
theorem gX5_is_X0_isRising : GoodIn wsX5_is (va_wsS RX5 130 yX0_isRising wsX0_isRising) := goodIn_app (goodIn_of _ (by decide +kernel)) ggX5_is_X0_isRising
set_option maxRecDepth 20000 in
theorem ggX5_is_X0_after : GoodIn wsX5_is wsX0_after := goodIn_r _ [15, 7, 8, 5, 9] (by decide +kernel) (by decide +kernel)
set_option maxRecDepth 20000 in
theorem gX5_is_X0_after : GoodIn wsX5_is (va_wsS RX5 85 yX0_after wsX0_after) := goodIn_app (goodIn_of _ (by decide +kernel)) ggX5_is_X0_after
set_option maxRecDepth 20000 in
theorem ggX5_is_X0_isOfLowerBits : GoodIn wsX5_is wsX0_isOfLowerBits := goodIn_r _ [18, 7, 8, 5, 9] (by decide +kernel) (by decide +kernel)
set_option maxRecDepth 20000 in
theorem gX5_is_X0_isOfLowerBits : GoodIn wsX5_is (va_wsS RX5 133 yX0_isOfLowerBits wsX0_isOfLowerBits) := goodIn_app (goodIn_of _ (by decide +kernel)) ggX5_is_X0_isOfLowerBits
theorem dX5_is_0 : decode cX5_is 0 = .ok (.iload_n 3, 1) := by decide +kernel
theorem dX5_is_1 : decode cX5_is 1 = .ok (.tableswitch 62 0 3 #[31, 36, 41, 57], 31) := by decide +kernel
theorem dX5_is_32 : decode cX5_is 32 = .ok (.lload_n 1, 1) := by decide +kernel
theorem dX5_is_33 : decode cX5_is 33 = .ok (.invokestatic 126, 3) := by decide +kernel
theorem dX5_is_36 : decode cX5_is 36 = .ok (.ireturn, 1) := by decide +kernel
theorem dX5_is_37 : decode cX5_is 37 = .ok (.lload_n 1, 1) := by decide +kernel
theorem dX5_is_38 : decode cX5_is 38 = .ok (.invokestatic 130, 3) := by decide +kernel
theorem dX5_is_41 : decode cX5_is 41 = .ok (.ireturn, 1) := by decide +kernel
theorem dX5_is_42 : decode cX5_is 42 = .ok (.lload_n 1, 1) := by decide +kernel
theorem dX5_is_43 : decode cX5_is 43 = .ok (.lload_n 1, 1) := by decide +kernel
theorem dX5_is_44 : decode cX5_is 44 = .ok (.invokestatic 85, 3) := by decide +kernel
theorem dX5_is_47 : decode cX5_is 47 = .ok (.lload_n 1, 1) := by decide +kernel
theorem dX5_is_48 : decode cX5_is 48 = .ok (.lcmp, 1) := by decide +kernel
theorem dX5_is_49 : decode cX5_is 49 = .ok (.ifCond .ne 7, 3) := by decide +kernel
theorem dX5_is_52 : decode cX5_is 52 = .ok (.iconst 1, 1) := by decide +kernel
theorem dX5_is_53 : decode cX5_is 53 = .ok (.goto 4, 3) := by decide +kernel
theorem dX5_is_56 : decode cX5_is 56 = .ok (.iconst 0, 1) := by decide +kernel
theorem dX5_is_57 : decode cX5_is 57 = .ok (.ireturn, 1) := by decide +kernel
theorem dX5_is_58 : decode cX5_is 58 = .ok (.lload_n 1, 1) := by decide +kernel
theorem dX5_is_59 : decode cX5_is 59 = .ok (.invokestatic 133, 3) := by decide +kernel
theorem dX5_is_62 : decode cX5_is 62 = .ok (.ireturn, 1) := by decide +kernel
theorem dX5_is_63 : decode cX5_is 63 = .ok (.new 41, 3) := by decide +kernel
theorem dX5_is_66 : decode cX5_is 66 = .ok (.dup, 1) := by decide +kernel
theorem dX5_is_67 : decode cX5_is 67 = .ok (.ldc 136, 2) := by decide +kernel
theorem dX5_is_69 : decode cX5_is 69 = .ok (.invokespecial 45, 3) := by decide +kernel
theorem dX5_is_72 : decode cX5_is 72 = .ok (.athrow, 1) := by decide +kernel
set_option maxRecDepth 20000 in
theorem ggX5_search_X5_isCost : GoodIn wsX5_search wsX5_isCost := goodIn_r _ [9] (by decide +kernel) (by decide +kernel)
set_option maxRecDepth 20000 in
theorem gX5_search_X5_isCost : GoodIn wsX5_search (va_wsS RX5 138 yX5_isCost wsX5_isCost) := goodIn_app (goodIn_of _ (by decide +kernel)) ggX5_search_X5_isCost
set_option maxRecDepth 20000 in
theorem ggX5_search_X2_make : GoodIn wsX5_search wsX2_make := goodIn_r _ [14, 15, 16, 17, 18, 19, 20, 21, 22, 23, 24, 13, 25, 26, 27, 28, 29, 30, 31, 32, 33, 34, 35, 36, 37, 38, 39, 40, 41, 42, 43, 44, 45, 46, 47, 48, 49, 50, 51, 52, 53, 54, 55, 56, 57, 58, 59, 60, 61, 62, 8, 63, 64, 65, 66, 67, 68, 69, 70, 71, 72, 73, 74, 75, 76, 77, 78, 79, 80, 81, 82, 83, 84, 85, 86, 87, 88, 89, 90, 95, 96, 97, 98, 99, 100, 101, 102, 103, 104, 105] (by decide +kernel) (by decide +kernel)
set_option maxRecDepth 20000 in
theorem gX5_search_X2_make : GoodIn wsX5_search (wsV RX5 143 RX2 yX2_make wsX2_make) := goodIn_app (goodIn_of _ (by decide +kernel)) ggX5_search_X2_make
theorem dX5_search_0 : decode cX5_search 0 = .ok (.iload_n 1, 1) := by decide +kernel
theorem dX5_search_1 : decode cX5_search 1 = .ok (.invokestatic 138, 3) := by decide +kernel
theorem dX5_search_4 : decode cX5_search 4 = .ok (.ifCond .ne 13, 3) := by decide +kernel
theorem dX5_search_7 : decode cX5_search 7 = .ok (.new 56, 3) := by decide +kernel
theorem dX5_search_10 : decode cX5_search 10 = .ok (.dup, 1) := by decide +kernel
theorem dX5_search_11 : decode cX5_search 11 = .ok (.ldc 141, 2) := by decide +kernel
theorem dX5_search_13 : decode cX5_search 13 = .ok (.invokespecial 60, 3) := by decide +kernel
theorem dX5_search_16 : decode cX5_search 16 = .ok (.athrow, 1) := by decide +kernel
theorem dX5_search_17 : decode cX5_search 17 = .ok (.aload_n 0, 1) := by decide +kernel
theorem dX5_search_18 : decode cX5_search 18 = .ok (.getfield 19, 3) := by decide +kernel
theorem dX5_search_21 : decode cX5_search 21 = .ok (.iload_n 1, 1) := by decide +kernel
theorem dX5_search_22 : decode cX5_search 22 = .ok (.aload_n 0, 1) := by decide +kernel
theorem dX5_search_23 : decode cX5_search 23 = .ok (.getfield 10, 3) := by decide +kernel
theorem dX5_search_26 : decode cX5_search 26 = .ok (.invokevirtual 143, 3) := by decide +kernel
theorem dX5_search_29 : decode cX5_search 29 = .ok (.aload_n 0, 1) := by decide +kernel
theorem dX5_search_30 : decode cX5_search 30 = .ok (.getfield 19, 3) := by decide +kernel
theorem dX5_search_33 : decode cX5_search 33 = .ok (.getfield 147, 3) := by decide +kernel
theorem dX5_search_36 : decode cX5_search 36 = .ok (.ireturn, 1) := by decide +kernel
theorem dX5_entries_0 : decode cX5_entries 0 = .ok (.aload_n 0, 1) := by decide +kernel
theorem dX5_entries_1 : decode cX5_entries 1 = .ok (.getfield 19, 3) := by decide +kernel
theorem dX5_entries_4 : decode cX5_entries 4 = .ok (.getfield 147, 3) := by decide +kernel
theorem dX5_entries_7 : decode cX5_entries 7 = .ok (.ireturn, 1) := by decide +kernel
set_option maxRecDepth 20000 in
theorem ggX5_ofCost_X5_isCost : GoodIn wsX5_ofCost wsX5_isCost := goodIn_r _ [7] (by decide +kernel) (by decide +kernel)
set_option maxRecDepth 20000 in
theorem gX5_ofCost_X5_isCost : GoodIn wsX5_ofCost (va_wsS RX5 138 yX5_isCost wsX5_isCost) := goodIn_app (goodIn_of _ (by decide +kernel)) ggX5_ofCost_X5_isCost
set_option maxRecDepth 20000 in
theorem ggX5_ofCost_X2_countOfCost : GoodIn wsX5_ofCost wsX2_countOfCost := goodIn_r _ [12, 13, 18, 19, 20, 21, 22, 23, 24, 25] (by decide +kernel) (by decide +kernel)
set_option maxRecDepth 20000 in
theorem gX5_ofCost_X2_countOfCost : GoodIn wsX5_ofCost (wsV RX5 153 RX2 yX2_countOfCost wsX2_countOfCost) := goodIn_app (goodIn_of _ (by decide +kernel)) ggX5_ofCost_X2_countOfCost
theorem dX5_ofCost_0 : decode cX5_ofCost 0 = .ok (.iload_n 1, 1) := by decide +kernel
theorem dX5_ofCost_1 : decode cX5_ofCost 1 = .ok (.invokestatic 138, 3) := by decide +kernel
theorem dX5_ofCost_4 : decode cX5_ofCost 4 = .ok (.ifCond .ne 13, 3) := by decide +kernel
theorem dX5_ofCost_7 : decode cX5_ofCost 7 = .ok (.new 56, 3) := by decide +kernel
theorem dX5_ofCost_10 : decode cX5_ofCost 10 = .ok (.dup, 1) := by decide +kernel
theorem dX5_ofCost_11 : decode cX5_ofCost 11 = .ok (.ldc 151, 2) := by decide +kernel
theorem dX5_ofCost_13 : decode cX5_ofCost 13 = .ok (.invokespecial 60, 3) := by decide +kernel
theorem dX5_ofCost_16 : decode cX5_ofCost 16 = .ok (.athrow, 1) := by decide +kernel
theorem dX5_ofCost_17 : decode cX5_ofCost 17 = .ok (.aload_n 0, 1) := by decide +kernel
theorem dX5_ofCost_18 : decode cX5_ofCost 18 = .ok (.getfield 19, 3) := by decide +kernel
theorem dX5_ofCost_21 : decode cX5_ofCost 21 = .ok (.iload_n 1, 1) := by decide +kernel
theorem dX5_ofCost_22 : decode cX5_ofCost 22 = .ok (.invokevirtual 153, 3) := by decide +kernel
theorem dX5_ofCost_25 : decode cX5_ofCost 25 = .ok (.ireturn, 1) := by decide +kernel
set_option maxRecDepth 20000 in
theorem ggX5_function_X2_has : GoodIn wsX5_function wsX2_has := goodIn_r _ [9, 10, 15, 16, 17, 18, 19, 20, 21, 22] (by decide +kernel) (by decide +kernel)
set_option maxRecDepth 20000 in
theorem gX5_function_X2_has : GoodIn wsX5_function (wsV RX5 156 RX2 yX2_has wsX2_has) := goodIn_app (goodIn_of _ (by decide +kernel)) ggX5_function_X2_has
theorem dX5_function_0 : decode cX5_function 0 = .ok (.aload_n 0, 1) := by decide +kernel
theorem dX5_function_1 : decode cX5_function 1 = .ok (.getfield 19, 3) := by decide +kernel
theorem dX5_function_4 : decode cX5_function 4 = .ok (.iload_n 1, 1) := by decide +kernel
theorem dX5_function_5 : decode cX5_function 5 = .ok (.invokevirtual 156, 3) := by decide +kernel
theorem dX5_function_8 : decode cX5_function 8 = .ok (.ifCond .ne 13, 3) := by decide +kernel
theorem dX5_function_11 : decode cX5_function 11 = .ok (.new 41, 3) := by decide +kernel
theorem dX5_function_14 : decode cX5_function 14 = .ok (.dup, 1) := by decide +kernel
theorem dX5_function_15 : decode cX5_function 15 = .ok (.ldc 159, 2) := by decide +kernel
theorem dX5_function_17 : decode cX5_function 17 = .ok (.invokespecial 45, 3) := by decide +kernel
theorem dX5_function_20 : decode cX5_function 20 = .ok (.athrow, 1) := by decide +kernel
theorem dX5_function_21 : decode cX5_function 21 = .ok (.aload_n 0, 1) := by decide +kernel
theorem dX5_function_22 : decode cX5_function 22 = .ok (.getfield 19, 3) := by decide +kernel
theorem dX5_function_25 : decode cX5_function 25 = .ok (.getfield 161, 3) := by decide +kernel
theorem dX5_function_28 : decode cX5_function 28 = .ok (.iload_n 1, 1) := by decide +kernel
theorem dX5_function_29 : decode cX5_function 29 = .ok (.laload, 1) := by decide +kernel
theorem dX5_function_30 : decode cX5_function 30 = .ok (.lreturn, 1) := by decide +kernel
set_option maxRecDepth 20000 in
theorem ggX5_entry_X2_has : GoodIn wsX5_entry wsX2_has := goodIn_r _ [11, 12, 22, 23, 24, 25, 26, 27, 28, 29] (by decide +kernel) (by decide +kernel)
set_option maxRecDepth 20000 in
theorem gX5_entry_X2_has : GoodIn wsX5_entry (wsV RX5 156 RX2 yX2_has wsX2_has) := goodIn_app (goodIn_of _ (by decide +kernel)) ggX5_entry_X2_has
set_option maxRecDepth 20000 in
theorem ggX5_entry_X2_costOf : GoodIn wsX5_entry wsX2_costOf := goodIn_r _ [16, 17, 22, 23, 24, 25, 26, 27, 28, 29] (by decide +kernel) (by decide +kernel)
set_option maxRecDepth 20000 in
theorem gX5_entry_X2_costOf : GoodIn wsX5_entry (wsV RX5 165 RX2 yX2_costOf wsX2_costOf) := goodIn_app (goodIn_of _ (by decide +kernel)) ggX5_entry_X2_costOf
theorem dX5_entry_0 : decode cX5_entry 0 = .ok (.aload_n 0, 1) := by decide +kernel
theorem dX5_entry_1 : decode cX5_entry 1 = .ok (.getfield 19, 3) := by decide +kernel
theorem dX5_entry_4 : decode cX5_entry 4 = .ok (.iload_n 1, 1) := by decide +kernel
theorem dX5_entry_5 : decode cX5_entry 5 = .ok (.invokevirtual 156, 3) := by decide +kernel
theorem dX5_entry_8 : decode cX5_entry 8 = .ok (.ifCond .ne 13, 3) := by decide +kernel
theorem dX5_entry_11 : decode cX5_entry 11 = .ok (.new 41, 3) := by decide +kernel
theorem dX5_entry_14 : decode cX5_entry 14 = .ok (.dup, 1) := by decide +kernel
theorem dX5_entry_15 : decode cX5_entry 15 = .ok (.ldc 159, 2) := by decide +kernel
theorem dX5_entry_17 : decode cX5_entry 17 = .ok (.invokespecial 45, 3) := by decide +kernel
theorem dX5_entry_20 : decode cX5_entry 20 = .ok (.athrow, 1) := by decide +kernel
theorem dX5_entry_21 : decode cX5_entry 21 = .ok (.iload_n 2, 1) := by decide +kernel
theorem dX5_entry_22 : decode cX5_entry 22 = .ok (.tableswitch 69 0 3 #[30, 39, 49, 59], 30) := by decide +kernel
theorem dX5_entry_52 : decode cX5_entry 52 = .ok (.aload_n 0, 1) := by decide +kernel
theorem dX5_entry_53 : decode cX5_entry 53 = .ok (.getfield 19, 3) := by decide +kernel
theorem dX5_entry_56 : decode cX5_entry 56 = .ok (.iload_n 1, 1) := by decide +kernel
theorem dX5_entry_57 : decode cX5_entry 57 = .ok (.invokevirtual 165, 3) := by decide +kernel
theorem dX5_entry_60 : decode cX5_entry 60 = .ok (.ireturn, 1) := by decide +kernel
theorem dX5_entry_61 : decode cX5_entry 61 = .ok (.aload_n 0, 1) := by decide +kernel
theorem dX5_entry_62 : decode cX5_entry 62 = .ok (.getfield 19, 3) := by decide +kernel
theorem dX5_entry_65 : decode cX5_entry 65 = .ok (.getfield 168, 3) := by decide +kernel
theorem dX5_entry_68 : decode cX5_entry 68 = .ok (.iload_n 1, 1) := by decide +kernel
theorem dX5_entry_69 : decode cX5_entry 69 = .ok (.iaload, 1) := by decide +kernel
theorem dX5_entry_70 : decode cX5_entry 70 = .ok (.ireturn, 1) := by decide +kernel
theorem dX5_entry_71 : decode cX5_entry 71 = .ok (.aload_n 0, 1) := by decide +kernel
theorem dX5_entry_72 : decode cX5_entry 72 = .ok (.getfield 19, 3) := by decide +kernel
theorem dX5_entry_75 : decode cX5_entry 75 = .ok (.getfield 171, 3) := by decide +kernel
theorem dX5_entry_78 : decode cX5_entry 78 = .ok (.iload_n 1, 1) := by decide +kernel
theorem dX5_entry_79 : decode cX5_entry 79 = .ok (.iaload, 1) := by decide +kernel
theorem dX5_entry_80 : decode cX5_entry 80 = .ok (.ireturn, 1) := by decide +kernel
theorem dX5_entry_81 : decode cX5_entry 81 = .ok (.aload_n 0, 1) := by decide +kernel
theorem dX5_entry_82 : decode cX5_entry 82 = .ok (.getfield 19, 3) := by decide +kernel
theorem dX5_entry_85 : decode cX5_entry 85 = .ok (.getfield 174, 3) := by decide +kernel
theorem dX5_entry_88 : decode cX5_entry 88 = .ok (.iload_n 1, 1) := by decide +kernel
theorem dX5_entry_89 : decode cX5_entry 89 = .ok (.iaload, 1) := by decide +kernel
theorem dX5_entry_90 : decode cX5_entry 90 = .ok (.ireturn, 1) := by decide +kernel
theorem dX5_entry_91 : decode cX5_entry 91 = .ok (.new 41, 3) := by decide +kernel
theorem dX5_entry_94 : decode cX5_entry 94 = .ok (.dup, 1) := by decide +kernel
theorem dX5_entry_95 : decode cX5_entry 95 = .ok (.ldc 177, 2) := by decide +kernel
theorem dX5_entry_97 : decode cX5_entry 97 = .ok (.invokespecial 45, 3) := by decide +kernel
theorem dX5_entry_100 : decode cX5_entry 100 = .ok (.athrow, 1) := by decide +kernel
set_option maxRecDepth 20000 in
theorem ggX5_find_X2_entryWith : GoodIn wsX5_find wsX2_entryWith := goodIn_r _ [6, 7, 8, 9, 10, 5, 11, 12, 13, 14, 19, 20, 21, 22, 23, 24, 25, 26] (by decide +kernel) (by decide +kernel)
set_option maxRecDepth 20000 in
theorem gX5_find_X2_entryWith : GoodIn wsX5_find (wsV RX5 179 RX2 yX2_entryWith wsX2_entryWith) := goodIn_app (goodIn_of _ (by decide +kernel)) ggX5_find_X2_entryWith
theorem dX5_find_0 : decode cX5_find 0 = .ok (.aload_n 0, 1) := by decide +kernel
theorem dX5_find_1 : decode cX5_find 1 = .ok (.getfield 19, 3) := by decide +kernel
theorem dX5_find_4 : decode cX5_find 4 = .ok (.lload_n 1, 1) := by decide +kernel
theorem dX5_find_5 : decode cX5_find 5 = .ok (.invokevirtual 179, 3) := by decide +kernel
theorem dX5_find_8 : decode cX5_find 8 = .ok (.ireturn, 1) := by decide +kernel
set_option maxRecDepth 20000 in
theorem ggX5_fit_X0_maskOf : GoodIn wsX5_fit wsX0_maskOf := goodIn_r _ [8, 9] (by decide +kernel) (by decide +kernel)
set_option maxRecDepth 20000 in
theorem gX5_fit_X0_maskOf : GoodIn wsX5_fit (va_wsS RX5 185 yX0_maskOf wsX0_maskOf) := goodIn_app (goodIn_of _ (by decide +kernel)) ggX5_fit_X0_maskOf
set_option maxRecDepth 20000 in
theorem ggX5_fit_X2_firstAlike : GoodIn wsX5_fit wsX2_firstAlike := goodIn_r _ [14, 15, 16, 21, 22, 23, 24, 25, 26, 27, 28] (by decide +kernel) (by decide +kernel)
set_option maxRecDepth 20000 in
theorem gX5_fit_X2_firstAlike : GoodIn wsX5_fit (wsV RX5 189 RX2 yX2_firstAlike wsX2_firstAlike) := goodIn_app (goodIn_of _ (by decide +kernel)) ggX5_fit_X2_firstAlike
theorem dX5_fit_0 : decode cX5_fit 0 = .ok (.iload_n 3, 1) := by decide +kernel
theorem dX5_fit_1 : decode cX5_fit 1 = .ok (.ifCond .lt 9, 3) := by decide +kernel
theorem dX5_fit_4 : decode cX5_fit 4 = .ok (.iload_n 3, 1) := by decide +kernel
theorem dX5_fit_5 : decode cX5_fit 5 = .ok (.ldc 182, 2) := by decide +kernel
theorem dX5_fit_7 : decode cX5_fit 7 = .ok (.if_icmp .le 13, 3) := by decide +kernel
theorem dX5_fit_10 : decode cX5_fit 10 = .ok (.new 56, 3) := by decide +kernel
theorem dX5_fit_13 : decode cX5_fit 13 = .ok (.dup, 1) := by decide +kernel
theorem dX5_fit_14 : decode cX5_fit 14 = .ok (.ldc 183, 2) := by decide +kernel
theorem dX5_fit_16 : decode cX5_fit 16 = .ok (.invokespecial 60, 3) := by decide +kernel
theorem dX5_fit_19 : decode cX5_fit 19 = .ok (.athrow, 1) := by decide +kernel
theorem dX5_fit_20 : decode cX5_fit 20 = .ok (.aload_n 0, 1) := by decide +kernel
theorem dX5_fit_21 : decode cX5_fit 21 = .ok (.getfield 19, 3) := by decide +kernel
theorem dX5_fit_24 : decode cX5_fit 24 = .ok (.lload_n 1, 1) := by decide +kernel
theorem dX5_fit_25 : decode cX5_fit 25 = .ok (.iload_n 3, 1) := by decide +kernel
theorem dX5_fit_26 : decode cX5_fit 26 = .ok (.invokestatic 185, 3) := by decide +kernel
theorem dX5_fit_29 : decode cX5_fit 29 = .ok (.invokevirtual 189, 3) := by decide +kernel
theorem dX5_fit_32 : decode cX5_fit 32 = .ok (.ireturn, 1) := by decide +kernel
set_option maxRecDepth 20000 in
theorem ggX5_near_X2_firstNearest : GoodIn wsX5_near wsX2_firstNearest := goodIn_r _ [6, 7, 8, 9, 10, 11, 12, 13, 14, 15, 16, 17, 18, 19, 20, 25, 26, 27, 28, 29, 30, 31, 32] (by decide +kernel) (by decide +kernel)
set_option maxRecDepth 20000 in
theorem gX5_near_X2_firstNearest : GoodIn wsX5_near (wsV RX5 192 RX2 yX2_firstNearest wsX2_firstNearest) := goodIn_app (goodIn_of _ (by decide +kernel)) ggX5_near_X2_firstNearest
theorem dX5_near_0 : decode cX5_near 0 = .ok (.aload_n 0, 1) := by decide +kernel
theorem dX5_near_1 : decode cX5_near 1 = .ok (.getfield 19, 3) := by decide +kernel
theorem dX5_near_4 : decode cX5_near 4 = .ok (.lload_n 1, 1) := by decide +kernel
theorem dX5_near_5 : decode cX5_near 5 = .ok (.invokevirtual 192, 3) := by decide +kernel
theorem dX5_near_8 : decode cX5_near 8 = .ok (.ireturn, 1) := by decide +kernel
set_option maxRecDepth 20000 in
theorem ggX5_parts_X2_has : GoodIn wsX5_parts wsX2_has := goodIn_r _ [8, 9, 27, 28, 29, 30, 31, 32, 33, 34] (by decide +kernel) (by decide +kernel)
set_option maxRecDepth 20000 in
theorem gX5_parts_X2_has : GoodIn wsX5_parts (wsV RX5 156 RX2 yX2_has wsX2_has) := goodIn_app (goodIn_of _ (by decide +kernel)) ggX5_parts_X2_has
set_option maxRecDepth 20000 in
theorem ggX5_parts_X2_countParts : GoodIn wsX5_parts wsX2_countParts := goodIn_r _ [13, 14, 15, 16, 17, 18, 19, 20, 7, 21, 22, 5, 6, 8, 9, 27, 28, 29, 30, 31, 32, 33, 34] (by decide +kernel) (by decide +kernel)
set_option maxRecDepth 20000 in
theorem gX5_parts_X2_countParts : GoodIn wsX5_parts (wsV RX5 195 RX2 yX2_countParts wsX2_countParts) := goodIn_app (goodIn_of _ (by decide +kernel)) ggX5_parts_X2_countParts
theorem dX5_parts_0 : decode cX5_parts 0 = .ok (.aload_n 0, 1) := by decide +kernel
theorem dX5_parts_1 : decode cX5_parts 1 = .ok (.getfield 19, 3) := by decide +kernel
theorem dX5_parts_4 : decode cX5_parts 4 = .ok (.iload_n 1, 1) := by decide +kernel
theorem dX5_parts_5 : decode cX5_parts 5 = .ok (.invokevirtual 156, 3) := by decide +kernel
theorem dX5_parts_8 : decode cX5_parts 8 = .ok (.ifCond .ne 13, 3) := by decide +kernel
theorem dX5_parts_11 : decode cX5_parts 11 = .ok (.new 41, 3) := by decide +kernel
theorem dX5_parts_14 : decode cX5_parts 14 = .ok (.dup, 1) := by decide +kernel
theorem dX5_parts_15 : decode cX5_parts 15 = .ok (.ldc 159, 2) := by decide +kernel
theorem dX5_parts_17 : decode cX5_parts 17 = .ok (.invokespecial 45, 3) := by decide +kernel
theorem dX5_parts_20 : decode cX5_parts 20 = .ok (.athrow, 1) := by decide +kernel
theorem dX5_parts_21 : decode cX5_parts 21 = .ok (.aload_n 0, 1) := by decide +kernel
theorem dX5_parts_22 : decode cX5_parts 22 = .ok (.getfield 19, 3) := by decide +kernel
theorem dX5_parts_25 : decode cX5_parts 25 = .ok (.iload_n 1, 1) := by decide +kernel
theorem dX5_parts_26 : decode cX5_parts 26 = .ok (.invokevirtual 195, 3) := by decide +kernel
theorem dX5_parts_29 : decode cX5_parts 29 = .ok (.ireturn, 1) := by decide +kernel
set_option maxRecDepth 20000 in
theorem ggX5_meanCost_X2_sumOfCosts : GoodIn wsX5_meanCost wsX2_sumOfCosts := goodIn_r _ [7, 8, 9, 10, 6, 11, 12, 17, 18, 19, 20, 21, 22, 23, 24] (by decide +kernel) (by decide +kernel)
set_option maxRecDepth 20000 in
theorem gX5_meanCost_X2_sumOfCosts : GoodIn wsX5_meanCost (wsV RX5 198 RX2 yX2_sumOfCosts wsX2_sumOfCosts) := goodIn_app (goodIn_of _ (by decide +kernel)) ggX5_meanCost_X2_sumOfCosts
theorem dX5_meanCost_0 : decode cX5_meanCost 0 = .ok (.aload_n 0, 1) := by decide +kernel
theorem dX5_meanCost_1 : decode cX5_meanCost 1 = .ok (.getfield 19, 3) := by decide +kernel
theorem dX5_meanCost_4 : decode cX5_meanCost 4 = .ok (.getfield 147, 3) := by decide +kernel
theorem dX5_meanCost_7 : decode cX5_meanCost 7 = .ok (.ifCond .ne 7, 3) := by decide +kernel
theorem dX5_meanCost_10 : decode cX5_meanCost 10 = .ok (.dconst 0, 1) := by decide +kernel
theorem dX5_meanCost_11 : decode cX5_meanCost 11 = .ok (.goto 20, 3) := by decide +kernel
theorem dX5_meanCost_14 : decode cX5_meanCost 14 = .ok (.aload_n 0, 1) := by decide +kernel
theorem dX5_meanCost_15 : decode cX5_meanCost 15 = .ok (.getfield 19, 3) := by decide +kernel
theorem dX5_meanCost_18 : decode cX5_meanCost 18 = .ok (.invokevirtual 198, 3) := by decide +kernel
theorem dX5_meanCost_21 : decode cX5_meanCost 21 = .ok (.i2d, 1) := by decide +kernel
theorem dX5_meanCost_22 : decode cX5_meanCost 22 = .ok (.aload_n 0, 1) := by decide +kernel
theorem dX5_meanCost_23 : decode cX5_meanCost 23 = .ok (.getfield 19, 3) := by decide +kernel
theorem dX5_meanCost_26 : decode cX5_meanCost 26 = .ok (.getfield 147, 3) := by decide +kernel
theorem dX5_meanCost_29 : decode cX5_meanCost 29 = .ok (.i2d, 1) := by decide +kernel
theorem dX5_meanCost_30 : decode cX5_meanCost 30 = .ok (.ddiv, 1) := by decide +kernel
theorem dX5_meanCost_31 : decode cX5_meanCost 31 = .ok (.dreturn, 1) := by decide +kernel
set_option maxRecDepth 20000 in
theorem ggX5_write_X2_has : GoodIn wsX5_write wsX2_has := goodIn_r _ [10, 11, 46, 47, 48, 49, 50, 51, 52, 53] (by decide +kernel) (by decide +kernel)
set_option maxRecDepth 20000 in
theorem gX5_write_X2_has : GoodIn wsX5_write (wsV RX5 156 RX2 yX2_has wsX2_has) := goodIn_app (goodIn_of _ (by decide +kernel)) ggX5_write_X2_has
set_option maxRecDepth 20000 in
theorem ggX5_write_X1_putEntry : GoodIn wsX5_write wsX1_putEntry := goodIn_r _ [15, 16, 17, 18, 19, 7, 8, 9, 10, 11, 20, 21, 22, 13, 23, 24, 25, 26, 27, 28, 29, 30, 31, 32, 33, 34, 35, 36, 37, 38, 39, 12, 14, 46, 47, 48, 49, 50, 51, 52, 53, 44, 45] (by decide +kernel) (by decide +kernel)
set_option maxRecDepth 20000 in
theorem gX5_write_X1_putEntry_n205 : GoodIn wsX5_write (wsX1_putEntry) := ggX5_write_X1_putEntry
theorem dX5_write_0 : decode cX5_write 0 = .ok (.aload_n 0, 1) := by decide +kernel
theorem dX5_write_1 : decode cX5_write 1 = .ok (.getfield 19, 3) := by decide +kernel
theorem dX5_write_4 : decode cX5_write 4 = .ok (.iload_n 1, 1) := by decide +kernel
theorem dX5_write_5 : decode cX5_write 5 = .ok (.invokevirtual 156, 3) := by decide +kernel
theorem dX5_write_8 : decode cX5_write 8 = .ok (.ifCond .ne 13, 3) := by decide +kernel
theorem dX5_write_11 : decode cX5_write 11 = .ok (.new 41, 3) := by decide +kernel
theorem dX5_write_14 : decode cX5_write 14 = .ok (.dup, 1) := by decide +kernel
theorem dX5_write_15 : decode cX5_write 15 = .ok (.ldc 159, 2) := by decide +kernel
theorem dX5_write_17 : decode cX5_write 17 = .ok (.invokespecial 45, 3) := by decide +kernel
theorem dX5_write_20 : decode cX5_write 20 = .ok (.athrow, 1) := by decide +kernel
theorem dX5_write_21 : decode cX5_write 21 = .ok (.aload_n 0, 1) := by decide +kernel
theorem dX5_write_22 : decode cX5_write 22 = .ok (.getfield 26, 3) := by decide +kernel
theorem dX5_write_25 : decode cX5_write 25 = .ok (.iconst 0, 1) := by decide +kernel
theorem dX5_write_26 : decode cX5_write 26 = .ok (.putfield 202, 3) := by decide +kernel
theorem dX5_write_29 : decode cX5_write 29 = .ok (.aload_n 0, 1) := by decide +kernel
theorem dX5_write_30 : decode cX5_write 30 = .ok (.getfield 26, 3) := by decide +kernel
theorem dX5_write_33 : decode cX5_write 33 = .ok (.aload_n 0, 1) := by decide +kernel
theorem dX5_write_34 : decode cX5_write 34 = .ok (.getfield 19, 3) := by decide +kernel
theorem dX5_write_37 : decode cX5_write 37 = .ok (.iload_n 1, 1) := by decide +kernel
theorem dX5_write_38 : decode cX5_write 38 = .ok (.iconst 0, 1) := by decide +kernel
theorem dX5_write_39 : decode cX5_write 39 = .ok (.invokevirtual 205, 3) := by decide +kernel
theorem dX5_write_42 : decode cX5_write 42 = .ok (.aload_n 0, 1) := by decide +kernel
theorem dX5_write_43 : decode cX5_write 43 = .ok (.getfield 26, 3) := by decide +kernel
theorem dX5_write_46 : decode cX5_write 46 = .ok (.getfield 202, 3) := by decide +kernel
theorem dX5_write_49 : decode cX5_write 49 = .ok (.ireturn, 1) := by decide +kernel
theorem dX5_byteAt_0 : decode cX5_byteAt 0 = .ok (.iload_n 1, 1) := by decide +kernel
theorem dX5_byteAt_1 : decode cX5_byteAt 1 = .ok (.ifCond .lt 14, 3) := by decide +kernel
theorem dX5_byteAt_4 : decode cX5_byteAt 4 = .ok (.iload_n 1, 1) := by decide +kernel
theorem dX5_byteAt_5 : decode cX5_byteAt 5 = .ok (.aload_n 0, 1) := by decide +kernel
theorem dX5_byteAt_6 : decode cX5_byteAt 6 = .ok (.getfield 26, 3) := by decide +kernel
theorem dX5_byteAt_9 : decode cX5_byteAt 9 = .ok (.getfield 202, 3) := by decide +kernel
theorem dX5_byteAt_12 : decode cX5_byteAt 12 = .ok (.if_icmp .lt 13, 3) := by decide +kernel
theorem dX5_byteAt_15 : decode cX5_byteAt 15 = .ok (.new 41, 3) := by decide +kernel
theorem dX5_byteAt_18 : decode cX5_byteAt 18 = .ok (.dup, 1) := by decide +kernel
theorem dX5_byteAt_19 : decode cX5_byteAt 19 = .ok (.ldc 209, 2) := by decide +kernel
theorem dX5_byteAt_21 : decode cX5_byteAt 21 = .ok (.invokespecial 45, 3) := by decide +kernel
theorem dX5_byteAt_24 : decode cX5_byteAt 24 = .ok (.athrow, 1) := by decide +kernel
theorem dX5_byteAt_25 : decode cX5_byteAt 25 = .ok (.aload_n 0, 1) := by decide +kernel
theorem dX5_byteAt_26 : decode cX5_byteAt 26 = .ok (.getfield 26, 3) := by decide +kernel
theorem dX5_byteAt_29 : decode cX5_byteAt 29 = .ok (.getfield 211, 3) := by decide +kernel
theorem dX5_byteAt_32 : decode cX5_byteAt 32 = .ok (.iload_n 1, 1) := by decide +kernel
theorem dX5_byteAt_33 : decode cX5_byteAt 33 = .ok (.iaload, 1) := by decide +kernel
theorem dX5_byteAt_34 : decode cX5_byteAt 34 = .ok (.ireturn, 1) := by decide +kernel
set_option maxRecDepth 20000 in
theorem ggX5_feed_X4_append : GoodIn wsX5_feed wsX4_append := goodIn_r _ [9, 10, 11, 16, 17, 18, 19, 20] (by decide +kernel) (by decide +kernel)
set_option maxRecDepth 20000 in
theorem gX5_feed_X4_append : GoodIn wsX5_feed (wsV RX5 217 RX4 yX4_append wsX4_append) := goodIn_app (goodIn_of _ (by decide +kernel)) ggX5_feed_X4_append
theorem dX5_feed_0 : decode cX5_feed 0 = .ok (.aload_n 0, 1) := by decide +kernel
theorem dX5_feed_1 : decode cX5_feed 1 = .ok (.getfield 33, 3) := by decide +kernel
theorem dX5_feed_4 : decode cX5_feed 4 = .ok (.getfield 214, 3) := by decide +kernel
theorem dX5_feed_7 : decode cX5_feed 7 = .ok (.bipush 20, 2) := by decide +kernel
theorem dX5_feed_9 : decode cX5_feed 9 = .ok (.iadd, 1) := by decide +kernel
theorem dX5_feed_10 : decode cX5_feed 10 = .ok (.sipush 300, 3) := by decide +kernel
theorem dX5_feed_13 : decode cX5_feed 13 = .ok (.if_icmp .le 13, 3) := by decide +kernel
theorem dX5_feed_16 : decode cX5_feed 16 = .ok (.new 93, 3) := by decide +kernel
theorem dX5_feed_19 : decode cX5_feed 19 = .ok (.dup, 1) := by decide +kernel
theorem dX5_feed_20 : decode cX5_feed 20 = .ok (.ldc 215, 2) := by decide +kernel
theorem dX5_feed_22 : decode cX5_feed 22 = .ok (.invokespecial 97, 3) := by decide +kernel
theorem dX5_feed_25 : decode cX5_feed 25 = .ok (.athrow, 1) := by decide +kernel
theorem dX5_feed_26 : decode cX5_feed 26 = .ok (.aload_n 0, 1) := by decide +kernel
theorem dX5_feed_27 : decode cX5_feed 27 = .ok (.getfield 33, 3) := by decide +kernel
theorem dX5_feed_30 : decode cX5_feed 30 = .ok (.iload_n 1, 1) := by decide +kernel
theorem dX5_feed_31 : decode cX5_feed 31 = .ok (.invokevirtual 217, 3) := by decide +kernel
theorem dX5_feed_34 : decode cX5_feed 34 = .ok (.aload_n 0, 1) := by decide +kernel
theorem dX5_feed_35 : decode cX5_feed 35 = .ok (.getfield 33, 3) := by decide +kernel
theorem dX5_feed_38 : decode cX5_feed 38 = .ok (.iload_n 2, 1) := by decide +kernel
theorem dX5_feed_39 : decode cX5_feed 39 = .ok (.invokevirtual 217, 3) := by decide +kernel
theorem dX5_feed_42 : decode cX5_feed 42 = .ok (.aload_n 0, 1) := by decide +kernel
theorem dX5_feed_43 : decode cX5_feed 43 = .ok (.getfield 33, 3) := by decide +kernel
theorem dX5_feed_46 : decode cX5_feed 46 = .ok (.iload_n 3, 1) := by decide +kernel
theorem dX5_feed_47 : decode cX5_feed 47 = .ok (.invokevirtual 217, 3) := by decide +kernel
theorem dX5_feed_50 : decode cX5_feed 50 = .ok (.aload_n 0, 1) := by decide +kernel
theorem dX5_feed_51 : decode cX5_feed 51 = .ok (.getfield 33, 3) := by decide +kernel
theorem dX5_feed_54 : decode cX5_feed 54 = .ok (.iload 4, 2) := by decide +kernel
theorem dX5_feed_56 : decode cX5_feed 56 = .ok (.invokevirtual 217, 3) := by decide +kernel
theorem dX5_feed_59 : decode cX5_feed 59 = .ok (.aload_n 0, 1) := by decide +kernel
theorem dX5_feed_60 : decode cX5_feed 60 = .ok (.getfield 33, 3) := by decide +kernel
theorem dX5_feed_63 : decode cX5_feed 63 = .ok (.iload 5, 2) := by decide +kernel
theorem dX5_feed_65 : decode cX5_feed 65 = .ok (.invokevirtual 217, 3) := by decide +kernel
theorem dX5_feed_68 : decode cX5_feed 68 = .ok (.aload_n 0, 1) := by decide +kernel
theorem dX5_feed_69 : decode cX5_feed 69 = .ok (.getfield 33, 3) := by decide +kernel
theorem dX5_feed_72 : decode cX5_feed 72 = .ok (.getfield 214, 3) := by decide +kernel
theorem dX5_feed_75 : decode cX5_feed 75 = .ok (.ireturn, 1) := by decide +kernel
theorem dX5_trim_0 : decode cX5_trim 0 = .ok (.iload_n 1, 1) := by decide +kernel
theorem dX5_trim_1 : decode cX5_trim 1 = .ok (.ifCond .lt 14, 3) := by decide +kernel
theorem dX5_trim_4 : decode cX5_trim 4 = .ok (.iload_n 1, 1) := by decide +kernel
theorem dX5_trim_5 : decode cX5_trim 5 = .ok (.aload_n 0, 1) := by decide +kernel
theorem dX5_trim_6 : decode cX5_trim 6 = .ok (.getfield 33, 3) := by decide +kernel
theorem dX5_trim_9 : decode cX5_trim 9 = .ok (.getfield 214, 3) := by decide +kernel
theorem dX5_trim_12 : decode cX5_trim 12 = .ok (.if_icmp .le 13, 3) := by decide +kernel
theorem dX5_trim_15 : decode cX5_trim 15 = .ok (.new 56, 3) := by decide +kernel
theorem dX5_trim_18 : decode cX5_trim 18 = .ok (.dup, 1) := by decide +kernel
theorem dX5_trim_19 : decode cX5_trim 19 = .ok (.ldc 221, 2) := by decide +kernel
theorem dX5_trim_21 : decode cX5_trim 21 = .ok (.invokespecial 60, 3) := by decide +kernel
theorem dX5_trim_24 : decode cX5_trim 24 = .ok (.athrow, 1) := by decide +kernel
theorem dX5_trim_25 : decode cX5_trim 25 = .ok (.aload_n 0, 1) := by decide +kernel
theorem dX5_trim_26 : decode cX5_trim 26 = .ok (.getfield 33, 3) := by decide +kernel
theorem dX5_trim_29 : decode cX5_trim 29 = .ok (.iload_n 1, 1) := by decide +kernel
theorem dX5_trim_30 : decode cX5_trim 30 = .ok (.putfield 214, 3) := by decide +kernel
theorem dX5_trim_33 : decode cX5_trim 33 = .ok (.iload_n 1, 1) := by decide +kernel
theorem dX5_trim_34 : decode cX5_trim 34 = .ok (.ireturn, 1) := by decide +kernel
set_option maxRecDepth 20000 in
theorem ggX5_read_X4_takeFormula : GoodIn wsX5_read wsX4_takeFormula := goodIn_r _ [6, 7, 8, 9, 10, 11, 12, 13, 5, 14, 15, 16, 17, 18, 19, 20, 21, 22, 23, 24, 25, 26, 27, 28, 29, 30, 31, 32, 33, 34, 35, 36, 37, 38, 39, 40, 41, 42, 43, 44, 45, 46, 47, 48, 49, 50, 51, 52, 53, 54, 55, 56, 57, 58, 59, 60, 61, 62, 63, 64, 65, 66, 67, 68, 69, 70, 71, 72, 73, 74, 79, 80, 81, 82, 83] (by decide +kernel) (by decide +kernel)
set_option maxRecDepth 20000 in
theorem gX5_read_X4_takeFormula : GoodIn wsX5_read (wsV RX5 223 RX4 yX4_takeFormula wsX4_takeFormula) := goodIn_app (goodIn_of _ (by decide +kernel)) ggX5_read_X4_takeFormula
theorem dX5_read_0 : decode cX5_read 0 = .ok (.aload_n 0, 1) := by decide +kernel
theorem dX5_read_1 : decode cX5_read 1 = .ok (.getfield 33, 3) := by decide +kernel
theorem dX5_read_4 : decode cX5_read 4 = .ok (.invokevirtual 223, 3) := by decide +kernel
theorem dX5_read_7 : decode cX5_read 7 = .ok (.ireturn, 1) := by decide +kernel
theorem dX5_result_0 : decode cX5_result 0 = .ok (.aload_n 0, 1) := by decide +kernel
theorem dX5_result_1 : decode cX5_result 1 = .ok (.getfield 33, 3) := by decide +kernel
theorem dX5_result_4 : decode cX5_result 4 = .ok (.getfield 226, 3) := by decide +kernel
theorem dX5_result_7 : decode cX5_result 7 = .ok (.lreturn, 1) := by decide +kernel
set_option maxRecDepth 20000 in
theorem ggX5_digest_X3_addTo : GoodIn wsX5_digest wsX3_addTo := goodIn_r _ [12, 13, 14, 15, 16, 17, 18, 19, 20, 21, 22, 11, 23, 56, 57, 58] (by decide +kernel) (by decide +kernel)
set_option maxRecDepth 20000 in
theorem gX5_digest_X3_addTo : GoodIn wsX5_digest (wsV RX5 232 RX3 yX3_addTo wsX3_addTo) := goodIn_app (goodIn_of _ (by decide +kernel)) ggX5_digest_X3_addTo
set_option maxRecDepth 20000 in
theorem ggX5_digest_X2_addTo : GoodIn wsX5_digest wsX2_addTo := goodIn_r _ [28, 29, 30, 31, 32, 33, 16, 17, 18, 19, 34, 35, 36, 27, 37, 38, 59, 60, 61, 62, 63, 64, 65, 66] (by decide +kernel) (by decide +kernel)
set_option maxRecDepth 20000 in
theorem gX5_digest_X2_addTo : GoodIn wsX5_digest (wsV RX5 235 RX2 yX2_addTo wsX2_addTo) := goodIn_app (goodIn_of _ (by decide +kernel)) ggX5_digest_X2_addTo
set_option maxRecDepth 20000 in
theorem ggX5_digest_X1_addTo : GoodIn wsX5_digest wsX1_addTo := goodIn_r _ [43, 44, 45, 16, 17, 18, 19, 67, 68] (by decide +kernel) (by decide +kernel)
set_option maxRecDepth 20000 in
theorem gX5_digest_X1_addTo : GoodIn wsX5_digest (wsV RX5 236 RX1 yX1_addTo wsX1_addTo) := goodIn_app (goodIn_of _ (by decide +kernel)) ggX5_digest_X1_addTo
set_option maxRecDepth 20000 in
theorem ggX5_digest_X5_added : GoodIn wsX5_digest wsX5_added := goodIn_r _ [18, 19] (by decide +kernel) (by decide +kernel)
set_option maxRecDepth 20000 in
theorem gX5_digest_X5_added : GoodIn wsX5_digest (va_wsS RX5 237 yX5_added wsX5_added) := goodIn_app (goodIn_of _ (by decide +kernel)) ggX5_digest_X5_added
theorem dX5_digest_0 : decode cX5_digest 0 = .ok (.aload_n 0, 1) := by decide +kernel
theorem dX5_digest_1 : decode cX5_digest 1 = .ok (.getfield 10, 3) := by decide +kernel
theorem dX5_digest_4 : decode cX5_digest 4 = .ok (.ldc2_w 230, 3) := by decide +kernel
theorem dX5_digest_7 : decode cX5_digest 7 = .ok (.invokevirtual 232, 3) := by decide +kernel
theorem dX5_digest_10 : decode cX5_digest 10 = .ok (.lstore_n 1, 1) := by decide +kernel
theorem dX5_digest_11 : decode cX5_digest 11 = .ok (.aload_n 0, 1) := by decide +kernel
theorem dX5_digest_12 : decode cX5_digest 12 = .ok (.getfield 19, 3) := by decide +kernel
theorem dX5_digest_15 : decode cX5_digest 15 = .ok (.lload_n 1, 1) := by decide +kernel
theorem dX5_digest_16 : decode cX5_digest 16 = .ok (.invokevirtual 235, 3) := by decide +kernel
theorem dX5_digest_19 : decode cX5_digest 19 = .ok (.lstore_n 1, 1) := by decide +kernel
theorem dX5_digest_20 : decode cX5_digest 20 = .ok (.aload_n 0, 1) := by decide +kernel
theorem dX5_digest_21 : decode cX5_digest 21 = .ok (.getfield 26, 3) := by decide +kernel
theorem dX5_digest_24 : decode cX5_digest 24 = .ok (.lload_n 1, 1) := by decide +kernel
theorem dX5_digest_25 : decode cX5_digest 25 = .ok (.invokevirtual 236, 3) := by decide +kernel
theorem dX5_digest_28 : decode cX5_digest 28 = .ok (.lstore_n 1, 1) := by decide +kernel
theorem dX5_digest_29 : decode cX5_digest 29 = .ok (.lload_n 1, 1) := by decide +kernel
theorem dX5_digest_30 : decode cX5_digest 30 = .ok (.aload_n 0, 1) := by decide +kernel
theorem dX5_digest_31 : decode cX5_digest 31 = .ok (.getfield 33, 3) := by decide +kernel
theorem dX5_digest_34 : decode cX5_digest 34 = .ok (.getfield 214, 3) := by decide +kernel
theorem dX5_digest_37 : decode cX5_digest 37 = .ok (.i2l, 1) := by decide +kernel
theorem dX5_digest_38 : decode cX5_digest 38 = .ok (.invokestatic 237, 3) := by decide +kernel
theorem dX5_digest_41 : decode cX5_digest 41 = .ok (.lstore_n 1, 1) := by decide +kernel
theorem dX5_digest_42 : decode cX5_digest 42 = .ok (.lload_n 1, 1) := by decide +kernel
theorem dX5_digest_43 : decode cX5_digest 43 = .ok (.aload_n 0, 1) := by decide +kernel
theorem dX5_digest_44 : decode cX5_digest 44 = .ok (.getfield 33, 3) := by decide +kernel
theorem dX5_digest_47 : decode cX5_digest 47 = .ok (.getfield 226, 3) := by decide +kernel
theorem dX5_digest_50 : decode cX5_digest 50 = .ok (.invokestatic 237, 3) := by decide +kernel
theorem dX5_digest_53 : decode cX5_digest 53 = .ok (.lreturn, 1) := by decide +kernel
theorem dX5_added_0 : decode cX5_added 0 = .ok (.lload_n 0, 1) := by decide +kernel
theorem dX5_added_1 : decode cX5_added 1 = .ok (.ldc2_w 240, 3) := by decide +kernel
theorem dX5_added_4 : decode cX5_added 4 = .ok (.lmul, 1) := by decide +kernel
theorem dX5_added_5 : decode cX5_added 5 = .ok (.lload_n 2, 1) := by decide +kernel
theorem dX5_added_6 : decode cX5_added 6 = .ok (.ladd, 1) := by decide +kernel
theorem dX5_added_7 : decode cX5_added 7 = .ok (.lreturn, 1) := by decide +kernel
theorem dX5_isOperation_0 : decode cX5_isOperation 0 = .ok (.iload_n 0, 1) := by decide +kernel
theorem dX5_isOperation_1 : decode cX5_isOperation 1 = .ok (.ifCond .lt 13, 3) := by decide +kernel
theorem dX5_isOperation_4 : decode cX5_isOperation 4 = .ok (.iload_n 0, 1) := by decide +kernel
theorem dX5_isOperation_5 : decode cX5_isOperation 5 = .ok (.bipush 10, 2) := by decide +kernel
theorem dX5_isOperation_7 : decode cX5_isOperation 7 = .ok (.if_icmp .ge 7, 3) := by decide +kernel
theorem dX5_isOperation_10 : decode cX5_isOperation 10 = .ok (.iconst 1, 1) := by decide +kernel
theorem dX5_isOperation_11 : decode cX5_isOperation 11 = .ok (.goto 4, 3) := by decide +kernel
theorem dX5_isOperation_14 : decode cX5_isOperation 14 = .ok (.iconst 0, 1) := by decide +kernel
theorem dX5_isOperation_15 : decode cX5_isOperation 15 = .ok (.ireturn, 1) := by decide +kernel
theorem dX5_isInput_0 : decode cX5_isInput 0 = .ok (.iload_n 0, 1) := by decide +kernel
theorem dX5_isInput_1 : decode cX5_isInput 1 = .ok (.ifCond .lt 13, 3) := by decide +kernel
theorem dX5_isInput_4 : decode cX5_isInput 4 = .ok (.iload_n 0, 1) := by decide +kernel
theorem dX5_isInput_5 : decode cX5_isInput 5 = .ok (.bipush 16, 2) := by decide +kernel
theorem dX5_isInput_7 : decode cX5_isInput 7 = .ok (.if_icmp .ge 7, 3) := by decide +kernel
theorem dX5_isInput_10 : decode cX5_isInput 10 = .ok (.iconst 1, 1) := by decide +kernel
theorem dX5_isInput_11 : decode cX5_isInput 11 = .ok (.goto 4, 3) := by decide +kernel
theorem dX5_isInput_14 : decode cX5_isInput 14 = .ok (.iconst 0, 1) := by decide +kernel
theorem dX5_isInput_15 : decode cX5_isInput 15 = .ok (.ireturn, 1) := by decide +kernel
theorem dX5_isCost_0 : decode cX5_isCost 0 = .ok (.iload_n 0, 1) := by decide +kernel
theorem dX5_isCost_1 : decode cX5_isCost 1 = .ok (.ifCond .lt 13, 3) := by decide +kernel
theorem dX5_isCost_4 : decode cX5_isCost 4 = .ok (.iload_n 0, 1) := by decide +kernel
theorem dX5_isCost_5 : decode cX5_isCost 5 = .ok (.bipush 6, 2) := by decide +kernel
theorem dX5_isCost_7 : decode cX5_isCost 7 = .ok (.if_icmp .gt 7, 3) := by decide +kernel
theorem dX5_isCost_10 : decode cX5_isCost 10 = .ok (.iconst 1, 1) := by decide +kernel
theorem dX5_isCost_11 : decode cX5_isCost 11 = .ok (.goto 4, 3) := by decide +kernel
theorem dX5_isCost_14 : decode cX5_isCost 14 = .ok (.iconst 0, 1) := by decide +kernel
theorem dX5_isCost_15 : decode cX5_isCost 15 = .ok (.ireturn, 1) := by decide +kernel
theorem dX5_hasTwoArguments_0 : decode cX5_hasTwoArguments 0 = .ok (.iload_n 0, 1) := by decide +kernel
theorem dX5_hasTwoArguments_1 : decode cX5_hasTwoArguments 1 = .ok (.iconst 4, 1) := by decide +kernel
theorem dX5_hasTwoArguments_2 : decode cX5_hasTwoArguments 2 = .ok (.if_icmp .lt 13, 3) := by decide +kernel
theorem dX5_hasTwoArguments_5 : decode cX5_hasTwoArguments 5 = .ok (.iload_n 0, 1) := by decide +kernel
theorem dX5_hasTwoArguments_6 : decode cX5_hasTwoArguments 6 = .ok (.bipush 10, 2) := by decide +kernel
theorem dX5_hasTwoArguments_8 : decode cX5_hasTwoArguments 8 = .ok (.if_icmp .ge 7, 3) := by decide +kernel
theorem dX5_hasTwoArguments_11 : decode cX5_hasTwoArguments 11 = .ok (.iconst 1, 1) := by decide +kernel
theorem dX5_hasTwoArguments_12 : decode cX5_hasTwoArguments 12 = .ok (.goto 4, 3) := by decide +kernel
theorem dX5_hasTwoArguments_15 : decode cX5_hasTwoArguments 15 = .ok (.iconst 0, 1) := by decide +kernel
theorem dX5_hasTwoArguments_16 : decode cX5_hasTwoArguments 16 = .ok (.ireturn, 1) := by decide +kernel
theorem dX5_countOn_0 : decode cX5_countOn 0 = .ok (.iconst 0, 1) := by decide +kernel
theorem dX5_countOn_1 : decode cX5_countOn 1 = .ok (.istore_n 1, 1) := by decide +kernel
theorem dX5_countOn_2 : decode cX5_countOn 2 = .ok (.aload_n 0, 1) := by decide +kernel
theorem dX5_countOn_3 : decode cX5_countOn 3 = .ok (.astore_n 2, 1) := by decide +kernel
theorem dX5_countOn_4 : decode cX5_countOn 4 = .ok (.aload_n 2, 1) := by decide +kernel
theorem dX5_countOn_5 : decode cX5_countOn 5 = .ok (.arraylength, 1) := by decide +kernel
theorem dX5_countOn_6 : decode cX5_countOn 6 = .ok (.istore_n 3, 1) := by decide +kernel
theorem dX5_countOn_7 : decode cX5_countOn 7 = .ok (.iconst 0, 1) := by decide +kernel
theorem dX5_countOn_8 : decode cX5_countOn 8 = .ok (.istore 4, 2) := by decide +kernel
theorem dX5_countOn_10 : decode cX5_countOn 10 = .ok (.iload 4, 2) := by decide +kernel
theorem dX5_countOn_12 : decode cX5_countOn 12 = .ok (.iload_n 3, 1) := by decide +kernel
theorem dX5_countOn_13 : decode cX5_countOn 13 = .ok (.if_icmp .ge 28, 3) := by decide +kernel
theorem dX5_countOn_16 : decode cX5_countOn 16 = .ok (.aload_n 2, 1) := by decide +kernel
theorem dX5_countOn_17 : decode cX5_countOn 17 = .ok (.iload 4, 2) := by decide +kernel
theorem dX5_countOn_19 : decode cX5_countOn 19 = .ok (.baload, 1) := by decide +kernel
theorem dX5_countOn_20 : decode cX5_countOn 20 = .ok (.istore 5, 2) := by decide +kernel
theorem dX5_countOn_22 : decode cX5_countOn 22 = .ok (.iload_n 1, 1) := by decide +kernel
theorem dX5_countOn_23 : decode cX5_countOn 23 = .ok (.iload 5, 2) := by decide +kernel
theorem dX5_countOn_25 : decode cX5_countOn 25 = .ok (.ifCond .eq 7, 3) := by decide +kernel
theorem dX5_countOn_28 : decode cX5_countOn 28 = .ok (.iconst 1, 1) := by decide +kernel
theorem dX5_countOn_29 : decode cX5_countOn 29 = .ok (.goto 4, 3) := by decide +kernel
theorem dX5_countOn_32 : decode cX5_countOn 32 = .ok (.iconst 0, 1) := by decide +kernel
theorem dX5_countOn_33 : decode cX5_countOn 33 = .ok (.iadd, 1) := by decide +kernel
theorem dX5_countOn_34 : decode cX5_countOn 34 = .ok (.istore_n 1, 1) := by decide +kernel
theorem dX5_countOn_35 : decode cX5_countOn 35 = .ok (.iinc 4 1, 3) := by decide +kernel
theorem dX5_countOn_38 : decode cX5_countOn 38 = .ok (.goto (-28), 3) := by decide +kernel
theorem dX5_countOn_41 : decode cX5_countOn 41 = .ok (.iload_n 1, 1) := by decide +kernel
theorem dX5_countOn_42 : decode cX5_countOn 42 = .ok (.ireturn, 1) := by decide +kernel
theorem dJ6_bitCount_0f7a4_0 : decode cJ6_bitCount_0f7a4 0 = .ok (.iload_n 0, 1) := by decide +kernel
theorem dJ6_bitCount_0f7a4_1 : decode cJ6_bitCount_0f7a4 1 = .ok (.iload_n 0, 1) := by decide +kernel
theorem dJ6_bitCount_0f7a4_2 : decode cJ6_bitCount_0f7a4 2 = .ok (.iconst 1, 1) := by decide +kernel
theorem dJ6_bitCount_0f7a4_3 : decode cJ6_bitCount_0f7a4 3 = .ok (.iushr, 1) := by decide +kernel
theorem dJ6_bitCount_0f7a4_4 : decode cJ6_bitCount_0f7a4 4 = .ok (.ldc_w 265, 3) := by decide +kernel
theorem dJ6_bitCount_0f7a4_7 : decode cJ6_bitCount_0f7a4 7 = .ok (.iand, 1) := by decide +kernel
theorem dJ6_bitCount_0f7a4_8 : decode cJ6_bitCount_0f7a4 8 = .ok (.isub, 1) := by decide +kernel
theorem dJ6_bitCount_0f7a4_9 : decode cJ6_bitCount_0f7a4 9 = .ok (.istore_n 0, 1) := by decide +kernel
theorem dJ6_bitCount_0f7a4_10 : decode cJ6_bitCount_0f7a4 10 = .ok (.iload_n 0, 1) := by decide +kernel
theorem dJ6_bitCount_0f7a4_11 : decode cJ6_bitCount_0f7a4 11 = .ok (.ldc_w 266, 3) := by decide +kernel
theorem dJ6_bitCount_0f7a4_14 : decode cJ6_bitCount_0f7a4 14 = .ok (.iand, 1) := by decide +kernel
theorem dJ6_bitCount_0f7a4_15 : decode cJ6_bitCount_0f7a4 15 = .ok (.iload_n 0, 1) := by decide +kernel
theorem dJ6_bitCount_0f7a4_16 : decode cJ6_bitCount_0f7a4 16 = .ok (.iconst 2, 1) := by decide +kernel
theorem dJ6_bitCount_0f7a4_17 : decode cJ6_bitCount_0f7a4 17 = .ok (.iushr, 1) := by decide +kernel
theorem dJ6_bitCount_0f7a4_18 : decode cJ6_bitCount_0f7a4 18 = .ok (.ldc_w 266, 3) := by decide +kernel
theorem dJ6_bitCount_0f7a4_21 : decode cJ6_bitCount_0f7a4 21 = .ok (.iand, 1) := by decide +kernel
theorem dJ6_bitCount_0f7a4_22 : decode cJ6_bitCount_0f7a4 22 = .ok (.iadd, 1) := by decide +kernel
theorem dJ6_bitCount_0f7a4_23 : decode cJ6_bitCount_0f7a4 23 = .ok (.istore_n 0, 1) := by decide +kernel
theorem dJ6_bitCount_0f7a4_24 : decode cJ6_bitCount_0f7a4 24 = .ok (.iload_n 0, 1) := by decide +kernel
theorem dJ6_bitCount_0f7a4_25 : decode cJ6_bitCount_0f7a4 25 = .ok (.iload_n 0, 1) := by decide +kernel
theorem dJ6_bitCount_0f7a4_26 : decode cJ6_bitCount_0f7a4 26 = .ok (.iconst 4, 1) := by decide +kernel
theorem dJ6_bitCount_0f7a4_27 : decode cJ6_bitCount_0f7a4 27 = .ok (.iushr, 1) := by decide +kernel
theorem dJ6_bitCount_0f7a4_28 : decode cJ6_bitCount_0f7a4 28 = .ok (.iadd, 1) := by decide +kernel
theorem dJ6_bitCount_0f7a4_29 : decode cJ6_bitCount_0f7a4 29 = .ok (.ldc_w 267, 3) := by decide +kernel
theorem dJ6_bitCount_0f7a4_32 : decode cJ6_bitCount_0f7a4 32 = .ok (.iand, 1) := by decide +kernel
theorem dJ6_bitCount_0f7a4_33 : decode cJ6_bitCount_0f7a4 33 = .ok (.istore_n 0, 1) := by decide +kernel
theorem dJ6_bitCount_0f7a4_34 : decode cJ6_bitCount_0f7a4 34 = .ok (.iload_n 0, 1) := by decide +kernel
theorem dJ6_bitCount_0f7a4_35 : decode cJ6_bitCount_0f7a4 35 = .ok (.iload_n 0, 1) := by decide +kernel
theorem dJ6_bitCount_0f7a4_36 : decode cJ6_bitCount_0f7a4 36 = .ok (.bipush 8, 2) := by decide +kernel
theorem dJ6_bitCount_0f7a4_38 : decode cJ6_bitCount_0f7a4 38 = .ok (.iushr, 1) := by decide +kernel
theorem dJ6_bitCount_0f7a4_39 : decode cJ6_bitCount_0f7a4 39 = .ok (.iadd, 1) := by decide +kernel
theorem dJ6_bitCount_0f7a4_40 : decode cJ6_bitCount_0f7a4 40 = .ok (.istore_n 0, 1) := by decide +kernel
theorem dJ6_bitCount_0f7a4_41 : decode cJ6_bitCount_0f7a4 41 = .ok (.iload_n 0, 1) := by decide +kernel
theorem dJ6_bitCount_0f7a4_42 : decode cJ6_bitCount_0f7a4 42 = .ok (.iload_n 0, 1) := by decide +kernel
theorem dJ6_bitCount_0f7a4_43 : decode cJ6_bitCount_0f7a4 43 = .ok (.bipush 16, 2) := by decide +kernel
theorem dJ6_bitCount_0f7a4_45 : decode cJ6_bitCount_0f7a4 45 = .ok (.iushr, 1) := by decide +kernel
theorem dJ6_bitCount_0f7a4_46 : decode cJ6_bitCount_0f7a4 46 = .ok (.iadd, 1) := by decide +kernel
theorem dJ6_bitCount_0f7a4_47 : decode cJ6_bitCount_0f7a4 47 = .ok (.istore_n 0, 1) := by decide +kernel
theorem dJ6_bitCount_0f7a4_48 : decode cJ6_bitCount_0f7a4 48 = .ok (.iload_n 0, 1) := by decide +kernel
theorem dJ6_bitCount_0f7a4_49 : decode cJ6_bitCount_0f7a4 49 = .ok (.bipush 63, 2) := by decide +kernel
theorem dJ6_bitCount_0f7a4_51 : decode cJ6_bitCount_0f7a4 51 = .ok (.iand, 1) := by decide +kernel
theorem dJ6_bitCount_0f7a4_52 : decode cJ6_bitCount_0f7a4 52 = .ok (.ireturn, 1) := by decide +kernel
theorem dJ13_bitCount_95d88_0 : decode cJ13_bitCount_95d88 0 = .ok (.lload_n 0, 1) := by decide +kernel
theorem dJ13_bitCount_95d88_1 : decode cJ13_bitCount_95d88 1 = .ok (.lload_n 0, 1) := by decide +kernel
theorem dJ13_bitCount_95d88_2 : decode cJ13_bitCount_95d88 2 = .ok (.iconst 1, 1) := by decide +kernel
theorem dJ13_bitCount_95d88_3 : decode cJ13_bitCount_95d88 3 = .ok (.lushr, 1) := by decide +kernel
theorem dJ13_bitCount_95d88_4 : decode cJ13_bitCount_95d88 4 = .ok (.ldc2_w 314, 3) := by decide +kernel
theorem dJ13_bitCount_95d88_7 : decode cJ13_bitCount_95d88 7 = .ok (.land, 1) := by decide +kernel
theorem dJ13_bitCount_95d88_8 : decode cJ13_bitCount_95d88 8 = .ok (.lsub, 1) := by decide +kernel
theorem dJ13_bitCount_95d88_9 : decode cJ13_bitCount_95d88 9 = .ok (.lstore_n 0, 1) := by decide +kernel
theorem dJ13_bitCount_95d88_10 : decode cJ13_bitCount_95d88 10 = .ok (.lload_n 0, 1) := by decide +kernel
theorem dJ13_bitCount_95d88_11 : decode cJ13_bitCount_95d88 11 = .ok (.ldc2_w 316, 3) := by decide +kernel
theorem dJ13_bitCount_95d88_14 : decode cJ13_bitCount_95d88 14 = .ok (.land, 1) := by decide +kernel
theorem dJ13_bitCount_95d88_15 : decode cJ13_bitCount_95d88 15 = .ok (.lload_n 0, 1) := by decide +kernel
theorem dJ13_bitCount_95d88_16 : decode cJ13_bitCount_95d88 16 = .ok (.iconst 2, 1) := by decide +kernel
theorem dJ13_bitCount_95d88_17 : decode cJ13_bitCount_95d88 17 = .ok (.lushr, 1) := by decide +kernel
theorem dJ13_bitCount_95d88_18 : decode cJ13_bitCount_95d88 18 = .ok (.ldc2_w 316, 3) := by decide +kernel
theorem dJ13_bitCount_95d88_21 : decode cJ13_bitCount_95d88 21 = .ok (.land, 1) := by decide +kernel
theorem dJ13_bitCount_95d88_22 : decode cJ13_bitCount_95d88 22 = .ok (.ladd, 1) := by decide +kernel
theorem dJ13_bitCount_95d88_23 : decode cJ13_bitCount_95d88 23 = .ok (.lstore_n 0, 1) := by decide +kernel
theorem dJ13_bitCount_95d88_24 : decode cJ13_bitCount_95d88 24 = .ok (.lload_n 0, 1) := by decide +kernel
theorem dJ13_bitCount_95d88_25 : decode cJ13_bitCount_95d88 25 = .ok (.lload_n 0, 1) := by decide +kernel
theorem dJ13_bitCount_95d88_26 : decode cJ13_bitCount_95d88 26 = .ok (.iconst 4, 1) := by decide +kernel
theorem dJ13_bitCount_95d88_27 : decode cJ13_bitCount_95d88 27 = .ok (.lushr, 1) := by decide +kernel
theorem dJ13_bitCount_95d88_28 : decode cJ13_bitCount_95d88 28 = .ok (.ladd, 1) := by decide +kernel
theorem dJ13_bitCount_95d88_29 : decode cJ13_bitCount_95d88 29 = .ok (.ldc2_w 318, 3) := by decide +kernel
theorem dJ13_bitCount_95d88_32 : decode cJ13_bitCount_95d88 32 = .ok (.land, 1) := by decide +kernel
theorem dJ13_bitCount_95d88_33 : decode cJ13_bitCount_95d88 33 = .ok (.lstore_n 0, 1) := by decide +kernel
theorem dJ13_bitCount_95d88_34 : decode cJ13_bitCount_95d88 34 = .ok (.lload_n 0, 1) := by decide +kernel
theorem dJ13_bitCount_95d88_35 : decode cJ13_bitCount_95d88 35 = .ok (.lload_n 0, 1) := by decide +kernel
theorem dJ13_bitCount_95d88_36 : decode cJ13_bitCount_95d88 36 = .ok (.bipush 8, 2) := by decide +kernel
theorem dJ13_bitCount_95d88_38 : decode cJ13_bitCount_95d88 38 = .ok (.lushr, 1) := by decide +kernel
theorem dJ13_bitCount_95d88_39 : decode cJ13_bitCount_95d88 39 = .ok (.ladd, 1) := by decide +kernel
theorem dJ13_bitCount_95d88_40 : decode cJ13_bitCount_95d88 40 = .ok (.lstore_n 0, 1) := by decide +kernel
theorem dJ13_bitCount_95d88_41 : decode cJ13_bitCount_95d88 41 = .ok (.lload_n 0, 1) := by decide +kernel
theorem dJ13_bitCount_95d88_42 : decode cJ13_bitCount_95d88 42 = .ok (.lload_n 0, 1) := by decide +kernel
theorem dJ13_bitCount_95d88_43 : decode cJ13_bitCount_95d88 43 = .ok (.bipush 16, 2) := by decide +kernel
theorem dJ13_bitCount_95d88_45 : decode cJ13_bitCount_95d88 45 = .ok (.lushr, 1) := by decide +kernel
theorem dJ13_bitCount_95d88_46 : decode cJ13_bitCount_95d88 46 = .ok (.ladd, 1) := by decide +kernel
theorem dJ13_bitCount_95d88_47 : decode cJ13_bitCount_95d88 47 = .ok (.lstore_n 0, 1) := by decide +kernel
theorem dJ13_bitCount_95d88_48 : decode cJ13_bitCount_95d88 48 = .ok (.lload_n 0, 1) := by decide +kernel
theorem dJ13_bitCount_95d88_49 : decode cJ13_bitCount_95d88 49 = .ok (.lload_n 0, 1) := by decide +kernel
theorem dJ13_bitCount_95d88_50 : decode cJ13_bitCount_95d88 50 = .ok (.bipush 32, 2) := by decide +kernel
theorem dJ13_bitCount_95d88_52 : decode cJ13_bitCount_95d88 52 = .ok (.lushr, 1) := by decide +kernel
theorem dJ13_bitCount_95d88_53 : decode cJ13_bitCount_95d88 53 = .ok (.ladd, 1) := by decide +kernel
theorem dJ13_bitCount_95d88_54 : decode cJ13_bitCount_95d88 54 = .ok (.lstore_n 0, 1) := by decide +kernel
theorem dJ13_bitCount_95d88_55 : decode cJ13_bitCount_95d88 55 = .ok (.lload_n 0, 1) := by decide +kernel
theorem dJ13_bitCount_95d88_56 : decode cJ13_bitCount_95d88 56 = .ok (.l2i, 1) := by decide +kernel
theorem dJ13_bitCount_95d88_57 : decode cJ13_bitCount_95d88 57 = .ok (.bipush 127, 2) := by decide +kernel
theorem dJ13_bitCount_95d88_59 : decode cJ13_bitCount_95d88 59 = .ok (.iand, 1) := by decide +kernel
theorem dJ13_bitCount_95d88_60 : decode cJ13_bitCount_95d88 60 = .ok (.ireturn, 1) := by decide +kernel
theorem dJ7_fill_53178_0 : decode cJ7_fill_53178 0 = .ok (.iconst 0, 1) := by decide +kernel
theorem dJ7_fill_53178_1 : decode cJ7_fill_53178 1 = .ok (.istore_n 2, 1) := by decide +kernel
theorem dJ7_fill_53178_2 : decode cJ7_fill_53178 2 = .ok (.aload_n 0, 1) := by decide +kernel
theorem dJ7_fill_53178_3 : decode cJ7_fill_53178 3 = .ok (.arraylength, 1) := by decide +kernel
theorem dJ7_fill_53178_4 : decode cJ7_fill_53178 4 = .ok (.istore_n 3, 1) := by decide +kernel
theorem dJ7_fill_53178_5 : decode cJ7_fill_53178 5 = .ok (.iload_n 2, 1) := by decide +kernel
theorem dJ7_fill_53178_6 : decode cJ7_fill_53178 6 = .ok (.iload_n 3, 1) := by decide +kernel
theorem dJ7_fill_53178_7 : decode cJ7_fill_53178 7 = .ok (.if_icmp .ge 13, 3) := by decide +kernel
theorem dJ7_fill_53178_10 : decode cJ7_fill_53178 10 = .ok (.aload_n 0, 1) := by decide +kernel
theorem dJ7_fill_53178_11 : decode cJ7_fill_53178 11 = .ok (.iload_n 2, 1) := by decide +kernel
theorem dJ7_fill_53178_12 : decode cJ7_fill_53178 12 = .ok (.iload_n 1, 1) := by decide +kernel
theorem dJ7_fill_53178_13 : decode cJ7_fill_53178 13 = .ok (.iastore, 1) := by decide +kernel
theorem dJ7_fill_53178_14 : decode cJ7_fill_53178 14 = .ok (.iinc 2 1, 3) := by decide +kernel
theorem dJ7_fill_53178_17 : decode cJ7_fill_53178 17 = .ok (.goto (-12), 3) := by decide +kernel
theorem dJ7_fill_53178_20 : decode cJ7_fill_53178 20 = .ok (.return_, 1) := by decide +kernel
end
section
theorem dX6_init_0 : decode cX6_init 0 = .ok (.aload_n 0, 1) := by decide +kernel
theorem dX6_init_1 : decode cX6_init 1 = .ok (.invokespecial 1, 3) := by decide +kernel
theorem dX6_init_4 : decode cX6_init 4 = .ok (.aload_n 0, 1) := by decide +kernel
theorem dX6_init_5 : decode cX6_init 5 = .ok (.bipush 10, 2) := by decide +kernel
theorem dX6_init_7 : decode cX6_init 7 = .ok (.newarray .int, 2) := by decide +kernel
theorem dX6_init_9 : decode cX6_init 9 = .ok (.putfield 9, 3) := by decide +kernel
theorem dX6_init_12 : decode cX6_init 12 = .ok (.aload_n 0, 1) := by decide +kernel
theorem dX6_init_13 : decode cX6_init 13 = .ok (.bipush 10, 2) := by decide +kernel
theorem dX6_init_15 : decode cX6_init 15 = .ok (.newarray .boolean, 2) := by decide +kernel
theorem dX6_init_17 : decode cX6_init 17 = .ok (.putfield 13, 3) := by decide +kernel
theorem dX6_init_20 : decode cX6_init 20 = .ok (.aload_n 0, 1) := by decide +kernel
theorem dX6_init_21 : decode cX6_init 21 = .ok (.iconst 1, 1) := by decide +kernel
theorem dX6_init_22 : decode cX6_init 22 = .ok (.putfield 17, 3) := by decide +kernel
theorem dX6_init_25 : decode cX6_init 25 = .ok (.aload_n 0, 1) := by decide +kernel
theorem dX6_init_26 : decode cX6_init 26 = .ok (.bipush 16, 2) := by decide +kernel
theorem dX6_init_28 : decode cX6_init 28 = .ok (.newarray .boolean, 2) := by decide +kernel
theorem dX6_init_30 : decode cX6_init 30 = .ok (.putfield 21, 3) := by decide +kernel
theorem dX6_init_33 : decode cX6_init 33 = .ok (.aload_n 0, 1) := by decide +kernel
theorem dX6_init_34 : decode cX6_init 34 = .ok (.sipush 2000, 3) := by decide +kernel
theorem dX6_init_37 : decode cX6_init 37 = .ok (.newarray .long, 2) := by decide +kernel
theorem dX6_init_39 : decode cX6_init 39 = .ok (.putfield 24, 3) := by decide +kernel
theorem dX6_init_42 : decode cX6_init 42 = .ok (.aload_n 0, 1) := by decide +kernel
theorem dX6_init_43 : decode cX6_init 43 = .ok (.sipush 2000, 3) := by decide +kernel
theorem dX6_init_46 : decode cX6_init 46 = .ok (.newarray .int, 2) := by decide +kernel
theorem dX6_init_48 : decode cX6_init 48 = .ok (.putfield 28, 3) := by decide +kernel
theorem dX6_init_51 : decode cX6_init 51 = .ok (.aload_n 0, 1) := by decide +kernel
theorem dX6_init_52 : decode cX6_init 52 = .ok (.sipush 2000, 3) := by decide +kernel
theorem dX6_init_55 : decode cX6_init 55 = .ok (.newarray .int, 2) := by decide +kernel
theorem dX6_init_57 : decode cX6_init 57 = .ok (.putfield 31, 3) := by decide +kernel
theorem dX6_init_60 : decode cX6_init 60 = .ok (.aload_n 0, 1) := by decide +kernel
theorem dX6_init_61 : decode cX6_init 61 = .ok (.sipush 2000, 3) := by decide +kernel
theorem dX6_init_64 : decode cX6_init 64 = .ok (.newarray .int, 2) := by decide +kernel
theorem dX6_init_66 : decode cX6_init 66 = .ok (.putfield 34, 3) := by decide +kernel
theorem dX6_init_69 : decode cX6_init 69 = .ok (.aload_n 0, 1) := by decide +kernel
theorem dX6_init_70 : decode cX6_init 70 = .ok (.sipush 2000, 3) := by decide +kernel
theorem dX6_init_73 : decode cX6_init 73 = .ok (.newarray .int, 2) := by decide +kernel
theorem dX6_init_75 : decode cX6_init 75 = .ok (.putfield 37, 3) := by decide +kernel
theorem dX6_init_78 : decode cX6_init 78 = .ok (.aload_n 0, 1) := by decide +kernel
theorem dX6_init_79 : decode cX6_init 79 = .ok (.sipush 1024, 3) := by decide +kernel
theorem dX6_init_82 : decode cX6_init 82 = .ok (.newarray .int, 2) := by decide +kernel
theorem dX6_init_84 : decode cX6_init 84 = .ok (.putfield 40, 3) := by decide +kernel
theorem dX6_init_87 : decode cX6_init 87 = .ok (.aload_n 0, 1) := by decide +kernel
theorem dX6_init_88 : decode cX6_init 88 = .ok (.sipush 2000, 3) := by decide +kernel
theorem dX6_init_91 : decode cX6_init 91 = .ok (.newarray .int, 2) := by decide +kernel
theorem dX6_init_93 : decode cX6_init 93 = .ok (.putfield 43, 3) := by decide +kernel
theorem dX6_init_96 : decode cX6_init 96 = .ok (.aload_n 0, 1) := by decide +kernel
theorem dX6_init_97 : decode cX6_init 97 = .ok (.bipush 8, 2) := by decide +kernel
theorem dX6_init_99 : decode cX6_init 99 = .ok (.newarray .int, 2) := by decide +kernel
theorem dX6_init_101 : decode cX6_init 101 = .ok (.putfield 46, 3) := by decide +kernel
theorem dX6_init_104 : decode cX6_init 104 = .ok (.aload_n 0, 1) := by decide +kernel
theorem dX6_init_105 : decode cX6_init 105 = .ok (.sipush 400, 3) := by decide +kernel
theorem dX6_init_108 : decode cX6_init 108 = .ok (.newarray .int, 2) := by decide +kernel
theorem dX6_init_110 : decode cX6_init 110 = .ok (.putfield 49, 3) := by decide +kernel
theorem dX6_init_113 : decode cX6_init 113 = .ok (.aload_n 0, 1) := by decide +kernel
theorem dX6_init_114 : decode cX6_init 114 = .ok (.sipush 300, 3) := by decide +kernel
theorem dX6_init_117 : decode cX6_init 117 = .ok (.newarray .int, 2) := by decide +kernel
theorem dX6_init_119 : decode cX6_init 119 = .ok (.putfield 52, 3) := by decide +kernel
theorem dX6_init_122 : decode cX6_init 122 = .ok (.iconst 0, 1) := by decide +kernel
theorem dX6_init_123 : decode cX6_init 123 = .ok (.istore_n 1, 1) := by decide +kernel
theorem dX6_init_124 : decode cX6_init 124 = .ok (.iload_n 1, 1) := by decide +kernel
theorem dX6_init_125 : decode cX6_init 125 = .ok (.bipush 10, 2) := by decide +kernel
theorem dX6_init_127 : decode cX6_init 127 = .ok (.if_icmp .ge 33, 3) := by decide +kernel
theorem dX6_init_130 : decode cX6_init 130 = .ok (.aload_n 0, 1) := by decide +kernel
theorem dX6_init_131 : decode cX6_init 131 = .ok (.getfield 9, 3) := by decide +kernel
theorem dX6_init_134 : decode cX6_init 134 = .ok (.iload_n 1, 1) := by decide +kernel
theorem dX6_init_135 : decode cX6_init 135 = .ok (.iconst 1, 1) := by decide +kernel
theorem dX6_init_136 : decode cX6_init 136 = .ok (.iastore, 1) := by decide +kernel
theorem dX6_init_137 : decode cX6_init 137 = .ok (.aload_n 0, 1) := by decide +kernel
theorem dX6_init_138 : decode cX6_init 138 = .ok (.getfield 13, 3) := by decide +kernel
theorem dX6_init_141 : decode cX6_init 141 = .ok (.iload_n 1, 1) := by decide +kernel
theorem dX6_init_142 : decode cX6_init 142 = .ok (.iload_n 1, 1) := by decide +kernel
theorem dX6_init_143 : decode cX6_init 143 = .ok (.bipush 9, 2) := by decide +kernel
theorem dX6_init_145 : decode cX6_init 145 = .ok (.if_icmp .ge 7, 3) := by decide +kernel
theorem dX6_init_148 : decode cX6_init 148 = .ok (.iconst 1, 1) := by decide +kernel
theorem dX6_init_149 : decode cX6_init 149 = .ok (.goto 4, 3) := by decide +kernel
theorem dX6_init_152 : decode cX6_init 152 = .ok (.iconst 0, 1) := by decide +kernel
theorem dX6_init_153 : decode cX6_init 153 = .ok (.bastore, 1) := by decide +kernel
theorem dX6_init_154 : decode cX6_init 154 = .ok (.iinc 1 1, 3) := by decide +kernel
theorem dX6_init_157 : decode cX6_init 157 = .ok (.goto (-33), 3) := by decide +kernel
theorem dX6_init_160 : decode cX6_init 160 = .ok (.aload_n 0, 1) := by decide +kernel
theorem dX6_init_161 : decode cX6_init 161 = .ok (.getfield 21, 3) := by decide +kernel
theorem dX6_init_164 : decode cX6_init 164 = .ok (.iconst 1, 1) := by decide +kernel
theorem dX6_init_165 : decode cX6_init 165 = .ok (.iconst 1, 1) := by decide +kernel
theorem dX6_init_166 : decode cX6_init 166 = .ok (.bastore, 1) := by decide +kernel
theorem dX6_init_167 : decode cX6_init 167 = .ok (.return_, 1) := by decide +kernel
theorem dX6_thrown_0 : decode cX6_thrown 0 = .ok (.aload_n 0, 1) := by decide +kernel
theorem dX6_thrown_1 : decode cX6_thrown 1 = .ok (.getfield 55, 3) := by decide +kernel
theorem dX6_thrown_4 : decode cX6_thrown 4 = .ok (.ireturn, 1) := by decide +kernel
theorem dX6_no_0 : decode cX6_no 0 = .ok (.aload_n 0, 1) := by decide +kernel
theorem dX6_no_1 : decode cX6_no 1 = .ok (.iload_n 1, 1) := by decide +kernel
theorem dX6_no_2 : decode cX6_no 2 = .ok (.putfield 55, 3) := by decide +kernel
theorem dX6_no_5 : decode cX6_no 5 = .ok (.iconst 0, 1) := by decide +kernel
theorem dX6_no_6 : decode cX6_no 6 = .ok (.ireturn, 1) := by decide +kernel
theorem dX6_isIn_0 : decode cX6_isIn 0 = .ok (.iload_n 0, 1) := by decide +kernel
theorem dX6_isIn_1 : decode cX6_isIn 1 = .ok (.iload_n 1, 1) := by decide +kernel
theorem dX6_isIn_2 : decode cX6_isIn 2 = .ok (.if_icmp .lt 12, 3) := by decide +kernel
theorem dX6_isIn_5 : decode cX6_isIn 5 = .ok (.iload_n 0, 1) := by decide +kernel
theorem dX6_isIn_6 : decode cX6_isIn 6 = .ok (.iload_n 2, 1) := by decide +kernel
theorem dX6_isIn_7 : decode cX6_isIn 7 = .ok (.if_icmp .gt 7, 3) := by decide +kernel
theorem dX6_isIn_10 : decode cX6_isIn 10 = .ok (.iconst 1, 1) := by decide +kernel
theorem dX6_isIn_11 : decode cX6_isIn 11 = .ok (.goto 4, 3) := by decide +kernel
theorem dX6_isIn_14 : decode cX6_isIn 14 = .ok (.iconst 0, 1) := by decide +kernel
theorem dX6_isIn_15 : decode cX6_isIn 15 = .ok (.ireturn, 1) := by decide +kernel
theorem dX6_count_0 : decode cX6_count 0 = .ok (.iconst 0, 1) := by decide +kernel
theorem dX6_count_1 : decode cX6_count 1 = .ok (.istore_n 1, 1) := by decide +kernel
theorem dX6_count_2 : decode cX6_count 2 = .ok (.aload_n 0, 1) := by decide +kernel
theorem dX6_count_3 : decode cX6_count 3 = .ok (.astore_n 2, 1) := by decide +kernel
theorem dX6_count_4 : decode cX6_count 4 = .ok (.aload_n 2, 1) := by decide +kernel
theorem dX6_count_5 : decode cX6_count 5 = .ok (.arraylength, 1) := by decide +kernel
theorem dX6_count_6 : decode cX6_count 6 = .ok (.istore_n 3, 1) := by decide +kernel
theorem dX6_count_7 : decode cX6_count 7 = .ok (.iconst 0, 1) := by decide +kernel
theorem dX6_count_8 : decode cX6_count 8 = .ok (.istore 4, 2) := by decide +kernel
theorem dX6_count_10 : decode cX6_count 10 = .ok (.iload 4, 2) := by decide +kernel
theorem dX6_count_12 : decode cX6_count 12 = .ok (.iload_n 3, 1) := by decide +kernel
theorem dX6_count_13 : decode cX6_count 13 = .ok (.if_icmp .ge 28, 3) := by decide +kernel
theorem dX6_count_16 : decode cX6_count 16 = .ok (.aload_n 2, 1) := by decide +kernel
theorem dX6_count_17 : decode cX6_count 17 = .ok (.iload 4, 2) := by decide +kernel
theorem dX6_count_19 : decode cX6_count 19 = .ok (.baload, 1) := by decide +kernel
theorem dX6_count_20 : decode cX6_count 20 = .ok (.istore 5, 2) := by decide +kernel
theorem dX6_count_22 : decode cX6_count 22 = .ok (.iload_n 1, 1) := by decide +kernel
theorem dX6_count_23 : decode cX6_count 23 = .ok (.iload 5, 2) := by decide +kernel
theorem dX6_count_25 : decode cX6_count 25 = .ok (.ifCond .eq 7, 3) := by decide +kernel
theorem dX6_count_28 : decode cX6_count 28 = .ok (.iconst 1, 1) := by decide +kernel
theorem dX6_count_29 : decode cX6_count 29 = .ok (.goto 4, 3) := by decide +kernel
theorem dX6_count_32 : decode cX6_count 32 = .ok (.iconst 0, 1) := by decide +kernel
theorem dX6_count_33 : decode cX6_count 33 = .ok (.iadd, 1) := by decide +kernel
theorem dX6_count_34 : decode cX6_count 34 = .ok (.istore_n 1, 1) := by decide +kernel
theorem dX6_count_35 : decode cX6_count 35 = .ok (.iinc 4 1, 3) := by decide +kernel
theorem dX6_count_38 : decode cX6_count 38 = .ok (.goto (-28), 3) := by decide +kernel
theorem dX6_count_41 : decode cX6_count 41 = .ok (.iload_n 1, 1) := by decide +kernel
theorem dX6_count_42 : decode cX6_count 42 = .ok (.ireturn, 1) := by decide +kernel
set_option maxRecDepth 20000 in
theorem ggX6_allow_X6_isIn : GoodIn wsX6_allow wsX6_isIn := goodIn_r _ [6] (by decide +kernel) (by decide +kernel)
set_option maxRecDepth 20000 in
theorem gX6_allow_X6_isIn : GoodIn wsX6_allow (va_wsS RX6 58 yX6_isIn wsX6_isIn) := goodIn_app (goodIn_of _ (by decide +kernel)) ggX6_allow_X6_isIn
set_option maxRecDepth 20000 in
theorem ggX6_allow_X6_no : GoodIn wsX6_allow wsX6_no := goodIn_r _ [10, 1, 14, 15, 16, 17, 18, 19, 20, 21, 22, 23, 24, 25, 26, 27, 28, 29, 30, 31, 32, 33, 34] (by decide +kernel) (by decide +kernel)
set_option maxRecDepth 20000 in
theorem gX6_allow_X6_no : GoodIn wsX6_allow (wsV RX6 62 RX6 yX6_no wsX6_no) := goodIn_app (goodIn_of _ (by decide +kernel)) ggX6_allow_X6_no
set_option maxRecDepth 20000 in
theorem ggX6_allow_X6_count : GoodIn wsX6_allow wsX6_count := goodIn_r _ [13] (by decide +kernel) (by decide +kernel)
set_option maxRecDepth 20000 in
theorem gX6_allow_X6_count : GoodIn wsX6_allow (va_wsS RX6 66 yX6_count wsX6_count) := goodIn_app (goodIn_of _ (by decide +kernel)) ggX6_allow_X6_count
theorem dX6_allow_0 : decode cX6_allow 0 = .ok (.aload_n 0, 1) := by decide +kernel
theorem dX6_allow_1 : decode cX6_allow 1 = .ok (.iconst 0, 1) := by decide +kernel
theorem dX6_allow_2 : decode cX6_allow 2 = .ok (.putfield 55, 3) := by decide +kernel
theorem dX6_allow_5 : decode cX6_allow 5 = .ok (.iload_n 1, 1) := by decide +kernel
theorem dX6_allow_6 : decode cX6_allow 6 = .ok (.iconst 0, 1) := by decide +kernel
theorem dX6_allow_7 : decode cX6_allow 7 = .ok (.bipush 9, 2) := by decide +kernel
theorem dX6_allow_9 : decode cX6_allow 9 = .ok (.invokestatic 58, 3) := by decide +kernel
theorem dX6_allow_12 : decode cX6_allow 12 = .ok (.ifCond .ne 9, 3) := by decide +kernel
theorem dX6_allow_15 : decode cX6_allow 15 = .ok (.aload_n 0, 1) := by decide +kernel
theorem dX6_allow_16 : decode cX6_allow 16 = .ok (.iconst 1, 1) := by decide +kernel
theorem dX6_allow_17 : decode cX6_allow 17 = .ok (.invokevirtual 62, 3) := by decide +kernel
theorem dX6_allow_20 : decode cX6_allow 20 = .ok (.ireturn, 1) := by decide +kernel
theorem dX6_allow_21 : decode cX6_allow 21 = .ok (.aload_n 0, 1) := by decide +kernel
theorem dX6_allow_22 : decode cX6_allow 22 = .ok (.getfield 13, 3) := by decide +kernel
theorem dX6_allow_25 : decode cX6_allow 25 = .ok (.iload_n 1, 1) := by decide +kernel
theorem dX6_allow_26 : decode cX6_allow 26 = .ok (.iload_n 2, 1) := by decide +kernel
theorem dX6_allow_27 : decode cX6_allow 27 = .ok (.bastore, 1) := by decide +kernel
theorem dX6_allow_28 : decode cX6_allow 28 = .ok (.aload_n 0, 1) := by decide +kernel
theorem dX6_allow_29 : decode cX6_allow 29 = .ok (.getfield 13, 3) := by decide +kernel
theorem dX6_allow_32 : decode cX6_allow 32 = .ok (.invokestatic 66, 3) := by decide +kernel
theorem dX6_allow_35 : decode cX6_allow 35 = .ok (.ireturn, 1) := by decide +kernel
set_option maxRecDepth 20000 in
theorem ggX6_setPrice_X6_isIn : GoodIn wsX6_setPrice wsX6_isIn := goodIn_r _ [7] (by decide +kernel) (by decide +kernel)
set_option maxRecDepth 20000 in
theorem gX6_setPrice_X6_isIn : GoodIn wsX6_setPrice (va_wsS RX6 58 yX6_isIn wsX6_isIn) := goodIn_app (goodIn_of _ (by decide +kernel)) ggX6_setPrice_X6_isIn
set_option maxRecDepth 20000 in
theorem ggX6_setPrice_X6_no : GoodIn wsX6_setPrice wsX6_no := goodIn_r _ [11, 1, 12, 13, 14, 15, 16, 17, 18, 19, 20, 21, 22, 23, 24, 25, 26, 27, 28, 29, 30, 31, 32] (by decide +kernel) (by decide +kernel)
set_option maxRecDepth 20000 in
theorem gX6_setPrice_X6_no : GoodIn wsX6_setPrice (wsV RX6 62 RX6 yX6_no wsX6_no) := goodIn_app (goodIn_of _ (by decide +kernel)) ggX6_setPrice_X6_no
theorem dX6_setPrice_0 : decode cX6_setPrice 0 = .ok (.aload_n 0, 1) := by decide +kernel
theorem dX6_setPrice_1 : decode cX6_setPrice 1 = .ok (.iconst 0, 1) := by decide +kernel
theorem dX6_setPrice_2 : decode cX6_setPrice 2 = .ok (.putfield 55, 3) := by decide +kernel
theorem dX6_setPrice_5 : decode cX6_setPrice 5 = .ok (.iload_n 1, 1) := by decide +kernel
theorem dX6_setPrice_6 : decode cX6_setPrice 6 = .ok (.iconst 0, 1) := by decide +kernel
theorem dX6_setPrice_7 : decode cX6_setPrice 7 = .ok (.bipush 10, 2) := by decide +kernel
theorem dX6_setPrice_9 : decode cX6_setPrice 9 = .ok (.invokestatic 58, 3) := by decide +kernel
theorem dX6_setPrice_12 : decode cX6_setPrice 12 = .ok (.ifCond .ne 9, 3) := by decide +kernel
theorem dX6_setPrice_15 : decode cX6_setPrice 15 = .ok (.aload_n 0, 1) := by decide +kernel
theorem dX6_setPrice_16 : decode cX6_setPrice 16 = .ok (.iconst 1, 1) := by decide +kernel
theorem dX6_setPrice_17 : decode cX6_setPrice 17 = .ok (.invokevirtual 62, 3) := by decide +kernel
theorem dX6_setPrice_20 : decode cX6_setPrice 20 = .ok (.ireturn, 1) := by decide +kernel
theorem dX6_setPrice_21 : decode cX6_setPrice 21 = .ok (.iload_n 2, 1) := by decide +kernel
theorem dX6_setPrice_22 : decode cX6_setPrice 22 = .ok (.iload_n 1, 1) := by decide +kernel
theorem dX6_setPrice_23 : decode cX6_setPrice 23 = .ok (.bipush 10, 2) := by decide +kernel
theorem dX6_setPrice_25 : decode cX6_setPrice 25 = .ok (.if_icmp .ne 7, 3) := by decide +kernel
theorem dX6_setPrice_28 : decode cX6_setPrice 28 = .ok (.iconst 0, 1) := by decide +kernel
theorem dX6_setPrice_29 : decode cX6_setPrice 29 = .ok (.goto 4, 3) := by decide +kernel
theorem dX6_setPrice_32 : decode cX6_setPrice 32 = .ok (.iconst 1, 1) := by decide +kernel
theorem dX6_setPrice_33 : decode cX6_setPrice 33 = .ok (.iconst 5, 1) := by decide +kernel
theorem dX6_setPrice_34 : decode cX6_setPrice 34 = .ok (.invokestatic 58, 3) := by decide +kernel
theorem dX6_setPrice_37 : decode cX6_setPrice 37 = .ok (.ifCond .ne 9, 3) := by decide +kernel
theorem dX6_setPrice_40 : decode cX6_setPrice 40 = .ok (.aload_n 0, 1) := by decide +kernel
theorem dX6_setPrice_41 : decode cX6_setPrice 41 = .ok (.iconst 2, 1) := by decide +kernel
theorem dX6_setPrice_42 : decode cX6_setPrice 42 = .ok (.invokevirtual 62, 3) := by decide +kernel
theorem dX6_setPrice_45 : decode cX6_setPrice 45 = .ok (.ireturn, 1) := by decide +kernel
theorem dX6_setPrice_46 : decode cX6_setPrice 46 = .ok (.iload_n 1, 1) := by decide +kernel
theorem dX6_setPrice_47 : decode cX6_setPrice 47 = .ok (.bipush 10, 2) := by decide +kernel
theorem dX6_setPrice_49 : decode cX6_setPrice 49 = .ok (.if_icmp .ne 10, 3) := by decide +kernel
theorem dX6_setPrice_52 : decode cX6_setPrice 52 = .ok (.aload_n 0, 1) := by decide +kernel
theorem dX6_setPrice_53 : decode cX6_setPrice 53 = .ok (.getfield 17, 3) := by decide +kernel
theorem dX6_setPrice_56 : decode cX6_setPrice 56 = .ok (.goto 9, 3) := by decide +kernel
theorem dX6_setPrice_59 : decode cX6_setPrice 59 = .ok (.aload_n 0, 1) := by decide +kernel
theorem dX6_setPrice_60 : decode cX6_setPrice 60 = .ok (.getfield 9, 3) := by decide +kernel
theorem dX6_setPrice_63 : decode cX6_setPrice 63 = .ok (.iload_n 1, 1) := by decide +kernel
theorem dX6_setPrice_64 : decode cX6_setPrice 64 = .ok (.iaload, 1) := by decide +kernel
theorem dX6_setPrice_65 : decode cX6_setPrice 65 = .ok (.istore_n 3, 1) := by decide +kernel
theorem dX6_setPrice_66 : decode cX6_setPrice 66 = .ok (.iload_n 1, 1) := by decide +kernel
theorem dX6_setPrice_67 : decode cX6_setPrice 67 = .ok (.bipush 10, 2) := by decide +kernel
theorem dX6_setPrice_69 : decode cX6_setPrice 69 = .ok (.if_icmp .ne 11, 3) := by decide +kernel
theorem dX6_setPrice_72 : decode cX6_setPrice 72 = .ok (.aload_n 0, 1) := by decide +kernel
theorem dX6_setPrice_73 : decode cX6_setPrice 73 = .ok (.iload_n 2, 1) := by decide +kernel
theorem dX6_setPrice_74 : decode cX6_setPrice 74 = .ok (.putfield 17, 3) := by decide +kernel
theorem dX6_setPrice_77 : decode cX6_setPrice 77 = .ok (.goto 10, 3) := by decide +kernel
theorem dX6_setPrice_80 : decode cX6_setPrice 80 = .ok (.aload_n 0, 1) := by decide +kernel
theorem dX6_setPrice_81 : decode cX6_setPrice 81 = .ok (.getfield 9, 3) := by decide +kernel
theorem dX6_setPrice_84 : decode cX6_setPrice 84 = .ok (.iload_n 1, 1) := by decide +kernel
theorem dX6_setPrice_85 : decode cX6_setPrice 85 = .ok (.iload_n 2, 1) := by decide +kernel
theorem dX6_setPrice_86 : decode cX6_setPrice 86 = .ok (.iastore, 1) := by decide +kernel
theorem dX6_setPrice_87 : decode cX6_setPrice 87 = .ok (.iload_n 3, 1) := by decide +kernel
theorem dX6_setPrice_88 : decode cX6_setPrice 88 = .ok (.ireturn, 1) := by decide +kernel
set_option maxRecDepth 20000 in
theorem ggX6_setConstant_X6_isIn : GoodIn wsX6_setConstant wsX6_isIn := goodIn_r _ [6] (by decide +kernel) (by decide +kernel)
set_option maxRecDepth 20000 in
theorem gX6_setConstant_X6_isIn : GoodIn wsX6_setConstant (va_wsS RX6 58 yX6_isIn wsX6_isIn) := goodIn_app (goodIn_of _ (by decide +kernel)) ggX6_setConstant_X6_isIn
set_option maxRecDepth 20000 in
theorem ggX6_setConstant_X6_no : GoodIn wsX6_setConstant wsX6_no := goodIn_r _ [10, 1, 14, 15, 16, 17, 18, 19, 20, 21, 22, 23, 24, 25, 26, 27, 28, 29, 30, 31, 32, 33, 34] (by decide +kernel) (by decide +kernel)
set_option maxRecDepth 20000 in
theorem gX6_setConstant_X6_no : GoodIn wsX6_setConstant (wsV RX6 62 RX6 yX6_no wsX6_no) := goodIn_app (goodIn_of _ (by decide +kernel)) ggX6_setConstant_X6_no
set_option maxRecDepth 20000 in
theorem ggX6_setConstant_X6_count : GoodIn wsX6_setConstant wsX6_count := goodIn_r _ [13] (by decide +kernel) (by decide +kernel)
set_option maxRecDepth 20000 in
theorem gX6_setConstant_X6_count : GoodIn wsX6_setConstant (va_wsS RX6 66 yX6_count wsX6_count) := goodIn_app (goodIn_of _ (by decide +kernel)) ggX6_setConstant_X6_count
theorem dX6_setConstant_0 : decode cX6_setConstant 0 = .ok (.aload_n 0, 1) := by decide +kernel
theorem dX6_setConstant_1 : decode cX6_setConstant 1 = .ok (.iconst 0, 1) := by decide +kernel
theorem dX6_setConstant_2 : decode cX6_setConstant 2 = .ok (.putfield 55, 3) := by decide +kernel
theorem dX6_setConstant_5 : decode cX6_setConstant 5 = .ok (.iload_n 1, 1) := by decide +kernel
theorem dX6_setConstant_6 : decode cX6_setConstant 6 = .ok (.iconst 0, 1) := by decide +kernel
theorem dX6_setConstant_7 : decode cX6_setConstant 7 = .ok (.bipush 15, 2) := by decide +kernel
theorem dX6_setConstant_9 : decode cX6_setConstant 9 = .ok (.invokestatic 58, 3) := by decide +kernel
theorem dX6_setConstant_12 : decode cX6_setConstant 12 = .ok (.ifCond .ne 9, 3) := by decide +kernel
theorem dX6_setConstant_15 : decode cX6_setConstant 15 = .ok (.aload_n 0, 1) := by decide +kernel
theorem dX6_setConstant_16 : decode cX6_setConstant 16 = .ok (.iconst 1, 1) := by decide +kernel
theorem dX6_setConstant_17 : decode cX6_setConstant 17 = .ok (.invokevirtual 62, 3) := by decide +kernel
theorem dX6_setConstant_20 : decode cX6_setConstant 20 = .ok (.ireturn, 1) := by decide +kernel
theorem dX6_setConstant_21 : decode cX6_setConstant 21 = .ok (.aload_n 0, 1) := by decide +kernel
theorem dX6_setConstant_22 : decode cX6_setConstant 22 = .ok (.getfield 21, 3) := by decide +kernel
theorem dX6_setConstant_25 : decode cX6_setConstant 25 = .ok (.iload_n 1, 1) := by decide +kernel
theorem dX6_setConstant_26 : decode cX6_setConstant 26 = .ok (.iload_n 2, 1) := by decide +kernel
theorem dX6_setConstant_27 : decode cX6_setConstant 27 = .ok (.bastore, 1) := by decide +kernel
theorem dX6_setConstant_28 : decode cX6_setConstant 28 = .ok (.aload_n 0, 1) := by decide +kernel
theorem dX6_setConstant_29 : decode cX6_setConstant 29 = .ok (.getfield 21, 3) := by decide +kernel
theorem dX6_setConstant_32 : decode cX6_setConstant 32 = .ok (.invokestatic 66, 3) := by decide +kernel
theorem dX6_setConstant_35 : decode cX6_setConstant 35 = .ok (.ireturn, 1) := by decide +kernel
theorem dX6_at_0 : decode cX6_at 0 = .ok (.lload_n 0, 1) := by decide +kernel
theorem dX6_at_1 : decode cX6_at 1 = .ok (.iconst 4, 1) := by decide +kernel
theorem dX6_at_2 : decode cX6_at 2 = .ok (.iload_n 2, 1) := by decide +kernel
theorem dX6_at_3 : decode cX6_at 3 = .ok (.imul, 1) := by decide +kernel
theorem dX6_at_4 : decode cX6_at 4 = .ok (.lushr, 1) := by decide +kernel
theorem dX6_at_5 : decode cX6_at 5 = .ok (.l2i, 1) := by decide +kernel
theorem dX6_at_6 : decode cX6_at 6 = .ok (.bipush 15, 2) := by decide +kernel
theorem dX6_at_8 : decode cX6_at 8 = .ok (.iand, 1) := by decide +kernel
theorem dX6_at_9 : decode cX6_at 9 = .ok (.ireturn, 1) := by decide +kernel
set_option maxRecDepth 20000 in
theorem ggX6_value_X6_isIn : GoodIn wsX6_value wsX6_isIn := goodIn_r _ [5] (by decide +kernel) (by decide +kernel)
set_option maxRecDepth 20000 in
theorem gX6_value_X6_isIn : GoodIn wsX6_value (va_wsS RX6 58 yX6_isIn wsX6_isIn) := goodIn_app (goodIn_of _ (by decide +kernel)) ggX6_value_X6_isIn
set_option maxRecDepth 20000 in
theorem ggX6_value_X6_at : GoodIn wsX6_value wsX6_at := goodIn_r _ [8] (by decide +kernel) (by decide +kernel)
set_option maxRecDepth 20000 in
theorem gX6_value_X6_at : GoodIn wsX6_value (va_wsS RX6 70 yX6_at wsX6_at) := goodIn_app (goodIn_of _ (by decide +kernel)) ggX6_value_X6_at
set_option maxRecDepth 20000 in
theorem ggX6_value_X6_no : GoodIn wsX6_value wsX6_no := goodIn_r _ [12, 1, 13, 14, 15, 16, 17, 18, 19, 20, 21, 22, 23, 24, 25, 26, 27, 28, 29, 30, 31, 32, 33] (by decide +kernel) (by decide +kernel)
set_option maxRecDepth 20000 in
theorem gX6_value_X6_no : GoodIn wsX6_value (wsV RX6 62 RX6 yX6_no wsX6_no) := goodIn_app (goodIn_of _ (by decide +kernel)) ggX6_value_X6_no
theorem dX6_value_0 : decode cX6_value 0 = .ok (.aload_n 0, 1) := by decide +kernel
theorem dX6_value_1 : decode cX6_value 1 = .ok (.iconst 0, 1) := by decide +kernel
theorem dX6_value_2 : decode cX6_value 2 = .ok (.putfield 55, 3) := by decide +kernel
theorem dX6_value_5 : decode cX6_value 5 = .ok (.iload_n 3, 1) := by decide +kernel
theorem dX6_value_6 : decode cX6_value 6 = .ok (.iconst 0, 1) := by decide +kernel
theorem dX6_value_7 : decode cX6_value 7 = .ok (.bipush 15, 2) := by decide +kernel
theorem dX6_value_9 : decode cX6_value 9 = .ok (.invokestatic 58, 3) := by decide +kernel
theorem dX6_value_12 : decode cX6_value 12 = .ok (.ifCond .eq 11, 3) := by decide +kernel
theorem dX6_value_15 : decode cX6_value 15 = .ok (.lload_n 1, 1) := by decide +kernel
theorem dX6_value_16 : decode cX6_value 16 = .ok (.iload_n 3, 1) := by decide +kernel
theorem dX6_value_17 : decode cX6_value 17 = .ok (.invokestatic 70, 3) := by decide +kernel
theorem dX6_value_20 : decode cX6_value 20 = .ok (.goto 8, 3) := by decide +kernel
theorem dX6_value_23 : decode cX6_value 23 = .ok (.aload_n 0, 1) := by decide +kernel
theorem dX6_value_24 : decode cX6_value 24 = .ok (.iconst 1, 1) := by decide +kernel
theorem dX6_value_25 : decode cX6_value 25 = .ok (.invokevirtual 62, 3) := by decide +kernel
theorem dX6_value_28 : decode cX6_value 28 = .ok (.ireturn, 1) := by decide +kernel
theorem dX6_reckon_0 : decode cX6_reckon 0 = .ok (.iload_n 0, 1) := by decide +kernel
theorem dX6_reckon_1 : decode cX6_reckon 1 = .ok (.tableswitch 92 0 8 #[51, 56, 61, 65, 69, 73, 77, 81, 85], 51) := by decide +kernel
theorem dX6_reckon_52 : decode cX6_reckon 52 = .ok (.bipush 15, 2) := by decide +kernel
theorem dX6_reckon_54 : decode cX6_reckon 54 = .ok (.iload_n 1, 1) := by decide +kernel
theorem dX6_reckon_55 : decode cX6_reckon 55 = .ok (.isub, 1) := by decide +kernel
theorem dX6_reckon_56 : decode cX6_reckon 56 = .ok (.ireturn, 1) := by decide +kernel
theorem dX6_reckon_57 : decode cX6_reckon 57 = .ok (.bipush 16, 2) := by decide +kernel
theorem dX6_reckon_59 : decode cX6_reckon 59 = .ok (.iload_n 1, 1) := by decide +kernel
theorem dX6_reckon_60 : decode cX6_reckon 60 = .ok (.isub, 1) := by decide +kernel
theorem dX6_reckon_61 : decode cX6_reckon 61 = .ok (.ireturn, 1) := by decide +kernel
theorem dX6_reckon_62 : decode cX6_reckon 62 = .ok (.iconst 2, 1) := by decide +kernel
theorem dX6_reckon_63 : decode cX6_reckon 63 = .ok (.iload_n 1, 1) := by decide +kernel
theorem dX6_reckon_64 : decode cX6_reckon 64 = .ok (.imul, 1) := by decide +kernel
theorem dX6_reckon_65 : decode cX6_reckon 65 = .ok (.ireturn, 1) := by decide +kernel
theorem dX6_reckon_66 : decode cX6_reckon 66 = .ok (.iload_n 1, 1) := by decide +kernel
theorem dX6_reckon_67 : decode cX6_reckon 67 = .ok (.iconst 2, 1) := by decide +kernel
theorem dX6_reckon_68 : decode cX6_reckon 68 = .ok (.idiv, 1) := by decide +kernel
theorem dX6_reckon_69 : decode cX6_reckon 69 = .ok (.ireturn, 1) := by decide +kernel
theorem dX6_reckon_70 : decode cX6_reckon 70 = .ok (.iload_n 1, 1) := by decide +kernel
theorem dX6_reckon_71 : decode cX6_reckon 71 = .ok (.iload_n 2, 1) := by decide +kernel
theorem dX6_reckon_72 : decode cX6_reckon 72 = .ok (.iand, 1) := by decide +kernel
theorem dX6_reckon_73 : decode cX6_reckon 73 = .ok (.ireturn, 1) := by decide +kernel
theorem dX6_reckon_74 : decode cX6_reckon 74 = .ok (.iload_n 1, 1) := by decide +kernel
theorem dX6_reckon_75 : decode cX6_reckon 75 = .ok (.iload_n 2, 1) := by decide +kernel
theorem dX6_reckon_76 : decode cX6_reckon 76 = .ok (.ior, 1) := by decide +kernel
theorem dX6_reckon_77 : decode cX6_reckon 77 = .ok (.ireturn, 1) := by decide +kernel
theorem dX6_reckon_78 : decode cX6_reckon 78 = .ok (.iload_n 1, 1) := by decide +kernel
theorem dX6_reckon_79 : decode cX6_reckon 79 = .ok (.iload_n 2, 1) := by decide +kernel
theorem dX6_reckon_80 : decode cX6_reckon 80 = .ok (.ixor, 1) := by decide +kernel
theorem dX6_reckon_81 : decode cX6_reckon 81 = .ok (.ireturn, 1) := by decide +kernel
theorem dX6_reckon_82 : decode cX6_reckon 82 = .ok (.iload_n 1, 1) := by decide +kernel
theorem dX6_reckon_83 : decode cX6_reckon 83 = .ok (.iload_n 2, 1) := by decide +kernel
theorem dX6_reckon_84 : decode cX6_reckon 84 = .ok (.iadd, 1) := by decide +kernel
theorem dX6_reckon_85 : decode cX6_reckon 85 = .ok (.ireturn, 1) := by decide +kernel
theorem dX6_reckon_86 : decode cX6_reckon 86 = .ok (.bipush 16, 2) := by decide +kernel
theorem dX6_reckon_88 : decode cX6_reckon 88 = .ok (.iload_n 1, 1) := by decide +kernel
theorem dX6_reckon_89 : decode cX6_reckon 89 = .ok (.iadd, 1) := by decide +kernel
theorem dX6_reckon_90 : decode cX6_reckon 90 = .ok (.iload_n 2, 1) := by decide +kernel
theorem dX6_reckon_91 : decode cX6_reckon 91 = .ok (.isub, 1) := by decide +kernel
theorem dX6_reckon_92 : decode cX6_reckon 92 = .ok (.ireturn, 1) := by decide +kernel
theorem dX6_reckon_93 : decode cX6_reckon 93 = .ok (.iload_n 1, 1) := by decide +kernel
theorem dX6_reckon_94 : decode cX6_reckon 94 = .ok (.iload_n 2, 1) := by decide +kernel
theorem dX6_reckon_95 : decode cX6_reckon 95 = .ok (.imul, 1) := by decide +kernel
theorem dX6_reckon_96 : decode cX6_reckon 96 = .ok (.ireturn, 1) := by decide +kernel
set_option maxRecDepth 20000 in
theorem ggX6_made_X6_at : GoodIn wsX6_made wsX6_at := goodIn_r _ [4] (by decide +kernel) (by decide +kernel)
set_option maxRecDepth 20000 in
theorem gX6_made_X6_at : GoodIn wsX6_made (va_wsS RX6 70 yX6_at wsX6_at) := goodIn_app (goodIn_of _ (by decide +kernel)) ggX6_made_X6_at
set_option maxRecDepth 20000 in
theorem ggX6_made_X6_reckon : GoodIn wsX6_made wsX6_reckon := goodIn_r _ [7] (by decide +kernel) (by decide +kernel)
set_option maxRecDepth 20000 in
theorem gX6_made_X6_reckon : GoodIn wsX6_made (va_wsS RX6 74 yX6_reckon wsX6_reckon) := goodIn_app (goodIn_of _ (by decide +kernel)) ggX6_made_X6_reckon
theorem dX6_made_0 : decode cX6_made 0 = .ok (.lconst 0, 1) := by decide +kernel
theorem dX6_made_1 : decode cX6_made 1 = .ok (.lstore 5, 2) := by decide +kernel
theorem dX6_made_3 : decode cX6_made 3 = .ok (.iconst 0, 1) := by decide +kernel
theorem dX6_made_4 : decode cX6_made 4 = .ok (.istore 7, 2) := by decide +kernel
theorem dX6_made_6 : decode cX6_made 6 = .ok (.iload 7, 2) := by decide +kernel
theorem dX6_made_8 : decode cX6_made 8 = .ok (.bipush 16, 2) := by decide +kernel
theorem dX6_made_10 : decode cX6_made 10 = .ok (.if_icmp .ge 39, 3) := by decide +kernel
theorem dX6_made_13 : decode cX6_made 13 = .ok (.lload 5, 2) := by decide +kernel
theorem dX6_made_15 : decode cX6_made 15 = .ok (.iload_n 0, 1) := by decide +kernel
theorem dX6_made_16 : decode cX6_made 16 = .ok (.lload_n 1, 1) := by decide +kernel
theorem dX6_made_17 : decode cX6_made 17 = .ok (.iload 7, 2) := by decide +kernel
theorem dX6_made_19 : decode cX6_made 19 = .ok (.invokestatic 70, 3) := by decide +kernel
theorem dX6_made_22 : decode cX6_made 22 = .ok (.lload_n 3, 1) := by decide +kernel
theorem dX6_made_23 : decode cX6_made 23 = .ok (.iload 7, 2) := by decide +kernel
theorem dX6_made_25 : decode cX6_made 25 = .ok (.invokestatic 70, 3) := by decide +kernel
theorem dX6_made_28 : decode cX6_made 28 = .ok (.invokestatic 74, 3) := by decide +kernel
theorem dX6_made_31 : decode cX6_made 31 = .ok (.bipush 16, 2) := by decide +kernel
theorem dX6_made_33 : decode cX6_made 33 = .ok (.irem, 1) := by decide +kernel
theorem dX6_made_34 : decode cX6_made 34 = .ok (.i2l, 1) := by decide +kernel
theorem dX6_made_35 : decode cX6_made 35 = .ok (.iconst 4, 1) := by decide +kernel
theorem dX6_made_36 : decode cX6_made 36 = .ok (.iload 7, 2) := by decide +kernel
theorem dX6_made_38 : decode cX6_made 38 = .ok (.imul, 1) := by decide +kernel
theorem dX6_made_39 : decode cX6_made 39 = .ok (.lshl, 1) := by decide +kernel
theorem dX6_made_40 : decode cX6_made 40 = .ok (.lor, 1) := by decide +kernel
theorem dX6_made_41 : decode cX6_made 41 = .ok (.lstore 5, 2) := by decide +kernel
theorem dX6_made_43 : decode cX6_made 43 = .ok (.iinc 7 1, 3) := by decide +kernel
theorem dX6_made_46 : decode cX6_made 46 = .ok (.goto (-40), 3) := by decide +kernel
theorem dX6_made_49 : decode cX6_made 49 = .ok (.lload 5, 2) := by decide +kernel
theorem dX6_made_51 : decode cX6_made 51 = .ok (.lreturn, 1) := by decide +kernel
set_option maxRecDepth 20000 in
theorem ggX6_apply_X6_isIn : GoodIn wsX6_apply wsX6_isIn := goodIn_r _ [5] (by decide +kernel) (by decide +kernel)
set_option maxRecDepth 20000 in
theorem gX6_apply_X6_isIn : GoodIn wsX6_apply (va_wsS RX6 58 yX6_isIn wsX6_isIn) := goodIn_app (goodIn_of _ (by decide +kernel)) ggX6_apply_X6_isIn
set_option maxRecDepth 20000 in
theorem ggX6_apply_X6_made : GoodIn wsX6_apply wsX6_made := goodIn_r _ [8, 9, 10, 4, 11, 12, 13, 14] (by decide +kernel) (by decide +kernel)
set_option maxRecDepth 20000 in
theorem gX6_apply_X6_made : GoodIn wsX6_apply (va_wsS RX6 78 yX6_made wsX6_made) := goodIn_app (goodIn_of _ (by decide +kernel)) ggX6_apply_X6_made
theorem dX6_apply_0 : decode cX6_apply 0 = .ok (.aload_n 0, 1) := by decide +kernel
theorem dX6_apply_1 : decode cX6_apply 1 = .ok (.iload_n 1, 1) := by decide +kernel
theorem dX6_apply_2 : decode cX6_apply 2 = .ok (.iconst 0, 1) := by decide +kernel
theorem dX6_apply_3 : decode cX6_apply 3 = .ok (.bipush 9, 2) := by decide +kernel
theorem dX6_apply_5 : decode cX6_apply 5 = .ok (.invokestatic 58, 3) := by decide +kernel
theorem dX6_apply_8 : decode cX6_apply 8 = .ok (.ifCond .eq 7, 3) := by decide +kernel
theorem dX6_apply_11 : decode cX6_apply 11 = .ok (.iconst 0, 1) := by decide +kernel
theorem dX6_apply_12 : decode cX6_apply 12 = .ok (.goto 4, 3) := by decide +kernel
theorem dX6_apply_15 : decode cX6_apply 15 = .ok (.iconst 1, 1) := by decide +kernel
theorem dX6_apply_16 : decode cX6_apply 16 = .ok (.putfield 55, 3) := by decide +kernel
theorem dX6_apply_19 : decode cX6_apply 19 = .ok (.aload_n 0, 1) := by decide +kernel
theorem dX6_apply_20 : decode cX6_apply 20 = .ok (.getfield 55, 3) := by decide +kernel
theorem dX6_apply_23 : decode cX6_apply 23 = .ok (.ifCond .ne 13, 3) := by decide +kernel
theorem dX6_apply_26 : decode cX6_apply 26 = .ok (.iload_n 1, 1) := by decide +kernel
theorem dX6_apply_27 : decode cX6_apply 27 = .ok (.lload_n 2, 1) := by decide +kernel
theorem dX6_apply_28 : decode cX6_apply 28 = .ok (.lload 4, 2) := by decide +kernel
theorem dX6_apply_30 : decode cX6_apply 30 = .ok (.invokestatic 78, 3) := by decide +kernel
theorem dX6_apply_33 : decode cX6_apply 33 = .ok (.goto 4, 3) := by decide +kernel
theorem dX6_apply_36 : decode cX6_apply 36 = .ok (.lconst 0, 1) := by decide +kernel
theorem dX6_apply_37 : decode cX6_apply 37 = .ok (.lreturn, 1) := by decide +kernel
set_option maxRecDepth 20000 in
theorem ggX6_compose_X6_at : GoodIn wsX6_compose wsX6_at := goodIn_r _ [5] (by decide +kernel) (by decide +kernel)
set_option maxRecDepth 20000 in
theorem gX6_compose_X6_at : GoodIn wsX6_compose (va_wsS RX6 70 yX6_at wsX6_at) := goodIn_app (goodIn_of _ (by decide +kernel)) ggX6_compose_X6_at
theorem dX6_compose_0 : decode cX6_compose 0 = .ok (.aload_n 0, 1) := by decide +kernel
theorem dX6_compose_1 : decode cX6_compose 1 = .ok (.iconst 0, 1) := by decide +kernel
theorem dX6_compose_2 : decode cX6_compose 2 = .ok (.putfield 55, 3) := by decide +kernel
theorem dX6_compose_5 : decode cX6_compose 5 = .ok (.lconst 0, 1) := by decide +kernel
theorem dX6_compose_6 : decode cX6_compose 6 = .ok (.lstore 5, 2) := by decide +kernel
theorem dX6_compose_8 : decode cX6_compose 8 = .ok (.iconst 0, 1) := by decide +kernel
theorem dX6_compose_9 : decode cX6_compose 9 = .ok (.istore 7, 2) := by decide +kernel
theorem dX6_compose_11 : decode cX6_compose 11 = .ok (.iload 7, 2) := by decide +kernel
theorem dX6_compose_13 : decode cX6_compose 13 = .ok (.bipush 16, 2) := by decide +kernel
theorem dX6_compose_15 : decode cX6_compose 15 = .ok (.if_icmp .ge 30, 3) := by decide +kernel
theorem dX6_compose_18 : decode cX6_compose 18 = .ok (.lload 5, 2) := by decide +kernel
theorem dX6_compose_20 : decode cX6_compose 20 = .ok (.lload_n 1, 1) := by decide +kernel
theorem dX6_compose_21 : decode cX6_compose 21 = .ok (.lload_n 3, 1) := by decide +kernel
theorem dX6_compose_22 : decode cX6_compose 22 = .ok (.iload 7, 2) := by decide +kernel
theorem dX6_compose_24 : decode cX6_compose 24 = .ok (.invokestatic 70, 3) := by decide +kernel
theorem dX6_compose_27 : decode cX6_compose 27 = .ok (.invokestatic 70, 3) := by decide +kernel
theorem dX6_compose_30 : decode cX6_compose 30 = .ok (.i2l, 1) := by decide +kernel
theorem dX6_compose_31 : decode cX6_compose 31 = .ok (.iconst 4, 1) := by decide +kernel
theorem dX6_compose_32 : decode cX6_compose 32 = .ok (.iload 7, 2) := by decide +kernel
theorem dX6_compose_34 : decode cX6_compose 34 = .ok (.imul, 1) := by decide +kernel
theorem dX6_compose_35 : decode cX6_compose 35 = .ok (.lshl, 1) := by decide +kernel
theorem dX6_compose_36 : decode cX6_compose 36 = .ok (.lor, 1) := by decide +kernel
theorem dX6_compose_37 : decode cX6_compose 37 = .ok (.lstore 5, 2) := by decide +kernel
theorem dX6_compose_39 : decode cX6_compose 39 = .ok (.iinc 7 1, 3) := by decide +kernel
theorem dX6_compose_42 : decode cX6_compose 42 = .ok (.goto (-31), 3) := by decide +kernel
theorem dX6_compose_45 : decode cX6_compose 45 = .ok (.lload 5, 2) := by decide +kernel
theorem dX6_compose_47 : decode cX6_compose 47 = .ok (.lreturn, 1) := by decide +kernel
set_option maxRecDepth 20000 in
theorem ggX6_values_X6_at : GoodIn wsX6_values wsX6_at := goodIn_r _ [4] (by decide +kernel) (by decide +kernel)
set_option maxRecDepth 20000 in
theorem gX6_values_X6_at : GoodIn wsX6_values (va_wsS RX6 70 yX6_at wsX6_at) := goodIn_app (goodIn_of _ (by decide +kernel)) ggX6_values_X6_at
set_option maxRecDepth 20000 in
theorem ggX6_values_J6_bitCount_0f7a4 : GoodIn wsX6_values wsJ6_bitCount_0f7a4 := goodIn_r _ [8, 9, 10, 11] (by decide +kernel) (by decide +kernel)
set_option maxRecDepth 20000 in
theorem gX6_values_J6_bitCount_0f7a4 : GoodIn wsX6_values (va_wsS RX6 82 yJ6_bitCount_0f7a4 wsJ6_bitCount_0f7a4) := goodIn_app (goodIn_of _ (by decide +kernel)) ggX6_values_J6_bitCount_0f7a4
theorem dX6_values_0 : decode cX6_values 0 = .ok (.iconst 0, 1) := by decide +kernel
theorem dX6_values_1 : decode cX6_values 1 = .ok (.istore_n 2, 1) := by decide +kernel
theorem dX6_values_2 : decode cX6_values 2 = .ok (.iconst 0, 1) := by decide +kernel
theorem dX6_values_3 : decode cX6_values 3 = .ok (.istore_n 3, 1) := by decide +kernel
theorem dX6_values_4 : decode cX6_values 4 = .ok (.iload_n 3, 1) := by decide +kernel
theorem dX6_values_5 : decode cX6_values 5 = .ok (.bipush 16, 2) := by decide +kernel
theorem dX6_values_7 : decode cX6_values 7 = .ok (.if_icmp .ge 19, 3) := by decide +kernel
theorem dX6_values_10 : decode cX6_values 10 = .ok (.iload_n 2, 1) := by decide +kernel
theorem dX6_values_11 : decode cX6_values 11 = .ok (.iconst 1, 1) := by decide +kernel
theorem dX6_values_12 : decode cX6_values 12 = .ok (.lload_n 0, 1) := by decide +kernel
theorem dX6_values_13 : decode cX6_values 13 = .ok (.iload_n 3, 1) := by decide +kernel
theorem dX6_values_14 : decode cX6_values 14 = .ok (.invokestatic 70, 3) := by decide +kernel
theorem dX6_values_17 : decode cX6_values 17 = .ok (.ishl, 1) := by decide +kernel
theorem dX6_values_18 : decode cX6_values 18 = .ok (.ior, 1) := by decide +kernel
theorem dX6_values_19 : decode cX6_values 19 = .ok (.istore_n 2, 1) := by decide +kernel
theorem dX6_values_20 : decode cX6_values 20 = .ok (.iinc 3 1, 3) := by decide +kernel
theorem dX6_values_23 : decode cX6_values 23 = .ok (.goto (-19), 3) := by decide +kernel
theorem dX6_values_26 : decode cX6_values 26 = .ok (.iload_n 2, 1) := by decide +kernel
theorem dX6_values_27 : decode cX6_values 27 = .ok (.invokestatic 82, 3) := by decide +kernel
theorem dX6_values_30 : decode cX6_values 30 = .ok (.ireturn, 1) := by decide +kernel
set_option maxRecDepth 20000 in
theorem ggX6_inverse_X6_values : GoodIn wsX6_inverse wsX6_values := goodIn_r _ [5, 6, 7, 4, 8, 9, 10, 11, 12, 13, 14, 15] (by decide +kernel) (by decide +kernel)
set_option maxRecDepth 20000 in
theorem gX6_inverse_X6_values : GoodIn wsX6_inverse (va_wsS RX6 87 yX6_values wsX6_values) := goodIn_app (goodIn_of _ (by decide +kernel)) ggX6_inverse_X6_values
set_option maxRecDepth 20000 in
theorem ggX6_inverse_X6_at : GoodIn wsX6_inverse wsX6_at := goodIn_r _ [8] (by decide +kernel) (by decide +kernel)
set_option maxRecDepth 20000 in
theorem gX6_inverse_X6_at : GoodIn wsX6_inverse (va_wsS RX6 70 yX6_at wsX6_at) := goodIn_app (goodIn_of _ (by decide +kernel)) ggX6_inverse_X6_at
theorem dX6_inverse_0 : decode cX6_inverse 0 = .ok (.aload_n 0, 1) := by decide +kernel
theorem dX6_inverse_1 : decode cX6_inverse 1 = .ok (.lload_n 1, 1) := by decide +kernel
theorem dX6_inverse_2 : decode cX6_inverse 2 = .ok (.invokestatic 87, 3) := by decide +kernel
theorem dX6_inverse_5 : decode cX6_inverse 5 = .ok (.bipush 16, 2) := by decide +kernel
theorem dX6_inverse_7 : decode cX6_inverse 7 = .ok (.if_icmp .ne 7, 3) := by decide +kernel
theorem dX6_inverse_10 : decode cX6_inverse 10 = .ok (.iconst 0, 1) := by decide +kernel
theorem dX6_inverse_11 : decode cX6_inverse 11 = .ok (.goto 4, 3) := by decide +kernel
theorem dX6_inverse_14 : decode cX6_inverse 14 = .ok (.iconst 1, 1) := by decide +kernel
theorem dX6_inverse_15 : decode cX6_inverse 15 = .ok (.putfield 55, 3) := by decide +kernel
theorem dX6_inverse_18 : decode cX6_inverse 18 = .ok (.aload_n 0, 1) := by decide +kernel
theorem dX6_inverse_19 : decode cX6_inverse 19 = .ok (.getfield 55, 3) := by decide +kernel
theorem dX6_inverse_22 : decode cX6_inverse 22 = .ok (.ifCond .eq 5, 3) := by decide +kernel
theorem dX6_inverse_25 : decode cX6_inverse 25 = .ok (.lconst 0, 1) := by decide +kernel
theorem dX6_inverse_26 : decode cX6_inverse 26 = .ok (.lreturn, 1) := by decide +kernel
theorem dX6_inverse_27 : decode cX6_inverse 27 = .ok (.lconst 0, 1) := by decide +kernel
theorem dX6_inverse_28 : decode cX6_inverse 28 = .ok (.lstore_n 3, 1) := by decide +kernel
theorem dX6_inverse_29 : decode cX6_inverse 29 = .ok (.iconst 0, 1) := by decide +kernel
theorem dX6_inverse_30 : decode cX6_inverse 30 = .ok (.istore 5, 2) := by decide +kernel
theorem dX6_inverse_32 : decode cX6_inverse 32 = .ok (.iload 5, 2) := by decide +kernel
theorem dX6_inverse_34 : decode cX6_inverse 34 = .ok (.bipush 16, 2) := by decide +kernel
theorem dX6_inverse_36 : decode cX6_inverse 36 = .ok (.if_icmp .ge 24, 3) := by decide +kernel
theorem dX6_inverse_39 : decode cX6_inverse 39 = .ok (.lload_n 3, 1) := by decide +kernel
theorem dX6_inverse_40 : decode cX6_inverse 40 = .ok (.iload 5, 2) := by decide +kernel
theorem dX6_inverse_42 : decode cX6_inverse 42 = .ok (.i2l, 1) := by decide +kernel
theorem dX6_inverse_43 : decode cX6_inverse 43 = .ok (.iconst 4, 1) := by decide +kernel
theorem dX6_inverse_44 : decode cX6_inverse 44 = .ok (.lload_n 1, 1) := by decide +kernel
theorem dX6_inverse_45 : decode cX6_inverse 45 = .ok (.iload 5, 2) := by decide +kernel
theorem dX6_inverse_47 : decode cX6_inverse 47 = .ok (.invokestatic 70, 3) := by decide +kernel
theorem dX6_inverse_50 : decode cX6_inverse 50 = .ok (.imul, 1) := by decide +kernel
theorem dX6_inverse_51 : decode cX6_inverse 51 = .ok (.lshl, 1) := by decide +kernel
theorem dX6_inverse_52 : decode cX6_inverse 52 = .ok (.lor, 1) := by decide +kernel
theorem dX6_inverse_53 : decode cX6_inverse 53 = .ok (.lstore_n 3, 1) := by decide +kernel
theorem dX6_inverse_54 : decode cX6_inverse 54 = .ok (.iinc 5 1, 3) := by decide +kernel
theorem dX6_inverse_57 : decode cX6_inverse 57 = .ok (.goto (-25), 3) := by decide +kernel
theorem dX6_inverse_60 : decode cX6_inverse 60 = .ok (.lload_n 3, 1) := by decide +kernel
theorem dX6_inverse_61 : decode cX6_inverse 61 = .ok (.lreturn, 1) := by decide +kernel
set_option maxRecDepth 20000 in
theorem ggX6_returning_X6_through : GoodIn wsX6_returning wsX6_through := goodIn_r _ [5, 6, 7, 4, 8] (by decide +kernel) (by decide +kernel)
set_option maxRecDepth 20000 in
theorem gX6_returning_X6_through : GoodIn wsX6_returning (va_wsS RX6 92 yX6_through wsX6_through) := goodIn_app (goodIn_of _ (by decide +kernel)) ggX6_returning_X6_through
theorem dX6_returning_0 : decode cX6_returning 0 = .ok (.ldc 91, 2) := by decide +kernel
theorem dX6_returning_2 : decode cX6_returning 2 = .ok (.istore_n 2, 1) := by decide +kernel
theorem dX6_returning_3 : decode cX6_returning 3 = .ok (.iconst 0, 1) := by decide +kernel
theorem dX6_returning_4 : decode cX6_returning 4 = .ok (.istore_n 3, 1) := by decide +kernel
theorem dX6_returning_5 : decode cX6_returning 5 = .ok (.iload_n 3, 1) := by decide +kernel
theorem dX6_returning_6 : decode cX6_returning 6 = .ok (.bipush 16, 2) := by decide +kernel
theorem dX6_returning_8 : decode cX6_returning 8 = .ok (.if_icmp .ge 15, 3) := by decide +kernel
theorem dX6_returning_11 : decode cX6_returning 11 = .ok (.lload_n 0, 1) := by decide +kernel
theorem dX6_returning_12 : decode cX6_returning 12 = .ok (.iload_n 2, 1) := by decide +kernel
theorem dX6_returning_13 : decode cX6_returning 13 = .ok (.invokestatic 92, 3) := by decide +kernel
theorem dX6_returning_16 : decode cX6_returning 16 = .ok (.istore_n 2, 1) := by decide +kernel
theorem dX6_returning_17 : decode cX6_returning 17 = .ok (.iinc 3 1, 3) := by decide +kernel
theorem dX6_returning_20 : decode cX6_returning 20 = .ok (.goto (-15), 3) := by decide +kernel
theorem dX6_returning_23 : decode cX6_returning 23 = .ok (.iload_n 2, 1) := by decide +kernel
theorem dX6_returning_24 : decode cX6_returning 24 = .ok (.ireturn, 1) := by decide +kernel
set_option maxRecDepth 20000 in
theorem ggX6_through_X6_at : GoodIn wsX6_through wsX6_at := goodIn_r _ [4] (by decide +kernel) (by decide +kernel)
set_option maxRecDepth 20000 in
theorem gX6_through_X6_at : GoodIn wsX6_through (va_wsS RX6 70 yX6_at wsX6_at) := goodIn_app (goodIn_of _ (by decide +kernel)) ggX6_through_X6_at
theorem dX6_through_0 : decode cX6_through 0 = .ok (.iconst 0, 1) := by decide +kernel
theorem dX6_through_1 : decode cX6_through 1 = .ok (.istore_n 3, 1) := by decide +kernel
theorem dX6_through_2 : decode cX6_through 2 = .ok (.iconst 0, 1) := by decide +kernel
theorem dX6_through_3 : decode cX6_through 3 = .ok (.istore 4, 2) := by decide +kernel
theorem dX6_through_5 : decode cX6_through 5 = .ok (.iload 4, 2) := by decide +kernel
theorem dX6_through_7 : decode cX6_through 7 = .ok (.bipush 16, 2) := by decide +kernel
theorem dX6_through_9 : decode cX6_through 9 = .ok (.if_icmp .ge 30, 3) := by decide +kernel
theorem dX6_through_12 : decode cX6_through 12 = .ok (.iload_n 2, 1) := by decide +kernel
theorem dX6_through_13 : decode cX6_through 13 = .ok (.iload 4, 2) := by decide +kernel
theorem dX6_through_15 : decode cX6_through 15 = .ok (.ishr, 1) := by decide +kernel
theorem dX6_through_16 : decode cX6_through 16 = .ok (.iconst 1, 1) := by decide +kernel
theorem dX6_through_17 : decode cX6_through 17 = .ok (.iand, 1) := by decide +kernel
theorem dX6_through_18 : decode cX6_through 18 = .ok (.iconst 1, 1) := by decide +kernel
theorem dX6_through_19 : decode cX6_through 19 = .ok (.if_icmp .ne 14, 3) := by decide +kernel
theorem dX6_through_22 : decode cX6_through 22 = .ok (.iload_n 3, 1) := by decide +kernel
theorem dX6_through_23 : decode cX6_through 23 = .ok (.iconst 1, 1) := by decide +kernel
theorem dX6_through_24 : decode cX6_through 24 = .ok (.lload_n 0, 1) := by decide +kernel
theorem dX6_through_25 : decode cX6_through 25 = .ok (.iload 4, 2) := by decide +kernel
theorem dX6_through_27 : decode cX6_through 27 = .ok (.invokestatic 70, 3) := by decide +kernel
theorem dX6_through_30 : decode cX6_through 30 = .ok (.ishl, 1) := by decide +kernel
theorem dX6_through_31 : decode cX6_through 31 = .ok (.ior, 1) := by decide +kernel
theorem dX6_through_32 : decode cX6_through 32 = .ok (.istore_n 3, 1) := by decide +kernel
theorem dX6_through_33 : decode cX6_through 33 = .ok (.iinc 4 1, 3) := by decide +kernel
theorem dX6_through_36 : decode cX6_through 36 = .ok (.goto (-31), 3) := by decide +kernel
theorem dX6_through_39 : decode cX6_through 39 = .ok (.iload_n 3, 1) := by decide +kernel
theorem dX6_through_40 : decode cX6_through 40 = .ok (.ireturn, 1) := by decide +kernel
set_option maxRecDepth 20000 in
theorem ggX6_tail_X6_returning : GoodIn wsX6_tail wsX6_returning := goodIn_r _ [5, 1, 6, 7, 4, 8, 9, 10, 11] (by decide +kernel) (by decide +kernel)
set_option maxRecDepth 20000 in
theorem gX6_tail_X6_returning : GoodIn wsX6_tail (va_wsS RX6 95 yX6_returning wsX6_returning) := goodIn_app (goodIn_of _ (by decide +kernel)) ggX6_tail_X6_returning
set_option maxRecDepth 20000 in
theorem ggX6_tail_X6_through : GoodIn wsX6_tail wsX6_through := goodIn_r _ [8, 9, 10, 4, 11] (by decide +kernel) (by decide +kernel)
set_option maxRecDepth 20000 in
theorem gX6_tail_X6_through : GoodIn wsX6_tail (va_wsS RX6 92 yX6_through wsX6_through) := goodIn_app (goodIn_of _ (by decide +kernel)) ggX6_tail_X6_through
theorem dX6_tail_0 : decode cX6_tail 0 = .ok (.ldc 91, 2) := by decide +kernel
theorem dX6_tail_2 : decode cX6_tail 2 = .ok (.istore_n 2, 1) := by decide +kernel
theorem dX6_tail_3 : decode cX6_tail 3 = .ok (.iconst 0, 1) := by decide +kernel
theorem dX6_tail_4 : decode cX6_tail 4 = .ok (.istore_n 3, 1) := by decide +kernel
theorem dX6_tail_5 : decode cX6_tail 5 = .ok (.iload_n 2, 1) := by decide +kernel
theorem dX6_tail_6 : decode cX6_tail 6 = .ok (.lload_n 0, 1) := by decide +kernel
theorem dX6_tail_7 : decode cX6_tail 7 = .ok (.invokestatic 95, 3) := by decide +kernel
theorem dX6_tail_10 : decode cX6_tail 10 = .ok (.if_icmp .eq 15, 3) := by decide +kernel
theorem dX6_tail_13 : decode cX6_tail 13 = .ok (.lload_n 0, 1) := by decide +kernel
theorem dX6_tail_14 : decode cX6_tail 14 = .ok (.iload_n 2, 1) := by decide +kernel
theorem dX6_tail_15 : decode cX6_tail 15 = .ok (.invokestatic 92, 3) := by decide +kernel
theorem dX6_tail_18 : decode cX6_tail 18 = .ok (.istore_n 2, 1) := by decide +kernel
theorem dX6_tail_19 : decode cX6_tail 19 = .ok (.iinc 3 1, 3) := by decide +kernel
theorem dX6_tail_22 : decode cX6_tail 22 = .ok (.goto (-17), 3) := by decide +kernel
theorem dX6_tail_25 : decode cX6_tail 25 = .ok (.iload_n 3, 1) := by decide +kernel
theorem dX6_tail_26 : decode cX6_tail 26 = .ok (.ireturn, 1) := by decide +kernel
set_option maxRecDepth 20000 in
theorem ggX6_measure_X6_isIn : GoodIn wsX6_measure wsX6_isIn := goodIn_r _ [5] (by decide +kernel) (by decide +kernel)
set_option maxRecDepth 20000 in
theorem gX6_measure_X6_isIn : GoodIn wsX6_measure (va_wsS RX6 58 yX6_isIn wsX6_isIn) := goodIn_app (goodIn_of _ (by decide +kernel)) ggX6_measure_X6_isIn
set_option maxRecDepth 20000 in
theorem ggX6_measure_X6_no : GoodIn wsX6_measure wsX6_no := goodIn_r _ [9, 1, 33, 34, 35, 36, 37, 38, 39, 40, 41, 42, 43, 44, 45, 46, 47, 48, 49, 50, 51, 52, 53] (by decide +kernel) (by decide +kernel)
set_option maxRecDepth 20000 in
theorem gX6_measure_X6_no : GoodIn wsX6_measure (wsV RX6 62 RX6 yX6_no wsX6_no) := goodIn_app (goodIn_of _ (by decide +kernel)) ggX6_measure_X6_no
set_option maxRecDepth 20000 in
theorem ggX6_measure_X6_values : GoodIn wsX6_measure wsX6_values := goodIn_r _ [12, 13, 14, 4, 15, 16, 17, 18, 19, 20, 21, 22] (by decide +kernel) (by decide +kernel)
set_option maxRecDepth 20000 in
theorem gX6_measure_X6_values : GoodIn wsX6_measure (va_wsS RX6 87 yX6_values wsX6_values) := goodIn_app (goodIn_of _ (by decide +kernel)) ggX6_measure_X6_values
set_option maxRecDepth 20000 in
theorem ggX6_measure_X6_returning : GoodIn wsX6_measure wsX6_returning := goodIn_r _ [25, 26, 27, 28, 4, 29, 13, 14, 15] (by decide +kernel) (by decide +kernel)
set_option maxRecDepth 20000 in
theorem gX6_measure_X6_returning : GoodIn wsX6_measure (va_wsS RX6 95 yX6_returning wsX6_returning) := goodIn_app (goodIn_of _ (by decide +kernel)) ggX6_measure_X6_returning
set_option maxRecDepth 20000 in
theorem ggX6_measure_J6_bitCount_0f7a4 : GoodIn wsX6_measure wsJ6_bitCount_0f7a4 := goodIn_r _ [19, 20, 21, 22] (by decide +kernel) (by decide +kernel)
set_option maxRecDepth 20000 in
theorem gX6_measure_J6_bitCount_0f7a4 : GoodIn wsX6_measure (va_wsS RX6 82 yJ6_bitCount_0f7a4 wsJ6_bitCount_0f7a4) := goodIn_app (goodIn_of _ (by decide +kernel)) ggX6_measure_J6_bitCount_0f7a4
set_option maxRecDepth 20000 in
theorem ggX6_measure_X6_tail : GoodIn wsX6_measure wsX6_tail := goodIn_r _ [32, 26, 23, 24, 4, 25, 27, 28, 29, 13, 14, 15] (by decide +kernel) (by decide +kernel)
set_option maxRecDepth 20000 in
theorem gX6_measure_X6_tail : GoodIn wsX6_measure (va_wsS RX6 98 yX6_tail wsX6_tail) := goodIn_app (goodIn_of _ (by decide +kernel)) ggX6_measure_X6_tail
set_option maxRecDepth 20000 in
theorem ggX6_measure_X6_at : GoodIn wsX6_measure wsX6_at := goodIn_r _ [15] (by decide +kernel) (by decide +kernel)
set_option maxRecDepth 20000 in
theorem gX6_measure_X6_at : GoodIn wsX6_measure (va_wsS RX6 70 yX6_at wsX6_at) := goodIn_app (goodIn_of _ (by decide +kernel)) ggX6_measure_X6_at
theorem dX6_measure_0 : decode cX6_measure 0 = .ok (.aload_n 0, 1) := by decide +kernel
theorem dX6_measure_1 : decode cX6_measure 1 = .ok (.iconst 0, 1) := by decide +kernel
theorem dX6_measure_2 : decode cX6_measure 2 = .ok (.putfield 55, 3) := by decide +kernel
theorem dX6_measure_5 : decode cX6_measure 5 = .ok (.iload_n 3, 1) := by decide +kernel
theorem dX6_measure_6 : decode cX6_measure 6 = .ok (.iconst 0, 1) := by decide +kernel
theorem dX6_measure_7 : decode cX6_measure 7 = .ok (.iconst 4, 1) := by decide +kernel
theorem dX6_measure_8 : decode cX6_measure 8 = .ok (.invokestatic 58, 3) := by decide +kernel
theorem dX6_measure_11 : decode cX6_measure 11 = .ok (.ifCond .ne 9, 3) := by decide +kernel
theorem dX6_measure_14 : decode cX6_measure 14 = .ok (.aload_n 0, 1) := by decide +kernel
theorem dX6_measure_15 : decode cX6_measure 15 = .ok (.iconst 1, 1) := by decide +kernel
theorem dX6_measure_16 : decode cX6_measure 16 = .ok (.invokevirtual 62, 3) := by decide +kernel
theorem dX6_measure_19 : decode cX6_measure 19 = .ok (.ireturn, 1) := by decide +kernel
theorem dX6_measure_20 : decode cX6_measure 20 = .ok (.iload_n 3, 1) := by decide +kernel
theorem dX6_measure_21 : decode cX6_measure 21 = .ok (.iconst 1, 1) := by decide +kernel
theorem dX6_measure_22 : decode cX6_measure 22 = .ok (.if_icmp .ne 8, 3) := by decide +kernel
theorem dX6_measure_25 : decode cX6_measure 25 = .ok (.lload_n 1, 1) := by decide +kernel
theorem dX6_measure_26 : decode cX6_measure 26 = .ok (.invokestatic 87, 3) := by decide +kernel
theorem dX6_measure_29 : decode cX6_measure 29 = .ok (.ireturn, 1) := by decide +kernel
theorem dX6_measure_30 : decode cX6_measure 30 = .ok (.iload_n 3, 1) := by decide +kernel
theorem dX6_measure_31 : decode cX6_measure 31 = .ok (.iconst 3, 1) := by decide +kernel
theorem dX6_measure_32 : decode cX6_measure 32 = .ok (.if_icmp .ne 11, 3) := by decide +kernel
theorem dX6_measure_35 : decode cX6_measure 35 = .ok (.lload_n 1, 1) := by decide +kernel
theorem dX6_measure_36 : decode cX6_measure 36 = .ok (.invokestatic 95, 3) := by decide +kernel
theorem dX6_measure_39 : decode cX6_measure 39 = .ok (.invokestatic 82, 3) := by decide +kernel
theorem dX6_measure_42 : decode cX6_measure 42 = .ok (.ireturn, 1) := by decide +kernel
theorem dX6_measure_43 : decode cX6_measure 43 = .ok (.iload_n 3, 1) := by decide +kernel
theorem dX6_measure_44 : decode cX6_measure 44 = .ok (.iconst 4, 1) := by decide +kernel
theorem dX6_measure_45 : decode cX6_measure 45 = .ok (.if_icmp .ne 8, 3) := by decide +kernel
theorem dX6_measure_48 : decode cX6_measure 48 = .ok (.lload_n 1, 1) := by decide +kernel
theorem dX6_measure_49 : decode cX6_measure 49 = .ok (.invokestatic 98, 3) := by decide +kernel
theorem dX6_measure_52 : decode cX6_measure 52 = .ok (.ireturn, 1) := by decide +kernel
theorem dX6_measure_53 : decode cX6_measure 53 = .ok (.iconst 0, 1) := by decide +kernel
theorem dX6_measure_54 : decode cX6_measure 54 = .ok (.istore 4, 2) := by decide +kernel
theorem dX6_measure_56 : decode cX6_measure 56 = .ok (.iconst 0, 1) := by decide +kernel
theorem dX6_measure_57 : decode cX6_measure 57 = .ok (.istore 5, 2) := by decide +kernel
theorem dX6_measure_59 : decode cX6_measure 59 = .ok (.iload 5, 2) := by decide +kernel
theorem dX6_measure_61 : decode cX6_measure 61 = .ok (.bipush 16, 2) := by decide +kernel
theorem dX6_measure_63 : decode cX6_measure 63 = .ok (.if_icmp .ge 49, 3) := by decide +kernel
theorem dX6_measure_66 : decode cX6_measure 66 = .ok (.iload 4, 2) := by decide +kernel
theorem dX6_measure_68 : decode cX6_measure 68 = .ok (.iload_n 3, 1) := by decide +kernel
theorem dX6_measure_69 : decode cX6_measure 69 = .ok (.ifCond .ne 22, 3) := by decide +kernel
theorem dX6_measure_72 : decode cX6_measure 72 = .ok (.lload_n 1, 1) := by decide +kernel
theorem dX6_measure_73 : decode cX6_measure 73 = .ok (.iload 5, 2) := by decide +kernel
theorem dX6_measure_75 : decode cX6_measure 75 = .ok (.invokestatic 70, 3) := by decide +kernel
theorem dX6_measure_78 : decode cX6_measure 78 = .ok (.iload 5, 2) := by decide +kernel
theorem dX6_measure_80 : decode cX6_measure 80 = .ok (.if_icmp .ne 7, 3) := by decide +kernel
theorem dX6_measure_83 : decode cX6_measure 83 = .ok (.iconst 1, 1) := by decide +kernel
theorem dX6_measure_84 : decode cX6_measure 84 = .ok (.goto 19, 3) := by decide +kernel
theorem dX6_measure_87 : decode cX6_measure 87 = .ok (.iconst 0, 1) := by decide +kernel
theorem dX6_measure_88 : decode cX6_measure 88 = .ok (.goto 15, 3) := by decide +kernel
theorem dX6_measure_91 : decode cX6_measure 91 = .ok (.lload_n 1, 1) := by decide +kernel
theorem dX6_measure_92 : decode cX6_measure 92 = .ok (.iload 5, 2) := by decide +kernel
theorem dX6_measure_94 : decode cX6_measure 94 = .ok (.invokestatic 70, 3) := by decide +kernel
theorem dX6_measure_97 : decode cX6_measure 97 = .ok (.iload 5, 2) := by decide +kernel
theorem dX6_measure_99 : decode cX6_measure 99 = .ok (.ixor, 1) := by decide +kernel
theorem dX6_measure_100 : decode cX6_measure 100 = .ok (.invokestatic 82, 3) := by decide +kernel
theorem dX6_measure_103 : decode cX6_measure 103 = .ok (.iadd, 1) := by decide +kernel
theorem dX6_measure_104 : decode cX6_measure 104 = .ok (.istore 4, 2) := by decide +kernel
theorem dX6_measure_106 : decode cX6_measure 106 = .ok (.iinc 5 1, 3) := by decide +kernel
theorem dX6_measure_109 : decode cX6_measure 109 = .ok (.goto (-50), 3) := by decide +kernel
theorem dX6_measure_112 : decode cX6_measure 112 = .ok (.iload 4, 2) := by decide +kernel
theorem dX6_measure_114 : decode cX6_measure 114 = .ok (.ireturn, 1) := by decide +kernel
set_option maxRecDepth 20000 in
theorem ggX6_isFor_X6_at : GoodIn wsX6_isFor wsX6_at := goodIn_r _ [4] (by decide +kernel) (by decide +kernel)
set_option maxRecDepth 20000 in
theorem gX6_isFor_X6_at : GoodIn wsX6_isFor (va_wsS RX6 70 yX6_at wsX6_at) := goodIn_app (goodIn_of _ (by decide +kernel)) ggX6_isFor_X6_at
theorem dX6_isFor_0 : decode cX6_isFor 0 = .ok (.iload_n 2, 1) := by decide +kernel
theorem dX6_isFor_1 : decode cX6_isFor 1 = .ok (.ifCond .ne 32, 3) := by decide +kernel
theorem dX6_isFor_4 : decode cX6_isFor 4 = .ok (.lload_n 0, 1) := by decide +kernel
theorem dX6_isFor_5 : decode cX6_isFor 5 = .ok (.iload_n 3, 1) := by decide +kernel
theorem dX6_isFor_6 : decode cX6_isFor 6 = .ok (.iload 4, 2) := by decide +kernel
theorem dX6_isFor_8 : decode cX6_isFor 8 = .ok (.ixor, 1) := by decide +kernel
theorem dX6_isFor_9 : decode cX6_isFor 9 = .ok (.invokestatic 70, 3) := by decide +kernel
theorem dX6_isFor_12 : decode cX6_isFor 12 = .ok (.lload_n 0, 1) := by decide +kernel
theorem dX6_isFor_13 : decode cX6_isFor 13 = .ok (.iload_n 3, 1) := by decide +kernel
theorem dX6_isFor_14 : decode cX6_isFor 14 = .ok (.invokestatic 70, 3) := by decide +kernel
theorem dX6_isFor_17 : decode cX6_isFor 17 = .ok (.lload_n 0, 1) := by decide +kernel
theorem dX6_isFor_18 : decode cX6_isFor 18 = .ok (.iload 4, 2) := by decide +kernel
theorem dX6_isFor_20 : decode cX6_isFor 20 = .ok (.invokestatic 70, 3) := by decide +kernel
theorem dX6_isFor_23 : decode cX6_isFor 23 = .ok (.ixor, 1) := by decide +kernel
theorem dX6_isFor_24 : decode cX6_isFor 24 = .ok (.if_icmp .ne 7, 3) := by decide +kernel
theorem dX6_isFor_27 : decode cX6_isFor 27 = .ok (.iconst 1, 1) := by decide +kernel
theorem dX6_isFor_28 : decode cX6_isFor 28 = .ok (.goto 4, 3) := by decide +kernel
theorem dX6_isFor_31 : decode cX6_isFor 31 = .ok (.iconst 0, 1) := by decide +kernel
theorem dX6_isFor_32 : decode cX6_isFor 32 = .ok (.ireturn, 1) := by decide +kernel
theorem dX6_isFor_33 : decode cX6_isFor 33 = .ok (.iload_n 2, 1) := by decide +kernel
theorem dX6_isFor_34 : decode cX6_isFor 34 = .ok (.iconst 1, 1) := by decide +kernel
theorem dX6_isFor_35 : decode cX6_isFor 35 = .ok (.if_icmp .ne 29, 3) := by decide +kernel
theorem dX6_isFor_38 : decode cX6_isFor 38 = .ok (.iload_n 3, 1) := by decide +kernel
theorem dX6_isFor_39 : decode cX6_isFor 39 = .ok (.iload 4, 2) := by decide +kernel
theorem dX6_isFor_41 : decode cX6_isFor 41 = .ok (.if_icmp .le 17, 3) := by decide +kernel
theorem dX6_isFor_44 : decode cX6_isFor 44 = .ok (.lload_n 0, 1) := by decide +kernel
theorem dX6_isFor_45 : decode cX6_isFor 45 = .ok (.iload_n 3, 1) := by decide +kernel
theorem dX6_isFor_46 : decode cX6_isFor 46 = .ok (.invokestatic 70, 3) := by decide +kernel
theorem dX6_isFor_49 : decode cX6_isFor 49 = .ok (.lload_n 0, 1) := by decide +kernel
theorem dX6_isFor_50 : decode cX6_isFor 50 = .ok (.iload 4, 2) := by decide +kernel
theorem dX6_isFor_52 : decode cX6_isFor 52 = .ok (.invokestatic 70, 3) := by decide +kernel
theorem dX6_isFor_55 : decode cX6_isFor 55 = .ok (.if_icmp .lt 7, 3) := by decide +kernel
theorem dX6_isFor_58 : decode cX6_isFor 58 = .ok (.iconst 1, 1) := by decide +kernel
theorem dX6_isFor_59 : decode cX6_isFor 59 = .ok (.goto 4, 3) := by decide +kernel
theorem dX6_isFor_62 : decode cX6_isFor 62 = .ok (.iconst 0, 1) := by decide +kernel
theorem dX6_isFor_63 : decode cX6_isFor 63 = .ok (.ireturn, 1) := by decide +kernel
theorem dX6_isFor_64 : decode cX6_isFor 64 = .ok (.iload_n 2, 1) := by decide +kernel
theorem dX6_isFor_65 : decode cX6_isFor 65 = .ok (.iconst 2, 1) := by decide +kernel
theorem dX6_isFor_66 : decode cX6_isFor 66 = .ok (.if_icmp .ne 26, 3) := by decide +kernel
theorem dX6_isFor_69 : decode cX6_isFor 69 = .ok (.lload_n 0, 1) := by decide +kernel
theorem dX6_isFor_70 : decode cX6_isFor 70 = .ok (.lload_n 0, 1) := by decide +kernel
theorem dX6_isFor_71 : decode cX6_isFor 71 = .ok (.iload_n 3, 1) := by decide +kernel
theorem dX6_isFor_72 : decode cX6_isFor 72 = .ok (.invokestatic 70, 3) := by decide +kernel
theorem dX6_isFor_75 : decode cX6_isFor 75 = .ok (.invokestatic 70, 3) := by decide +kernel
theorem dX6_isFor_78 : decode cX6_isFor 78 = .ok (.lload_n 0, 1) := by decide +kernel
theorem dX6_isFor_79 : decode cX6_isFor 79 = .ok (.iload_n 3, 1) := by decide +kernel
theorem dX6_isFor_80 : decode cX6_isFor 80 = .ok (.invokestatic 70, 3) := by decide +kernel
theorem dX6_isFor_83 : decode cX6_isFor 83 = .ok (.if_icmp .ne 7, 3) := by decide +kernel
theorem dX6_isFor_86 : decode cX6_isFor 86 = .ok (.iconst 1, 1) := by decide +kernel
theorem dX6_isFor_87 : decode cX6_isFor 87 = .ok (.goto 4, 3) := by decide +kernel
theorem dX6_isFor_90 : decode cX6_isFor 90 = .ok (.iconst 0, 1) := by decide +kernel
theorem dX6_isFor_91 : decode cX6_isFor 91 = .ok (.ireturn, 1) := by decide +kernel
theorem dX6_isFor_92 : decode cX6_isFor 92 = .ok (.iconst 1, 1) := by decide +kernel
theorem dX6_isFor_93 : decode cX6_isFor 93 = .ok (.istore 5, 2) := by decide +kernel
theorem dX6_isFor_95 : decode cX6_isFor 95 = .ok (.iconst 0, 1) := by decide +kernel
theorem dX6_isFor_96 : decode cX6_isFor 96 = .ok (.istore 6, 2) := by decide +kernel
theorem dX6_isFor_98 : decode cX6_isFor 98 = .ok (.iload 6, 2) := by decide +kernel
theorem dX6_isFor_100 : decode cX6_isFor 100 = .ok (.iconst 4, 1) := by decide +kernel
theorem dX6_isFor_101 : decode cX6_isFor 101 = .ok (.if_icmp .ge 57, 3) := by decide +kernel
theorem dX6_isFor_104 : decode cX6_isFor 104 = .ok (.iload 5, 2) := by decide +kernel
theorem dX6_isFor_106 : decode cX6_isFor 106 = .ok (.ifCond .eq 43, 3) := by decide +kernel
theorem dX6_isFor_109 : decode cX6_isFor 109 = .ok (.iload_n 3, 1) := by decide +kernel
theorem dX6_isFor_110 : decode cX6_isFor 110 = .ok (.iload 4, 2) := by decide +kernel
theorem dX6_isFor_112 : decode cX6_isFor 112 = .ok (.ixor, 1) := by decide +kernel
theorem dX6_isFor_113 : decode cX6_isFor 113 = .ok (.iconst 2, 1) := by decide +kernel
theorem dX6_isFor_114 : decode cX6_isFor 114 = .ok (.iload 6, 2) := by decide +kernel
theorem dX6_isFor_116 : decode cX6_isFor 116 = .ok (.ishl, 1) := by decide +kernel
theorem dX6_isFor_117 : decode cX6_isFor 117 = .ok (.irem, 1) := by decide +kernel
theorem dX6_isFor_118 : decode cX6_isFor 118 = .ok (.ifCond .ne 27, 3) := by decide +kernel
theorem dX6_isFor_121 : decode cX6_isFor 121 = .ok (.lload_n 0, 1) := by decide +kernel
theorem dX6_isFor_122 : decode cX6_isFor 122 = .ok (.iload_n 3, 1) := by decide +kernel
theorem dX6_isFor_123 : decode cX6_isFor 123 = .ok (.invokestatic 70, 3) := by decide +kernel
theorem dX6_isFor_126 : decode cX6_isFor 126 = .ok (.iload 6, 2) := by decide +kernel
theorem dX6_isFor_128 : decode cX6_isFor 128 = .ok (.ishr, 1) := by decide +kernel
theorem dX6_isFor_129 : decode cX6_isFor 129 = .ok (.iconst 1, 1) := by decide +kernel
theorem dX6_isFor_130 : decode cX6_isFor 130 = .ok (.iand, 1) := by decide +kernel
theorem dX6_isFor_131 : decode cX6_isFor 131 = .ok (.lload_n 0, 1) := by decide +kernel
theorem dX6_isFor_132 : decode cX6_isFor 132 = .ok (.iload 4, 2) := by decide +kernel
theorem dX6_isFor_134 : decode cX6_isFor 134 = .ok (.invokestatic 70, 3) := by decide +kernel
theorem dX6_isFor_137 : decode cX6_isFor 137 = .ok (.iload 6, 2) := by decide +kernel
theorem dX6_isFor_139 : decode cX6_isFor 139 = .ok (.ishr, 1) := by decide +kernel
theorem dX6_isFor_140 : decode cX6_isFor 140 = .ok (.iconst 1, 1) := by decide +kernel
theorem dX6_isFor_141 : decode cX6_isFor 141 = .ok (.iand, 1) := by decide +kernel
theorem dX6_isFor_142 : decode cX6_isFor 142 = .ok (.if_icmp .ne 7, 3) := by decide +kernel
theorem dX6_isFor_145 : decode cX6_isFor 145 = .ok (.iconst 1, 1) := by decide +kernel
theorem dX6_isFor_146 : decode cX6_isFor 146 = .ok (.goto 4, 3) := by decide +kernel
theorem dX6_isFor_149 : decode cX6_isFor 149 = .ok (.iconst 0, 1) := by decide +kernel
theorem dX6_isFor_150 : decode cX6_isFor 150 = .ok (.istore 5, 2) := by decide +kernel
theorem dX6_isFor_152 : decode cX6_isFor 152 = .ok (.iinc 6 1, 3) := by decide +kernel
theorem dX6_isFor_155 : decode cX6_isFor 155 = .ok (.goto (-57), 3) := by decide +kernel
theorem dX6_isFor_158 : decode cX6_isFor 158 = .ok (.iload 5, 2) := by decide +kernel
theorem dX6_isFor_160 : decode cX6_isFor 160 = .ok (.ireturn, 1) := by decide +kernel
set_option maxRecDepth 20000 in
theorem ggX6_is_X6_isIn : GoodIn wsX6_is wsX6_isIn := goodIn_r _ [5] (by decide +kernel) (by decide +kernel)
set_option maxRecDepth 20000 in
theorem gX6_is_X6_isIn : GoodIn wsX6_is (va_wsS RX6 58 yX6_isIn wsX6_isIn) := goodIn_app (goodIn_of _ (by decide +kernel)) ggX6_is_X6_isIn
set_option maxRecDepth 20000 in
theorem ggX6_is_X6_isFor : GoodIn wsX6_is wsX6_isFor := goodIn_r _ [8, 9, 10, 4, 11] (by decide +kernel) (by decide +kernel)
set_option maxRecDepth 20000 in
theorem gX6_is_X6_isFor : GoodIn wsX6_is (va_wsS RX6 101 yX6_isFor wsX6_isFor) := goodIn_app (goodIn_of _ (by decide +kernel)) ggX6_is_X6_isFor
theorem dX6_is_0 : decode cX6_is 0 = .ok (.aload_n 0, 1) := by decide +kernel
theorem dX6_is_1 : decode cX6_is 1 = .ok (.iload_n 3, 1) := by decide +kernel
theorem dX6_is_2 : decode cX6_is 2 = .ok (.iconst 0, 1) := by decide +kernel
theorem dX6_is_3 : decode cX6_is 3 = .ok (.iconst 3, 1) := by decide +kernel
theorem dX6_is_4 : decode cX6_is 4 = .ok (.invokestatic 58, 3) := by decide +kernel
theorem dX6_is_7 : decode cX6_is 7 = .ok (.ifCond .eq 7, 3) := by decide +kernel
theorem dX6_is_10 : decode cX6_is 10 = .ok (.iconst 0, 1) := by decide +kernel
theorem dX6_is_11 : decode cX6_is 11 = .ok (.goto 4, 3) := by decide +kernel
theorem dX6_is_14 : decode cX6_is 14 = .ok (.iconst 1, 1) := by decide +kernel
theorem dX6_is_15 : decode cX6_is 15 = .ok (.putfield 55, 3) := by decide +kernel
theorem dX6_is_18 : decode cX6_is 18 = .ok (.aload_n 0, 1) := by decide +kernel
theorem dX6_is_19 : decode cX6_is 19 = .ok (.getfield 55, 3) := by decide +kernel
theorem dX6_is_22 : decode cX6_is 22 = .ok (.ifCond .ne 7, 3) := by decide +kernel
theorem dX6_is_25 : decode cX6_is 25 = .ok (.iconst 1, 1) := by decide +kernel
theorem dX6_is_26 : decode cX6_is 26 = .ok (.goto 4, 3) := by decide +kernel
theorem dX6_is_29 : decode cX6_is 29 = .ok (.iconst 0, 1) := by decide +kernel
theorem dX6_is_30 : decode cX6_is 30 = .ok (.istore 4, 2) := by decide +kernel
theorem dX6_is_32 : decode cX6_is 32 = .ok (.iconst 0, 1) := by decide +kernel
theorem dX6_is_33 : decode cX6_is 33 = .ok (.istore 5, 2) := by decide +kernel
theorem dX6_is_35 : decode cX6_is 35 = .ok (.iload 5, 2) := by decide +kernel
theorem dX6_is_37 : decode cX6_is 37 = .ok (.sipush 256, 3) := by decide +kernel
theorem dX6_is_40 : decode cX6_is 40 = .ok (.if_icmp .ge 31, 3) := by decide +kernel
theorem dX6_is_43 : decode cX6_is 43 = .ok (.iload 4, 2) := by decide +kernel
theorem dX6_is_45 : decode cX6_is 45 = .ok (.ifCond .eq 26, 3) := by decide +kernel
theorem dX6_is_48 : decode cX6_is 48 = .ok (.lload_n 1, 1) := by decide +kernel
theorem dX6_is_49 : decode cX6_is 49 = .ok (.iload_n 3, 1) := by decide +kernel
theorem dX6_is_50 : decode cX6_is 50 = .ok (.iload 5, 2) := by decide +kernel
theorem dX6_is_52 : decode cX6_is 52 = .ok (.bipush 16, 2) := by decide +kernel
theorem dX6_is_54 : decode cX6_is 54 = .ok (.idiv, 1) := by decide +kernel
theorem dX6_is_55 : decode cX6_is 55 = .ok (.iload 5, 2) := by decide +kernel
theorem dX6_is_57 : decode cX6_is 57 = .ok (.bipush 16, 2) := by decide +kernel
theorem dX6_is_59 : decode cX6_is 59 = .ok (.irem, 1) := by decide +kernel
theorem dX6_is_60 : decode cX6_is 60 = .ok (.invokestatic 101, 3) := by decide +kernel
theorem dX6_is_63 : decode cX6_is 63 = .ok (.istore 4, 2) := by decide +kernel
theorem dX6_is_65 : decode cX6_is 65 = .ok (.iinc 5 1, 3) := by decide +kernel
theorem dX6_is_68 : decode cX6_is 68 = .ok (.goto (-33), 3) := by decide +kernel
theorem dX6_is_71 : decode cX6_is 71 = .ok (.iload 4, 2) := by decide +kernel
theorem dX6_is_73 : decode cX6_is 73 = .ok (.ireturn, 1) := by decide +kernel
theorem dX6_chain_0 : decode cX6_chain 0 = .ok (.lload_n 0, 1) := by decide +kernel
theorem dX6_chain_1 : decode cX6_chain 1 = .ok (.lload_n 0, 1) := by decide +kernel
theorem dX6_chain_2 : decode cX6_chain 2 = .ok (.bipush 17, 2) := by decide +kernel
theorem dX6_chain_4 : decode cX6_chain 4 = .ok (.lushr, 1) := by decide +kernel
theorem dX6_chain_5 : decode cX6_chain 5 = .ok (.lxor, 1) := by decide +kernel
theorem dX6_chain_6 : decode cX6_chain 6 = .ok (.lload_n 0, 1) := by decide +kernel
theorem dX6_chain_7 : decode cX6_chain 7 = .ok (.bipush 34, 2) := by decide +kernel
theorem dX6_chain_9 : decode cX6_chain 9 = .ok (.lushr, 1) := by decide +kernel
theorem dX6_chain_10 : decode cX6_chain 10 = .ok (.lxor, 1) := by decide +kernel
theorem dX6_chain_11 : decode cX6_chain 11 = .ok (.lload_n 0, 1) := by decide +kernel
theorem dX6_chain_12 : decode cX6_chain 12 = .ok (.bipush 51, 2) := by decide +kernel
theorem dX6_chain_14 : decode cX6_chain 14 = .ok (.lushr, 1) := by decide +kernel
theorem dX6_chain_15 : decode cX6_chain 15 = .ok (.lxor, 1) := by decide +kernel
theorem dX6_chain_16 : decode cX6_chain 16 = .ok (.ldc2_w 105, 3) := by decide +kernel
theorem dX6_chain_19 : decode cX6_chain 19 = .ok (.land, 1) := by decide +kernel
theorem dX6_chain_20 : decode cX6_chain 20 = .ok (.l2i, 1) := by decide +kernel
theorem dX6_chain_21 : decode cX6_chain 21 = .ok (.ireturn, 1) := by decide +kernel
set_option maxRecDepth 20000 in
theorem ggX6_entryOf_X6_chain : GoodIn wsX6_entryOf wsX6_chain := goodIn_r _ [7, 8] (by decide +kernel) (by decide +kernel)
set_option maxRecDepth 20000 in
theorem gX6_entryOf_X6_chain : GoodIn wsX6_entryOf (va_wsS RX6 107 yX6_chain wsX6_chain) := goodIn_app (goodIn_of _ (by decide +kernel)) ggX6_entryOf_X6_chain
theorem dX6_entryOf_0 : decode cX6_entryOf 0 = .ok (.aload_n 0, 1) := by decide +kernel
theorem dX6_entryOf_1 : decode cX6_entryOf 1 = .ok (.getfield 40, 3) := by decide +kernel
theorem dX6_entryOf_4 : decode cX6_entryOf 4 = .ok (.lload_n 1, 1) := by decide +kernel
theorem dX6_entryOf_5 : decode cX6_entryOf 5 = .ok (.invokestatic 107, 3) := by decide +kernel
theorem dX6_entryOf_8 : decode cX6_entryOf 8 = .ok (.iaload, 1) := by decide +kernel
theorem dX6_entryOf_9 : decode cX6_entryOf 9 = .ok (.iconst 1, 1) := by decide +kernel
theorem dX6_entryOf_10 : decode cX6_entryOf 10 = .ok (.isub, 1) := by decide +kernel
theorem dX6_entryOf_11 : decode cX6_entryOf 11 = .ok (.istore_n 3, 1) := by decide +kernel
theorem dX6_entryOf_12 : decode cX6_entryOf 12 = .ok (.iload_n 3, 1) := by decide +kernel
theorem dX6_entryOf_13 : decode cX6_entryOf 13 = .ok (.ifCond .lt 26, 3) := by decide +kernel
theorem dX6_entryOf_16 : decode cX6_entryOf 16 = .ok (.aload_n 0, 1) := by decide +kernel
theorem dX6_entryOf_17 : decode cX6_entryOf 17 = .ok (.getfield 24, 3) := by decide +kernel
theorem dX6_entryOf_20 : decode cX6_entryOf 20 = .ok (.iload_n 3, 1) := by decide +kernel
theorem dX6_entryOf_21 : decode cX6_entryOf 21 = .ok (.laload, 1) := by decide +kernel
theorem dX6_entryOf_22 : decode cX6_entryOf 22 = .ok (.lload_n 1, 1) := by decide +kernel
theorem dX6_entryOf_23 : decode cX6_entryOf 23 = .ok (.lcmp, 1) := by decide +kernel
theorem dX6_entryOf_24 : decode cX6_entryOf 24 = .ok (.ifCond .eq 15, 3) := by decide +kernel
theorem dX6_entryOf_27 : decode cX6_entryOf 27 = .ok (.aload_n 0, 1) := by decide +kernel
theorem dX6_entryOf_28 : decode cX6_entryOf 28 = .ok (.getfield 43, 3) := by decide +kernel
theorem dX6_entryOf_31 : decode cX6_entryOf 31 = .ok (.iload_n 3, 1) := by decide +kernel
theorem dX6_entryOf_32 : decode cX6_entryOf 32 = .ok (.iaload, 1) := by decide +kernel
theorem dX6_entryOf_33 : decode cX6_entryOf 33 = .ok (.iconst 1, 1) := by decide +kernel
theorem dX6_entryOf_34 : decode cX6_entryOf 34 = .ok (.isub, 1) := by decide +kernel
theorem dX6_entryOf_35 : decode cX6_entryOf 35 = .ok (.istore_n 3, 1) := by decide +kernel
theorem dX6_entryOf_36 : decode cX6_entryOf 36 = .ok (.goto (-24), 3) := by decide +kernel
theorem dX6_entryOf_39 : decode cX6_entryOf 39 = .ok (.iload_n 3, 1) := by decide +kernel
theorem dX6_entryOf_40 : decode cX6_entryOf 40 = .ok (.ireturn, 1) := by decide +kernel
set_option maxRecDepth 20000 in
theorem ggX6_add_X6_entryOf : GoodIn wsX6_add wsX6_entryOf := goodIn_r _ [13, 8, 2, 7, 14, 15, 12, 16, 17, 18, 19, 20, 21, 22, 23, 24, 25, 26, 27, 28, 29, 30, 31, 32, 33, 34, 35, 36, 37, 38] (by decide +kernel) (by decide +kernel)
set_option maxRecDepth 20000 in
theorem gX6_add_X6_entryOf : GoodIn wsX6_add (wsV RX6 113 RX6 yX6_entryOf wsX6_entryOf) := goodIn_app (goodIn_of _ (by decide +kernel)) ggX6_add_X6_entryOf
set_option maxRecDepth 20000 in
theorem ggX6_add_X6_chain : GoodIn wsX6_add wsX6_chain := goodIn_r _ [16, 17] (by decide +kernel) (by decide +kernel)
set_option maxRecDepth 20000 in
theorem gX6_add_X6_chain : GoodIn wsX6_add (va_wsS RX6 107 yX6_chain wsX6_chain) := goodIn_app (goodIn_of _ (by decide +kernel)) ggX6_add_X6_chain
theorem dX6_add_0 : decode cX6_add 0 = .ok (.aload_n 0, 1) := by decide +kernel
theorem dX6_add_1 : decode cX6_add 1 = .ok (.getfield 110, 3) := by decide +kernel
theorem dX6_add_4 : decode cX6_add 4 = .ok (.sipush 2000, 3) := by decide +kernel
theorem dX6_add_7 : decode cX6_add 7 = .ok (.if_icmp .eq 11, 3) := by decide +kernel
theorem dX6_add_10 : decode cX6_add 10 = .ok (.aload_n 0, 1) := by decide +kernel
theorem dX6_add_11 : decode cX6_add 11 = .ok (.lload_n 1, 1) := by decide +kernel
theorem dX6_add_12 : decode cX6_add 12 = .ok (.invokevirtual 113, 3) := by decide +kernel
theorem dX6_add_15 : decode cX6_add 15 = .ok (.ifCond .lt 4, 3) := by decide +kernel
theorem dX6_add_18 : decode cX6_add 18 = .ok (.return_, 1) := by decide +kernel
theorem dX6_add_19 : decode cX6_add 19 = .ok (.aload_n 0, 1) := by decide +kernel
theorem dX6_add_20 : decode cX6_add 20 = .ok (.getfield 24, 3) := by decide +kernel
theorem dX6_add_23 : decode cX6_add 23 = .ok (.aload_n 0, 1) := by decide +kernel
theorem dX6_add_24 : decode cX6_add 24 = .ok (.getfield 110, 3) := by decide +kernel
theorem dX6_add_27 : decode cX6_add 27 = .ok (.lload_n 1, 1) := by decide +kernel
theorem dX6_add_28 : decode cX6_add 28 = .ok (.lastore, 1) := by decide +kernel
theorem dX6_add_29 : decode cX6_add 29 = .ok (.aload_n 0, 1) := by decide +kernel
theorem dX6_add_30 : decode cX6_add 30 = .ok (.getfield 28, 3) := by decide +kernel
theorem dX6_add_33 : decode cX6_add 33 = .ok (.aload_n 0, 1) := by decide +kernel
theorem dX6_add_34 : decode cX6_add 34 = .ok (.getfield 110, 3) := by decide +kernel
theorem dX6_add_37 : decode cX6_add 37 = .ok (.iload_n 3, 1) := by decide +kernel
theorem dX6_add_38 : decode cX6_add 38 = .ok (.iastore, 1) := by decide +kernel
theorem dX6_add_39 : decode cX6_add 39 = .ok (.aload_n 0, 1) := by decide +kernel
theorem dX6_add_40 : decode cX6_add 40 = .ok (.getfield 31, 3) := by decide +kernel
theorem dX6_add_43 : decode cX6_add 43 = .ok (.aload_n 0, 1) := by decide +kernel
theorem dX6_add_44 : decode cX6_add 44 = .ok (.getfield 110, 3) := by decide +kernel
theorem dX6_add_47 : decode cX6_add 47 = .ok (.iload 4, 2) := by decide +kernel
theorem dX6_add_49 : decode cX6_add 49 = .ok (.iastore, 1) := by decide +kernel
theorem dX6_add_50 : decode cX6_add 50 = .ok (.aload_n 0, 1) := by decide +kernel
theorem dX6_add_51 : decode cX6_add 51 = .ok (.getfield 34, 3) := by decide +kernel
theorem dX6_add_54 : decode cX6_add 54 = .ok (.aload_n 0, 1) := by decide +kernel
theorem dX6_add_55 : decode cX6_add 55 = .ok (.getfield 110, 3) := by decide +kernel
theorem dX6_add_58 : decode cX6_add 58 = .ok (.iload 5, 2) := by decide +kernel
theorem dX6_add_60 : decode cX6_add 60 = .ok (.iastore, 1) := by decide +kernel
theorem dX6_add_61 : decode cX6_add 61 = .ok (.aload_n 0, 1) := by decide +kernel
theorem dX6_add_62 : decode cX6_add 62 = .ok (.getfield 37, 3) := by decide +kernel
theorem dX6_add_65 : decode cX6_add 65 = .ok (.aload_n 0, 1) := by decide +kernel
theorem dX6_add_66 : decode cX6_add 66 = .ok (.getfield 110, 3) := by decide +kernel
theorem dX6_add_69 : decode cX6_add 69 = .ok (.iload 6, 2) := by decide +kernel
theorem dX6_add_71 : decode cX6_add 71 = .ok (.iastore, 1) := by decide +kernel
theorem dX6_add_72 : decode cX6_add 72 = .ok (.aload_n 0, 1) := by decide +kernel
theorem dX6_add_73 : decode cX6_add 73 = .ok (.getfield 43, 3) := by decide +kernel
theorem dX6_add_76 : decode cX6_add 76 = .ok (.aload_n 0, 1) := by decide +kernel
theorem dX6_add_77 : decode cX6_add 77 = .ok (.getfield 110, 3) := by decide +kernel
theorem dX6_add_80 : decode cX6_add 80 = .ok (.aload_n 0, 1) := by decide +kernel
theorem dX6_add_81 : decode cX6_add 81 = .ok (.getfield 40, 3) := by decide +kernel
theorem dX6_add_84 : decode cX6_add 84 = .ok (.lload_n 1, 1) := by decide +kernel
theorem dX6_add_85 : decode cX6_add 85 = .ok (.invokestatic 107, 3) := by decide +kernel
theorem dX6_add_88 : decode cX6_add 88 = .ok (.iaload, 1) := by decide +kernel
theorem dX6_add_89 : decode cX6_add 89 = .ok (.iastore, 1) := by decide +kernel
theorem dX6_add_90 : decode cX6_add 90 = .ok (.aload_n 0, 1) := by decide +kernel
theorem dX6_add_91 : decode cX6_add 91 = .ok (.getfield 40, 3) := by decide +kernel
theorem dX6_add_94 : decode cX6_add 94 = .ok (.lload_n 1, 1) := by decide +kernel
theorem dX6_add_95 : decode cX6_add 95 = .ok (.invokestatic 107, 3) := by decide +kernel
theorem dX6_add_98 : decode cX6_add 98 = .ok (.aload_n 0, 1) := by decide +kernel
theorem dX6_add_99 : decode cX6_add 99 = .ok (.getfield 110, 3) := by decide +kernel
theorem dX6_add_102 : decode cX6_add 102 = .ok (.iconst 1, 1) := by decide +kernel
theorem dX6_add_103 : decode cX6_add 103 = .ok (.iadd, 1) := by decide +kernel
theorem dX6_add_104 : decode cX6_add 104 = .ok (.iastore, 1) := by decide +kernel
theorem dX6_add_105 : decode cX6_add 105 = .ok (.aload_n 0, 1) := by decide +kernel
theorem dX6_add_106 : decode cX6_add 106 = .ok (.dup, 1) := by decide +kernel
theorem dX6_add_107 : decode cX6_add 107 = .ok (.getfield 110, 3) := by decide +kernel
theorem dX6_add_110 : decode cX6_add 110 = .ok (.iconst 1, 1) := by decide +kernel
theorem dX6_add_111 : decode cX6_add 111 = .ok (.iadd, 1) := by decide +kernel
theorem dX6_add_112 : decode cX6_add 112 = .ok (.putfield 110, 3) := by decide +kernel
theorem dX6_add_115 : decode cX6_add 115 = .ok (.return_, 1) := by decide +kernel
theorem dX6_constant_0 : decode cX6_constant 0 = .ok (.ldc2_w 116, 3) := by decide +kernel
theorem dX6_constant_3 : decode cX6_constant 3 = .ok (.iload_n 0, 1) := by decide +kernel
theorem dX6_constant_4 : decode cX6_constant 4 = .ok (.i2l, 1) := by decide +kernel
theorem dX6_constant_5 : decode cX6_constant 5 = .ok (.lmul, 1) := by decide +kernel
theorem dX6_constant_6 : decode cX6_constant 6 = .ok (.lreturn, 1) := by decide +kernel
set_option maxRecDepth 20000 in
theorem ggX6_addAll_X6_made : GoodIn wsX6_addAll wsX6_made := goodIn_r _ [8, 9, 10, 7, 11, 12, 13, 14] (by decide +kernel) (by decide +kernel)
set_option maxRecDepth 20000 in
theorem gX6_addAll_X6_made : GoodIn wsX6_addAll (va_wsS RX6 78 yX6_made wsX6_made) := goodIn_app (goodIn_of _ (by decide +kernel)) ggX6_addAll_X6_made
set_option maxRecDepth 20000 in
theorem ggX6_addAll_X6_add : GoodIn wsX6_addAll wsX6_add := goodIn_r _ [18, 4, 3, 19, 20, 21, 22, 23, 24, 25, 26, 27, 7, 28, 29, 30, 31, 32, 33, 34, 35, 36, 37, 38, 39, 40, 41, 42, 43, 44, 45, 46, 47, 48, 49, 50, 51, 52, 53] (by decide +kernel) (by decide +kernel)
set_option maxRecDepth 20000 in
theorem gX6_addAll_X6_add : GoodIn wsX6_addAll (wsV RX6 118 RX6 yX6_add wsX6_add) := goodIn_app (goodIn_of _ (by decide +kernel)) ggX6_addAll_X6_add
theorem dX6_addAll_0 : decode cX6_addAll 0 = .ok (.iload_n 1, 1) := by decide +kernel
theorem dX6_addAll_1 : decode cX6_addAll 1 = .ok (.aload_n 0, 1) := by decide +kernel
theorem dX6_addAll_2 : decode cX6_addAll 2 = .ok (.getfield 9, 3) := by decide +kernel
theorem dX6_addAll_5 : decode cX6_addAll 5 = .ok (.iload_n 2, 1) := by decide +kernel
theorem dX6_addAll_6 : decode cX6_addAll 6 = .ok (.iaload, 1) := by decide +kernel
theorem dX6_addAll_7 : decode cX6_addAll 7 = .ok (.isub, 1) := by decide +kernel
theorem dX6_addAll_8 : decode cX6_addAll 8 = .ok (.istore_n 3, 1) := by decide +kernel
theorem dX6_addAll_9 : decode cX6_addAll 9 = .ok (.iload_n 2, 1) := by decide +kernel
theorem dX6_addAll_10 : decode cX6_addAll 10 = .ok (.iconst 4, 1) := by decide +kernel
theorem dX6_addAll_11 : decode cX6_addAll 11 = .ok (.if_icmp .ge 52, 3) := by decide +kernel
theorem dX6_addAll_14 : decode cX6_addAll 14 = .ok (.aload_n 0, 1) := by decide +kernel
theorem dX6_addAll_15 : decode cX6_addAll 15 = .ok (.getfield 46, 3) := by decide +kernel
theorem dX6_addAll_18 : decode cX6_addAll 18 = .ok (.iload_n 3, 1) := by decide +kernel
theorem dX6_addAll_19 : decode cX6_addAll 19 = .ok (.iaload, 1) := by decide +kernel
theorem dX6_addAll_20 : decode cX6_addAll 20 = .ok (.istore 4, 2) := by decide +kernel
theorem dX6_addAll_22 : decode cX6_addAll 22 = .ok (.iload 4, 2) := by decide +kernel
theorem dX6_addAll_24 : decode cX6_addAll 24 = .ok (.aload_n 0, 1) := by decide +kernel
theorem dX6_addAll_25 : decode cX6_addAll 25 = .ok (.getfield 46, 3) := by decide +kernel
theorem dX6_addAll_28 : decode cX6_addAll 28 = .ok (.iload_n 3, 1) := by decide +kernel
theorem dX6_addAll_29 : decode cX6_addAll 29 = .ok (.iconst 1, 1) := by decide +kernel
theorem dX6_addAll_30 : decode cX6_addAll 30 = .ok (.iadd, 1) := by decide +kernel
theorem dX6_addAll_31 : decode cX6_addAll 31 = .ok (.iaload, 1) := by decide +kernel
theorem dX6_addAll_32 : decode cX6_addAll 32 = .ok (.if_icmp .ge 30, 3) := by decide +kernel
theorem dX6_addAll_35 : decode cX6_addAll 35 = .ok (.aload_n 0, 1) := by decide +kernel
theorem dX6_addAll_36 : decode cX6_addAll 36 = .ok (.iload_n 2, 1) := by decide +kernel
theorem dX6_addAll_37 : decode cX6_addAll 37 = .ok (.aload_n 0, 1) := by decide +kernel
theorem dX6_addAll_38 : decode cX6_addAll 38 = .ok (.getfield 24, 3) := by decide +kernel
theorem dX6_addAll_41 : decode cX6_addAll 41 = .ok (.iload 4, 2) := by decide +kernel
theorem dX6_addAll_43 : decode cX6_addAll 43 = .ok (.laload, 1) := by decide +kernel
theorem dX6_addAll_44 : decode cX6_addAll 44 = .ok (.lconst 0, 1) := by decide +kernel
theorem dX6_addAll_45 : decode cX6_addAll 45 = .ok (.invokestatic 78, 3) := by decide +kernel
theorem dX6_addAll_48 : decode cX6_addAll 48 = .ok (.iload_n 1, 1) := by decide +kernel
theorem dX6_addAll_49 : decode cX6_addAll 49 = .ok (.iload_n 2, 1) := by decide +kernel
theorem dX6_addAll_50 : decode cX6_addAll 50 = .ok (.iload 4, 2) := by decide +kernel
theorem dX6_addAll_52 : decode cX6_addAll 52 = .ok (.iconst (-1), 1) := by decide +kernel
theorem dX6_addAll_53 : decode cX6_addAll 53 = .ok (.invokevirtual 118, 3) := by decide +kernel
theorem dX6_addAll_56 : decode cX6_addAll 56 = .ok (.iinc 4 1, 3) := by decide +kernel
theorem dX6_addAll_59 : decode cX6_addAll 59 = .ok (.goto (-37), 3) := by decide +kernel
theorem dX6_addAll_62 : decode cX6_addAll 62 = .ok (.return_, 1) := by decide +kernel
theorem dX6_addAll_63 : decode cX6_addAll 63 = .ok (.iconst 0, 1) := by decide +kernel
theorem dX6_addAll_64 : decode cX6_addAll 64 = .ok (.istore 4, 2) := by decide +kernel
theorem dX6_addAll_66 : decode cX6_addAll 66 = .ok (.iload 4, 2) := by decide +kernel
theorem dX6_addAll_68 : decode cX6_addAll 68 = .ok (.iload_n 3, 1) := by decide +kernel
theorem dX6_addAll_69 : decode cX6_addAll 69 = .ok (.if_icmp .gt 109, 3) := by decide +kernel
theorem dX6_addAll_72 : decode cX6_addAll 72 = .ok (.aload_n 0, 1) := by decide +kernel
theorem dX6_addAll_73 : decode cX6_addAll 73 = .ok (.getfield 46, 3) := by decide +kernel
theorem dX6_addAll_76 : decode cX6_addAll 76 = .ok (.iload 4, 2) := by decide +kernel
theorem dX6_addAll_78 : decode cX6_addAll 78 = .ok (.iaload, 1) := by decide +kernel
theorem dX6_addAll_79 : decode cX6_addAll 79 = .ok (.istore 5, 2) := by decide +kernel
theorem dX6_addAll_81 : decode cX6_addAll 81 = .ok (.iload 5, 2) := by decide +kernel
theorem dX6_addAll_83 : decode cX6_addAll 83 = .ok (.aload_n 0, 1) := by decide +kernel
theorem dX6_addAll_84 : decode cX6_addAll 84 = .ok (.getfield 46, 3) := by decide +kernel
theorem dX6_addAll_87 : decode cX6_addAll 87 = .ok (.iload 4, 2) := by decide +kernel
theorem dX6_addAll_89 : decode cX6_addAll 89 = .ok (.iconst 1, 1) := by decide +kernel
theorem dX6_addAll_90 : decode cX6_addAll 90 = .ok (.iadd, 1) := by decide +kernel
theorem dX6_addAll_91 : decode cX6_addAll 91 = .ok (.iaload, 1) := by decide +kernel
theorem dX6_addAll_92 : decode cX6_addAll 92 = .ok (.if_icmp .ge 80, 3) := by decide +kernel
theorem dX6_addAll_95 : decode cX6_addAll 95 = .ok (.aload_n 0, 1) := by decide +kernel
theorem dX6_addAll_96 : decode cX6_addAll 96 = .ok (.getfield 46, 3) := by decide +kernel
theorem dX6_addAll_99 : decode cX6_addAll 99 = .ok (.iload_n 3, 1) := by decide +kernel
theorem dX6_addAll_100 : decode cX6_addAll 100 = .ok (.iload 4, 2) := by decide +kernel
theorem dX6_addAll_102 : decode cX6_addAll 102 = .ok (.isub, 1) := by decide +kernel
theorem dX6_addAll_103 : decode cX6_addAll 103 = .ok (.iaload, 1) := by decide +kernel
theorem dX6_addAll_104 : decode cX6_addAll 104 = .ok (.istore 6, 2) := by decide +kernel
theorem dX6_addAll_106 : decode cX6_addAll 106 = .ok (.iload 6, 2) := by decide +kernel
theorem dX6_addAll_108 : decode cX6_addAll 108 = .ok (.aload_n 0, 1) := by decide +kernel
theorem dX6_addAll_109 : decode cX6_addAll 109 = .ok (.getfield 46, 3) := by decide +kernel
theorem dX6_addAll_112 : decode cX6_addAll 112 = .ok (.iload_n 3, 1) := by decide +kernel
theorem dX6_addAll_113 : decode cX6_addAll 113 = .ok (.iload 4, 2) := by decide +kernel
theorem dX6_addAll_115 : decode cX6_addAll 115 = .ok (.isub, 1) := by decide +kernel
theorem dX6_addAll_116 : decode cX6_addAll 116 = .ok (.iconst 1, 1) := by decide +kernel
theorem dX6_addAll_117 : decode cX6_addAll 117 = .ok (.iadd, 1) := by decide +kernel
theorem dX6_addAll_118 : decode cX6_addAll 118 = .ok (.iaload, 1) := by decide +kernel
theorem dX6_addAll_119 : decode cX6_addAll 119 = .ok (.if_icmp .ge 47, 3) := by decide +kernel
theorem dX6_addAll_122 : decode cX6_addAll 122 = .ok (.aload_n 0, 1) := by decide +kernel
theorem dX6_addAll_123 : decode cX6_addAll 123 = .ok (.getfield 110, 3) := by decide +kernel
theorem dX6_addAll_126 : decode cX6_addAll 126 = .ok (.sipush 2000, 3) := by decide +kernel
theorem dX6_addAll_129 : decode cX6_addAll 129 = .ok (.if_icmp .ge 37, 3) := by decide +kernel
theorem dX6_addAll_132 : decode cX6_addAll 132 = .ok (.aload_n 0, 1) := by decide +kernel
theorem dX6_addAll_133 : decode cX6_addAll 133 = .ok (.iload_n 2, 1) := by decide +kernel
theorem dX6_addAll_134 : decode cX6_addAll 134 = .ok (.aload_n 0, 1) := by decide +kernel
theorem dX6_addAll_135 : decode cX6_addAll 135 = .ok (.getfield 24, 3) := by decide +kernel
theorem dX6_addAll_138 : decode cX6_addAll 138 = .ok (.iload 5, 2) := by decide +kernel
theorem dX6_addAll_140 : decode cX6_addAll 140 = .ok (.laload, 1) := by decide +kernel
theorem dX6_addAll_141 : decode cX6_addAll 141 = .ok (.aload_n 0, 1) := by decide +kernel
theorem dX6_addAll_142 : decode cX6_addAll 142 = .ok (.getfield 24, 3) := by decide +kernel
theorem dX6_addAll_145 : decode cX6_addAll 145 = .ok (.iload 6, 2) := by decide +kernel
theorem dX6_addAll_147 : decode cX6_addAll 147 = .ok (.laload, 1) := by decide +kernel
theorem dX6_addAll_148 : decode cX6_addAll 148 = .ok (.invokestatic 78, 3) := by decide +kernel
theorem dX6_addAll_151 : decode cX6_addAll 151 = .ok (.iload_n 1, 1) := by decide +kernel
theorem dX6_addAll_152 : decode cX6_addAll 152 = .ok (.iload_n 2, 1) := by decide +kernel
theorem dX6_addAll_153 : decode cX6_addAll 153 = .ok (.iload 5, 2) := by decide +kernel
theorem dX6_addAll_155 : decode cX6_addAll 155 = .ok (.iload 6, 2) := by decide +kernel
theorem dX6_addAll_157 : decode cX6_addAll 157 = .ok (.invokevirtual 118, 3) := by decide +kernel
theorem dX6_addAll_160 : decode cX6_addAll 160 = .ok (.iinc 6 1, 3) := by decide +kernel
theorem dX6_addAll_163 : decode cX6_addAll 163 = .ok (.goto (-57), 3) := by decide +kernel
theorem dX6_addAll_166 : decode cX6_addAll 166 = .ok (.iinc 5 1, 3) := by decide +kernel
theorem dX6_addAll_169 : decode cX6_addAll 169 = .ok (.goto (-88), 3) := by decide +kernel
theorem dX6_addAll_172 : decode cX6_addAll 172 = .ok (.iinc 4 1, 3) := by decide +kernel
theorem dX6_addAll_175 : decode cX6_addAll 175 = .ok (.goto (-109), 3) := by decide +kernel
theorem dX6_addAll_178 : decode cX6_addAll 178 = .ok (.return_, 1) := by decide +kernel
set_option maxRecDepth 20000 in
theorem ggX6_search_X6_isIn : GoodIn wsX6_search wsX6_isIn := goodIn_r _ [13] (by decide +kernel) (by decide +kernel)
set_option maxRecDepth 20000 in
theorem gX6_search_X6_isIn : GoodIn wsX6_search (va_wsS RX6 58 yX6_isIn wsX6_isIn) := goodIn_app (goodIn_of _ (by decide +kernel)) ggX6_search_X6_isIn
set_option maxRecDepth 20000 in
theorem ggX6_search_X6_no : GoodIn wsX6_search wsX6_no := goodIn_r _ [17, 1, 53, 54, 55, 56, 57, 58, 59, 60, 61, 62, 63, 64, 65, 66, 67, 68, 69, 70, 71, 72, 73] (by decide +kernel) (by decide +kernel)
set_option maxRecDepth 20000 in
theorem gX6_search_X6_no : GoodIn wsX6_search (wsV RX6 62 RX6 yX6_no wsX6_no) := goodIn_app (goodIn_of _ (by decide +kernel)) ggX6_search_X6_no
set_option maxRecDepth 20000 in
theorem ggX6_search_X6_add : GoodIn wsX6_search wsX6_add := goodIn_r _ [21, 2, 22, 23, 24, 25, 26, 27, 3, 28, 29, 30, 12, 31, 32, 33, 34, 35, 53, 54, 55, 56, 57, 58, 59, 60, 61, 62, 63, 64, 65, 66, 67, 68, 69, 70, 71, 72, 73] (by decide +kernel) (by decide +kernel)
set_option maxRecDepth 20000 in
theorem gX6_search_X6_add : GoodIn wsX6_search (wsV RX6 118 RX6 yX6_add wsX6_add) := goodIn_app (goodIn_of _ (by decide +kernel)) ggX6_search_X6_add
set_option maxRecDepth 20000 in
theorem ggX6_search_X6_constant : GoodIn wsX6_search wsX6_constant := goodIn_r _ [38, 39] (by decide +kernel) (by decide +kernel)
set_option maxRecDepth 20000 in
theorem gX6_search_X6_constant : GoodIn wsX6_search (va_wsS RX6 124 yX6_constant wsX6_constant) := goodIn_app (goodIn_of _ (by decide +kernel)) ggX6_search_X6_constant
set_option maxRecDepth 20000 in
theorem ggX6_search_X6_addAll : GoodIn wsX6_search wsX6_addAll := goodIn_r _ [43, 9, 4, 22, 2, 44, 45, 12, 46, 47, 48, 49, 50, 51, 52, 18, 19, 20, 21, 23, 24, 25, 26, 27, 3, 28, 29, 30, 31, 32, 33, 34, 35, 53, 54, 55, 56, 57, 58, 59, 60, 61, 62, 63, 64, 65, 66, 67, 68, 69, 70, 71, 72, 73] (by decide +kernel) (by decide +kernel)
set_option maxRecDepth 20000 in
theorem gX6_search_X6_addAll : GoodIn wsX6_search (wsV RX6 128 RX6 yX6_addAll wsX6_addAll) := goodIn_app (goodIn_of _ (by decide +kernel)) ggX6_search_X6_addAll
theorem dX6_search_0 : decode cX6_search 0 = .ok (.aload_n 0, 1) := by decide +kernel
theorem dX6_search_1 : decode cX6_search 1 = .ok (.iconst 0, 1) := by decide +kernel
theorem dX6_search_2 : decode cX6_search 2 = .ok (.putfield 55, 3) := by decide +kernel
theorem dX6_search_5 : decode cX6_search 5 = .ok (.iload_n 1, 1) := by decide +kernel
theorem dX6_search_6 : decode cX6_search 6 = .ok (.iconst 0, 1) := by decide +kernel
theorem dX6_search_7 : decode cX6_search 7 = .ok (.bipush 6, 2) := by decide +kernel
theorem dX6_search_9 : decode cX6_search 9 = .ok (.invokestatic 58, 3) := by decide +kernel
theorem dX6_search_12 : decode cX6_search 12 = .ok (.ifCond .ne 9, 3) := by decide +kernel
theorem dX6_search_15 : decode cX6_search 15 = .ok (.aload_n 0, 1) := by decide +kernel
theorem dX6_search_16 : decode cX6_search 16 = .ok (.iconst 1, 1) := by decide +kernel
theorem dX6_search_17 : decode cX6_search 17 = .ok (.invokevirtual 62, 3) := by decide +kernel
theorem dX6_search_20 : decode cX6_search 20 = .ok (.ireturn, 1) := by decide +kernel
theorem dX6_search_21 : decode cX6_search 21 = .ok (.aload_n 0, 1) := by decide +kernel
theorem dX6_search_22 : decode cX6_search 22 = .ok (.iconst 0, 1) := by decide +kernel
theorem dX6_search_23 : decode cX6_search 23 = .ok (.putfield 110, 3) := by decide +kernel
theorem dX6_search_26 : decode cX6_search 26 = .ok (.iconst 0, 1) := by decide +kernel
theorem dX6_search_27 : decode cX6_search 27 = .ok (.istore_n 2, 1) := by decide +kernel
theorem dX6_search_28 : decode cX6_search 28 = .ok (.iload_n 2, 1) := by decide +kernel
theorem dX6_search_29 : decode cX6_search 29 = .ok (.sipush 1024, 3) := by decide +kernel
theorem dX6_search_32 : decode cX6_search 32 = .ok (.if_icmp .ge 16, 3) := by decide +kernel
theorem dX6_search_35 : decode cX6_search 35 = .ok (.aload_n 0, 1) := by decide +kernel
theorem dX6_search_36 : decode cX6_search 36 = .ok (.getfield 40, 3) := by decide +kernel
theorem dX6_search_39 : decode cX6_search 39 = .ok (.iload_n 2, 1) := by decide +kernel
theorem dX6_search_40 : decode cX6_search 40 = .ok (.iconst 0, 1) := by decide +kernel
theorem dX6_search_41 : decode cX6_search 41 = .ok (.iastore, 1) := by decide +kernel
theorem dX6_search_42 : decode cX6_search 42 = .ok (.iinc 2 1, 3) := by decide +kernel
theorem dX6_search_45 : decode cX6_search 45 = .ok (.goto (-17), 3) := by decide +kernel
theorem dX6_search_48 : decode cX6_search 48 = .ok (.iconst 0, 1) := by decide +kernel
theorem dX6_search_49 : decode cX6_search 49 = .ok (.istore_n 2, 1) := by decide +kernel
theorem dX6_search_50 : decode cX6_search 50 = .ok (.iload_n 2, 1) := by decide +kernel
theorem dX6_search_51 : decode cX6_search 51 = .ok (.iload_n 1, 1) := by decide +kernel
theorem dX6_search_52 : decode cX6_search 52 = .ok (.if_icmp .gt 129, 3) := by decide +kernel
theorem dX6_search_55 : decode cX6_search 55 = .ok (.aload_n 0, 1) := by decide +kernel
theorem dX6_search_56 : decode cX6_search 56 = .ok (.getfield 46, 3) := by decide +kernel
theorem dX6_search_59 : decode cX6_search 59 = .ok (.iload_n 2, 1) := by decide +kernel
theorem dX6_search_60 : decode cX6_search 60 = .ok (.aload_n 0, 1) := by decide +kernel
theorem dX6_search_61 : decode cX6_search 61 = .ok (.getfield 110, 3) := by decide +kernel
theorem dX6_search_64 : decode cX6_search 64 = .ok (.iastore, 1) := by decide +kernel
theorem dX6_search_65 : decode cX6_search 65 = .ok (.iload_n 2, 1) := by decide +kernel
theorem dX6_search_66 : decode cX6_search 66 = .ok (.ifCond .ne 14, 3) := by decide +kernel
theorem dX6_search_69 : decode cX6_search 69 = .ok (.aload_n 0, 1) := by decide +kernel
theorem dX6_search_70 : decode cX6_search 70 = .ok (.ldc2_w 122, 3) := by decide +kernel
theorem dX6_search_73 : decode cX6_search 73 = .ok (.iconst 0, 1) := by decide +kernel
theorem dX6_search_74 : decode cX6_search 74 = .ok (.iconst (-1), 1) := by decide +kernel
theorem dX6_search_75 : decode cX6_search 75 = .ok (.iconst (-1), 1) := by decide +kernel
theorem dX6_search_76 : decode cX6_search 76 = .ok (.iconst (-1), 1) := by decide +kernel
theorem dX6_search_77 : decode cX6_search 77 = .ok (.invokevirtual 118, 3) := by decide +kernel
theorem dX6_search_80 : decode cX6_search 80 = .ok (.iconst 0, 1) := by decide +kernel
theorem dX6_search_81 : decode cX6_search 81 = .ok (.istore_n 3, 1) := by decide +kernel
theorem dX6_search_82 : decode cX6_search 82 = .ok (.iload_n 3, 1) := by decide +kernel
theorem dX6_search_83 : decode cX6_search 83 = .ok (.bipush 16, 2) := by decide +kernel
theorem dX6_search_85 : decode cX6_search 85 = .ok (.if_icmp .ge 39, 3) := by decide +kernel
theorem dX6_search_88 : decode cX6_search 88 = .ok (.iload_n 2, 1) := by decide +kernel
theorem dX6_search_89 : decode cX6_search 89 = .ok (.aload_n 0, 1) := by decide +kernel
theorem dX6_search_90 : decode cX6_search 90 = .ok (.getfield 17, 3) := by decide +kernel
theorem dX6_search_93 : decode cX6_search 93 = .ok (.if_icmp .ne 31, 3) := by decide +kernel
theorem dX6_search_96 : decode cX6_search 96 = .ok (.aload_n 0, 1) := by decide +kernel
theorem dX6_search_97 : decode cX6_search 97 = .ok (.getfield 21, 3) := by decide +kernel
theorem dX6_search_100 : decode cX6_search 100 = .ok (.iload_n 3, 1) := by decide +kernel
theorem dX6_search_101 : decode cX6_search 101 = .ok (.baload, 1) := by decide +kernel
theorem dX6_search_102 : decode cX6_search 102 = .ok (.ifCond .eq 16, 3) := by decide +kernel
theorem dX6_search_105 : decode cX6_search 105 = .ok (.aload_n 0, 1) := by decide +kernel
theorem dX6_search_106 : decode cX6_search 106 = .ok (.iload_n 3, 1) := by decide +kernel
theorem dX6_search_107 : decode cX6_search 107 = .ok (.invokestatic 124, 3) := by decide +kernel
theorem dX6_search_110 : decode cX6_search 110 = .ok (.iload_n 2, 1) := by decide +kernel
theorem dX6_search_111 : decode cX6_search 111 = .ok (.bipush (-2), 2) := by decide +kernel
theorem dX6_search_113 : decode cX6_search 113 = .ok (.iload_n 3, 1) := by decide +kernel
theorem dX6_search_114 : decode cX6_search 114 = .ok (.iconst (-1), 1) := by decide +kernel
theorem dX6_search_115 : decode cX6_search 115 = .ok (.invokevirtual 118, 3) := by decide +kernel
theorem dX6_search_118 : decode cX6_search 118 = .ok (.iinc 3 1, 3) := by decide +kernel
theorem dX6_search_121 : decode cX6_search 121 = .ok (.goto (-39), 3) := by decide +kernel
theorem dX6_search_124 : decode cX6_search 124 = .ok (.iconst 0, 1) := by decide +kernel
theorem dX6_search_125 : decode cX6_search 125 = .ok (.istore_n 3, 1) := by decide +kernel
theorem dX6_search_126 : decode cX6_search 126 = .ok (.iload_n 3, 1) := by decide +kernel
theorem dX6_search_127 : decode cX6_search 127 = .ok (.bipush 10, 2) := by decide +kernel
theorem dX6_search_129 : decode cX6_search 129 = .ok (.if_icmp .ge 34, 3) := by decide +kernel
theorem dX6_search_132 : decode cX6_search 132 = .ok (.aload_n 0, 1) := by decide +kernel
theorem dX6_search_133 : decode cX6_search 133 = .ok (.getfield 13, 3) := by decide +kernel
theorem dX6_search_136 : decode cX6_search 136 = .ok (.iload_n 3, 1) := by decide +kernel
theorem dX6_search_137 : decode cX6_search 137 = .ok (.baload, 1) := by decide +kernel
theorem dX6_search_138 : decode cX6_search 138 = .ok (.ifCond .eq 19, 3) := by decide +kernel
theorem dX6_search_141 : decode cX6_search 141 = .ok (.aload_n 0, 1) := by decide +kernel
theorem dX6_search_142 : decode cX6_search 142 = .ok (.getfield 9, 3) := by decide +kernel
theorem dX6_search_145 : decode cX6_search 145 = .ok (.iload_n 3, 1) := by decide +kernel
theorem dX6_search_146 : decode cX6_search 146 = .ok (.iaload, 1) := by decide +kernel
theorem dX6_search_147 : decode cX6_search 147 = .ok (.iload_n 2, 1) := by decide +kernel
theorem dX6_search_148 : decode cX6_search 148 = .ok (.if_icmp .gt 9, 3) := by decide +kernel
theorem dX6_search_151 : decode cX6_search 151 = .ok (.aload_n 0, 1) := by decide +kernel
theorem dX6_search_152 : decode cX6_search 152 = .ok (.iload_n 2, 1) := by decide +kernel
theorem dX6_search_153 : decode cX6_search 153 = .ok (.iload_n 3, 1) := by decide +kernel
theorem dX6_search_154 : decode cX6_search 154 = .ok (.invokevirtual 128, 3) := by decide +kernel
theorem dX6_search_157 : decode cX6_search 157 = .ok (.iinc 3 1, 3) := by decide +kernel
theorem dX6_search_160 : decode cX6_search 160 = .ok (.goto (-34), 3) := by decide +kernel
theorem dX6_search_163 : decode cX6_search 163 = .ok (.aload_n 0, 1) := by decide +kernel
theorem dX6_search_164 : decode cX6_search 164 = .ok (.getfield 46, 3) := by decide +kernel
theorem dX6_search_167 : decode cX6_search 167 = .ok (.iload_n 2, 1) := by decide +kernel
theorem dX6_search_168 : decode cX6_search 168 = .ok (.iconst 1, 1) := by decide +kernel
theorem dX6_search_169 : decode cX6_search 169 = .ok (.iadd, 1) := by decide +kernel
theorem dX6_search_170 : decode cX6_search 170 = .ok (.aload_n 0, 1) := by decide +kernel
theorem dX6_search_171 : decode cX6_search 171 = .ok (.getfield 110, 3) := by decide +kernel
theorem dX6_search_174 : decode cX6_search 174 = .ok (.iastore, 1) := by decide +kernel
theorem dX6_search_175 : decode cX6_search 175 = .ok (.iinc 2 1, 3) := by decide +kernel
theorem dX6_search_178 : decode cX6_search 178 = .ok (.goto (-128), 3) := by decide +kernel
theorem dX6_search_181 : decode cX6_search 181 = .ok (.aload_n 0, 1) := by decide +kernel
theorem dX6_search_182 : decode cX6_search 182 = .ok (.getfield 110, 3) := by decide +kernel
theorem dX6_search_185 : decode cX6_search 185 = .ok (.ireturn, 1) := by decide +kernel
theorem dX6_entries_0 : decode cX6_entries 0 = .ok (.aload_n 0, 1) := by decide +kernel
theorem dX6_entries_1 : decode cX6_entries 1 = .ok (.iconst 0, 1) := by decide +kernel
theorem dX6_entries_2 : decode cX6_entries 2 = .ok (.putfield 55, 3) := by decide +kernel
theorem dX6_entries_5 : decode cX6_entries 5 = .ok (.aload_n 0, 1) := by decide +kernel
theorem dX6_entries_6 : decode cX6_entries 6 = .ok (.getfield 110, 3) := by decide +kernel
theorem dX6_entries_9 : decode cX6_entries 9 = .ok (.ireturn, 1) := by decide +kernel
set_option maxRecDepth 20000 in
theorem ggX6_ofCost_X6_isIn : GoodIn wsX6_ofCost wsX6_isIn := goodIn_r _ [7] (by decide +kernel) (by decide +kernel)
set_option maxRecDepth 20000 in
theorem gX6_ofCost_X6_isIn : GoodIn wsX6_ofCost (va_wsS RX6 58 yX6_isIn wsX6_isIn) := goodIn_app (goodIn_of _ (by decide +kernel)) ggX6_ofCost_X6_isIn
set_option maxRecDepth 20000 in
theorem ggX6_ofCost_X6_no : GoodIn wsX6_ofCost wsX6_no := goodIn_r _ [11, 1, 12, 13, 14, 15, 16, 17, 18, 19, 20, 21, 22, 23, 24, 25, 26, 27, 28, 29, 30, 31, 32] (by decide +kernel) (by decide +kernel)
set_option maxRecDepth 20000 in
theorem gX6_ofCost_X6_no : GoodIn wsX6_ofCost (wsV RX6 62 RX6 yX6_no wsX6_no) := goodIn_app (goodIn_of _ (by decide +kernel)) ggX6_ofCost_X6_no
theorem dX6_ofCost_0 : decode cX6_ofCost 0 = .ok (.aload_n 0, 1) := by decide +kernel
theorem dX6_ofCost_1 : decode cX6_ofCost 1 = .ok (.iconst 0, 1) := by decide +kernel
theorem dX6_ofCost_2 : decode cX6_ofCost 2 = .ok (.putfield 55, 3) := by decide +kernel
theorem dX6_ofCost_5 : decode cX6_ofCost 5 = .ok (.iload_n 1, 1) := by decide +kernel
theorem dX6_ofCost_6 : decode cX6_ofCost 6 = .ok (.iconst 0, 1) := by decide +kernel
theorem dX6_ofCost_7 : decode cX6_ofCost 7 = .ok (.bipush 6, 2) := by decide +kernel
theorem dX6_ofCost_9 : decode cX6_ofCost 9 = .ok (.invokestatic 58, 3) := by decide +kernel
theorem dX6_ofCost_12 : decode cX6_ofCost 12 = .ok (.ifCond .ne 9, 3) := by decide +kernel
theorem dX6_ofCost_15 : decode cX6_ofCost 15 = .ok (.aload_n 0, 1) := by decide +kernel
theorem dX6_ofCost_16 : decode cX6_ofCost 16 = .ok (.iconst 1, 1) := by decide +kernel
theorem dX6_ofCost_17 : decode cX6_ofCost 17 = .ok (.invokevirtual 62, 3) := by decide +kernel
theorem dX6_ofCost_20 : decode cX6_ofCost 20 = .ok (.ireturn, 1) := by decide +kernel
theorem dX6_ofCost_21 : decode cX6_ofCost 21 = .ok (.iconst 0, 1) := by decide +kernel
theorem dX6_ofCost_22 : decode cX6_ofCost 22 = .ok (.istore_n 2, 1) := by decide +kernel
theorem dX6_ofCost_23 : decode cX6_ofCost 23 = .ok (.iconst 0, 1) := by decide +kernel
theorem dX6_ofCost_24 : decode cX6_ofCost 24 = .ok (.istore_n 3, 1) := by decide +kernel
theorem dX6_ofCost_25 : decode cX6_ofCost 25 = .ok (.iload_n 3, 1) := by decide +kernel
theorem dX6_ofCost_26 : decode cX6_ofCost 26 = .ok (.aload_n 0, 1) := by decide +kernel
theorem dX6_ofCost_27 : decode cX6_ofCost 27 = .ok (.getfield 110, 3) := by decide +kernel
theorem dX6_ofCost_30 : decode cX6_ofCost 30 = .ok (.if_icmp .ge 27, 3) := by decide +kernel
theorem dX6_ofCost_33 : decode cX6_ofCost 33 = .ok (.iload_n 2, 1) := by decide +kernel
theorem dX6_ofCost_34 : decode cX6_ofCost 34 = .ok (.aload_n 0, 1) := by decide +kernel
theorem dX6_ofCost_35 : decode cX6_ofCost 35 = .ok (.getfield 28, 3) := by decide +kernel
theorem dX6_ofCost_38 : decode cX6_ofCost 38 = .ok (.iload_n 3, 1) := by decide +kernel
theorem dX6_ofCost_39 : decode cX6_ofCost 39 = .ok (.iaload, 1) := by decide +kernel
theorem dX6_ofCost_40 : decode cX6_ofCost 40 = .ok (.iload_n 1, 1) := by decide +kernel
theorem dX6_ofCost_41 : decode cX6_ofCost 41 = .ok (.if_icmp .ne 7, 3) := by decide +kernel
theorem dX6_ofCost_44 : decode cX6_ofCost 44 = .ok (.iconst 1, 1) := by decide +kernel
theorem dX6_ofCost_45 : decode cX6_ofCost 45 = .ok (.goto 4, 3) := by decide +kernel
theorem dX6_ofCost_48 : decode cX6_ofCost 48 = .ok (.iconst 0, 1) := by decide +kernel
theorem dX6_ofCost_49 : decode cX6_ofCost 49 = .ok (.iadd, 1) := by decide +kernel
theorem dX6_ofCost_50 : decode cX6_ofCost 50 = .ok (.istore_n 2, 1) := by decide +kernel
theorem dX6_ofCost_51 : decode cX6_ofCost 51 = .ok (.iinc 3 1, 3) := by decide +kernel
theorem dX6_ofCost_54 : decode cX6_ofCost 54 = .ok (.goto (-29), 3) := by decide +kernel
theorem dX6_ofCost_57 : decode cX6_ofCost 57 = .ok (.iload_n 2, 1) := by decide +kernel
theorem dX6_ofCost_58 : decode cX6_ofCost 58 = .ok (.ireturn, 1) := by decide +kernel
set_option maxRecDepth 20000 in
theorem ggX6_isEntry_X6_isIn : GoodIn wsX6_isEntry wsX6_isIn := goodIn_r _ [5] (by decide +kernel) (by decide +kernel)
set_option maxRecDepth 20000 in
theorem gX6_isEntry_X6_isIn : GoodIn wsX6_isEntry (va_wsS RX6 58 yX6_isIn wsX6_isIn) := goodIn_app (goodIn_of _ (by decide +kernel)) ggX6_isEntry_X6_isIn
theorem dX6_isEntry_0 : decode cX6_isEntry 0 = .ok (.iload_n 1, 1) := by decide +kernel
theorem dX6_isEntry_1 : decode cX6_isEntry 1 = .ok (.iconst 0, 1) := by decide +kernel
theorem dX6_isEntry_2 : decode cX6_isEntry 2 = .ok (.aload_n 0, 1) := by decide +kernel
theorem dX6_isEntry_3 : decode cX6_isEntry 3 = .ok (.getfield 110, 3) := by decide +kernel
theorem dX6_isEntry_6 : decode cX6_isEntry 6 = .ok (.iconst 1, 1) := by decide +kernel
theorem dX6_isEntry_7 : decode cX6_isEntry 7 = .ok (.isub, 1) := by decide +kernel
theorem dX6_isEntry_8 : decode cX6_isEntry 8 = .ok (.invokestatic 58, 3) := by decide +kernel
theorem dX6_isEntry_11 : decode cX6_isEntry 11 = .ok (.ireturn, 1) := by decide +kernel
set_option maxRecDepth 20000 in
theorem ggX6_function_X6_isEntry : GoodIn wsX6_function wsX6_isEntry := goodIn_r _ [7, 8, 9, 10, 6, 11, 12, 13, 14, 15, 16, 17, 18, 19, 20, 21, 22, 23, 24, 25, 26, 27, 28, 29, 30, 31, 32] (by decide +kernel) (by decide +kernel)
set_option maxRecDepth 20000 in
theorem gX6_function_X6_isEntry : GoodIn wsX6_function (wsV RX6 132 RX6 yX6_isEntry wsX6_isEntry) := goodIn_app (goodIn_of _ (by decide +kernel)) ggX6_function_X6_isEntry
theorem dX6_function_0 : decode cX6_function 0 = .ok (.aload_n 0, 1) := by decide +kernel
theorem dX6_function_1 : decode cX6_function 1 = .ok (.aload_n 0, 1) := by decide +kernel
theorem dX6_function_2 : decode cX6_function 2 = .ok (.iload_n 1, 1) := by decide +kernel
theorem dX6_function_3 : decode cX6_function 3 = .ok (.invokevirtual 132, 3) := by decide +kernel
theorem dX6_function_6 : decode cX6_function 6 = .ok (.ifCond .eq 7, 3) := by decide +kernel
theorem dX6_function_9 : decode cX6_function 9 = .ok (.iconst 0, 1) := by decide +kernel
theorem dX6_function_10 : decode cX6_function 10 = .ok (.goto 4, 3) := by decide +kernel
theorem dX6_function_13 : decode cX6_function 13 = .ok (.iconst 1, 1) := by decide +kernel
theorem dX6_function_14 : decode cX6_function 14 = .ok (.putfield 55, 3) := by decide +kernel
theorem dX6_function_17 : decode cX6_function 17 = .ok (.aload_n 0, 1) := by decide +kernel
theorem dX6_function_18 : decode cX6_function 18 = .ok (.getfield 55, 3) := by decide +kernel
theorem dX6_function_21 : decode cX6_function 21 = .ok (.ifCond .ne 12, 3) := by decide +kernel
theorem dX6_function_24 : decode cX6_function 24 = .ok (.aload_n 0, 1) := by decide +kernel
theorem dX6_function_25 : decode cX6_function 25 = .ok (.getfield 24, 3) := by decide +kernel
theorem dX6_function_28 : decode cX6_function 28 = .ok (.iload_n 1, 1) := by decide +kernel
theorem dX6_function_29 : decode cX6_function 29 = .ok (.laload, 1) := by decide +kernel
theorem dX6_function_30 : decode cX6_function 30 = .ok (.goto 4, 3) := by decide +kernel
theorem dX6_function_33 : decode cX6_function 33 = .ok (.lconst 0, 1) := by decide +kernel
theorem dX6_function_34 : decode cX6_function 34 = .ok (.lreturn, 1) := by decide +kernel
theorem dX6_told_0 : decode cX6_told 0 = .ok (.iload_n 2, 1) := by decide +kernel
theorem dX6_told_1 : decode cX6_told 1 = .ok (.ifCond .ne 12, 3) := by decide +kernel
theorem dX6_told_4 : decode cX6_told 4 = .ok (.aload_n 0, 1) := by decide +kernel
theorem dX6_told_5 : decode cX6_told 5 = .ok (.getfield 28, 3) := by decide +kernel
theorem dX6_told_8 : decode cX6_told 8 = .ok (.iload_n 1, 1) := by decide +kernel
theorem dX6_told_9 : decode cX6_told 9 = .ok (.iaload, 1) := by decide +kernel
theorem dX6_told_10 : decode cX6_told 10 = .ok (.goto 37, 3) := by decide +kernel
theorem dX6_told_13 : decode cX6_told 13 = .ok (.iload_n 2, 1) := by decide +kernel
theorem dX6_told_14 : decode cX6_told 14 = .ok (.iconst 1, 1) := by decide +kernel
theorem dX6_told_15 : decode cX6_told 15 = .ok (.if_icmp .ne 12, 3) := by decide +kernel
theorem dX6_told_18 : decode cX6_told 18 = .ok (.aload_n 0, 1) := by decide +kernel
theorem dX6_told_19 : decode cX6_told 19 = .ok (.getfield 31, 3) := by decide +kernel
theorem dX6_told_22 : decode cX6_told 22 = .ok (.iload_n 1, 1) := by decide +kernel
theorem dX6_told_23 : decode cX6_told 23 = .ok (.iaload, 1) := by decide +kernel
theorem dX6_told_24 : decode cX6_told 24 = .ok (.goto 23, 3) := by decide +kernel
theorem dX6_told_27 : decode cX6_told 27 = .ok (.iload_n 2, 1) := by decide +kernel
theorem dX6_told_28 : decode cX6_told 28 = .ok (.iconst 2, 1) := by decide +kernel
theorem dX6_told_29 : decode cX6_told 29 = .ok (.if_icmp .ne 12, 3) := by decide +kernel
theorem dX6_told_32 : decode cX6_told 32 = .ok (.aload_n 0, 1) := by decide +kernel
theorem dX6_told_33 : decode cX6_told 33 = .ok (.getfield 34, 3) := by decide +kernel
theorem dX6_told_36 : decode cX6_told 36 = .ok (.iload_n 1, 1) := by decide +kernel
theorem dX6_told_37 : decode cX6_told 37 = .ok (.iaload, 1) := by decide +kernel
theorem dX6_told_38 : decode cX6_told 38 = .ok (.goto 9, 3) := by decide +kernel
theorem dX6_told_41 : decode cX6_told 41 = .ok (.aload_n 0, 1) := by decide +kernel
theorem dX6_told_42 : decode cX6_told 42 = .ok (.getfield 37, 3) := by decide +kernel
theorem dX6_told_45 : decode cX6_told 45 = .ok (.iload_n 1, 1) := by decide +kernel
theorem dX6_told_46 : decode cX6_told 46 = .ok (.iaload, 1) := by decide +kernel
theorem dX6_told_47 : decode cX6_told 47 = .ok (.ireturn, 1) := by decide +kernel
set_option maxRecDepth 20000 in
theorem ggX6_entry_X6_isEntry : GoodIn wsX6_entry wsX6_isEntry := goodIn_r _ [6, 7, 8, 9, 5, 10, 23, 24, 25, 26, 27, 28, 29, 30, 31, 32, 33, 34, 35, 36, 37, 38, 39, 40, 41, 42, 43] (by decide +kernel) (by decide +kernel)
set_option maxRecDepth 20000 in
theorem gX6_entry_X6_isEntry : GoodIn wsX6_entry (wsV RX6 132 RX6 yX6_isEntry wsX6_isEntry) := goodIn_app (goodIn_of _ (by decide +kernel)) ggX6_entry_X6_isEntry
set_option maxRecDepth 20000 in
theorem ggX6_entry_X6_isIn : GoodIn wsX6_entry wsX6_isIn := goodIn_r _ [10] (by decide +kernel) (by decide +kernel)
set_option maxRecDepth 20000 in
theorem gX6_entry_X6_isIn : GoodIn wsX6_entry (va_wsS RX6 58 yX6_isIn wsX6_isIn) := goodIn_app (goodIn_of _ (by decide +kernel)) ggX6_entry_X6_isIn
set_option maxRecDepth 20000 in
theorem ggX6_entry_X6_told : GoodIn wsX6_entry wsX6_told := goodIn_r _ [14, 15, 16, 17, 18, 23, 24, 25, 26, 27, 28, 29, 30, 31, 32, 33, 34, 35, 36, 37, 38, 39, 40, 41, 42, 43] (by decide +kernel) (by decide +kernel)
set_option maxRecDepth 20000 in
theorem gX6_entry_X6_told : GoodIn wsX6_entry (wsV RX6 136 RX6 yX6_told wsX6_told) := goodIn_app (goodIn_of _ (by decide +kernel)) ggX6_entry_X6_told
set_option maxRecDepth 20000 in
theorem ggX6_entry_X6_no : GoodIn wsX6_entry wsX6_no := goodIn_r _ [22, 1, 23, 24, 25, 26, 27, 28, 29, 30, 31, 32, 33, 34, 35, 36, 37, 38, 39, 40, 41, 42, 43] (by decide +kernel) (by decide +kernel)
set_option maxRecDepth 20000 in
theorem gX6_entry_X6_no : GoodIn wsX6_entry (wsV RX6 62 RX6 yX6_no wsX6_no) := goodIn_app (goodIn_of _ (by decide +kernel)) ggX6_entry_X6_no
theorem dX6_entry_0 : decode cX6_entry 0 = .ok (.aload_n 0, 1) := by decide +kernel
theorem dX6_entry_1 : decode cX6_entry 1 = .ok (.iconst 0, 1) := by decide +kernel
theorem dX6_entry_2 : decode cX6_entry 2 = .ok (.putfield 55, 3) := by decide +kernel
theorem dX6_entry_5 : decode cX6_entry 5 = .ok (.aload_n 0, 1) := by decide +kernel
theorem dX6_entry_6 : decode cX6_entry 6 = .ok (.iload_n 1, 1) := by decide +kernel
theorem dX6_entry_7 : decode cX6_entry 7 = .ok (.invokevirtual 132, 3) := by decide +kernel
theorem dX6_entry_10 : decode cX6_entry 10 = .ok (.ifCond .eq 21, 3) := by decide +kernel
theorem dX6_entry_13 : decode cX6_entry 13 = .ok (.iload_n 2, 1) := by decide +kernel
theorem dX6_entry_14 : decode cX6_entry 14 = .ok (.iconst 0, 1) := by decide +kernel
theorem dX6_entry_15 : decode cX6_entry 15 = .ok (.iconst 3, 1) := by decide +kernel
theorem dX6_entry_16 : decode cX6_entry 16 = .ok (.invokestatic 58, 3) := by decide +kernel
theorem dX6_entry_19 : decode cX6_entry 19 = .ok (.ifCond .eq 12, 3) := by decide +kernel
theorem dX6_entry_22 : decode cX6_entry 22 = .ok (.aload_n 0, 1) := by decide +kernel
theorem dX6_entry_23 : decode cX6_entry 23 = .ok (.iload_n 1, 1) := by decide +kernel
theorem dX6_entry_24 : decode cX6_entry 24 = .ok (.iload_n 2, 1) := by decide +kernel
theorem dX6_entry_25 : decode cX6_entry 25 = .ok (.invokevirtual 136, 3) := by decide +kernel
theorem dX6_entry_28 : decode cX6_entry 28 = .ok (.goto 8, 3) := by decide +kernel
theorem dX6_entry_31 : decode cX6_entry 31 = .ok (.aload_n 0, 1) := by decide +kernel
theorem dX6_entry_32 : decode cX6_entry 32 = .ok (.iconst 1, 1) := by decide +kernel
theorem dX6_entry_33 : decode cX6_entry 33 = .ok (.invokevirtual 62, 3) := by decide +kernel
theorem dX6_entry_36 : decode cX6_entry 36 = .ok (.ireturn, 1) := by decide +kernel
set_option maxRecDepth 20000 in
theorem ggX6_find_X6_entryOf : GoodIn wsX6_find wsX6_entryOf := goodIn_r _ [6, 7, 8, 9, 10, 11, 5, 12, 13, 14, 15, 16, 17, 18, 19, 20, 21, 22, 23, 24, 25, 26, 27, 28, 29, 30, 31, 32, 33, 34] (by decide +kernel) (by decide +kernel)
set_option maxRecDepth 20000 in
theorem gX6_find_X6_entryOf : GoodIn wsX6_find (wsV RX6 113 RX6 yX6_entryOf wsX6_entryOf) := goodIn_app (goodIn_of _ (by decide +kernel)) ggX6_find_X6_entryOf
theorem dX6_find_0 : decode cX6_find 0 = .ok (.aload_n 0, 1) := by decide +kernel
theorem dX6_find_1 : decode cX6_find 1 = .ok (.iconst 0, 1) := by decide +kernel
theorem dX6_find_2 : decode cX6_find 2 = .ok (.putfield 55, 3) := by decide +kernel
theorem dX6_find_5 : decode cX6_find 5 = .ok (.aload_n 0, 1) := by decide +kernel
theorem dX6_find_6 : decode cX6_find 6 = .ok (.lload_n 1, 1) := by decide +kernel
theorem dX6_find_7 : decode cX6_find 7 = .ok (.invokevirtual 113, 3) := by decide +kernel
theorem dX6_find_10 : decode cX6_find 10 = .ok (.ireturn, 1) := by decide +kernel
set_option maxRecDepth 20000 in
theorem ggX6_unlike_X6_at : GoodIn wsX6_unlike wsX6_at := goodIn_r _ [4] (by decide +kernel) (by decide +kernel)
set_option maxRecDepth 20000 in
theorem gX6_unlike_X6_at : GoodIn wsX6_unlike (va_wsS RX6 70 yX6_at wsX6_at) := goodIn_app (goodIn_of _ (by decide +kernel)) ggX6_unlike_X6_at
theorem dX6_unlike_0 : decode cX6_unlike 0 = .ok (.iconst 0, 1) := by decide +kernel
theorem dX6_unlike_1 : decode cX6_unlike 1 = .ok (.istore 4, 2) := by decide +kernel
theorem dX6_unlike_3 : decode cX6_unlike 3 = .ok (.iconst 0, 1) := by decide +kernel
theorem dX6_unlike_4 : decode cX6_unlike 4 = .ok (.istore 5, 2) := by decide +kernel
theorem dX6_unlike_6 : decode cX6_unlike 6 = .ok (.iload 5, 2) := by decide +kernel
theorem dX6_unlike_8 : decode cX6_unlike 8 = .ok (.bipush 16, 2) := by decide +kernel
theorem dX6_unlike_10 : decode cX6_unlike 10 = .ok (.if_icmp .ge 37, 3) := by decide +kernel
theorem dX6_unlike_13 : decode cX6_unlike 13 = .ok (.iload 4, 2) := by decide +kernel
theorem dX6_unlike_15 : decode cX6_unlike 15 = .ok (.lload_n 0, 1) := by decide +kernel
theorem dX6_unlike_16 : decode cX6_unlike 16 = .ok (.iload 5, 2) := by decide +kernel
theorem dX6_unlike_18 : decode cX6_unlike 18 = .ok (.invokestatic 70, 3) := by decide +kernel
theorem dX6_unlike_21 : decode cX6_unlike 21 = .ok (.lload_n 2, 1) := by decide +kernel
theorem dX6_unlike_22 : decode cX6_unlike 22 = .ok (.iload 5, 2) := by decide +kernel
theorem dX6_unlike_24 : decode cX6_unlike 24 = .ok (.invokestatic 70, 3) := by decide +kernel
theorem dX6_unlike_27 : decode cX6_unlike 27 = .ok (.if_icmp .ne 7, 3) := by decide +kernel
theorem dX6_unlike_30 : decode cX6_unlike 30 = .ok (.iconst 0, 1) := by decide +kernel
theorem dX6_unlike_31 : decode cX6_unlike 31 = .ok (.goto 7, 3) := by decide +kernel
theorem dX6_unlike_34 : decode cX6_unlike 34 = .ok (.iconst 1, 1) := by decide +kernel
theorem dX6_unlike_35 : decode cX6_unlike 35 = .ok (.iload 5, 2) := by decide +kernel
theorem dX6_unlike_37 : decode cX6_unlike 37 = .ok (.ishl, 1) := by decide +kernel
theorem dX6_unlike_38 : decode cX6_unlike 38 = .ok (.ior, 1) := by decide +kernel
theorem dX6_unlike_39 : decode cX6_unlike 39 = .ok (.istore 4, 2) := by decide +kernel
theorem dX6_unlike_41 : decode cX6_unlike 41 = .ok (.iinc 5 1, 3) := by decide +kernel
theorem dX6_unlike_44 : decode cX6_unlike 44 = .ok (.goto (-38), 3) := by decide +kernel
theorem dX6_unlike_47 : decode cX6_unlike 47 = .ok (.iload 4, 2) := by decide +kernel
theorem dX6_unlike_49 : decode cX6_unlike 49 = .ok (.ireturn, 1) := by decide +kernel
set_option maxRecDepth 20000 in
theorem ggX6_fit_X6_isIn : GoodIn wsX6_fit wsX6_isIn := goodIn_r _ [8] (by decide +kernel) (by decide +kernel)
set_option maxRecDepth 20000 in
theorem gX6_fit_X6_isIn : GoodIn wsX6_fit (va_wsS RX6 58 yX6_isIn wsX6_isIn) := goodIn_app (goodIn_of _ (by decide +kernel)) ggX6_fit_X6_isIn
set_option maxRecDepth 20000 in
theorem ggX6_fit_X6_no : GoodIn wsX6_fit wsX6_no := goodIn_r _ [12, 1, 19, 20, 21, 22, 23, 24, 25, 26, 27, 28, 29, 30, 31, 32, 33, 34, 35, 36, 37, 38, 39] (by decide +kernel) (by decide +kernel)
set_option maxRecDepth 20000 in
theorem gX6_fit_X6_no : GoodIn wsX6_fit (wsV RX6 62 RX6 yX6_no wsX6_no) := goodIn_app (goodIn_of _ (by decide +kernel)) ggX6_fit_X6_no
set_option maxRecDepth 20000 in
theorem ggX6_fit_X6_unlike : GoodIn wsX6_fit wsX6_unlike := goodIn_r _ [15, 16, 17, 7, 18] (by decide +kernel) (by decide +kernel)
set_option maxRecDepth 20000 in
theorem gX6_fit_X6_unlike : GoodIn wsX6_fit (va_wsS RX6 140 yX6_unlike wsX6_unlike) := goodIn_app (goodIn_of _ (by decide +kernel)) ggX6_fit_X6_unlike
theorem dX6_fit_0 : decode cX6_fit 0 = .ok (.aload_n 0, 1) := by decide +kernel
theorem dX6_fit_1 : decode cX6_fit 1 = .ok (.iconst 0, 1) := by decide +kernel
theorem dX6_fit_2 : decode cX6_fit 2 = .ok (.putfield 55, 3) := by decide +kernel
theorem dX6_fit_5 : decode cX6_fit 5 = .ok (.iload_n 3, 1) := by decide +kernel
theorem dX6_fit_6 : decode cX6_fit 6 = .ok (.iconst 0, 1) := by decide +kernel
theorem dX6_fit_7 : decode cX6_fit 7 = .ok (.ldc 91, 2) := by decide +kernel
theorem dX6_fit_9 : decode cX6_fit 9 = .ok (.invokestatic 58, 3) := by decide +kernel
theorem dX6_fit_12 : decode cX6_fit 12 = .ok (.ifCond .ne 9, 3) := by decide +kernel
theorem dX6_fit_15 : decode cX6_fit 15 = .ok (.aload_n 0, 1) := by decide +kernel
theorem dX6_fit_16 : decode cX6_fit 16 = .ok (.iconst 1, 1) := by decide +kernel
theorem dX6_fit_17 : decode cX6_fit 17 = .ok (.invokevirtual 62, 3) := by decide +kernel
theorem dX6_fit_20 : decode cX6_fit 20 = .ok (.ireturn, 1) := by decide +kernel
theorem dX6_fit_21 : decode cX6_fit 21 = .ok (.iconst 0, 1) := by decide +kernel
theorem dX6_fit_22 : decode cX6_fit 22 = .ok (.istore 4, 2) := by decide +kernel
theorem dX6_fit_24 : decode cX6_fit 24 = .ok (.iload 4, 2) := by decide +kernel
theorem dX6_fit_26 : decode cX6_fit 26 = .ok (.aload_n 0, 1) := by decide +kernel
theorem dX6_fit_27 : decode cX6_fit 27 = .ok (.getfield 110, 3) := by decide +kernel
theorem dX6_fit_30 : decode cX6_fit 30 = .ok (.if_icmp .ge 28, 3) := by decide +kernel
theorem dX6_fit_33 : decode cX6_fit 33 = .ok (.lload_n 1, 1) := by decide +kernel
theorem dX6_fit_34 : decode cX6_fit 34 = .ok (.aload_n 0, 1) := by decide +kernel
theorem dX6_fit_35 : decode cX6_fit 35 = .ok (.getfield 24, 3) := by decide +kernel
theorem dX6_fit_38 : decode cX6_fit 38 = .ok (.iload 4, 2) := by decide +kernel
theorem dX6_fit_40 : decode cX6_fit 40 = .ok (.laload, 1) := by decide +kernel
theorem dX6_fit_41 : decode cX6_fit 41 = .ok (.invokestatic 140, 3) := by decide +kernel
theorem dX6_fit_44 : decode cX6_fit 44 = .ok (.iload_n 3, 1) := by decide +kernel
theorem dX6_fit_45 : decode cX6_fit 45 = .ok (.iand, 1) := by decide +kernel
theorem dX6_fit_46 : decode cX6_fit 46 = .ok (.ifCond .ne 6, 3) := by decide +kernel
theorem dX6_fit_49 : decode cX6_fit 49 = .ok (.iload 4, 2) := by decide +kernel
theorem dX6_fit_51 : decode cX6_fit 51 = .ok (.ireturn, 1) := by decide +kernel
theorem dX6_fit_52 : decode cX6_fit 52 = .ok (.iinc 4 1, 3) := by decide +kernel
theorem dX6_fit_55 : decode cX6_fit 55 = .ok (.goto (-31), 3) := by decide +kernel
theorem dX6_fit_58 : decode cX6_fit 58 = .ok (.iconst (-1), 1) := by decide +kernel
theorem dX6_fit_59 : decode cX6_fit 59 = .ok (.ireturn, 1) := by decide +kernel
set_option maxRecDepth 20000 in
theorem ggX6_near_X6_unlike : GoodIn wsX6_near wsX6_unlike := goodIn_r _ [7, 8, 9, 6, 10] (by decide +kernel) (by decide +kernel)
set_option maxRecDepth 20000 in
theorem gX6_near_X6_unlike : GoodIn wsX6_near (va_wsS RX6 140 yX6_unlike wsX6_unlike) := goodIn_app (goodIn_of _ (by decide +kernel)) ggX6_near_X6_unlike
set_option maxRecDepth 20000 in
theorem ggX6_near_J6_bitCount_0f7a4 : GoodIn wsX6_near wsJ6_bitCount_0f7a4 := goodIn_r _ [14, 15, 16, 17] (by decide +kernel) (by decide +kernel)
set_option maxRecDepth 20000 in
theorem gX6_near_J6_bitCount_0f7a4 : GoodIn wsX6_near (va_wsS RX6 82 yJ6_bitCount_0f7a4 wsJ6_bitCount_0f7a4) := goodIn_app (goodIn_of _ (by decide +kernel)) ggX6_near_J6_bitCount_0f7a4
theorem dX6_near_0 : decode cX6_near 0 = .ok (.aload_n 0, 1) := by decide +kernel
theorem dX6_near_1 : decode cX6_near 1 = .ok (.iconst 0, 1) := by decide +kernel
theorem dX6_near_2 : decode cX6_near 2 = .ok (.putfield 55, 3) := by decide +kernel
theorem dX6_near_5 : decode cX6_near 5 = .ok (.iconst (-1), 1) := by decide +kernel
theorem dX6_near_6 : decode cX6_near 6 = .ok (.istore_n 3, 1) := by decide +kernel
theorem dX6_near_7 : decode cX6_near 7 = .ok (.bipush 17, 2) := by decide +kernel
theorem dX6_near_9 : decode cX6_near 9 = .ok (.istore 4, 2) := by decide +kernel
theorem dX6_near_11 : decode cX6_near 11 = .ok (.iconst 0, 1) := by decide +kernel
theorem dX6_near_12 : decode cX6_near 12 = .ok (.istore 5, 2) := by decide +kernel
theorem dX6_near_14 : decode cX6_near 14 = .ok (.iload 5, 2) := by decide +kernel
theorem dX6_near_16 : decode cX6_near 16 = .ok (.aload_n 0, 1) := by decide +kernel
theorem dX6_near_17 : decode cX6_near 17 = .ok (.getfield 110, 3) := by decide +kernel
theorem dX6_near_20 : decode cX6_near 20 = .ok (.if_icmp .ge 42, 3) := by decide +kernel
theorem dX6_near_23 : decode cX6_near 23 = .ok (.lload_n 1, 1) := by decide +kernel
theorem dX6_near_24 : decode cX6_near 24 = .ok (.aload_n 0, 1) := by decide +kernel
theorem dX6_near_25 : decode cX6_near 25 = .ok (.getfield 24, 3) := by decide +kernel
theorem dX6_near_28 : decode cX6_near 28 = .ok (.iload 5, 2) := by decide +kernel
theorem dX6_near_30 : decode cX6_near 30 = .ok (.laload, 1) := by decide +kernel
theorem dX6_near_31 : decode cX6_near 31 = .ok (.invokestatic 140, 3) := by decide +kernel
theorem dX6_near_34 : decode cX6_near 34 = .ok (.invokestatic 82, 3) := by decide +kernel
theorem dX6_near_37 : decode cX6_near 37 = .ok (.istore 6, 2) := by decide +kernel
theorem dX6_near_39 : decode cX6_near 39 = .ok (.iload 6, 2) := by decide +kernel
theorem dX6_near_41 : decode cX6_near 41 = .ok (.iload 4, 2) := by decide +kernel
theorem dX6_near_43 : decode cX6_near 43 = .ok (.if_icmp .lt 6, 3) := by decide +kernel
theorem dX6_near_46 : decode cX6_near 46 = .ok (.goto 10, 3) := by decide +kernel
theorem dX6_near_49 : decode cX6_near 49 = .ok (.iload 5, 2) := by decide +kernel
theorem dX6_near_51 : decode cX6_near 51 = .ok (.istore_n 3, 1) := by decide +kernel
theorem dX6_near_52 : decode cX6_near 52 = .ok (.iload 6, 2) := by decide +kernel
theorem dX6_near_54 : decode cX6_near 54 = .ok (.istore 4, 2) := by decide +kernel
theorem dX6_near_56 : decode cX6_near 56 = .ok (.iinc 5 1, 3) := by decide +kernel
theorem dX6_near_59 : decode cX6_near 59 = .ok (.goto (-45), 3) := by decide +kernel
theorem dX6_near_62 : decode cX6_near 62 = .ok (.iload_n 3, 1) := by decide +kernel
theorem dX6_near_63 : decode cX6_near 63 = .ok (.ireturn, 1) := by decide +kernel
set_option maxRecDepth 20000 in
theorem ggX6_parts_X6_isEntry : GoodIn wsX6_parts wsX6_isEntry := goodIn_r _ [10, 11, 12, 13, 9, 14, 19, 20, 21, 22, 23, 24, 25, 26, 27, 28, 29, 30, 31, 32, 33, 34, 35, 36, 37, 38, 39] (by decide +kernel) (by decide +kernel)
set_option maxRecDepth 20000 in
theorem gX6_parts_X6_isEntry : GoodIn wsX6_parts (wsV RX6 132 RX6 yX6_isEntry wsX6_isEntry) := goodIn_app (goodIn_of _ (by decide +kernel)) ggX6_parts_X6_isEntry
set_option maxRecDepth 20000 in
theorem ggX6_parts_X6_no : GoodIn wsX6_parts wsX6_no := goodIn_r _ [18, 1, 19, 20, 21, 22, 23, 24, 25, 26, 27, 28, 29, 30, 31, 32, 33, 34, 35, 36, 37, 38, 39] (by decide +kernel) (by decide +kernel)
set_option maxRecDepth 20000 in
theorem gX6_parts_X6_no : GoodIn wsX6_parts (wsV RX6 62 RX6 yX6_no wsX6_no) := goodIn_app (goodIn_of _ (by decide +kernel)) ggX6_parts_X6_no
theorem dX6_parts_0 : decode cX6_parts 0 = .ok (.aload_n 0, 1) := by decide +kernel
theorem dX6_parts_1 : decode cX6_parts 1 = .ok (.iconst 0, 1) := by decide +kernel
theorem dX6_parts_2 : decode cX6_parts 2 = .ok (.putfield 55, 3) := by decide +kernel
theorem dX6_parts_5 : decode cX6_parts 5 = .ok (.aload_n 0, 1) := by decide +kernel
theorem dX6_parts_6 : decode cX6_parts 6 = .ok (.iload_n 1, 1) := by decide +kernel
theorem dX6_parts_7 : decode cX6_parts 7 = .ok (.invokevirtual 132, 3) := by decide +kernel
theorem dX6_parts_10 : decode cX6_parts 10 = .ok (.ifCond .ne 9, 3) := by decide +kernel
theorem dX6_parts_13 : decode cX6_parts 13 = .ok (.aload_n 0, 1) := by decide +kernel
theorem dX6_parts_14 : decode cX6_parts 14 = .ok (.iconst 1, 1) := by decide +kernel
theorem dX6_parts_15 : decode cX6_parts 15 = .ok (.invokevirtual 62, 3) := by decide +kernel
theorem dX6_parts_18 : decode cX6_parts 18 = .ok (.ireturn, 1) := by decide +kernel
theorem dX6_parts_19 : decode cX6_parts 19 = .ok (.iload_n 1, 1) := by decide +kernel
theorem dX6_parts_20 : decode cX6_parts 20 = .ok (.iconst 1, 1) := by decide +kernel
theorem dX6_parts_21 : decode cX6_parts 21 = .ok (.iadd, 1) := by decide +kernel
theorem dX6_parts_22 : decode cX6_parts 22 = .ok (.newarray .boolean, 2) := by decide +kernel
theorem dX6_parts_24 : decode cX6_parts 24 = .ok (.astore_n 2, 1) := by decide +kernel
theorem dX6_parts_25 : decode cX6_parts 25 = .ok (.aload_n 2, 1) := by decide +kernel
theorem dX6_parts_26 : decode cX6_parts 26 = .ok (.iload_n 1, 1) := by decide +kernel
theorem dX6_parts_27 : decode cX6_parts 27 = .ok (.iconst 1, 1) := by decide +kernel
theorem dX6_parts_28 : decode cX6_parts 28 = .ok (.bastore, 1) := by decide +kernel
theorem dX6_parts_29 : decode cX6_parts 29 = .ok (.iconst 0, 1) := by decide +kernel
theorem dX6_parts_30 : decode cX6_parts 30 = .ok (.istore_n 3, 1) := by decide +kernel
theorem dX6_parts_31 : decode cX6_parts 31 = .ok (.iload_n 1, 1) := by decide +kernel
theorem dX6_parts_32 : decode cX6_parts 32 = .ok (.istore 4, 2) := by decide +kernel
theorem dX6_parts_34 : decode cX6_parts 34 = .ok (.iload 4, 2) := by decide +kernel
theorem dX6_parts_36 : decode cX6_parts 36 = .ok (.ifCond .lt 66, 3) := by decide +kernel
theorem dX6_parts_39 : decode cX6_parts 39 = .ok (.aload_n 2, 1) := by decide +kernel
theorem dX6_parts_40 : decode cX6_parts 40 = .ok (.iload 4, 2) := by decide +kernel
theorem dX6_parts_42 : decode cX6_parts 42 = .ok (.baload, 1) := by decide +kernel
theorem dX6_parts_43 : decode cX6_parts 43 = .ok (.ifCond .ne 6, 3) := by decide +kernel
theorem dX6_parts_46 : decode cX6_parts 46 = .ok (.goto 50, 3) := by decide +kernel
theorem dX6_parts_49 : decode cX6_parts 49 = .ok (.iinc 3 1, 3) := by decide +kernel
theorem dX6_parts_52 : decode cX6_parts 52 = .ok (.aload_n 0, 1) := by decide +kernel
theorem dX6_parts_53 : decode cX6_parts 53 = .ok (.getfield 31, 3) := by decide +kernel
theorem dX6_parts_56 : decode cX6_parts 56 = .ok (.iload 4, 2) := by decide +kernel
theorem dX6_parts_58 : decode cX6_parts 58 = .ok (.iaload, 1) := by decide +kernel
theorem dX6_parts_59 : decode cX6_parts 59 = .ok (.ifCond .ge 6, 3) := by decide +kernel
theorem dX6_parts_62 : decode cX6_parts 62 = .ok (.goto 34, 3) := by decide +kernel
theorem dX6_parts_65 : decode cX6_parts 65 = .ok (.aload_n 2, 1) := by decide +kernel
theorem dX6_parts_66 : decode cX6_parts 66 = .ok (.aload_n 0, 1) := by decide +kernel
theorem dX6_parts_67 : decode cX6_parts 67 = .ok (.getfield 34, 3) := by decide +kernel
theorem dX6_parts_70 : decode cX6_parts 70 = .ok (.iload 4, 2) := by decide +kernel
theorem dX6_parts_72 : decode cX6_parts 72 = .ok (.iaload, 1) := by decide +kernel
theorem dX6_parts_73 : decode cX6_parts 73 = .ok (.iconst 1, 1) := by decide +kernel
theorem dX6_parts_74 : decode cX6_parts 74 = .ok (.bastore, 1) := by decide +kernel
theorem dX6_parts_75 : decode cX6_parts 75 = .ok (.aload_n 0, 1) := by decide +kernel
theorem dX6_parts_76 : decode cX6_parts 76 = .ok (.getfield 37, 3) := by decide +kernel
theorem dX6_parts_79 : decode cX6_parts 79 = .ok (.iload 4, 2) := by decide +kernel
theorem dX6_parts_81 : decode cX6_parts 81 = .ok (.iaload, 1) := by decide +kernel
theorem dX6_parts_82 : decode cX6_parts 82 = .ok (.iconst (-1), 1) := by decide +kernel
theorem dX6_parts_83 : decode cX6_parts 83 = .ok (.if_icmp .eq 13, 3) := by decide +kernel
theorem dX6_parts_86 : decode cX6_parts 86 = .ok (.aload_n 2, 1) := by decide +kernel
theorem dX6_parts_87 : decode cX6_parts 87 = .ok (.aload_n 0, 1) := by decide +kernel
theorem dX6_parts_88 : decode cX6_parts 88 = .ok (.getfield 37, 3) := by decide +kernel
theorem dX6_parts_91 : decode cX6_parts 91 = .ok (.iload 4, 2) := by decide +kernel
theorem dX6_parts_93 : decode cX6_parts 93 = .ok (.iaload, 1) := by decide +kernel
theorem dX6_parts_94 : decode cX6_parts 94 = .ok (.iconst 1, 1) := by decide +kernel
theorem dX6_parts_95 : decode cX6_parts 95 = .ok (.bastore, 1) := by decide +kernel
theorem dX6_parts_96 : decode cX6_parts 96 = .ok (.iinc 4 (-1), 3) := by decide +kernel
theorem dX6_parts_99 : decode cX6_parts 99 = .ok (.goto (-65), 3) := by decide +kernel
theorem dX6_parts_102 : decode cX6_parts 102 = .ok (.iload_n 3, 1) := by decide +kernel
theorem dX6_parts_103 : decode cX6_parts 103 = .ok (.ireturn, 1) := by decide +kernel
theorem dX6_meanCost_0 : decode cX6_meanCost 0 = .ok (.aload_n 0, 1) := by decide +kernel
theorem dX6_meanCost_1 : decode cX6_meanCost 1 = .ok (.iconst 0, 1) := by decide +kernel
theorem dX6_meanCost_2 : decode cX6_meanCost 2 = .ok (.putfield 55, 3) := by decide +kernel
theorem dX6_meanCost_5 : decode cX6_meanCost 5 = .ok (.iconst 0, 1) := by decide +kernel
theorem dX6_meanCost_6 : decode cX6_meanCost 6 = .ok (.istore_n 1, 1) := by decide +kernel
theorem dX6_meanCost_7 : decode cX6_meanCost 7 = .ok (.iconst 0, 1) := by decide +kernel
theorem dX6_meanCost_8 : decode cX6_meanCost 8 = .ok (.istore_n 2, 1) := by decide +kernel
theorem dX6_meanCost_9 : decode cX6_meanCost 9 = .ok (.iload_n 2, 1) := by decide +kernel
theorem dX6_meanCost_10 : decode cX6_meanCost 10 = .ok (.aload_n 0, 1) := by decide +kernel
theorem dX6_meanCost_11 : decode cX6_meanCost 11 = .ok (.getfield 110, 3) := by decide +kernel
theorem dX6_meanCost_14 : decode cX6_meanCost 14 = .ok (.if_icmp .ge 18, 3) := by decide +kernel
theorem dX6_meanCost_17 : decode cX6_meanCost 17 = .ok (.iload_n 1, 1) := by decide +kernel
theorem dX6_meanCost_18 : decode cX6_meanCost 18 = .ok (.aload_n 0, 1) := by decide +kernel
theorem dX6_meanCost_19 : decode cX6_meanCost 19 = .ok (.getfield 28, 3) := by decide +kernel
theorem dX6_meanCost_22 : decode cX6_meanCost 22 = .ok (.iload_n 2, 1) := by decide +kernel
theorem dX6_meanCost_23 : decode cX6_meanCost 23 = .ok (.iaload, 1) := by decide +kernel
theorem dX6_meanCost_24 : decode cX6_meanCost 24 = .ok (.iadd, 1) := by decide +kernel
theorem dX6_meanCost_25 : decode cX6_meanCost 25 = .ok (.istore_n 1, 1) := by decide +kernel
theorem dX6_meanCost_26 : decode cX6_meanCost 26 = .ok (.iinc 2 1, 3) := by decide +kernel
theorem dX6_meanCost_29 : decode cX6_meanCost 29 = .ok (.goto (-20), 3) := by decide +kernel
theorem dX6_meanCost_32 : decode cX6_meanCost 32 = .ok (.aload_n 0, 1) := by decide +kernel
theorem dX6_meanCost_33 : decode cX6_meanCost 33 = .ok (.getfield 110, 3) := by decide +kernel
theorem dX6_meanCost_36 : decode cX6_meanCost 36 = .ok (.ifCond .ne 7, 3) := by decide +kernel
theorem dX6_meanCost_39 : decode cX6_meanCost 39 = .ok (.dconst 0, 1) := by decide +kernel
theorem dX6_meanCost_40 : decode cX6_meanCost 40 = .ok (.goto 11, 3) := by decide +kernel
theorem dX6_meanCost_43 : decode cX6_meanCost 43 = .ok (.iload_n 1, 1) := by decide +kernel
theorem dX6_meanCost_44 : decode cX6_meanCost 44 = .ok (.i2d, 1) := by decide +kernel
theorem dX6_meanCost_45 : decode cX6_meanCost 45 = .ok (.aload_n 0, 1) := by decide +kernel
theorem dX6_meanCost_46 : decode cX6_meanCost 46 = .ok (.getfield 110, 3) := by decide +kernel
theorem dX6_meanCost_49 : decode cX6_meanCost 49 = .ok (.i2d, 1) := by decide +kernel
theorem dX6_meanCost_50 : decode cX6_meanCost 50 = .ok (.ddiv, 1) := by decide +kernel
theorem dX6_meanCost_51 : decode cX6_meanCost 51 = .ok (.dreturn, 1) := by decide +kernel
theorem dX6_put_0 : decode cX6_put 0 = .ok (.aload_n 0, 1) := by decide +kernel
theorem dX6_put_1 : decode cX6_put 1 = .ok (.getfield 49, 3) := by decide +kernel
theorem dX6_put_4 : decode cX6_put 4 = .ok (.aload_n 0, 1) := by decide +kernel
theorem dX6_put_5 : decode cX6_put 5 = .ok (.getfield 144, 3) := by decide +kernel
theorem dX6_put_8 : decode cX6_put 8 = .ok (.iload_n 1, 1) := by decide +kernel
theorem dX6_put_9 : decode cX6_put 9 = .ok (.iastore, 1) := by decide +kernel
theorem dX6_put_10 : decode cX6_put 10 = .ok (.aload_n 0, 1) := by decide +kernel
theorem dX6_put_11 : decode cX6_put 11 = .ok (.dup, 1) := by decide +kernel
theorem dX6_put_12 : decode cX6_put 12 = .ok (.getfield 144, 3) := by decide +kernel
theorem dX6_put_15 : decode cX6_put 15 = .ok (.iconst 1, 1) := by decide +kernel
theorem dX6_put_16 : decode cX6_put 16 = .ok (.iadd, 1) := by decide +kernel
theorem dX6_put_17 : decode cX6_put 17 = .ok (.putfield 144, 3) := by decide +kernel
theorem dX6_put_20 : decode cX6_put 20 = .ok (.return_, 1) := by decide +kernel
set_option maxRecDepth 20000 in
theorem ggX6_putArgument_X6_put : GoodIn wsX6_putArgument wsX6_put := goodIn_r _ [6, 7, 8, 19, 20, 21, 22, 23, 24, 25, 26, 27, 28, 29, 30, 31, 32, 33, 34, 35, 36, 37, 38, 39] (by decide +kernel) (by decide +kernel)
set_option maxRecDepth 20000 in
theorem gX6_putArgument_X6_put : GoodIn wsX6_putArgument (wsV RX6 147 RX6 yX6_put wsX6_put) := goodIn_app (goodIn_of _ (by decide +kernel)) ggX6_putArgument_X6_put
set_option maxRecDepth 20000 in
theorem ggX6_putArgument_X6_putEntry : GoodIn wsX6_putArgument wsX6_putEntry := goodIn_r _ [12, 1, 13, 14, 15, 2, 3, 4, 5, 6, 7, 8, 16, 17, 18, 0, 9, 10, 11, 19, 20, 21, 22, 23, 24, 25, 26, 27, 28, 29, 30, 31, 32, 33, 34, 35, 36, 37, 38, 39] (by decide +kernel) (by decide +kernel)
set_option maxRecDepth 20000 in
theorem gX6_putArgument_X6_putEntry : GoodIn wsX6_putArgument (wsV RX6 151 RX6 yX6_putEntry wsX6_putEntry) := goodIn_app (goodIn_of _ (by decide +kernel)) ggX6_putArgument_X6_putEntry
theorem dX6_putArgument_0 : decode cX6_putArgument 0 = .ok (.aload_n 0, 1) := by decide +kernel
theorem dX6_putArgument_1 : decode cX6_putArgument 1 = .ok (.getfield 31, 3) := by decide +kernel
theorem dX6_putArgument_4 : decode cX6_putArgument 4 = .ok (.iload_n 1, 1) := by decide +kernel
theorem dX6_putArgument_5 : decode cX6_putArgument 5 = .ok (.iaload, 1) := by decide +kernel
theorem dX6_putArgument_6 : decode cX6_putArgument 6 = .ok (.iconst 4, 1) := by decide +kernel
theorem dX6_putArgument_7 : decode cX6_putArgument 7 = .ok (.if_icmp .lt 7, 3) := by decide +kernel
theorem dX6_putArgument_10 : decode cX6_putArgument 10 = .ok (.iconst 1, 1) := by decide +kernel
theorem dX6_putArgument_11 : decode cX6_putArgument 11 = .ok (.goto 4, 3) := by decide +kernel
theorem dX6_putArgument_14 : decode cX6_putArgument 14 = .ok (.iconst 0, 1) := by decide +kernel
theorem dX6_putArgument_15 : decode cX6_putArgument 15 = .ok (.istore_n 2, 1) := by decide +kernel
theorem dX6_putArgument_16 : decode cX6_putArgument 16 = .ok (.iload_n 2, 1) := by decide +kernel
theorem dX6_putArgument_17 : decode cX6_putArgument 17 = .ok (.ifCond .eq 9, 3) := by decide +kernel
theorem dX6_putArgument_20 : decode cX6_putArgument 20 = .ok (.aload_n 0, 1) := by decide +kernel
theorem dX6_putArgument_21 : decode cX6_putArgument 21 = .ok (.bipush 40, 2) := by decide +kernel
theorem dX6_putArgument_23 : decode cX6_putArgument 23 = .ok (.invokevirtual 147, 3) := by decide +kernel
theorem dX6_putArgument_26 : decode cX6_putArgument 26 = .ok (.aload_n 0, 1) := by decide +kernel
theorem dX6_putArgument_27 : decode cX6_putArgument 27 = .ok (.iload_n 1, 1) := by decide +kernel
theorem dX6_putArgument_28 : decode cX6_putArgument 28 = .ok (.invokevirtual 151, 3) := by decide +kernel
theorem dX6_putArgument_31 : decode cX6_putArgument 31 = .ok (.iload_n 2, 1) := by decide +kernel
theorem dX6_putArgument_32 : decode cX6_putArgument 32 = .ok (.ifCond .eq 9, 3) := by decide +kernel
theorem dX6_putArgument_35 : decode cX6_putArgument 35 = .ok (.aload_n 0, 1) := by decide +kernel
theorem dX6_putArgument_36 : decode cX6_putArgument 36 = .ok (.bipush 41, 2) := by decide +kernel
theorem dX6_putArgument_38 : decode cX6_putArgument 38 = .ok (.invokevirtual 147, 3) := by decide +kernel
theorem dX6_putArgument_41 : decode cX6_putArgument 41 = .ok (.return_, 1) := by decide +kernel
set_option maxRecDepth 20000 in
theorem ggX6_putEntry_X6_put : GoodIn wsX6_putEntry wsX6_put := goodIn_r _ [9, 10, 11, 19, 20, 21, 22, 23, 24, 25, 26, 27, 28, 29, 30, 31, 32, 33, 34, 35, 36, 37, 38, 39] (by decide +kernel) (by decide +kernel)
set_option maxRecDepth 20000 in
theorem gX6_putEntry_X6_put : GoodIn wsX6_putEntry (wsV RX6 147 RX6 yX6_put wsX6_put) := goodIn_app (goodIn_of _ (by decide +kernel)) ggX6_putEntry_X6_put
set_option maxRecDepth 20000 in
theorem ggX6_putEntry_X6_putArgument : GoodIn wsX6_putEntry wsX6_putArgument := goodIn_r _ [15, 1, 5, 6, 7, 8, 9, 10, 11, 16, 17, 18, 0, 2, 3, 4, 12, 13, 14, 19, 20, 21, 22, 23, 24, 25, 26, 27, 28, 29, 30, 31, 32, 33, 34, 35, 36, 37, 38, 39] (by decide +kernel) (by decide +kernel)
set_option maxRecDepth 20000 in
theorem gX6_putEntry_X6_putArgument : GoodIn wsX6_putEntry (wsV RX6 154 RX6 yX6_putArgument wsX6_putArgument) := goodIn_app (goodIn_of _ (by decide +kernel)) ggX6_putEntry_X6_putArgument
theorem dX6_putEntry_0 : decode cX6_putEntry 0 = .ok (.aload_n 0, 1) := by decide +kernel
theorem dX6_putEntry_1 : decode cX6_putEntry 1 = .ok (.getfield 31, 3) := by decide +kernel
theorem dX6_putEntry_4 : decode cX6_putEntry 4 = .ok (.iload_n 1, 1) := by decide +kernel
theorem dX6_putEntry_5 : decode cX6_putEntry 5 = .ok (.iaload, 1) := by decide +kernel
theorem dX6_putEntry_6 : decode cX6_putEntry 6 = .ok (.istore_n 2, 1) := by decide +kernel
theorem dX6_putEntry_7 : decode cX6_putEntry 7 = .ok (.iload_n 2, 1) := by decide +kernel
theorem dX6_putEntry_8 : decode cX6_putEntry 8 = .ok (.iconst (-1), 1) := by decide +kernel
theorem dX6_putEntry_9 : decode cX6_putEntry 9 = .ok (.if_icmp .ne 12, 3) := by decide +kernel
theorem dX6_putEntry_12 : decode cX6_putEntry 12 = .ok (.aload_n 0, 1) := by decide +kernel
theorem dX6_putEntry_13 : decode cX6_putEntry 13 = .ok (.bipush 120, 2) := by decide +kernel
theorem dX6_putEntry_15 : decode cX6_putEntry 15 = .ok (.invokevirtual 147, 3) := by decide +kernel
theorem dX6_putEntry_18 : decode cX6_putEntry 18 = .ok (.goto 93, 3) := by decide +kernel
theorem dX6_putEntry_21 : decode cX6_putEntry 21 = .ok (.iload_n 2, 1) := by decide +kernel
theorem dX6_putEntry_22 : decode cX6_putEntry 22 = .ok (.bipush (-2), 2) := by decide +kernel
theorem dX6_putEntry_24 : decode cX6_putEntry 24 = .ok (.if_icmp .ne 39, 3) := by decide +kernel
theorem dX6_putEntry_27 : decode cX6_putEntry 27 = .ok (.aload_n 0, 1) := by decide +kernel
theorem dX6_putEntry_28 : decode cX6_putEntry 28 = .ok (.getfield 34, 3) := by decide +kernel
theorem dX6_putEntry_31 : decode cX6_putEntry 31 = .ok (.iload_n 1, 1) := by decide +kernel
theorem dX6_putEntry_32 : decode cX6_putEntry 32 = .ok (.iaload, 1) := by decide +kernel
theorem dX6_putEntry_33 : decode cX6_putEntry 33 = .ok (.bipush 9, 2) := by decide +kernel
theorem dX6_putEntry_35 : decode cX6_putEntry 35 = .ok (.if_icmp .le 9, 3) := by decide +kernel
theorem dX6_putEntry_38 : decode cX6_putEntry 38 = .ok (.aload_n 0, 1) := by decide +kernel
theorem dX6_putEntry_39 : decode cX6_putEntry 39 = .ok (.bipush 49, 2) := by decide +kernel
theorem dX6_putEntry_41 : decode cX6_putEntry 41 = .ok (.invokevirtual 147, 3) := by decide +kernel
theorem dX6_putEntry_44 : decode cX6_putEntry 44 = .ok (.aload_n 0, 1) := by decide +kernel
theorem dX6_putEntry_45 : decode cX6_putEntry 45 = .ok (.bipush 48, 2) := by decide +kernel
theorem dX6_putEntry_47 : decode cX6_putEntry 47 = .ok (.aload_n 0, 1) := by decide +kernel
theorem dX6_putEntry_48 : decode cX6_putEntry 48 = .ok (.getfield 34, 3) := by decide +kernel
theorem dX6_putEntry_51 : decode cX6_putEntry 51 = .ok (.iload_n 1, 1) := by decide +kernel
theorem dX6_putEntry_52 : decode cX6_putEntry 52 = .ok (.iaload, 1) := by decide +kernel
theorem dX6_putEntry_53 : decode cX6_putEntry 53 = .ok (.bipush 10, 2) := by decide +kernel
theorem dX6_putEntry_55 : decode cX6_putEntry 55 = .ok (.irem, 1) := by decide +kernel
theorem dX6_putEntry_56 : decode cX6_putEntry 56 = .ok (.iadd, 1) := by decide +kernel
theorem dX6_putEntry_57 : decode cX6_putEntry 57 = .ok (.invokevirtual 147, 3) := by decide +kernel
theorem dX6_putEntry_60 : decode cX6_putEntry 60 = .ok (.goto 51, 3) := by decide +kernel
theorem dX6_putEntry_63 : decode cX6_putEntry 63 = .ok (.iload_n 2, 1) := by decide +kernel
theorem dX6_putEntry_64 : decode cX6_putEntry 64 = .ok (.iconst 4, 1) := by decide +kernel
theorem dX6_putEntry_65 : decode cX6_putEntry 65 = .ok (.if_icmp .lt 13, 3) := by decide +kernel
theorem dX6_putEntry_68 : decode cX6_putEntry 68 = .ok (.aload_n 0, 1) := by decide +kernel
theorem dX6_putEntry_69 : decode cX6_putEntry 69 = .ok (.aload_n 0, 1) := by decide +kernel
theorem dX6_putEntry_70 : decode cX6_putEntry 70 = .ok (.getfield 34, 3) := by decide +kernel
theorem dX6_putEntry_73 : decode cX6_putEntry 73 = .ok (.iload_n 1, 1) := by decide +kernel
theorem dX6_putEntry_74 : decode cX6_putEntry 74 = .ok (.iaload, 1) := by decide +kernel
theorem dX6_putEntry_75 : decode cX6_putEntry 75 = .ok (.invokevirtual 154, 3) := by decide +kernel
theorem dX6_putEntry_78 : decode cX6_putEntry 78 = .ok (.aload_n 0, 1) := by decide +kernel
theorem dX6_putEntry_79 : decode cX6_putEntry 79 = .ok (.getstatic 157, 3) := by decide +kernel
theorem dX6_putEntry_82 : decode cX6_putEntry 82 = .ok (.iload_n 2, 1) := by decide +kernel
theorem dX6_putEntry_83 : decode cX6_putEntry 83 = .ok (.iaload, 1) := by decide +kernel
theorem dX6_putEntry_84 : decode cX6_putEntry 84 = .ok (.invokevirtual 147, 3) := by decide +kernel
theorem dX6_putEntry_87 : decode cX6_putEntry 87 = .ok (.aload_n 0, 1) := by decide +kernel
theorem dX6_putEntry_88 : decode cX6_putEntry 88 = .ok (.iload_n 2, 1) := by decide +kernel
theorem dX6_putEntry_89 : decode cX6_putEntry 89 = .ok (.iconst 4, 1) := by decide +kernel
theorem dX6_putEntry_90 : decode cX6_putEntry 90 = .ok (.if_icmp .lt 12, 3) := by decide +kernel
theorem dX6_putEntry_93 : decode cX6_putEntry 93 = .ok (.aload_n 0, 1) := by decide +kernel
theorem dX6_putEntry_94 : decode cX6_putEntry 94 = .ok (.getfield 37, 3) := by decide +kernel
theorem dX6_putEntry_97 : decode cX6_putEntry 97 = .ok (.iload_n 1, 1) := by decide +kernel
theorem dX6_putEntry_98 : decode cX6_putEntry 98 = .ok (.iaload, 1) := by decide +kernel
theorem dX6_putEntry_99 : decode cX6_putEntry 99 = .ok (.goto 9, 3) := by decide +kernel
theorem dX6_putEntry_102 : decode cX6_putEntry 102 = .ok (.aload_n 0, 1) := by decide +kernel
theorem dX6_putEntry_103 : decode cX6_putEntry 103 = .ok (.getfield 34, 3) := by decide +kernel
theorem dX6_putEntry_106 : decode cX6_putEntry 106 = .ok (.iload_n 1, 1) := by decide +kernel
theorem dX6_putEntry_107 : decode cX6_putEntry 107 = .ok (.iaload, 1) := by decide +kernel
theorem dX6_putEntry_108 : decode cX6_putEntry 108 = .ok (.invokevirtual 154, 3) := by decide +kernel
theorem dX6_putEntry_111 : decode cX6_putEntry 111 = .ok (.return_, 1) := by decide +kernel
set_option maxRecDepth 20000 in
theorem ggX6_write_X6_isEntry : GoodIn wsX6_write wsX6_isEntry := goodIn_r _ [7, 8, 9, 10, 6, 11, 33, 34, 35, 36, 37, 38, 39, 40, 41, 42, 43, 44, 45, 46, 47, 48, 49, 50, 51, 52, 53] (by decide +kernel) (by decide +kernel)
set_option maxRecDepth 20000 in
theorem gX6_write_X6_isEntry : GoodIn wsX6_write (wsV RX6 132 RX6 yX6_isEntry wsX6_isEntry) := goodIn_app (goodIn_of _ (by decide +kernel)) ggX6_write_X6_isEntry
set_option maxRecDepth 20000 in
theorem ggX6_write_X6_no : GoodIn wsX6_write wsX6_no := goodIn_r _ [15, 1, 33, 34, 35, 36, 37, 38, 39, 40, 41, 42, 43, 44, 45, 46, 47, 48, 49, 50, 51, 52, 53] (by decide +kernel) (by decide +kernel)
set_option maxRecDepth 20000 in
theorem gX6_write_X6_no : GoodIn wsX6_write (wsV RX6 62 RX6 yX6_no wsX6_no) := goodIn_app (goodIn_of _ (by decide +kernel)) ggX6_write_X6_no
set_option maxRecDepth 20000 in
theorem ggX6_write_X6_putEntry : GoodIn wsX6_write wsX6_putEntry := goodIn_r _ [19, 20, 21, 22, 23, 24, 25, 26, 6, 27, 28, 2, 29, 30, 31, 32, 16, 17, 18, 33, 34, 35, 36, 37, 38, 39, 40, 41, 42, 43, 44, 45, 46, 47, 48, 49, 50, 51, 52, 53] (by decide +kernel) (by decide +kernel)
set_option maxRecDepth 20000 in
theorem gX6_write_X6_putEntry : GoodIn wsX6_write (wsV RX6 151 RX6 yX6_putEntry wsX6_putEntry) := goodIn_app (goodIn_of _ (by decide +kernel)) ggX6_write_X6_putEntry
theorem dX6_write_0 : decode cX6_write 0 = .ok (.aload_n 0, 1) := by decide +kernel
theorem dX6_write_1 : decode cX6_write 1 = .ok (.iconst 0, 1) := by decide +kernel
theorem dX6_write_2 : decode cX6_write 2 = .ok (.putfield 55, 3) := by decide +kernel
theorem dX6_write_5 : decode cX6_write 5 = .ok (.aload_n 0, 1) := by decide +kernel
theorem dX6_write_6 : decode cX6_write 6 = .ok (.iload_n 1, 1) := by decide +kernel
theorem dX6_write_7 : decode cX6_write 7 = .ok (.invokevirtual 132, 3) := by decide +kernel
theorem dX6_write_10 : decode cX6_write 10 = .ok (.ifCond .ne 9, 3) := by decide +kernel
theorem dX6_write_13 : decode cX6_write 13 = .ok (.aload_n 0, 1) := by decide +kernel
theorem dX6_write_14 : decode cX6_write 14 = .ok (.iconst 1, 1) := by decide +kernel
theorem dX6_write_15 : decode cX6_write 15 = .ok (.invokevirtual 62, 3) := by decide +kernel
theorem dX6_write_18 : decode cX6_write 18 = .ok (.ireturn, 1) := by decide +kernel
theorem dX6_write_19 : decode cX6_write 19 = .ok (.aload_n 0, 1) := by decide +kernel
theorem dX6_write_20 : decode cX6_write 20 = .ok (.iconst 0, 1) := by decide +kernel
theorem dX6_write_21 : decode cX6_write 21 = .ok (.putfield 144, 3) := by decide +kernel
theorem dX6_write_24 : decode cX6_write 24 = .ok (.aload_n 0, 1) := by decide +kernel
theorem dX6_write_25 : decode cX6_write 25 = .ok (.iload_n 1, 1) := by decide +kernel
theorem dX6_write_26 : decode cX6_write 26 = .ok (.invokevirtual 151, 3) := by decide +kernel
theorem dX6_write_29 : decode cX6_write 29 = .ok (.aload_n 0, 1) := by decide +kernel
theorem dX6_write_30 : decode cX6_write 30 = .ok (.getfield 144, 3) := by decide +kernel
theorem dX6_write_33 : decode cX6_write 33 = .ok (.ireturn, 1) := by decide +kernel
set_option maxRecDepth 20000 in
theorem ggX6_byteAt_X6_isIn : GoodIn wsX6_byteAt wsX6_isIn := goodIn_r _ [7] (by decide +kernel) (by decide +kernel)
set_option maxRecDepth 20000 in
theorem gX6_byteAt_X6_isIn : GoodIn wsX6_byteAt (va_wsS RX6 58 yX6_isIn wsX6_isIn) := goodIn_app (goodIn_of _ (by decide +kernel)) ggX6_byteAt_X6_isIn
set_option maxRecDepth 20000 in
theorem ggX6_byteAt_X6_no : GoodIn wsX6_byteAt wsX6_no := goodIn_r _ [11, 1, 12, 13, 14, 15, 16, 17, 18, 19, 20, 21, 22, 23, 24, 25, 26, 27, 28, 29, 30, 31, 32] (by decide +kernel) (by decide +kernel)
set_option maxRecDepth 20000 in
theorem gX6_byteAt_X6_no : GoodIn wsX6_byteAt (wsV RX6 62 RX6 yX6_no wsX6_no) := goodIn_app (goodIn_of _ (by decide +kernel)) ggX6_byteAt_X6_no
theorem dX6_byteAt_0 : decode cX6_byteAt 0 = .ok (.aload_n 0, 1) := by decide +kernel
theorem dX6_byteAt_1 : decode cX6_byteAt 1 = .ok (.iconst 0, 1) := by decide +kernel
theorem dX6_byteAt_2 : decode cX6_byteAt 2 = .ok (.putfield 55, 3) := by decide +kernel
theorem dX6_byteAt_5 : decode cX6_byteAt 5 = .ok (.iload_n 1, 1) := by decide +kernel
theorem dX6_byteAt_6 : decode cX6_byteAt 6 = .ok (.iconst 0, 1) := by decide +kernel
theorem dX6_byteAt_7 : decode cX6_byteAt 7 = .ok (.aload_n 0, 1) := by decide +kernel
theorem dX6_byteAt_8 : decode cX6_byteAt 8 = .ok (.getfield 144, 3) := by decide +kernel
theorem dX6_byteAt_11 : decode cX6_byteAt 11 = .ok (.iconst 1, 1) := by decide +kernel
theorem dX6_byteAt_12 : decode cX6_byteAt 12 = .ok (.isub, 1) := by decide +kernel
theorem dX6_byteAt_13 : decode cX6_byteAt 13 = .ok (.invokestatic 58, 3) := by decide +kernel
theorem dX6_byteAt_16 : decode cX6_byteAt 16 = .ok (.ifCond .eq 12, 3) := by decide +kernel
theorem dX6_byteAt_19 : decode cX6_byteAt 19 = .ok (.aload_n 0, 1) := by decide +kernel
theorem dX6_byteAt_20 : decode cX6_byteAt 20 = .ok (.getfield 49, 3) := by decide +kernel
theorem dX6_byteAt_23 : decode cX6_byteAt 23 = .ok (.iload_n 1, 1) := by decide +kernel
theorem dX6_byteAt_24 : decode cX6_byteAt 24 = .ok (.iaload, 1) := by decide +kernel
theorem dX6_byteAt_25 : decode cX6_byteAt 25 = .ok (.goto 8, 3) := by decide +kernel
theorem dX6_byteAt_28 : decode cX6_byteAt 28 = .ok (.aload_n 0, 1) := by decide +kernel
theorem dX6_byteAt_29 : decode cX6_byteAt 29 = .ok (.iconst 1, 1) := by decide +kernel
theorem dX6_byteAt_30 : decode cX6_byteAt 30 = .ok (.invokevirtual 62, 3) := by decide +kernel
theorem dX6_byteAt_33 : decode cX6_byteAt 33 = .ok (.ireturn, 1) := by decide +kernel
set_option maxRecDepth 20000 in
theorem ggX6_feed_X6_no : GoodIn wsX6_feed wsX6_no := goodIn_r _ [9, 1, 10, 11, 12, 13, 14, 15, 16, 17, 18, 19, 20, 21, 22, 23, 24, 25, 26, 27, 28, 29, 30] (by decide +kernel) (by decide +kernel)
set_option maxRecDepth 20000 in
theorem gX6_feed_X6_no : GoodIn wsX6_feed (wsV RX6 62 RX6 yX6_no wsX6_no) := goodIn_app (goodIn_of _ (by decide +kernel)) ggX6_feed_X6_no
theorem dX6_feed_0 : decode cX6_feed 0 = .ok (.aload_n 0, 1) := by decide +kernel
theorem dX6_feed_1 : decode cX6_feed 1 = .ok (.iconst 0, 1) := by decide +kernel
theorem dX6_feed_2 : decode cX6_feed 2 = .ok (.putfield 55, 3) := by decide +kernel
theorem dX6_feed_5 : decode cX6_feed 5 = .ok (.aload_n 0, 1) := by decide +kernel
theorem dX6_feed_6 : decode cX6_feed 6 = .ok (.getfield 160, 3) := by decide +kernel
theorem dX6_feed_9 : decode cX6_feed 9 = .ok (.bipush 20, 2) := by decide +kernel
theorem dX6_feed_11 : decode cX6_feed 11 = .ok (.iadd, 1) := by decide +kernel
theorem dX6_feed_12 : decode cX6_feed 12 = .ok (.sipush 300, 3) := by decide +kernel
theorem dX6_feed_15 : decode cX6_feed 15 = .ok (.if_icmp .le 9, 3) := by decide +kernel
theorem dX6_feed_18 : decode cX6_feed 18 = .ok (.aload_n 0, 1) := by decide +kernel
theorem dX6_feed_19 : decode cX6_feed 19 = .ok (.iconst 1, 1) := by decide +kernel
theorem dX6_feed_20 : decode cX6_feed 20 = .ok (.invokevirtual 62, 3) := by decide +kernel
theorem dX6_feed_23 : decode cX6_feed 23 = .ok (.ireturn, 1) := by decide +kernel
theorem dX6_feed_24 : decode cX6_feed 24 = .ok (.iconst 5, 1) := by decide +kernel
theorem dX6_feed_25 : decode cX6_feed 25 = .ok (.newarray .int, 2) := by decide +kernel
theorem dX6_feed_27 : decode cX6_feed 27 = .ok (.dup, 1) := by decide +kernel
theorem dX6_feed_28 : decode cX6_feed 28 = .ok (.iconst 0, 1) := by decide +kernel
theorem dX6_feed_29 : decode cX6_feed 29 = .ok (.iload_n 1, 1) := by decide +kernel
theorem dX6_feed_30 : decode cX6_feed 30 = .ok (.iastore, 1) := by decide +kernel
theorem dX6_feed_31 : decode cX6_feed 31 = .ok (.dup, 1) := by decide +kernel
theorem dX6_feed_32 : decode cX6_feed 32 = .ok (.iconst 1, 1) := by decide +kernel
theorem dX6_feed_33 : decode cX6_feed 33 = .ok (.iload_n 2, 1) := by decide +kernel
theorem dX6_feed_34 : decode cX6_feed 34 = .ok (.iastore, 1) := by decide +kernel
theorem dX6_feed_35 : decode cX6_feed 35 = .ok (.dup, 1) := by decide +kernel
theorem dX6_feed_36 : decode cX6_feed 36 = .ok (.iconst 2, 1) := by decide +kernel
theorem dX6_feed_37 : decode cX6_feed 37 = .ok (.iload_n 3, 1) := by decide +kernel
theorem dX6_feed_38 : decode cX6_feed 38 = .ok (.iastore, 1) := by decide +kernel
theorem dX6_feed_39 : decode cX6_feed 39 = .ok (.dup, 1) := by decide +kernel
theorem dX6_feed_40 : decode cX6_feed 40 = .ok (.iconst 3, 1) := by decide +kernel
theorem dX6_feed_41 : decode cX6_feed 41 = .ok (.iload 4, 2) := by decide +kernel
theorem dX6_feed_43 : decode cX6_feed 43 = .ok (.iastore, 1) := by decide +kernel
theorem dX6_feed_44 : decode cX6_feed 44 = .ok (.dup, 1) := by decide +kernel
theorem dX6_feed_45 : decode cX6_feed 45 = .ok (.iconst 4, 1) := by decide +kernel
theorem dX6_feed_46 : decode cX6_feed 46 = .ok (.iload 5, 2) := by decide +kernel
theorem dX6_feed_48 : decode cX6_feed 48 = .ok (.iastore, 1) := by decide +kernel
theorem dX6_feed_49 : decode cX6_feed 49 = .ok (.astore 6, 2) := by decide +kernel
theorem dX6_feed_51 : decode cX6_feed 51 = .ok (.aload 6, 2) := by decide +kernel
theorem dX6_feed_53 : decode cX6_feed 53 = .ok (.astore 7, 2) := by decide +kernel
theorem dX6_feed_55 : decode cX6_feed 55 = .ok (.aload 7, 2) := by decide +kernel
theorem dX6_feed_57 : decode cX6_feed 57 = .ok (.arraylength, 1) := by decide +kernel
theorem dX6_feed_58 : decode cX6_feed 58 = .ok (.istore 8, 2) := by decide +kernel
theorem dX6_feed_60 : decode cX6_feed 60 = .ok (.iconst 0, 1) := by decide +kernel
theorem dX6_feed_61 : decode cX6_feed 61 = .ok (.istore 9, 2) := by decide +kernel
theorem dX6_feed_63 : decode cX6_feed 63 = .ok (.iload 9, 2) := by decide +kernel
theorem dX6_feed_65 : decode cX6_feed 65 = .ok (.iload 8, 2) := by decide +kernel
theorem dX6_feed_67 : decode cX6_feed 67 = .ok (.if_icmp .ge 61, 3) := by decide +kernel
theorem dX6_feed_70 : decode cX6_feed 70 = .ok (.aload 7, 2) := by decide +kernel
theorem dX6_feed_72 : decode cX6_feed 72 = .ok (.iload 9, 2) := by decide +kernel
theorem dX6_feed_74 : decode cX6_feed 74 = .ok (.iaload, 1) := by decide +kernel
theorem dX6_feed_75 : decode cX6_feed 75 = .ok (.istore 10, 2) := by decide +kernel
theorem dX6_feed_77 : decode cX6_feed 77 = .ok (.iconst 3, 1) := by decide +kernel
theorem dX6_feed_78 : decode cX6_feed 78 = .ok (.istore 11, 2) := by decide +kernel
theorem dX6_feed_80 : decode cX6_feed 80 = .ok (.iload 11, 2) := by decide +kernel
theorem dX6_feed_82 : decode cX6_feed 82 = .ok (.ifCond .lt 40, 3) := by decide +kernel
theorem dX6_feed_85 : decode cX6_feed 85 = .ok (.aload_n 0, 1) := by decide +kernel
theorem dX6_feed_86 : decode cX6_feed 86 = .ok (.getfield 52, 3) := by decide +kernel
theorem dX6_feed_89 : decode cX6_feed 89 = .ok (.aload_n 0, 1) := by decide +kernel
theorem dX6_feed_90 : decode cX6_feed 90 = .ok (.getfield 160, 3) := by decide +kernel
theorem dX6_feed_93 : decode cX6_feed 93 = .ok (.iload 10, 2) := by decide +kernel
theorem dX6_feed_95 : decode cX6_feed 95 = .ok (.bipush 8, 2) := by decide +kernel
theorem dX6_feed_97 : decode cX6_feed 97 = .ok (.iload 11, 2) := by decide +kernel
theorem dX6_feed_99 : decode cX6_feed 99 = .ok (.imul, 1) := by decide +kernel
theorem dX6_feed_100 : decode cX6_feed 100 = .ok (.ishr, 1) := by decide +kernel
theorem dX6_feed_101 : decode cX6_feed 101 = .ok (.sipush 255, 3) := by decide +kernel
theorem dX6_feed_104 : decode cX6_feed 104 = .ok (.iand, 1) := by decide +kernel
theorem dX6_feed_105 : decode cX6_feed 105 = .ok (.iastore, 1) := by decide +kernel
theorem dX6_feed_106 : decode cX6_feed 106 = .ok (.aload_n 0, 1) := by decide +kernel
theorem dX6_feed_107 : decode cX6_feed 107 = .ok (.dup, 1) := by decide +kernel
theorem dX6_feed_108 : decode cX6_feed 108 = .ok (.getfield 160, 3) := by decide +kernel
theorem dX6_feed_111 : decode cX6_feed 111 = .ok (.iconst 1, 1) := by decide +kernel
theorem dX6_feed_112 : decode cX6_feed 112 = .ok (.iadd, 1) := by decide +kernel
theorem dX6_feed_113 : decode cX6_feed 113 = .ok (.putfield 160, 3) := by decide +kernel
theorem dX6_feed_116 : decode cX6_feed 116 = .ok (.iinc 11 (-1), 3) := by decide +kernel
theorem dX6_feed_119 : decode cX6_feed 119 = .ok (.goto (-39), 3) := by decide +kernel
theorem dX6_feed_122 : decode cX6_feed 122 = .ok (.iinc 9 1, 3) := by decide +kernel
theorem dX6_feed_125 : decode cX6_feed 125 = .ok (.goto (-62), 3) := by decide +kernel
theorem dX6_feed_128 : decode cX6_feed 128 = .ok (.aload_n 0, 1) := by decide +kernel
theorem dX6_feed_129 : decode cX6_feed 129 = .ok (.getfield 160, 3) := by decide +kernel
theorem dX6_feed_132 : decode cX6_feed 132 = .ok (.ireturn, 1) := by decide +kernel
set_option maxRecDepth 20000 in
theorem ggX6_trim_X6_isIn : GoodIn wsX6_trim wsX6_isIn := goodIn_r _ [6] (by decide +kernel) (by decide +kernel)
set_option maxRecDepth 20000 in
theorem gX6_trim_X6_isIn : GoodIn wsX6_trim (va_wsS RX6 58 yX6_isIn wsX6_isIn) := goodIn_app (goodIn_of _ (by decide +kernel)) ggX6_trim_X6_isIn
set_option maxRecDepth 20000 in
theorem ggX6_trim_X6_no : GoodIn wsX6_trim wsX6_no := goodIn_r _ [10, 1, 11, 12, 13, 14, 15, 16, 17, 18, 19, 20, 21, 22, 23, 24, 25, 26, 27, 28, 29, 30, 31] (by decide +kernel) (by decide +kernel)
set_option maxRecDepth 20000 in
theorem gX6_trim_X6_no : GoodIn wsX6_trim (wsV RX6 62 RX6 yX6_no wsX6_no) := goodIn_app (goodIn_of _ (by decide +kernel)) ggX6_trim_X6_no
theorem dX6_trim_0 : decode cX6_trim 0 = .ok (.aload_n 0, 1) := by decide +kernel
theorem dX6_trim_1 : decode cX6_trim 1 = .ok (.iconst 0, 1) := by decide +kernel
theorem dX6_trim_2 : decode cX6_trim 2 = .ok (.putfield 55, 3) := by decide +kernel
theorem dX6_trim_5 : decode cX6_trim 5 = .ok (.iload_n 1, 1) := by decide +kernel
theorem dX6_trim_6 : decode cX6_trim 6 = .ok (.iconst 0, 1) := by decide +kernel
theorem dX6_trim_7 : decode cX6_trim 7 = .ok (.aload_n 0, 1) := by decide +kernel
theorem dX6_trim_8 : decode cX6_trim 8 = .ok (.getfield 160, 3) := by decide +kernel
theorem dX6_trim_11 : decode cX6_trim 11 = .ok (.invokestatic 58, 3) := by decide +kernel
theorem dX6_trim_14 : decode cX6_trim 14 = .ok (.ifCond .ne 9, 3) := by decide +kernel
theorem dX6_trim_17 : decode cX6_trim 17 = .ok (.aload_n 0, 1) := by decide +kernel
theorem dX6_trim_18 : decode cX6_trim 18 = .ok (.iconst 1, 1) := by decide +kernel
theorem dX6_trim_19 : decode cX6_trim 19 = .ok (.invokevirtual 62, 3) := by decide +kernel
theorem dX6_trim_22 : decode cX6_trim 22 = .ok (.ireturn, 1) := by decide +kernel
theorem dX6_trim_23 : decode cX6_trim 23 = .ok (.aload_n 0, 1) := by decide +kernel
theorem dX6_trim_24 : decode cX6_trim 24 = .ok (.iload_n 1, 1) := by decide +kernel
theorem dX6_trim_25 : decode cX6_trim 25 = .ok (.putfield 160, 3) := by decide +kernel
theorem dX6_trim_28 : decode cX6_trim 28 = .ok (.iload_n 1, 1) := by decide +kernel
theorem dX6_trim_29 : decode cX6_trim 29 = .ok (.ireturn, 1) := by decide +kernel
theorem dX6_next_0 : decode cX6_next 0 = .ok (.aload_n 0, 1) := by decide +kernel
theorem dX6_next_1 : decode cX6_next 1 = .ok (.getfield 163, 3) := by decide +kernel
theorem dX6_next_4 : decode cX6_next 4 = .ok (.aload_n 0, 1) := by decide +kernel
theorem dX6_next_5 : decode cX6_next 5 = .ok (.getfield 160, 3) := by decide +kernel
theorem dX6_next_8 : decode cX6_next 8 = .ok (.if_icmp .ge 30, 3) := by decide +kernel
theorem dX6_next_11 : decode cX6_next 11 = .ok (.aload_n 0, 1) := by decide +kernel
theorem dX6_next_12 : decode cX6_next 12 = .ok (.getfield 52, 3) := by decide +kernel
theorem dX6_next_15 : decode cX6_next 15 = .ok (.aload_n 0, 1) := by decide +kernel
theorem dX6_next_16 : decode cX6_next 16 = .ok (.getfield 163, 3) := by decide +kernel
theorem dX6_next_19 : decode cX6_next 19 = .ok (.iaload, 1) := by decide +kernel
theorem dX6_next_20 : decode cX6_next 20 = .ok (.bipush 32, 2) := by decide +kernel
theorem dX6_next_22 : decode cX6_next 22 = .ok (.if_icmp .ne 16, 3) := by decide +kernel
theorem dX6_next_25 : decode cX6_next 25 = .ok (.aload_n 0, 1) := by decide +kernel
theorem dX6_next_26 : decode cX6_next 26 = .ok (.dup, 1) := by decide +kernel
theorem dX6_next_27 : decode cX6_next 27 = .ok (.getfield 163, 3) := by decide +kernel
theorem dX6_next_30 : decode cX6_next 30 = .ok (.iconst 1, 1) := by decide +kernel
theorem dX6_next_31 : decode cX6_next 31 = .ok (.iadd, 1) := by decide +kernel
theorem dX6_next_32 : decode cX6_next 32 = .ok (.putfield 163, 3) := by decide +kernel
theorem dX6_next_35 : decode cX6_next 35 = .ok (.goto (-35), 3) := by decide +kernel
theorem dX6_next_38 : decode cX6_next 38 = .ok (.aload_n 0, 1) := by decide +kernel
theorem dX6_next_39 : decode cX6_next 39 = .ok (.getfield 163, 3) := by decide +kernel
theorem dX6_next_42 : decode cX6_next 42 = .ok (.aload_n 0, 1) := by decide +kernel
theorem dX6_next_43 : decode cX6_next 43 = .ok (.getfield 160, 3) := by decide +kernel
theorem dX6_next_46 : decode cX6_next 46 = .ok (.if_icmp .ge 15, 3) := by decide +kernel
theorem dX6_next_49 : decode cX6_next 49 = .ok (.aload_n 0, 1) := by decide +kernel
theorem dX6_next_50 : decode cX6_next 50 = .ok (.getfield 52, 3) := by decide +kernel
theorem dX6_next_53 : decode cX6_next 53 = .ok (.aload_n 0, 1) := by decide +kernel
theorem dX6_next_54 : decode cX6_next 54 = .ok (.getfield 163, 3) := by decide +kernel
theorem dX6_next_57 : decode cX6_next 57 = .ok (.iaload, 1) := by decide +kernel
theorem dX6_next_58 : decode cX6_next 58 = .ok (.goto 4, 3) := by decide +kernel
theorem dX6_next_61 : decode cX6_next 61 = .ok (.iconst (-1), 1) := by decide +kernel
theorem dX6_next_62 : decode cX6_next 62 = .ok (.ireturn, 1) := by decide +kernel
theorem dX6_wrong_0 : decode cX6_wrong 0 = .ok (.aload_n 0, 1) := by decide +kernel
theorem dX6_wrong_1 : decode cX6_wrong 1 = .ok (.iconst 1, 1) := by decide +kernel
theorem dX6_wrong_2 : decode cX6_wrong 2 = .ok (.putfield 165, 3) := by decide +kernel
theorem dX6_wrong_5 : decode cX6_wrong 5 = .ok (.lconst 0, 1) := by decide +kernel
theorem dX6_wrong_6 : decode cX6_wrong 6 = .ok (.lreturn, 1) := by decide +kernel
theorem dX6_opOf_0 : decode cX6_opOf 0 = .ok (.iconst (-1), 1) := by decide +kernel
theorem dX6_opOf_1 : decode cX6_opOf 1 = .ok (.istore_n 3, 1) := by decide +kernel
theorem dX6_opOf_2 : decode cX6_opOf 2 = .ok (.iload_n 1, 1) := by decide +kernel
theorem dX6_opOf_3 : decode cX6_opOf 3 = .ok (.istore 4, 2) := by decide +kernel
theorem dX6_opOf_5 : decode cX6_opOf 5 = .ok (.iload 4, 2) := by decide +kernel
theorem dX6_opOf_7 : decode cX6_opOf 7 = .ok (.iload_n 2, 1) := by decide +kernel
theorem dX6_opOf_8 : decode cX6_opOf 8 = .ok (.if_icmp .ge 22, 3) := by decide +kernel
theorem dX6_opOf_11 : decode cX6_opOf 11 = .ok (.getstatic 157, 3) := by decide +kernel
theorem dX6_opOf_14 : decode cX6_opOf 14 = .ok (.iload 4, 2) := by decide +kernel
theorem dX6_opOf_16 : decode cX6_opOf 16 = .ok (.iaload, 1) := by decide +kernel
theorem dX6_opOf_17 : decode cX6_opOf 17 = .ok (.iload_n 0, 1) := by decide +kernel
theorem dX6_opOf_18 : decode cX6_opOf 18 = .ok (.if_icmp .ne 6, 3) := by decide +kernel
theorem dX6_opOf_21 : decode cX6_opOf 21 = .ok (.iload 4, 2) := by decide +kernel
theorem dX6_opOf_23 : decode cX6_opOf 23 = .ok (.istore_n 3, 1) := by decide +kernel
theorem dX6_opOf_24 : decode cX6_opOf 24 = .ok (.iinc 4 1, 3) := by decide +kernel
theorem dX6_opOf_27 : decode cX6_opOf 27 = .ok (.goto (-22), 3) := by decide +kernel
theorem dX6_opOf_30 : decode cX6_opOf 30 = .ok (.iload_n 3, 1) := by decide +kernel
theorem dX6_opOf_31 : decode cX6_opOf 31 = .ok (.ireturn, 1) := by decide +kernel
set_option maxRecDepth 20000 in
theorem ggX6_isDigit_X6_isIn : GoodIn wsX6_isDigit wsX6_isIn := goodIn_r _ [4] (by decide +kernel) (by decide +kernel)
set_option maxRecDepth 20000 in
theorem gX6_isDigit_X6_isIn : GoodIn wsX6_isDigit (va_wsS RX6 58 yX6_isIn wsX6_isIn) := goodIn_app (goodIn_of _ (by decide +kernel)) ggX6_isDigit_X6_isIn
theorem dX6_isDigit_0 : decode cX6_isDigit 0 = .ok (.iload_n 0, 1) := by decide +kernel
theorem dX6_isDigit_1 : decode cX6_isDigit 1 = .ok (.bipush 48, 2) := by decide +kernel
theorem dX6_isDigit_3 : decode cX6_isDigit 3 = .ok (.bipush 57, 2) := by decide +kernel
theorem dX6_isDigit_5 : decode cX6_isDigit 5 = .ok (.invokestatic 58, 3) := by decide +kernel
theorem dX6_isDigit_8 : decode cX6_isDigit 8 = .ok (.ireturn, 1) := by decide +kernel
set_option maxRecDepth 20000 in
theorem ggX6_number_X6_isDigit : GoodIn wsX6_number wsX6_isDigit := goodIn_r _ [7, 8, 9, 6, 10] (by decide +kernel) (by decide +kernel)
set_option maxRecDepth 20000 in
theorem gX6_number_X6_isDigit : GoodIn wsX6_number (va_wsS RX6 169 yX6_isDigit wsX6_isDigit) := goodIn_app (goodIn_of _ (by decide +kernel)) ggX6_number_X6_isDigit
set_option maxRecDepth 20000 in
theorem ggX6_number_X6_wrong : GoodIn wsX6_number wsX6_wrong := goodIn_r _ [14, 15, 20, 21, 22, 23, 24, 25, 26, 27, 28, 29, 30, 31, 32, 33, 34, 35, 36, 37, 38, 39, 40] (by decide +kernel) (by decide +kernel)
set_option maxRecDepth 20000 in
theorem gX6_number_X6_wrong : GoodIn wsX6_number (wsV RX6 172 RX6 yX6_wrong wsX6_wrong) := goodIn_app (goodIn_of _ (by decide +kernel)) ggX6_number_X6_wrong
set_option maxRecDepth 20000 in
theorem ggX6_number_X6_constant : GoodIn wsX6_number wsX6_constant := goodIn_r _ [18, 19] (by decide +kernel) (by decide +kernel)
set_option maxRecDepth 20000 in
theorem gX6_number_X6_constant : GoodIn wsX6_number (va_wsS RX6 124 yX6_constant wsX6_constant) := goodIn_app (goodIn_of _ (by decide +kernel)) ggX6_number_X6_constant
theorem dX6_number_0 : decode cX6_number 0 = .ok (.aload_n 0, 1) := by decide +kernel
theorem dX6_number_1 : decode cX6_number 1 = .ok (.getfield 52, 3) := by decide +kernel
theorem dX6_number_4 : decode cX6_number 4 = .ok (.aload_n 0, 1) := by decide +kernel
theorem dX6_number_5 : decode cX6_number 5 = .ok (.getfield 163, 3) := by decide +kernel
theorem dX6_number_8 : decode cX6_number 8 = .ok (.iaload, 1) := by decide +kernel
theorem dX6_number_9 : decode cX6_number 9 = .ok (.bipush 48, 2) := by decide +kernel
theorem dX6_number_11 : decode cX6_number 11 = .ok (.isub, 1) := by decide +kernel
theorem dX6_number_12 : decode cX6_number 12 = .ok (.istore_n 1, 1) := by decide +kernel
theorem dX6_number_13 : decode cX6_number 13 = .ok (.iconst 1, 1) := by decide +kernel
theorem dX6_number_14 : decode cX6_number 14 = .ok (.istore_n 2, 1) := by decide +kernel
theorem dX6_number_15 : decode cX6_number 15 = .ok (.aload_n 0, 1) := by decide +kernel
theorem dX6_number_16 : decode cX6_number 16 = .ok (.getfield 163, 3) := by decide +kernel
theorem dX6_number_19 : decode cX6_number 19 = .ok (.iconst 1, 1) := by decide +kernel
theorem dX6_number_20 : decode cX6_number 20 = .ok (.iadd, 1) := by decide +kernel
theorem dX6_number_21 : decode cX6_number 21 = .ok (.aload_n 0, 1) := by decide +kernel
theorem dX6_number_22 : decode cX6_number 22 = .ok (.getfield 160, 3) := by decide +kernel
theorem dX6_number_25 : decode cX6_number 25 = .ok (.if_icmp .ge 42, 3) := by decide +kernel
theorem dX6_number_28 : decode cX6_number 28 = .ok (.aload_n 0, 1) := by decide +kernel
theorem dX6_number_29 : decode cX6_number 29 = .ok (.getfield 52, 3) := by decide +kernel
theorem dX6_number_32 : decode cX6_number 32 = .ok (.aload_n 0, 1) := by decide +kernel
theorem dX6_number_33 : decode cX6_number 33 = .ok (.getfield 163, 3) := by decide +kernel
theorem dX6_number_36 : decode cX6_number 36 = .ok (.iconst 1, 1) := by decide +kernel
theorem dX6_number_37 : decode cX6_number 37 = .ok (.iadd, 1) := by decide +kernel
theorem dX6_number_38 : decode cX6_number 38 = .ok (.iaload, 1) := by decide +kernel
theorem dX6_number_39 : decode cX6_number 39 = .ok (.invokestatic 169, 3) := by decide +kernel
theorem dX6_number_42 : decode cX6_number 42 = .ok (.ifCond .eq 25, 3) := by decide +kernel
theorem dX6_number_45 : decode cX6_number 45 = .ok (.bipush 10, 2) := by decide +kernel
theorem dX6_number_47 : decode cX6_number 47 = .ok (.iload_n 1, 1) := by decide +kernel
theorem dX6_number_48 : decode cX6_number 48 = .ok (.imul, 1) := by decide +kernel
theorem dX6_number_49 : decode cX6_number 49 = .ok (.aload_n 0, 1) := by decide +kernel
theorem dX6_number_50 : decode cX6_number 50 = .ok (.getfield 52, 3) := by decide +kernel
theorem dX6_number_53 : decode cX6_number 53 = .ok (.aload_n 0, 1) := by decide +kernel
theorem dX6_number_54 : decode cX6_number 54 = .ok (.getfield 163, 3) := by decide +kernel
theorem dX6_number_57 : decode cX6_number 57 = .ok (.iconst 1, 1) := by decide +kernel
theorem dX6_number_58 : decode cX6_number 58 = .ok (.iadd, 1) := by decide +kernel
theorem dX6_number_59 : decode cX6_number 59 = .ok (.iaload, 1) := by decide +kernel
theorem dX6_number_60 : decode cX6_number 60 = .ok (.iadd, 1) := by decide +kernel
theorem dX6_number_61 : decode cX6_number 61 = .ok (.bipush 48, 2) := by decide +kernel
theorem dX6_number_63 : decode cX6_number 63 = .ok (.isub, 1) := by decide +kernel
theorem dX6_number_64 : decode cX6_number 64 = .ok (.istore_n 1, 1) := by decide +kernel
theorem dX6_number_65 : decode cX6_number 65 = .ok (.iconst 2, 1) := by decide +kernel
theorem dX6_number_66 : decode cX6_number 66 = .ok (.istore_n 2, 1) := by decide +kernel
theorem dX6_number_67 : decode cX6_number 67 = .ok (.iload_n 1, 1) := by decide +kernel
theorem dX6_number_68 : decode cX6_number 68 = .ok (.bipush 15, 2) := by decide +kernel
theorem dX6_number_70 : decode cX6_number 70 = .ok (.if_icmp .le 8, 3) := by decide +kernel
theorem dX6_number_73 : decode cX6_number 73 = .ok (.aload_n 0, 1) := by decide +kernel
theorem dX6_number_74 : decode cX6_number 74 = .ok (.invokevirtual 172, 3) := by decide +kernel
theorem dX6_number_77 : decode cX6_number 77 = .ok (.lreturn, 1) := by decide +kernel
theorem dX6_number_78 : decode cX6_number 78 = .ok (.aload_n 0, 1) := by decide +kernel
theorem dX6_number_79 : decode cX6_number 79 = .ok (.dup, 1) := by decide +kernel
theorem dX6_number_80 : decode cX6_number 80 = .ok (.getfield 163, 3) := by decide +kernel
theorem dX6_number_83 : decode cX6_number 83 = .ok (.iload_n 2, 1) := by decide +kernel
theorem dX6_number_84 : decode cX6_number 84 = .ok (.iadd, 1) := by decide +kernel
theorem dX6_number_85 : decode cX6_number 85 = .ok (.putfield 163, 3) := by decide +kernel
theorem dX6_number_88 : decode cX6_number 88 = .ok (.iload_n 1, 1) := by decide +kernel
theorem dX6_number_89 : decode cX6_number 89 = .ok (.invokestatic 124, 3) := by decide +kernel
theorem dX6_number_92 : decode cX6_number 92 = .ok (.lreturn, 1) := by decide +kernel
set_option maxRecDepth 20000 in
theorem ggX6_part_X6_next : GoodIn wsX6_part wsX6_next := goodIn_r _ [8, 1, 9, 10, 49, 50, 51, 52, 53, 54, 55, 56, 57, 58, 59, 60, 61, 62, 63, 64, 65, 66, 67, 68, 69] (by decide +kernel) (by decide +kernel)
set_option maxRecDepth 20000 in
theorem gX6_part_X6_next : GoodIn wsX6_part (wsV RX6 176 RX6 yX6_next wsX6_next) := goodIn_app (goodIn_of _ (by decide +kernel)) ggX6_part_X6_next
set_option maxRecDepth 20000 in
theorem ggX6_part_X6_isDigit : GoodIn wsX6_part wsX6_isDigit := goodIn_r _ [13, 14, 15, 7, 16] (by decide +kernel) (by decide +kernel)
set_option maxRecDepth 20000 in
theorem gX6_part_X6_isDigit : GoodIn wsX6_part (va_wsS RX6 169 yX6_isDigit wsX6_isDigit) := goodIn_app (goodIn_of _ (by decide +kernel)) ggX6_part_X6_isDigit
set_option maxRecDepth 20000 in
theorem ggX6_part_X6_number : GoodIn wsX6_part wsX6_number := goodIn_r _ [20, 10, 1, 9, 11, 12, 7, 13, 14, 15, 16, 21, 22, 23, 24, 3, 25, 26, 27, 28, 49, 50, 51, 52, 53, 54, 55, 56, 57, 58, 59, 60, 61, 62, 63, 64, 65, 66, 67, 68, 69] (by decide +kernel) (by decide +kernel)
set_option maxRecDepth 20000 in
theorem gX6_part_X6_number : GoodIn wsX6_part (wsV RX6 180 RX6 yX6_number wsX6_number) := goodIn_app (goodIn_of _ (by decide +kernel)) ggX6_part_X6_number
set_option maxRecDepth 20000 in
theorem ggX6_part_X6_opOf : GoodIn wsX6_part wsX6_opOf := goodIn_r _ [31, 32] (by decide +kernel) (by decide +kernel)
set_option maxRecDepth 20000 in
theorem gX6_part_X6_opOf : GoodIn wsX6_part (va_wsS RX6 183 yX6_opOf wsX6_opOf) := goodIn_app (goodIn_of _ (by decide +kernel)) ggX6_part_X6_opOf
set_option maxRecDepth 20000 in
theorem ggX6_part_X6_wrong : GoodIn wsX6_part wsX6_wrong := goodIn_r _ [24, 3, 49, 50, 51, 52, 53, 54, 55, 56, 57, 58, 59, 60, 61, 62, 63, 64, 65, 66, 67, 68, 69] (by decide +kernel) (by decide +kernel)
set_option maxRecDepth 20000 in
theorem gX6_part_X6_wrong : GoodIn wsX6_part (wsV RX6 172 RX6 yX6_wrong wsX6_wrong) := goodIn_app (goodIn_of _ (by decide +kernel)) ggX6_part_X6_wrong
set_option maxRecDepth 20000 in
theorem ggX6_part_X6_part : GoodIn wsX6_part wsX6_part := goodIn_r _ [0, 1, 2, 3, 4, 5, 6, 7, 8, 9, 10, 11, 12, 13, 14, 15, 16, 17, 18, 19, 20, 21, 22, 23, 24, 25, 26, 27, 28, 29, 30, 31, 32, 33, 34, 35, 36, 37, 38, 39, 40, 41, 42, 43, 44, 45, 46, 47, 48, 49, 50, 51, 52, 53, 54, 55, 56, 57, 58, 59, 60, 61, 62, 63, 64, 65, 66, 67, 68, 69] (by decide +kernel) (by decide +kernel)
set_option maxRecDepth 20000 in
theorem gX6_part_X6_part : GoodIn wsX6_part (wsV RX6 186 RX6 yX6_part wsX6_part) := goodIn_app (goodIn_of _ (by decide +kernel)) ggX6_part_X6_part
set_option maxRecDepth 20000 in
theorem ggX6_part_X6_made : GoodIn wsX6_part wsX6_made := goodIn_r _ [38, 39, 40, 7, 41, 42, 43, 44] (by decide +kernel) (by decide +kernel)
set_option maxRecDepth 20000 in
theorem gX6_part_X6_made : GoodIn wsX6_part (va_wsS RX6 78 yX6_made wsX6_made) := goodIn_app (goodIn_of _ (by decide +kernel)) ggX6_part_X6_made
set_option maxRecDepth 20000 in
theorem ggX6_part_X6_formula : GoodIn wsX6_part wsX6_formula := goodIn_r _ [48, 3, 1, 33, 34, 35, 7, 4, 5, 6, 8, 9, 10, 29, 30, 31, 32, 36, 37, 38, 39, 40, 41, 42, 43, 44, 0, 2, 11, 12, 13, 14, 15, 16, 17, 18, 19, 20, 21, 22, 23, 24, 25, 26, 27, 28, 45, 46, 47, 49, 50, 51, 52, 53, 54, 55, 56, 57, 58, 59, 60, 61, 62, 63, 64, 65, 66, 67, 68, 69] (by decide +kernel) (by decide +kernel)
set_option maxRecDepth 20000 in
theorem gX6_part_X6_formula : GoodIn wsX6_part (wsV RX6 189 RX6 yX6_formula wsX6_formula) := goodIn_app (goodIn_of _ (by decide +kernel)) ggX6_part_X6_formula
theorem dX6_part_0 : decode cX6_part 0 = .ok (.aload_n 0, 1) := by decide +kernel
theorem dX6_part_1 : decode cX6_part 1 = .ok (.invokevirtual 176, 3) := by decide +kernel
theorem dX6_part_4 : decode cX6_part 4 = .ok (.istore_n 2, 1) := by decide +kernel
theorem dX6_part_5 : decode cX6_part 5 = .ok (.iload_n 2, 1) := by decide +kernel
theorem dX6_part_6 : decode cX6_part 6 = .ok (.bipush 120, 2) := by decide +kernel
theorem dX6_part_8 : decode cX6_part 8 = .ok (.if_icmp .ne 17, 3) := by decide +kernel
theorem dX6_part_11 : decode cX6_part 11 = .ok (.aload_n 0, 1) := by decide +kernel
theorem dX6_part_12 : decode cX6_part 12 = .ok (.dup, 1) := by decide +kernel
theorem dX6_part_13 : decode cX6_part 13 = .ok (.getfield 163, 3) := by decide +kernel
theorem dX6_part_16 : decode cX6_part 16 = .ok (.iconst 1, 1) := by decide +kernel
theorem dX6_part_17 : decode cX6_part 17 = .ok (.iadd, 1) := by decide +kernel
theorem dX6_part_18 : decode cX6_part 18 = .ok (.putfield 163, 3) := by decide +kernel
theorem dX6_part_21 : decode cX6_part 21 = .ok (.ldc2_w 122, 3) := by decide +kernel
theorem dX6_part_24 : decode cX6_part 24 = .ok (.lreturn, 1) := by decide +kernel
theorem dX6_part_25 : decode cX6_part 25 = .ok (.iload_n 2, 1) := by decide +kernel
theorem dX6_part_26 : decode cX6_part 26 = .ok (.invokestatic 169, 3) := by decide +kernel
theorem dX6_part_29 : decode cX6_part 29 = .ok (.ifCond .eq 8, 3) := by decide +kernel
theorem dX6_part_32 : decode cX6_part 32 = .ok (.aload_n 0, 1) := by decide +kernel
theorem dX6_part_33 : decode cX6_part 33 = .ok (.invokevirtual 180, 3) := by decide +kernel
theorem dX6_part_36 : decode cX6_part 36 = .ok (.lreturn, 1) := by decide +kernel
theorem dX6_part_37 : decode cX6_part 37 = .ok (.iload_n 2, 1) := by decide +kernel
theorem dX6_part_38 : decode cX6_part 38 = .ok (.iconst 0, 1) := by decide +kernel
theorem dX6_part_39 : decode cX6_part 39 = .ok (.iconst 4, 1) := by decide +kernel
theorem dX6_part_40 : decode cX6_part 40 = .ok (.invokestatic 183, 3) := by decide +kernel
theorem dX6_part_43 : decode cX6_part 43 = .ok (.istore_n 3, 1) := by decide +kernel
theorem dX6_part_44 : decode cX6_part 44 = .ok (.iload_n 3, 1) := by decide +kernel
theorem dX6_part_45 : decode cX6_part 45 = .ok (.iconst (-1), 1) := by decide +kernel
theorem dX6_part_46 : decode cX6_part 46 = .ok (.if_icmp .ne 9, 3) := by decide +kernel
theorem dX6_part_49 : decode cX6_part 49 = .ok (.iload_n 2, 1) := by decide +kernel
theorem dX6_part_50 : decode cX6_part 50 = .ok (.bipush 40, 2) := by decide +kernel
theorem dX6_part_52 : decode cX6_part 52 = .ok (.if_icmp .ne 9, 3) := by decide +kernel
theorem dX6_part_55 : decode cX6_part 55 = .ok (.iload_n 1, 1) := by decide +kernel
theorem dX6_part_56 : decode cX6_part 56 = .ok (.bipush 20, 2) := by decide +kernel
theorem dX6_part_58 : decode cX6_part 58 = .ok (.if_icmp .ne 8, 3) := by decide +kernel
theorem dX6_part_61 : decode cX6_part 61 = .ok (.aload_n 0, 1) := by decide +kernel
theorem dX6_part_62 : decode cX6_part 62 = .ok (.invokevirtual 172, 3) := by decide +kernel
theorem dX6_part_65 : decode cX6_part 65 = .ok (.lreturn, 1) := by decide +kernel
theorem dX6_part_66 : decode cX6_part 66 = .ok (.aload_n 0, 1) := by decide +kernel
theorem dX6_part_67 : decode cX6_part 67 = .ok (.dup, 1) := by decide +kernel
theorem dX6_part_68 : decode cX6_part 68 = .ok (.getfield 163, 3) := by decide +kernel
theorem dX6_part_71 : decode cX6_part 71 = .ok (.iconst 1, 1) := by decide +kernel
theorem dX6_part_72 : decode cX6_part 72 = .ok (.iadd, 1) := by decide +kernel
theorem dX6_part_73 : decode cX6_part 73 = .ok (.putfield 163, 3) := by decide +kernel
theorem dX6_part_76 : decode cX6_part 76 = .ok (.iload_n 3, 1) := by decide +kernel
theorem dX6_part_77 : decode cX6_part 77 = .ok (.iconst (-1), 1) := by decide +kernel
theorem dX6_part_78 : decode cX6_part 78 = .ok (.if_icmp .eq 31, 3) := by decide +kernel
theorem dX6_part_81 : decode cX6_part 81 = .ok (.aload_n 0, 1) := by decide +kernel
theorem dX6_part_82 : decode cX6_part 82 = .ok (.iload_n 1, 1) := by decide +kernel
theorem dX6_part_83 : decode cX6_part 83 = .ok (.iconst 1, 1) := by decide +kernel
theorem dX6_part_84 : decode cX6_part 84 = .ok (.iadd, 1) := by decide +kernel
theorem dX6_part_85 : decode cX6_part 85 = .ok (.invokevirtual 186, 3) := by decide +kernel
theorem dX6_part_88 : decode cX6_part 88 = .ok (.lstore 4, 2) := by decide +kernel
theorem dX6_part_90 : decode cX6_part 90 = .ok (.aload_n 0, 1) := by decide +kernel
theorem dX6_part_91 : decode cX6_part 91 = .ok (.getfield 165, 3) := by decide +kernel
theorem dX6_part_94 : decode cX6_part 94 = .ok (.ifCond .eq 7, 3) := by decide +kernel
theorem dX6_part_97 : decode cX6_part 97 = .ok (.lconst 0, 1) := by decide +kernel
theorem dX6_part_98 : decode cX6_part 98 = .ok (.goto 10, 3) := by decide +kernel
theorem dX6_part_101 : decode cX6_part 101 = .ok (.iload_n 3, 1) := by decide +kernel
theorem dX6_part_102 : decode cX6_part 102 = .ok (.lload 4, 2) := by decide +kernel
theorem dX6_part_104 : decode cX6_part 104 = .ok (.lconst 0, 1) := by decide +kernel
theorem dX6_part_105 : decode cX6_part 105 = .ok (.invokestatic 78, 3) := by decide +kernel
theorem dX6_part_108 : decode cX6_part 108 = .ok (.lreturn, 1) := by decide +kernel
theorem dX6_part_109 : decode cX6_part 109 = .ok (.aload_n 0, 1) := by decide +kernel
theorem dX6_part_110 : decode cX6_part 110 = .ok (.iload_n 1, 1) := by decide +kernel
theorem dX6_part_111 : decode cX6_part 111 = .ok (.iconst 1, 1) := by decide +kernel
theorem dX6_part_112 : decode cX6_part 112 = .ok (.iadd, 1) := by decide +kernel
theorem dX6_part_113 : decode cX6_part 113 = .ok (.invokevirtual 189, 3) := by decide +kernel
theorem dX6_part_116 : decode cX6_part 116 = .ok (.lstore 4, 2) := by decide +kernel
theorem dX6_part_118 : decode cX6_part 118 = .ok (.aload_n 0, 1) := by decide +kernel
theorem dX6_part_119 : decode cX6_part 119 = .ok (.getfield 165, 3) := by decide +kernel
theorem dX6_part_122 : decode cX6_part 122 = .ok (.ifCond .eq 5, 3) := by decide +kernel
theorem dX6_part_125 : decode cX6_part 125 = .ok (.lconst 0, 1) := by decide +kernel
theorem dX6_part_126 : decode cX6_part 126 = .ok (.lreturn, 1) := by decide +kernel
theorem dX6_part_127 : decode cX6_part 127 = .ok (.aload_n 0, 1) := by decide +kernel
theorem dX6_part_128 : decode cX6_part 128 = .ok (.invokevirtual 176, 3) := by decide +kernel
theorem dX6_part_131 : decode cX6_part 131 = .ok (.bipush 41, 2) := by decide +kernel
theorem dX6_part_133 : decode cX6_part 133 = .ok (.if_icmp .eq 8, 3) := by decide +kernel
theorem dX6_part_136 : decode cX6_part 136 = .ok (.aload_n 0, 1) := by decide +kernel
theorem dX6_part_137 : decode cX6_part 137 = .ok (.invokevirtual 172, 3) := by decide +kernel
theorem dX6_part_140 : decode cX6_part 140 = .ok (.lreturn, 1) := by decide +kernel
theorem dX6_part_141 : decode cX6_part 141 = .ok (.aload_n 0, 1) := by decide +kernel
theorem dX6_part_142 : decode cX6_part 142 = .ok (.dup, 1) := by decide +kernel
theorem dX6_part_143 : decode cX6_part 143 = .ok (.getfield 163, 3) := by decide +kernel
theorem dX6_part_146 : decode cX6_part 146 = .ok (.iconst 1, 1) := by decide +kernel
theorem dX6_part_147 : decode cX6_part 147 = .ok (.iadd, 1) := by decide +kernel
theorem dX6_part_148 : decode cX6_part 148 = .ok (.putfield 163, 3) := by decide +kernel
theorem dX6_part_151 : decode cX6_part 151 = .ok (.lload 4, 2) := by decide +kernel
theorem dX6_part_153 : decode cX6_part 153 = .ok (.lreturn, 1) := by decide +kernel
set_option maxRecDepth 20000 in
theorem ggX6_formula_X6_part : GoodIn wsX6_formula wsX6_part := goodIn_r _ [26, 2, 27, 1, 7, 8, 9, 6, 10, 11, 12, 28, 29, 30, 31, 32, 33, 34, 35, 36, 37, 38, 39, 40, 41, 42, 43, 44, 45, 13, 14, 15, 16, 3, 4, 5, 17, 18, 19, 20, 21, 22, 23, 24, 25, 46, 47, 48, 0, 49, 50, 51, 52, 53, 54, 55, 56, 57, 58, 59, 60, 61, 62, 63, 64, 65, 66, 67, 68, 69] (by decide +kernel) (by decide +kernel)
set_option maxRecDepth 20000 in
theorem gX6_formula_X6_part : GoodIn wsX6_formula (wsV RX6 186 RX6 yX6_part wsX6_part) := goodIn_app (goodIn_of _ (by decide +kernel)) ggX6_formula_X6_part
set_option maxRecDepth 20000 in
theorem ggX6_formula_X6_next : GoodIn wsX6_formula wsX6_next := goodIn_r _ [10, 2, 11, 12, 49, 50, 51, 52, 53, 54, 55, 56, 57, 58, 59, 60, 61, 62, 63, 64, 65, 66, 67, 68, 69] (by decide +kernel) (by decide +kernel)
set_option maxRecDepth 20000 in
theorem gX6_formula_X6_next : GoodIn wsX6_formula (wsV RX6 176 RX6 yX6_next wsX6_next) := goodIn_app (goodIn_of _ (by decide +kernel)) ggX6_formula_X6_next
set_option maxRecDepth 20000 in
theorem ggX6_formula_X6_opOf : GoodIn wsX6_formula wsX6_opOf := goodIn_r _ [15, 16] (by decide +kernel) (by decide +kernel)
set_option maxRecDepth 20000 in
theorem gX6_formula_X6_opOf : GoodIn wsX6_formula (va_wsS RX6 183 yX6_opOf wsX6_opOf) := goodIn_app (goodIn_of _ (by decide +kernel)) ggX6_formula_X6_opOf
set_option maxRecDepth 20000 in
theorem ggX6_formula_X6_made : GoodIn wsX6_formula wsX6_made := goodIn_r _ [19, 20, 21, 6, 22, 23, 24, 25] (by decide +kernel) (by decide +kernel)
set_option maxRecDepth 20000 in
theorem gX6_formula_X6_made : GoodIn wsX6_formula (va_wsS RX6 78 yX6_made wsX6_made) := goodIn_app (goodIn_of _ (by decide +kernel)) ggX6_formula_X6_made
theorem dX6_formula_0 : decode cX6_formula 0 = .ok (.aload_n 0, 1) := by decide +kernel
theorem dX6_formula_1 : decode cX6_formula 1 = .ok (.iload_n 1, 1) := by decide +kernel
theorem dX6_formula_2 : decode cX6_formula 2 = .ok (.invokevirtual 186, 3) := by decide +kernel
theorem dX6_formula_5 : decode cX6_formula 5 = .ok (.lstore_n 2, 1) := by decide +kernel
theorem dX6_formula_6 : decode cX6_formula 6 = .ok (.aload_n 0, 1) := by decide +kernel
theorem dX6_formula_7 : decode cX6_formula 7 = .ok (.getfield 165, 3) := by decide +kernel
theorem dX6_formula_10 : decode cX6_formula 10 = .ok (.ifCond .eq 5, 3) := by decide +kernel
theorem dX6_formula_13 : decode cX6_formula 13 = .ok (.lconst 0, 1) := by decide +kernel
theorem dX6_formula_14 : decode cX6_formula 14 = .ok (.lreturn, 1) := by decide +kernel
theorem dX6_formula_15 : decode cX6_formula 15 = .ok (.aload_n 0, 1) := by decide +kernel
theorem dX6_formula_16 : decode cX6_formula 16 = .ok (.invokevirtual 176, 3) := by decide +kernel
theorem dX6_formula_19 : decode cX6_formula 19 = .ok (.iconst 4, 1) := by decide +kernel
theorem dX6_formula_20 : decode cX6_formula 20 = .ok (.bipush 10, 2) := by decide +kernel
theorem dX6_formula_22 : decode cX6_formula 22 = .ok (.invokestatic 183, 3) := by decide +kernel
theorem dX6_formula_25 : decode cX6_formula 25 = .ok (.istore 4, 2) := by decide +kernel
theorem dX6_formula_27 : decode cX6_formula 27 = .ok (.iload 4, 2) := by decide +kernel
theorem dX6_formula_29 : decode cX6_formula 29 = .ok (.iconst (-1), 1) := by decide +kernel
theorem dX6_formula_30 : decode cX6_formula 30 = .ok (.if_icmp .ne 5, 3) := by decide +kernel
theorem dX6_formula_33 : decode cX6_formula 33 = .ok (.lload_n 2, 1) := by decide +kernel
theorem dX6_formula_34 : decode cX6_formula 34 = .ok (.lreturn, 1) := by decide +kernel
theorem dX6_formula_35 : decode cX6_formula 35 = .ok (.aload_n 0, 1) := by decide +kernel
theorem dX6_formula_36 : decode cX6_formula 36 = .ok (.dup, 1) := by decide +kernel
theorem dX6_formula_37 : decode cX6_formula 37 = .ok (.getfield 163, 3) := by decide +kernel
theorem dX6_formula_40 : decode cX6_formula 40 = .ok (.iconst 1, 1) := by decide +kernel
theorem dX6_formula_41 : decode cX6_formula 41 = .ok (.iadd, 1) := by decide +kernel
theorem dX6_formula_42 : decode cX6_formula 42 = .ok (.putfield 163, 3) := by decide +kernel
theorem dX6_formula_45 : decode cX6_formula 45 = .ok (.aload_n 0, 1) := by decide +kernel
theorem dX6_formula_46 : decode cX6_formula 46 = .ok (.iload_n 1, 1) := by decide +kernel
theorem dX6_formula_47 : decode cX6_formula 47 = .ok (.invokevirtual 186, 3) := by decide +kernel
theorem dX6_formula_50 : decode cX6_formula 50 = .ok (.lstore 5, 2) := by decide +kernel
theorem dX6_formula_52 : decode cX6_formula 52 = .ok (.aload_n 0, 1) := by decide +kernel
theorem dX6_formula_53 : decode cX6_formula 53 = .ok (.getfield 165, 3) := by decide +kernel
theorem dX6_formula_56 : decode cX6_formula 56 = .ok (.ifCond .eq 7, 3) := by decide +kernel
theorem dX6_formula_59 : decode cX6_formula 59 = .ok (.lconst 0, 1) := by decide +kernel
theorem dX6_formula_60 : decode cX6_formula 60 = .ok (.goto 11, 3) := by decide +kernel
theorem dX6_formula_63 : decode cX6_formula 63 = .ok (.iload 4, 2) := by decide +kernel
theorem dX6_formula_65 : decode cX6_formula 65 = .ok (.lload_n 2, 1) := by decide +kernel
theorem dX6_formula_66 : decode cX6_formula 66 = .ok (.lload 5, 2) := by decide +kernel
theorem dX6_formula_68 : decode cX6_formula 68 = .ok (.invokestatic 78, 3) := by decide +kernel
theorem dX6_formula_71 : decode cX6_formula 71 = .ok (.lreturn, 1) := by decide +kernel
set_option maxRecDepth 20000 in
theorem ggX6_read_X6_formula : GoodIn wsX6_read wsX6_formula := goodIn_r _ [10, 3, 2, 11, 12, 13, 9, 14, 15, 16, 17, 5, 18, 19, 20, 21, 22, 23, 24, 25, 26, 27, 28, 29, 30, 31, 32, 33, 34, 35, 36, 37, 38, 39, 40, 41, 42, 43, 44, 45, 46, 47, 48, 49, 50, 51, 6, 7, 8, 52, 53, 54, 55, 56, 57, 58, 59, 60, 61, 62, 63, 64, 65, 66, 67, 68, 69, 70, 71, 72] (by decide +kernel) (by decide +kernel)
set_option maxRecDepth 20000 in
theorem gX6_read_X6_formula : GoodIn wsX6_read (wsV RX6 189 RX6 yX6_formula wsX6_formula) := goodIn_app (goodIn_of _ (by decide +kernel)) ggX6_read_X6_formula
set_option maxRecDepth 20000 in
theorem ggX6_read_X6_next : GoodIn wsX6_read wsX6_next := goodIn_r _ [17, 2, 5, 18, 52, 53, 54, 55, 56, 57, 58, 59, 60, 61, 62, 63, 64, 65, 66, 67, 68, 69, 70, 71, 72] (by decide +kernel) (by decide +kernel)
set_option maxRecDepth 20000 in
theorem gX6_read_X6_next : GoodIn wsX6_read (wsV RX6 176 RX6 yX6_next wsX6_next) := goodIn_app (goodIn_of _ (by decide +kernel)) ggX6_read_X6_next
set_option maxRecDepth 20000 in
theorem ggX6_read_X6_wrong : GoodIn wsX6_read wsX6_wrong := goodIn_r _ [47, 3, 52, 53, 54, 55, 56, 57, 58, 59, 60, 61, 62, 63, 64, 65, 66, 67, 68, 69, 70, 71, 72] (by decide +kernel) (by decide +kernel)
set_option maxRecDepth 20000 in
theorem gX6_read_X6_wrong : GoodIn wsX6_read (wsV RX6 172 RX6 yX6_wrong wsX6_wrong) := goodIn_app (goodIn_of _ (by decide +kernel)) ggX6_read_X6_wrong
theorem dX6_read_0 : decode cX6_read 0 = .ok (.aload_n 0, 1) := by decide +kernel
theorem dX6_read_1 : decode cX6_read 1 = .ok (.iconst 0, 1) := by decide +kernel
theorem dX6_read_2 : decode cX6_read 2 = .ok (.putfield 55, 3) := by decide +kernel
theorem dX6_read_5 : decode cX6_read 5 = .ok (.aload_n 0, 1) := by decide +kernel
theorem dX6_read_6 : decode cX6_read 6 = .ok (.iconst 0, 1) := by decide +kernel
theorem dX6_read_7 : decode cX6_read 7 = .ok (.putfield 163, 3) := by decide +kernel
theorem dX6_read_10 : decode cX6_read 10 = .ok (.aload_n 0, 1) := by decide +kernel
theorem dX6_read_11 : decode cX6_read 11 = .ok (.iconst 0, 1) := by decide +kernel
theorem dX6_read_12 : decode cX6_read 12 = .ok (.putfield 165, 3) := by decide +kernel
theorem dX6_read_15 : decode cX6_read 15 = .ok (.aload_n 0, 1) := by decide +kernel
theorem dX6_read_16 : decode cX6_read 16 = .ok (.iconst 0, 1) := by decide +kernel
theorem dX6_read_17 : decode cX6_read 17 = .ok (.invokevirtual 189, 3) := by decide +kernel
theorem dX6_read_20 : decode cX6_read 20 = .ok (.lstore_n 1, 1) := by decide +kernel
theorem dX6_read_21 : decode cX6_read 21 = .ok (.aload_n 0, 1) := by decide +kernel
theorem dX6_read_22 : decode cX6_read 22 = .ok (.getfield 165, 3) := by decide +kernel
theorem dX6_read_25 : decode cX6_read 25 = .ok (.ifCond .ne 16, 3) := by decide +kernel
theorem dX6_read_28 : decode cX6_read 28 = .ok (.aload_n 0, 1) := by decide +kernel
theorem dX6_read_29 : decode cX6_read 29 = .ok (.invokevirtual 176, 3) := by decide +kernel
theorem dX6_read_32 : decode cX6_read 32 = .ok (.iconst (-1), 1) := by decide +kernel
theorem dX6_read_33 : decode cX6_read 33 = .ok (.if_icmp .eq 8, 3) := by decide +kernel
theorem dX6_read_36 : decode cX6_read 36 = .ok (.aload_n 0, 1) := by decide +kernel
theorem dX6_read_37 : decode cX6_read 37 = .ok (.invokevirtual 172, 3) := by decide +kernel
theorem dX6_read_40 : decode cX6_read 40 = .ok (.pop2, 1) := by decide +kernel
theorem dX6_read_41 : decode cX6_read 41 = .ok (.aload_n 0, 1) := by decide +kernel
theorem dX6_read_42 : decode cX6_read 42 = .ok (.getfield 165, 3) := by decide +kernel
theorem dX6_read_45 : decode cX6_read 45 = .ok (.ifCond .ne 8, 3) := by decide +kernel
theorem dX6_read_48 : decode cX6_read 48 = .ok (.aload_n 0, 1) := by decide +kernel
theorem dX6_read_49 : decode cX6_read 49 = .ok (.lload_n 1, 1) := by decide +kernel
theorem dX6_read_50 : decode cX6_read 50 = .ok (.putfield 192, 3) := by decide +kernel
theorem dX6_read_53 : decode cX6_read 53 = .ok (.aload_n 0, 1) := by decide +kernel
theorem dX6_read_54 : decode cX6_read 54 = .ok (.iconst 0, 1) := by decide +kernel
theorem dX6_read_55 : decode cX6_read 55 = .ok (.putfield 160, 3) := by decide +kernel
theorem dX6_read_58 : decode cX6_read 58 = .ok (.aload_n 0, 1) := by decide +kernel
theorem dX6_read_59 : decode cX6_read 59 = .ok (.getfield 165, 3) := by decide +kernel
theorem dX6_read_62 : decode cX6_read 62 = .ok (.ifCond .eq 10, 3) := by decide +kernel
theorem dX6_read_65 : decode cX6_read 65 = .ok (.aload_n 0, 1) := by decide +kernel
theorem dX6_read_66 : decode cX6_read 66 = .ok (.getfield 163, 3) := by decide +kernel
theorem dX6_read_69 : decode cX6_read 69 = .ok (.goto 4, 3) := by decide +kernel
theorem dX6_read_72 : decode cX6_read 72 = .ok (.iconst (-1), 1) := by decide +kernel
theorem dX6_read_73 : decode cX6_read 73 = .ok (.ireturn, 1) := by decide +kernel
theorem dX6_result_0 : decode cX6_result 0 = .ok (.aload_n 0, 1) := by decide +kernel
theorem dX6_result_1 : decode cX6_result 1 = .ok (.iconst 0, 1) := by decide +kernel
theorem dX6_result_2 : decode cX6_result 2 = .ok (.putfield 55, 3) := by decide +kernel
theorem dX6_result_5 : decode cX6_result 5 = .ok (.aload_n 0, 1) := by decide +kernel
theorem dX6_result_6 : decode cX6_result 6 = .ok (.getfield 192, 3) := by decide +kernel
theorem dX6_result_9 : decode cX6_result 9 = .ok (.lreturn, 1) := by decide +kernel
set_option maxRecDepth 20000 in
theorem ggX6_digest_X6_told : GoodIn wsX6_digest wsX6_told := goodIn_r _ [18, 19, 20, 21, 22, 23, 24, 25, 26, 27, 28, 29, 30, 31, 32, 33, 34, 35, 36, 37, 38, 39, 40, 41, 42, 43] (by decide +kernel) (by decide +kernel)
set_option maxRecDepth 20000 in
theorem gX6_digest_X6_told : GoodIn wsX6_digest (wsV RX6 136 RX6 yX6_told wsX6_told) := goodIn_app (goodIn_of _ (by decide +kernel)) ggX6_digest_X6_told
theorem dX6_digest_0 : decode cX6_digest 0 = .ok (.aload_n 0, 1) := by decide +kernel
theorem dX6_digest_1 : decode cX6_digest 1 = .ok (.iconst 0, 1) := by decide +kernel
theorem dX6_digest_2 : decode cX6_digest 2 = .ok (.putfield 55, 3) := by decide +kernel
theorem dX6_digest_5 : decode cX6_digest 5 = .ok (.ldc2_w 196, 3) := by decide +kernel
theorem dX6_digest_8 : decode cX6_digest 8 = .ok (.lstore_n 1, 1) := by decide +kernel
theorem dX6_digest_9 : decode cX6_digest 9 = .ok (.iconst 0, 1) := by decide +kernel
theorem dX6_digest_10 : decode cX6_digest 10 = .ok (.istore_n 3, 1) := by decide +kernel
theorem dX6_digest_11 : decode cX6_digest 11 = .ok (.iload_n 3, 1) := by decide +kernel
theorem dX6_digest_12 : decode cX6_digest 12 = .ok (.bipush 10, 2) := by decide +kernel
theorem dX6_digest_14 : decode cX6_digest 14 = .ok (.if_icmp .ge 42, 3) := by decide +kernel
theorem dX6_digest_17 : decode cX6_digest 17 = .ok (.lload_n 1, 1) := by decide +kernel
theorem dX6_digest_18 : decode cX6_digest 18 = .ok (.ldc2_w 198, 3) := by decide +kernel
theorem dX6_digest_21 : decode cX6_digest 21 = .ok (.lmul, 1) := by decide +kernel
theorem dX6_digest_22 : decode cX6_digest 22 = .ok (.aload_n 0, 1) := by decide +kernel
theorem dX6_digest_23 : decode cX6_digest 23 = .ok (.getfield 9, 3) := by decide +kernel
theorem dX6_digest_26 : decode cX6_digest 26 = .ok (.iload_n 3, 1) := by decide +kernel
theorem dX6_digest_27 : decode cX6_digest 27 = .ok (.iaload, 1) := by decide +kernel
theorem dX6_digest_28 : decode cX6_digest 28 = .ok (.i2l, 1) := by decide +kernel
theorem dX6_digest_29 : decode cX6_digest 29 = .ok (.ladd, 1) := by decide +kernel
theorem dX6_digest_30 : decode cX6_digest 30 = .ok (.ldc2_w 198, 3) := by decide +kernel
theorem dX6_digest_33 : decode cX6_digest 33 = .ok (.lmul, 1) := by decide +kernel
theorem dX6_digest_34 : decode cX6_digest 34 = .ok (.aload_n 0, 1) := by decide +kernel
theorem dX6_digest_35 : decode cX6_digest 35 = .ok (.getfield 13, 3) := by decide +kernel
theorem dX6_digest_38 : decode cX6_digest 38 = .ok (.iload_n 3, 1) := by decide +kernel
theorem dX6_digest_39 : decode cX6_digest 39 = .ok (.baload, 1) := by decide +kernel
theorem dX6_digest_40 : decode cX6_digest 40 = .ok (.ifCond .eq 7, 3) := by decide +kernel
theorem dX6_digest_43 : decode cX6_digest 43 = .ok (.lconst 1, 1) := by decide +kernel
theorem dX6_digest_44 : decode cX6_digest 44 = .ok (.goto 4, 3) := by decide +kernel
theorem dX6_digest_47 : decode cX6_digest 47 = .ok (.lconst 0, 1) := by decide +kernel
theorem dX6_digest_48 : decode cX6_digest 48 = .ok (.ladd, 1) := by decide +kernel
theorem dX6_digest_49 : decode cX6_digest 49 = .ok (.lstore_n 1, 1) := by decide +kernel
theorem dX6_digest_50 : decode cX6_digest 50 = .ok (.iinc 3 1, 3) := by decide +kernel
theorem dX6_digest_53 : decode cX6_digest 53 = .ok (.goto (-42), 3) := by decide +kernel
theorem dX6_digest_56 : decode cX6_digest 56 = .ok (.lload_n 1, 1) := by decide +kernel
theorem dX6_digest_57 : decode cX6_digest 57 = .ok (.ldc2_w 198, 3) := by decide +kernel
theorem dX6_digest_60 : decode cX6_digest 60 = .ok (.lmul, 1) := by decide +kernel
theorem dX6_digest_61 : decode cX6_digest 61 = .ok (.aload_n 0, 1) := by decide +kernel
theorem dX6_digest_62 : decode cX6_digest 62 = .ok (.getfield 17, 3) := by decide +kernel
theorem dX6_digest_65 : decode cX6_digest 65 = .ok (.i2l, 1) := by decide +kernel
theorem dX6_digest_66 : decode cX6_digest 66 = .ok (.ladd, 1) := by decide +kernel
theorem dX6_digest_67 : decode cX6_digest 67 = .ok (.lstore_n 1, 1) := by decide +kernel
theorem dX6_digest_68 : decode cX6_digest 68 = .ok (.iconst 0, 1) := by decide +kernel
theorem dX6_digest_69 : decode cX6_digest 69 = .ok (.istore_n 3, 1) := by decide +kernel
theorem dX6_digest_70 : decode cX6_digest 70 = .ok (.iload_n 3, 1) := by decide +kernel
theorem dX6_digest_71 : decode cX6_digest 71 = .ok (.bipush 16, 2) := by decide +kernel
theorem dX6_digest_73 : decode cX6_digest 73 = .ok (.if_icmp .ge 30, 3) := by decide +kernel
theorem dX6_digest_76 : decode cX6_digest 76 = .ok (.lload_n 1, 1) := by decide +kernel
theorem dX6_digest_77 : decode cX6_digest 77 = .ok (.ldc2_w 198, 3) := by decide +kernel
theorem dX6_digest_80 : decode cX6_digest 80 = .ok (.lmul, 1) := by decide +kernel
theorem dX6_digest_81 : decode cX6_digest 81 = .ok (.aload_n 0, 1) := by decide +kernel
theorem dX6_digest_82 : decode cX6_digest 82 = .ok (.getfield 21, 3) := by decide +kernel
theorem dX6_digest_85 : decode cX6_digest 85 = .ok (.iload_n 3, 1) := by decide +kernel
theorem dX6_digest_86 : decode cX6_digest 86 = .ok (.baload, 1) := by decide +kernel
theorem dX6_digest_87 : decode cX6_digest 87 = .ok (.ifCond .eq 7, 3) := by decide +kernel
theorem dX6_digest_90 : decode cX6_digest 90 = .ok (.lconst 1, 1) := by decide +kernel
theorem dX6_digest_91 : decode cX6_digest 91 = .ok (.goto 4, 3) := by decide +kernel
theorem dX6_digest_94 : decode cX6_digest 94 = .ok (.lconst 0, 1) := by decide +kernel
theorem dX6_digest_95 : decode cX6_digest 95 = .ok (.ladd, 1) := by decide +kernel
theorem dX6_digest_96 : decode cX6_digest 96 = .ok (.lstore_n 1, 1) := by decide +kernel
theorem dX6_digest_97 : decode cX6_digest 97 = .ok (.iinc 3 1, 3) := by decide +kernel
theorem dX6_digest_100 : decode cX6_digest 100 = .ok (.goto (-30), 3) := by decide +kernel
theorem dX6_digest_103 : decode cX6_digest 103 = .ok (.lload_n 1, 1) := by decide +kernel
theorem dX6_digest_104 : decode cX6_digest 104 = .ok (.ldc2_w 198, 3) := by decide +kernel
theorem dX6_digest_107 : decode cX6_digest 107 = .ok (.lmul, 1) := by decide +kernel
theorem dX6_digest_108 : decode cX6_digest 108 = .ok (.aload_n 0, 1) := by decide +kernel
theorem dX6_digest_109 : decode cX6_digest 109 = .ok (.getfield 110, 3) := by decide +kernel
theorem dX6_digest_112 : decode cX6_digest 112 = .ok (.i2l, 1) := by decide +kernel
theorem dX6_digest_113 : decode cX6_digest 113 = .ok (.ladd, 1) := by decide +kernel
theorem dX6_digest_114 : decode cX6_digest 114 = .ok (.lstore_n 1, 1) := by decide +kernel
theorem dX6_digest_115 : decode cX6_digest 115 = .ok (.iconst 0, 1) := by decide +kernel
theorem dX6_digest_116 : decode cX6_digest 116 = .ok (.istore_n 3, 1) := by decide +kernel
theorem dX6_digest_117 : decode cX6_digest 117 = .ok (.iload_n 3, 1) := by decide +kernel
theorem dX6_digest_118 : decode cX6_digest 118 = .ok (.aload_n 0, 1) := by decide +kernel
theorem dX6_digest_119 : decode cX6_digest 119 = .ok (.getfield 110, 3) := by decide +kernel
theorem dX6_digest_122 : decode cX6_digest 122 = .ok (.if_icmp .ge 52, 3) := by decide +kernel
theorem dX6_digest_125 : decode cX6_digest 125 = .ok (.lload_n 1, 1) := by decide +kernel
theorem dX6_digest_126 : decode cX6_digest 126 = .ok (.ldc2_w 198, 3) := by decide +kernel
theorem dX6_digest_129 : decode cX6_digest 129 = .ok (.lmul, 1) := by decide +kernel
theorem dX6_digest_130 : decode cX6_digest 130 = .ok (.aload_n 0, 1) := by decide +kernel
theorem dX6_digest_131 : decode cX6_digest 131 = .ok (.getfield 24, 3) := by decide +kernel
theorem dX6_digest_134 : decode cX6_digest 134 = .ok (.iload_n 3, 1) := by decide +kernel
theorem dX6_digest_135 : decode cX6_digest 135 = .ok (.laload, 1) := by decide +kernel
theorem dX6_digest_136 : decode cX6_digest 136 = .ok (.ladd, 1) := by decide +kernel
theorem dX6_digest_137 : decode cX6_digest 137 = .ok (.lstore_n 1, 1) := by decide +kernel
theorem dX6_digest_138 : decode cX6_digest 138 = .ok (.iconst 0, 1) := by decide +kernel
theorem dX6_digest_139 : decode cX6_digest 139 = .ok (.istore 4, 2) := by decide +kernel
theorem dX6_digest_141 : decode cX6_digest 141 = .ok (.iload 4, 2) := by decide +kernel
theorem dX6_digest_143 : decode cX6_digest 143 = .ok (.iconst 4, 1) := by decide +kernel
theorem dX6_digest_144 : decode cX6_digest 144 = .ok (.if_icmp .ge 24, 3) := by decide +kernel
theorem dX6_digest_147 : decode cX6_digest 147 = .ok (.lload_n 1, 1) := by decide +kernel
theorem dX6_digest_148 : decode cX6_digest 148 = .ok (.ldc2_w 198, 3) := by decide +kernel
theorem dX6_digest_151 : decode cX6_digest 151 = .ok (.lmul, 1) := by decide +kernel
theorem dX6_digest_152 : decode cX6_digest 152 = .ok (.aload_n 0, 1) := by decide +kernel
theorem dX6_digest_153 : decode cX6_digest 153 = .ok (.iload_n 3, 1) := by decide +kernel
theorem dX6_digest_154 : decode cX6_digest 154 = .ok (.iload 4, 2) := by decide +kernel
theorem dX6_digest_156 : decode cX6_digest 156 = .ok (.invokevirtual 136, 3) := by decide +kernel
theorem dX6_digest_159 : decode cX6_digest 159 = .ok (.i2l, 1) := by decide +kernel
theorem dX6_digest_160 : decode cX6_digest 160 = .ok (.ladd, 1) := by decide +kernel
theorem dX6_digest_161 : decode cX6_digest 161 = .ok (.lstore_n 1, 1) := by decide +kernel
theorem dX6_digest_162 : decode cX6_digest 162 = .ok (.iinc 4 1, 3) := by decide +kernel
theorem dX6_digest_165 : decode cX6_digest 165 = .ok (.goto (-24), 3) := by decide +kernel
theorem dX6_digest_168 : decode cX6_digest 168 = .ok (.iinc 3 1, 3) := by decide +kernel
theorem dX6_digest_171 : decode cX6_digest 171 = .ok (.goto (-54), 3) := by decide +kernel
theorem dX6_digest_174 : decode cX6_digest 174 = .ok (.lload_n 1, 1) := by decide +kernel
theorem dX6_digest_175 : decode cX6_digest 175 = .ok (.ldc2_w 198, 3) := by decide +kernel
theorem dX6_digest_178 : decode cX6_digest 178 = .ok (.lmul, 1) := by decide +kernel
theorem dX6_digest_179 : decode cX6_digest 179 = .ok (.aload_n 0, 1) := by decide +kernel
theorem dX6_digest_180 : decode cX6_digest 180 = .ok (.getfield 144, 3) := by decide +kernel
theorem dX6_digest_183 : decode cX6_digest 183 = .ok (.i2l, 1) := by decide +kernel
theorem dX6_digest_184 : decode cX6_digest 184 = .ok (.ladd, 1) := by decide +kernel
theorem dX6_digest_185 : decode cX6_digest 185 = .ok (.lstore_n 1, 1) := by decide +kernel
theorem dX6_digest_186 : decode cX6_digest 186 = .ok (.iconst 0, 1) := by decide +kernel
theorem dX6_digest_187 : decode cX6_digest 187 = .ok (.istore_n 3, 1) := by decide +kernel
theorem dX6_digest_188 : decode cX6_digest 188 = .ok (.iload_n 3, 1) := by decide +kernel
theorem dX6_digest_189 : decode cX6_digest 189 = .ok (.aload_n 0, 1) := by decide +kernel
theorem dX6_digest_190 : decode cX6_digest 190 = .ok (.getfield 144, 3) := by decide +kernel
theorem dX6_digest_193 : decode cX6_digest 193 = .ok (.if_icmp .ge 23, 3) := by decide +kernel
theorem dX6_digest_196 : decode cX6_digest 196 = .ok (.lload_n 1, 1) := by decide +kernel
theorem dX6_digest_197 : decode cX6_digest 197 = .ok (.ldc2_w 198, 3) := by decide +kernel
theorem dX6_digest_200 : decode cX6_digest 200 = .ok (.lmul, 1) := by decide +kernel
theorem dX6_digest_201 : decode cX6_digest 201 = .ok (.aload_n 0, 1) := by decide +kernel
theorem dX6_digest_202 : decode cX6_digest 202 = .ok (.getfield 49, 3) := by decide +kernel
theorem dX6_digest_205 : decode cX6_digest 205 = .ok (.iload_n 3, 1) := by decide +kernel
theorem dX6_digest_206 : decode cX6_digest 206 = .ok (.iaload, 1) := by decide +kernel
theorem dX6_digest_207 : decode cX6_digest 207 = .ok (.i2l, 1) := by decide +kernel
theorem dX6_digest_208 : decode cX6_digest 208 = .ok (.ladd, 1) := by decide +kernel
theorem dX6_digest_209 : decode cX6_digest 209 = .ok (.lstore_n 1, 1) := by decide +kernel
theorem dX6_digest_210 : decode cX6_digest 210 = .ok (.iinc 3 1, 3) := by decide +kernel
theorem dX6_digest_213 : decode cX6_digest 213 = .ok (.goto (-25), 3) := by decide +kernel
theorem dX6_digest_216 : decode cX6_digest 216 = .ok (.lload_n 1, 1) := by decide +kernel
theorem dX6_digest_217 : decode cX6_digest 217 = .ok (.ldc2_w 198, 3) := by decide +kernel
theorem dX6_digest_220 : decode cX6_digest 220 = .ok (.lmul, 1) := by decide +kernel
theorem dX6_digest_221 : decode cX6_digest 221 = .ok (.aload_n 0, 1) := by decide +kernel
theorem dX6_digest_222 : decode cX6_digest 222 = .ok (.getfield 160, 3) := by decide +kernel
theorem dX6_digest_225 : decode cX6_digest 225 = .ok (.i2l, 1) := by decide +kernel
theorem dX6_digest_226 : decode cX6_digest 226 = .ok (.ladd, 1) := by decide +kernel
theorem dX6_digest_227 : decode cX6_digest 227 = .ok (.ldc2_w 198, 3) := by decide +kernel
theorem dX6_digest_230 : decode cX6_digest 230 = .ok (.lmul, 1) := by decide +kernel
theorem dX6_digest_231 : decode cX6_digest 231 = .ok (.aload_n 0, 1) := by decide +kernel
theorem dX6_digest_232 : decode cX6_digest 232 = .ok (.getfield 192, 3) := by decide +kernel
theorem dX6_digest_235 : decode cX6_digest 235 = .ok (.ladd, 1) := by decide +kernel
theorem dX6_digest_236 : decode cX6_digest 236 = .ok (.lreturn, 1) := by decide +kernel
end
section
/-! gG: from the frame at pc with the locals lv, the stack st, over any heap that holds the world ws, the machine comes to Q. -/
def i_ushr (x y : Int32) : Int32 := (x.toUInt32 >>> (y.toUInt32 &&& Int32.toUInt32 31)).toInt32
def i_shl (x y : Int32) : Int32 := x <<< (y &&& 31)
def i_shr (x y : Int32) : Int32 := x >>> (y &&& 31)
def j_ushr (x : Int64) (y : Int32) : Int64 := (x.toUInt64 >>> (y.toInt64.toUInt64 &&& Int64.toUInt64 63)).toInt64
def j_shl (x : Int64) (y : Int32) : Int64 := x <<< (y.toInt64 &&& 63)
abbrev g_T3 : Type := ClassId × ClassId × ClassId
abbrev g_ty (ty : g_T3) : List (ClassId × FieldType) := [(ty.1, .int), (ty.2.1, .long), (ty.2.2, .boolean)]
abbrev g_Lv : Type := List (Nat × Value)
abbrev g_I : Type := va_W → Heap → List Loc → Prop
def g_IU (A : Nat → Prop) (D : va_G) (s : State) : g_I := fun ws H locs => va_P D vwCl ws H ∧ va_D A ws ∧ va_S A s.heap H locs
def g_IP (D : va_G) (s : State) (win : va_W) : g_I := fun ws H locs => ws = win ∧ H = s.heap ∧ locs = [] ∧ va_P D vwCl win s.heap
def gG (I : g_I) (p : Program) (l : Launch) (e : Env) (R : Room) (s : State) (m : MethodId) (args : Array Value) (below : List Frame) (meth : Method) (c : Code) (Q : State → Prop) (nL cells slots pc : Nat) (lv : g_Lv) (st : List Value) (ws : va_W) : Prop :=
  ∀ (H : Heap) (locs : List Loc) (ls : Array Slot), I ws H locs → lv_has ls nL lv → W p l e R s m args below meth c H locs cells slots Q (F0 m pc ls st)
/-- what stands fast in a method's body -/
abbrev g_Cx (I : g_I) (p : Program) (s : State) (m : MethodId) (args : Array Value) (c : Code) (cc : ByteArray) (nL : Nat) (A : Nat → Prop) (D : va_G) (ty : g_T3) (own : String) (Ts : List Cond) : Prop :=
  p.tables.exec = Jvm.exec ∧ c.code = cc ∧ c.maxLocals = nL ∧ s.vm.findClass own = some m.cls ∧ (∀ w ∈ Ts, w.before args s = true) ∧ va_K D vwCl (g_ty ty) s ∧ (∀ ws H locs, I ws H locs → va_P D vwCl ws H ∧ va_S A s.heap H locs)
section GL
variable {I : g_I} {p : Program} {l : Launch} {e : Env} {R : Room} {s : State} {m : MethodId} {args : Array Value} {below : List Frame} {meth : Method} {c : Code} {Q : State → Prop} {nL cells slots pc : Nat} {lv lv' : g_Lv} {rest st : List Value} {ws ws' : va_W} {cc : ByteArray} {A : Nat → Prop} {D : va_G} {ty : g_T3} {own : String} {Ts : List Cond}
theorem g_iconst (C : g_Cx I p s m args c cc nL A D ty own Ts) {n : Int} {v : Int32} (hd : decode cc pc = .ok (.iconst n, 1)) (hv : Int32.ofInt n = v) (k : gG I p l e R s m args below meth c Q nL cells slots (pc + 1) lv (.int v :: rest) ws) : gG I p l e R s m args below meth c Q nL cells slots pc lv rest ws := fun H locs ls hI hl => lv_iconst C.1 C.2.1 hd hv (k H locs ls hI hl)
theorem g_bipush (C : g_Cx I p s m args c cc nL A D ty own Ts) {n : Int} {v : Int32} (hd : decode cc pc = .ok (.bipush n, 2)) (hv : (Int8.ofInt n).toInt32 = v) (k : gG I p l e R s m args below meth c Q nL cells slots (pc + 2) lv (.int v :: rest) ws) : gG I p l e R s m args below meth c Q nL cells slots pc lv rest ws := fun H locs ls hI hl => lv_bipush C.1 C.2.1 hd hv (k H locs ls hI hl)
theorem g_sipush (C : g_Cx I p s m args c cc nL A D ty own Ts) {n : Int} {v : Int32} (hd : decode cc pc = .ok (.sipush n, 3)) (hv : (Int16.ofInt n).toInt32 = v) (k : gG I p l e R s m args below meth c Q nL cells slots (pc + 3) lv (.int v :: rest) ws) : gG I p l e R s m args below meth c Q nL cells slots pc lv rest ws := fun H locs ls hI hl => lv_sipush C.1 C.2.1 hd hv (k H locs ls hI hl)
theorem g_lconst (C : g_Cx I p s m args c cc nL A D ty own Ts) {n : Fin 2} {v : Int64} (hd : decode cc pc = .ok (.lconst n, 1)) (hv : Int64.ofNat (n : Nat) = v) (k : gG I p l e R s m args below meth c Q nL cells slots (pc + 1) lv (.long v :: rest) ws) : gG I p l e R s m args below meth c Q nL cells slots pc lv rest ws := fun H locs ls hI hl => lv_lconst C.1 C.2.1 hd hv (k H locs ls hI hl)
theorem g_dconst0 (C : g_Cx I p s m args c cc nL A D ty own Ts)  (hd : decode cc pc = .ok (.dconst 0, 1)) (k : gG I p l e R s m args below meth c Q nL cells slots (pc + 1) lv (.double 0 :: rest) ws) : gG I p l e R s m args below meth c Q nL cells slots pc lv rest ws := fun H locs ls hI hl => lv_dconst0 C.1 C.2.1 hd (k H locs ls hI hl)
theorem g_iload_n (C : g_Cx I p s m args c cc nL A D ty own Ts) {k0 : Fin 4} {i : Nat} {x : Int32} (hd : decode cc pc = .ok (.iload_n k0, 1)) (j : Nat) (hj : lv[j]? = some (i, .int x)) (hi : (k0 : Nat) = i) (k : gG I p l e R s m args below meth c Q nL cells slots (pc + 1) lv (.int x :: rest) ws) : gG I p l e R s m args below meth c Q nL cells slots pc lv rest ws := fun H locs ls hI hl => lv_iload_n C.1 C.2.1 hd hi (lv_at hl j hj) (k H locs ls hI hl)
theorem g_iload (C : g_Cx I p s m args c cc nL A D ty own Ts) {i : Nat} {x : Int32} (hd : decode cc pc = .ok (.iload i, 2)) (j : Nat) (hj : lv[j]? = some (i, .int x)) (k : gG I p l e R s m args below meth c Q nL cells slots (pc + 2) lv (.int x :: rest) ws) : gG I p l e R s m args below meth c Q nL cells slots pc lv rest ws := fun H locs ls hI hl => lv_iload C.1 C.2.1 hd (lv_at hl j hj) (k H locs ls hI hl)
theorem g_lload_n (C : g_Cx I p s m args c cc nL A D ty own Ts) {k0 : Fin 4} {i : Nat} {x : Int64} (hd : decode cc pc = .ok (.lload_n k0, 1)) (j : Nat) (hj : lv[j]? = some (i, .long x)) (hi : (k0 : Nat) = i) (k : gG I p l e R s m args below meth c Q nL cells slots (pc + 1) lv (.long x :: rest) ws) : gG I p l e R s m args below meth c Q nL cells slots pc lv rest ws := fun H locs ls hI hl => lv_lload_n C.1 C.2.1 hd hi (lv_at hl j hj) (k H locs ls hI hl)
theorem g_lload (C : g_Cx I p s m args c cc nL A D ty own Ts) {i : Nat} {x : Int64} (hd : decode cc pc = .ok (.lload i, 2)) (j : Nat) (hj : lv[j]? = some (i, .long x)) (k : gG I p l e R s m args below meth c Q nL cells slots (pc + 2) lv (.long x :: rest) ws) : gG I p l e R s m args below meth c Q nL cells slots pc lv rest ws := fun H locs ls hI hl => lv_lload C.1 C.2.1 hd (lv_at hl j hj) (k H locs ls hI hl)
theorem g_aload_n (C : g_Cx I p s m args c cc nL A D ty own Ts) {k0 : Fin 4} {i : Nat} {x : Nat} (hd : decode cc pc = .ok (.aload_n k0, 1)) (j : Nat) (hj : lv[j]? = some (i, .ref x)) (hi : (k0 : Nat) = i) (k : gG I p l e R s m args below meth c Q nL cells slots (pc + 1) lv (.ref x :: rest) ws) : gG I p l e R s m args below meth c Q nL cells slots pc lv rest ws := fun H locs ls hI hl => lv_aload_n C.1 C.2.1 hd hi (lv_at hl j hj) (k H locs ls hI hl)
theorem g_aload (C : g_Cx I p s m args c cc nL A D ty own Ts) {i : Nat} {x : Nat} (hd : decode cc pc = .ok (.aload i, 2)) (j : Nat) (hj : lv[j]? = some (i, .ref x)) (k : gG I p l e R s m args below meth c Q nL cells slots (pc + 2) lv (.ref x :: rest) ws) : gG I p l e R s m args below meth c Q nL cells slots pc lv rest ws := fun H locs ls hI hl => lv_aload C.1 C.2.1 hd (lv_at hl j hj) (k H locs ls hI hl)
theorem g_dload_n (C : g_Cx I p s m args c cc nL A D ty own Ts) {k0 : Fin 4} {i : Nat} {x : UInt64} (hd : decode cc pc = .ok (.dload_n k0, 1)) (j : Nat) (hj : lv[j]? = some (i, .double x)) (hi : (k0 : Nat) = i) (k : gG I p l e R s m args below meth c Q nL cells slots (pc + 1) lv (.double x :: rest) ws) : gG I p l e R s m args below meth c Q nL cells slots pc lv rest ws := fun H locs ls hI hl => lv_dload_n C.1 C.2.1 hd hi (lv_at hl j hj) (k H locs ls hI hl)
theorem g_dload (C : g_Cx I p s m args c cc nL A D ty own Ts) {i : Nat} {x : UInt64} (hd : decode cc pc = .ok (.dload i, 2)) (j : Nat) (hj : lv[j]? = some (i, .double x)) (k : gG I p l e R s m args below meth c Q nL cells slots (pc + 2) lv (.double x :: rest) ws) : gG I p l e R s m args below meth c Q nL cells slots pc lv rest ws := fun H locs ls hI hl => lv_dload C.1 C.2.1 hd (lv_at hl j hj) (k H locs ls hI hl)
theorem g_istore_n (C : g_Cx I p s m args c cc nL A D ty own Ts) {k0 : Fin 4} {i : Nat} {x : Int32} (hd : decode cc pc = .ok (.istore_n k0, 1)) (hi : (k0 : Nat) = i) (hn : i < nL) (hv : (i, Value.int x) :: lv.filter (fun q => !(q.1 == i) && !(q.1 + 1 == i && q.2.category == 2)) = lv') (k : gG I p l e R s m args below meth c Q nL cells slots (pc + 1) lv' rest ws) : gG I p l e R s m args below meth c Q nL cells slots pc lv (.int x :: rest) ws := fun H locs ls hI hl => lv_istore_n C.1 C.2.1 hd hi hl hn hv (fun ls' hl' => k H locs ls' hI hl')
theorem g_istore (C : g_Cx I p s m args c cc nL A D ty own Ts) {i : Nat} {x : Int32} (hd : decode cc pc = .ok (.istore i, 2)) (hn : i < nL) (hv : (i, Value.int x) :: lv.filter (fun q => !(q.1 == i) && !(q.1 + 1 == i && q.2.category == 2)) = lv') (k : gG I p l e R s m args below meth c Q nL cells slots (pc + 2) lv' rest ws) : gG I p l e R s m args below meth c Q nL cells slots pc lv (.int x :: rest) ws := fun H locs ls hI hl => lv_istore C.1 C.2.1 hd hl hn hv (fun ls' hl' => k H locs ls' hI hl')
theorem g_lstore_n (C : g_Cx I p s m args c cc nL A D ty own Ts) {k0 : Fin 4} {i : Nat} {x : Int64} (hd : decode cc pc = .ok (.lstore_n k0, 1)) (hi : (k0 : Nat) = i) (hn : i + 1 < nL) (hv : (i, Value.long x) :: lv.filter (fun q => !(q.1 == i) && (!(q.1 == i + 1) && !(q.1 + 1 == i && q.2.category == 2))) = lv') (k : gG I p l e R s m args below meth c Q nL cells slots (pc + 1) lv' rest ws) : gG I p l e R s m args below meth c Q nL cells slots pc lv (.long x :: rest) ws := fun H locs ls hI hl => lv_lstore_n C.1 C.2.1 hd hi hl hn hv (fun ls' hl' => k H locs ls' hI hl')
theorem g_lstore (C : g_Cx I p s m args c cc nL A D ty own Ts) {i : Nat} {x : Int64} (hd : decode cc pc = .ok (.lstore i, 2)) (hn : i + 1 < nL) (hv : (i, Value.long x) :: lv.filter (fun q => !(q.1 == i) && (!(q.1 == i + 1) && !(q.1 + 1 == i && q.2.category == 2))) = lv') (k : gG I p l e R s m args below meth c Q nL cells slots (pc + 2) lv' rest ws) : gG I p l e R s m args below meth c Q nL cells slots pc lv (.long x :: rest) ws := fun H locs ls hI hl => lv_lstore C.1 C.2.1 hd hl hn hv (fun ls' hl' => k H locs ls' hI hl')
theorem g_astore_n (C : g_Cx I p s m args c cc nL A D ty own Ts) {k0 : Fin 4} {i : Nat} {x : Nat} (hd : decode cc pc = .ok (.astore_n k0, 1)) (hi : (k0 : Nat) = i) (hn : i < nL) (hv : (i, Value.ref x) :: lv.filter (fun q => !(q.1 == i) && !(q.1 + 1 == i && q.2.category == 2)) = lv') (k : gG I p l e R s m args below meth c Q nL cells slots (pc + 1) lv' rest ws) : gG I p l e R s m args below meth c Q nL cells slots pc lv (.ref x :: rest) ws := fun H locs ls hI hl => lv_astore_n C.1 C.2.1 hd hi hl hn hv (fun ls' hl' => k H locs ls' hI hl')
theorem g_astore (C : g_Cx I p s m args c cc nL A D ty own Ts) {i : Nat} {x : Nat} (hd : decode cc pc = .ok (.astore i, 2)) (hn : i < nL) (hv : (i, Value.ref x) :: lv.filter (fun q => !(q.1 == i) && !(q.1 + 1 == i && q.2.category == 2)) = lv') (k : gG I p l e R s m args below meth c Q nL cells slots (pc + 2) lv' rest ws) : gG I p l e R s m args below meth c Q nL cells slots pc lv (.ref x :: rest) ws := fun H locs ls hI hl => lv_astore C.1 C.2.1 hd hl hn hv (fun ls' hl' => k H locs ls' hI hl')
theorem g_dstore_n (C : g_Cx I p s m args c cc nL A D ty own Ts) {k0 : Fin 4} {i : Nat} {x : UInt64} (hd : decode cc pc = .ok (.dstore_n k0, 1)) (hi : (k0 : Nat) = i) (hn : i + 1 < nL) (hv : (i, Value.double x) :: lv.filter (fun q => !(q.1 == i) && (!(q.1 == i + 1) && !(q.1 + 1 == i && q.2.category == 2))) = lv') (k : gG I p l e R s m args below meth c Q nL cells slots (pc + 1) lv' rest ws) : gG I p l e R s m args below meth c Q nL cells slots pc lv (.double x :: rest) ws := fun H locs ls hI hl => lv_dstore_n C.1 C.2.1 hd hi hl hn hv (fun ls' hl' => k H locs ls' hI hl')
theorem g_dstore (C : g_Cx I p s m args c cc nL A D ty own Ts) {i : Nat} {x : UInt64} (hd : decode cc pc = .ok (.dstore i, 2)) (hn : i + 1 < nL) (hv : (i, Value.double x) :: lv.filter (fun q => !(q.1 == i) && (!(q.1 == i + 1) && !(q.1 + 1 == i && q.2.category == 2))) = lv') (k : gG I p l e R s m args below meth c Q nL cells slots (pc + 2) lv' rest ws) : gG I p l e R s m args below meth c Q nL cells slots pc lv (.double x :: rest) ws := fun H locs ls hI hl => lv_dstore C.1 C.2.1 hd hl hn hv (fun ls' hl' => k H locs ls' hI hl')
theorem g_iinc (C : g_Cx I p s m args c cc nL A D ty own Ts) {i : Nat} {n : Int} {x v : Int32} (hd : decode cc pc = .ok (.iinc i n, 3)) (j : Nat) (hj : lv[j]? = some (i, .int x)) (hv : x + Int32.ofInt n = v) (hn : i < nL) (hl : (i, Value.int v) :: lv.filter (fun q => !(q.1 == i) && !(q.1 + 1 == i && q.2.category == 2)) = lv') (k : gG I p l e R s m args below meth c Q nL cells slots (pc + 3) lv' rest ws) : gG I p l e R s m args below meth c Q nL cells slots pc lv rest ws := fun H locs ls hI hl0 => lv_iinc C.1 C.2.1 hd hl0 (k := j) hj hv hn hl (fun ls' hl' => k H locs ls' hI hl')
theorem g_iadd (C : g_Cx I p s m args c cc nL A D ty own Ts) {x y v : Int32} (hd : decode cc pc = .ok (.iadd, 1)) (hv : x + y = v) (k : gG I p l e R s m args below meth c Q nL cells slots (pc + 1) lv (.int v :: rest) ws) : gG I p l e R s m args below meth c Q nL cells slots pc lv (.int y :: .int x :: rest) ws := fun H locs ls hI hl => lv_iadd C.1 C.2.1 hd (by subst hv; exact k H locs ls hI hl)
theorem g_isub (C : g_Cx I p s m args c cc nL A D ty own Ts) {x y v : Int32} (hd : decode cc pc = .ok (.isub, 1)) (hv : x - y = v) (k : gG I p l e R s m args below meth c Q nL cells slots (pc + 1) lv (.int v :: rest) ws) : gG I p l e R s m args below meth c Q nL cells slots pc lv (.int y :: .int x :: rest) ws := fun H locs ls hI hl => lv_isub C.1 C.2.1 hd (by subst hv; exact k H locs ls hI hl)
theorem g_imul (C : g_Cx I p s m args c cc nL A D ty own Ts) {x y v : Int32} (hd : decode cc pc = .ok (.imul, 1)) (hv : x * y = v) (k : gG I p l e R s m args below meth c Q nL cells slots (pc + 1) lv (.int v :: rest) ws) : gG I p l e R s m args below meth c Q nL cells slots pc lv (.int y :: .int x :: rest) ws := fun H locs ls hI hl => lv_imul C.1 C.2.1 hd (by subst hv; exact k H locs ls hI hl)
theorem g_iand (C : g_Cx I p s m args c cc nL A D ty own Ts) {x y v : Int32} (hd : decode cc pc = .ok (.iand, 1)) (hv : x &&& y = v) (k : gG I p l e R s m args below meth c Q nL cells slots (pc + 1) lv (.int v :: rest) ws) : gG I p l e R s m args below meth c Q nL cells slots pc lv (.int y :: .int x :: rest) ws := fun H locs ls hI hl => lv_iand C.1 C.2.1 hd (by subst hv; exact k H locs ls hI hl)
theorem g_ior (C : g_Cx I p s m args c cc nL A D ty own Ts) {x y v : Int32} (hd : decode cc pc = .ok (.ior, 1)) (hv : x ||| y = v) (k : gG I p l e R s m args below meth c Q nL cells slots (pc + 1) lv (.int v :: rest) ws) : gG I p l e R s m args below meth c Q nL cells slots pc lv (.int y :: .int x :: rest) ws := fun H locs ls hI hl => lv_ior C.1 C.2.1 hd (by subst hv; exact k H locs ls hI hl)
theorem g_ixor (C : g_Cx I p s m args c cc nL A D ty own Ts) {x y v : Int32} (hd : decode cc pc = .ok (.ixor, 1)) (hv : x ^^^ y = v) (k : gG I p l e R s m args below meth c Q nL cells slots (pc + 1) lv (.int v :: rest) ws) : gG I p l e R s m args below meth c Q nL cells slots pc lv (.int y :: .int x :: rest) ws := fun H locs ls hI hl => lv_ixor C.1 C.2.1 hd (by subst hv; exact k H locs ls hI hl)
theorem g_ishl (C : g_Cx I p s m args c cc nL A D ty own Ts) {x y v : Int32} (hd : decode cc pc = .ok (.ishl, 1)) (hv : i_shl x y = v) (k : gG I p l e R s m args below meth c Q nL cells slots (pc + 1) lv (.int v :: rest) ws) : gG I p l e R s m args below meth c Q nL cells slots pc lv (.int y :: .int x :: rest) ws := fun H locs ls hI hl => lv_ishl C.1 C.2.1 hd (by subst hv; exact k H locs ls hI hl)
theorem g_ishr (C : g_Cx I p s m args c cc nL A D ty own Ts) {x y v : Int32} (hd : decode cc pc = .ok (.ishr, 1)) (hv : i_shr x y = v) (k : gG I p l e R s m args below meth c Q nL cells slots (pc + 1) lv (.int v :: rest) ws) : gG I p l e R s m args below meth c Q nL cells slots pc lv (.int y :: .int x :: rest) ws := fun H locs ls hI hl => lv_ishr C.1 C.2.1 hd (by subst hv; exact k H locs ls hI hl)
theorem g_iushr (C : g_Cx I p s m args c cc nL A D ty own Ts) {x y v : Int32} (hd : decode cc pc = .ok (.iushr, 1)) (hv : i_ushr x y = v) (k : gG I p l e R s m args below meth c Q nL cells slots (pc + 1) lv (.int v :: rest) ws) : gG I p l e R s m args below meth c Q nL cells slots pc lv (.int y :: .int x :: rest) ws := fun H locs ls hI hl => lv_iushr C.1 C.2.1 hd hv (k H locs ls hI hl)
theorem g_idiv (C : g_Cx I p s m args c cc nL A D ty own Ts) {x y v : Int32} (hd : decode cc pc = .ok (.idiv, 1)) (hne : ¬ y = 0) (hv : x / y = v) (k : gG I p l e R s m args below meth c Q nL cells slots (pc + 1) lv (.int v :: rest) ws) : gG I p l e R s m args below meth c Q nL cells slots pc lv (.int y :: .int x :: rest) ws := fun H locs ls hI hl => lv_idiv C.1 C.2.1 hd hne (by subst hv; exact k H locs ls hI hl)
theorem g_irem (C : g_Cx I p s m args c cc nL A D ty own Ts) {x y v : Int32} (hd : decode cc pc = .ok (.irem, 1)) (hne : ¬ y = 0) (hv : x - x / y * y = v) (k : gG I p l e R s m args below meth c Q nL cells slots (pc + 1) lv (.int v :: rest) ws) : gG I p l e R s m args below meth c Q nL cells slots pc lv (.int y :: .int x :: rest) ws := fun H locs ls hI hl => lv_irem C.1 C.2.1 hd hne (by subst hv; exact k H locs ls hI hl)
theorem g_ineg (C : g_Cx I p s m args c cc nL A D ty own Ts) {x v : Int32} (hd : decode cc pc = .ok (.ineg, 1)) (hv : -x = v) (k : gG I p l e R s m args below meth c Q nL cells slots (pc + 1) lv (.int v :: rest) ws) : gG I p l e R s m args below meth c Q nL cells slots pc lv (.int x :: rest) ws := fun H locs ls hI hl => lv_ineg C.1 C.2.1 hd (by subst hv; exact k H locs ls hI hl)
theorem g_ladd (C : g_Cx I p s m args c cc nL A D ty own Ts) {x y v : Int64} (hd : decode cc pc = .ok (.ladd, 1)) (hv : x + y = v) (k : gG I p l e R s m args below meth c Q nL cells slots (pc + 1) lv (.long v :: rest) ws) : gG I p l e R s m args below meth c Q nL cells slots pc lv (.long y :: .long x :: rest) ws := fun H locs ls hI hl => lv_ladd C.1 C.2.1 hd (by subst hv; exact k H locs ls hI hl)
theorem g_lsub (C : g_Cx I p s m args c cc nL A D ty own Ts) {x y v : Int64} (hd : decode cc pc = .ok (.lsub, 1)) (hv : x - y = v) (k : gG I p l e R s m args below meth c Q nL cells slots (pc + 1) lv (.long v :: rest) ws) : gG I p l e R s m args below meth c Q nL cells slots pc lv (.long y :: .long x :: rest) ws := fun H locs ls hI hl => lv_lsub C.1 C.2.1 hd (by subst hv; exact k H locs ls hI hl)
theorem g_lmul (C : g_Cx I p s m args c cc nL A D ty own Ts) {x y v : Int64} (hd : decode cc pc = .ok (.lmul, 1)) (hv : x * y = v) (k : gG I p l e R s m args below meth c Q nL cells slots (pc + 1) lv (.long v :: rest) ws) : gG I p l e R s m args below meth c Q nL cells slots pc lv (.long y :: .long x :: rest) ws := fun H locs ls hI hl => lv_lmul C.1 C.2.1 hd (by subst hv; exact k H locs ls hI hl)
theorem g_land (C : g_Cx I p s m args c cc nL A D ty own Ts) {x y v : Int64} (hd : decode cc pc = .ok (.land, 1)) (hv : x &&& y = v) (k : gG I p l e R s m args below meth c Q nL cells slots (pc + 1) lv (.long v :: rest) ws) : gG I p l e R s m args below meth c Q nL cells slots pc lv (.long y :: .long x :: rest) ws := fun H locs ls hI hl => lv_land C.1 C.2.1 hd (by subst hv; exact k H locs ls hI hl)
theorem g_lor (C : g_Cx I p s m args c cc nL A D ty own Ts) {x y v : Int64} (hd : decode cc pc = .ok (.lor, 1)) (hv : x ||| y = v) (k : gG I p l e R s m args below meth c Q nL cells slots (pc + 1) lv (.long v :: rest) ws) : gG I p l e R s m args below meth c Q nL cells slots pc lv (.long y :: .long x :: rest) ws := fun H locs ls hI hl => lv_lor C.1 C.2.1 hd (by subst hv; exact k H locs ls hI hl)
theorem g_lxor (C : g_Cx I p s m args c cc nL A D ty own Ts) {x y v : Int64} (hd : decode cc pc = .ok (.lxor, 1)) (hv : x ^^^ y = v) (k : gG I p l e R s m args below meth c Q nL cells slots (pc + 1) lv (.long v :: rest) ws) : gG I p l e R s m args below meth c Q nL cells slots pc lv (.long y :: .long x :: rest) ws := fun H locs ls hI hl => lv_lxor C.1 C.2.1 hd (by subst hv; exact k H locs ls hI hl)
theorem g_lushr (C : g_Cx I p s m args c cc nL A D ty own Ts) {x v : Int64} {y : Int32} (hd : decode cc pc = .ok (.lushr, 1)) (hv : j_ushr x y = v) (k : gG I p l e R s m args below meth c Q nL cells slots (pc + 1) lv (.long v :: rest) ws) : gG I p l e R s m args below meth c Q nL cells slots pc lv (.int y :: .long x :: rest) ws := fun H locs ls hI hl => lv_lushr C.1 C.2.1 hd hv (k H locs ls hI hl)
theorem g_lshl (C : g_Cx I p s m args c cc nL A D ty own Ts) {x v : Int64} {y : Int32} (hd : decode cc pc = .ok (.lshl, 1)) (hv : j_shl x y = v) (k : gG I p l e R s m args below meth c Q nL cells slots (pc + 1) lv (.long v :: rest) ws) : gG I p l e R s m args below meth c Q nL cells slots pc lv (.int y :: .long x :: rest) ws := fun H locs ls hI hl => lv_lshl C.1 C.2.1 hd hv (k H locs ls hI hl)
theorem g_i2l (C : g_Cx I p s m args c cc nL A D ty own Ts) {x : Int32} {v : Int64} (hd : decode cc pc = .ok (.i2l, 1)) (hv : x.toInt64 = v) (k : gG I p l e R s m args below meth c Q nL cells slots (pc + 1) lv (.long v :: rest) ws) : gG I p l e R s m args below meth c Q nL cells slots pc lv (.int x :: rest) ws := fun H locs ls hI hl => lv_i2l C.1 C.2.1 hd hv (k H locs ls hI hl)
theorem g_l2i (C : g_Cx I p s m args c cc nL A D ty own Ts) {x : Int64} {v : Int32} (hd : decode cc pc = .ok (.l2i, 1)) (hv : x.toInt32 = v) (k : gG I p l e R s m args below meth c Q nL cells slots (pc + 1) lv (.int v :: rest) ws) : gG I p l e R s m args below meth c Q nL cells slots pc lv (.long x :: rest) ws := fun H locs ls hI hl => lv_l2i C.1 C.2.1 hd hv (k H locs ls hI hl)
theorem g_i2d (C : g_Cx I p s m args c cc nL A D ty own Ts) {x : Int32} (hd : decode cc pc = .ok (.i2d, 1)) (k : gG I p l e R s m args below meth c Q nL cells slots (pc + 1) lv (.double (FP.i2d x) :: rest) ws) : gG I p l e R s m args below meth c Q nL cells slots pc lv (.int x :: rest) ws := fun H locs ls hI hl => lv_i2d C.1 C.2.1 hd (k H locs ls hI hl)
theorem g_dcmp (C : g_Cx I p s m args c cc nL A D ty own Ts) {x y : UInt64} {op : CmpOp} (hd : decode cc pc = .ok (.dcmp op, 1)) (k : gG I p l e R s m args below meth c Q nL cells slots (pc + 1) lv (.int (Op.cmpValue (FP.dcmp x y) op) :: rest) ws) : gG I p l e R s m args below meth c Q nL cells slots pc lv (.double y :: .double x :: rest) ws := fun H locs ls hI hl => lv_dcmp C.1 C.2.1 hd (k H locs ls hI hl)
theorem g_lcmp (C : g_Cx I p s m args c cc nL A D ty own Ts) {x y : Int64} (hd : decode cc pc = .ok (.lcmp, 1)) (k : gG I p l e R s m args below meth c Q nL cells slots (pc + 1) lv (.int (lg_cmp x y) :: rest) ws) : gG I p l e R s m args below meth c Q nL cells slots pc lv (.long y :: .long x :: rest) ws := fun H locs ls hI hl => W.lcmp C.1 C.2.1 hd (k H locs ls hI hl)
theorem g_dup (C : g_Cx I p s m args c cc nL A D ty own Ts) {va : Value} (hd : decode cc pc = .ok (.dup, 1)) (ha : va.category = 1) (k : gG I p l e R s m args below meth c Q nL cells slots (pc + 1) lv (va :: va :: rest) ws) : gG I p l e R s m args below meth c Q nL cells slots pc lv (va :: rest) ws := fun H locs ls hI hl => lv_dup C.1 C.2.1 hd ha (k H locs ls hI hl)
theorem g_pop (C : g_Cx I p s m args c cc nL A D ty own Ts) {va : Value} (hd : decode cc pc = .ok (.pop, 1)) (ha : va.category = 1) (k : gG I p l e R s m args below meth c Q nL cells slots (pc + 1) lv rest ws) : gG I p l e R s m args below meth c Q nL cells slots pc lv (va :: rest) ws := fun H locs ls hI hl => lv_pop C.1 C.2.1 hd ha (k H locs ls hI hl)
theorem g_dup_x1 (C : g_Cx I p s m args c cc nL A D ty own Ts) {va vb : Value} (hd : decode cc pc = .ok (.dup_x1, 1)) (ha : va.category = 1) (hb : vb.category = 1) (k : gG I p l e R s m args below meth c Q nL cells slots (pc + 1) lv (va :: vb :: va :: rest) ws) : gG I p l e R s m args below meth c Q nL cells slots pc lv (va :: vb :: rest) ws := fun H locs ls hI hl => lv_dup_x1 C.1 C.2.1 hd ha hb (k H locs ls hI hl)
theorem g_dup2_11 (C : g_Cx I p s m args c cc nL A D ty own Ts) {va vb : Value} (hd : decode cc pc = .ok (.dup2, 1)) (ha : va.category = 1) (hb : vb.category = 1) (k : gG I p l e R s m args below meth c Q nL cells slots (pc + 1) lv (va :: vb :: va :: vb :: rest) ws) : gG I p l e R s m args below meth c Q nL cells slots pc lv (va :: vb :: rest) ws := fun H locs ls hI hl => lv_dup2_11 C.1 C.2.1 hd ha hb (k H locs ls hI hl)
theorem g_dup2_2 (C : g_Cx I p s m args c cc nL A D ty own Ts) {va : Value} (hd : decode cc pc = .ok (.dup2, 1)) (ha : va.category = 2) (k : gG I p l e R s m args below meth c Q nL cells slots (pc + 1) lv (va :: va :: rest) ws) : gG I p l e R s m args below meth c Q nL cells slots pc lv (va :: rest) ws := fun H locs ls hI hl => lv_dup2_2 C.1 C.2.1 hd ha (k H locs ls hI hl)
theorem t_lt {x y : Int32} : x < y ↔ x.toInt < y.toInt := Int32.lt_iff_toInt_lt
theorem t_le {x y : Int32} : x ≤ y ↔ x.toInt ≤ y.toInt := Int32.le_iff_toInt_le
theorem t_nlt {x y : Int32} (h : ¬ x < y) : y.toInt ≤ x.toInt := by rw [t_lt] at h; omega
theorem t_nle {x y : Int32} (h : ¬ x ≤ y) : y.toInt < x.toInt := by rw [t_le] at h; omega
theorem t_eq {x y : Int32} : x = y ↔ x.toInt = y.toInt := Int32.toInt_inj.symm
theorem t_0 : (0 : Int32).toInt = 0 := Int32.toInt_zero
theorem g_icmp_eq (C : g_Cx I p s m args c cc nL A D ty own Ts) {x y : Int32} {off : Int} {tgt : Nat} (hd : decode cc pc = .ok (.if_icmp .eq off, 3)) (ht : (pc : Int) + off = (tgt : Int)) (kt : x.toInt = y.toInt → gG I p l e R s m args below meth c Q nL cells slots tgt lv rest ws) (kf : ¬ x.toInt = y.toInt → gG I p l e R s m args below meth c Q nL cells slots (pc + 3) lv rest ws) : gG I p l e R s m args below meth c Q nL cells slots pc lv (.int y :: .int x :: rest) ws := fun H locs ls hI hl => lv_icmp_eq C.1 C.2.1 hd ht (fun h => kt (t_eq.mp h) H locs ls hI hl) (fun h => kf (fun q => h (t_eq.mpr q)) H locs ls hI hl)
theorem g_icmp_eqN (C : g_Cx I p s m args c cc nL A D ty own Ts) {a b : Nat} {off : Int} {tgt : Nat} (hd : decode cc pc = .ok (.if_icmp .eq off, 3)) (ht : (pc : Int) + off = (tgt : Int)) (ha : a < 2 ^ 31) (hb : b < 2 ^ 31) (kt : a = b → gG I p l e R s m args below meth c Q nL cells slots tgt lv rest ws) (kf : ¬ a = b → gG I p l e R s m args below meth c Q nL cells slots (pc + 3) lv rest ws) : gG I p l e R s m args below meth c Q nL cells slots pc lv (.int (nI b) :: .int (nI a) :: rest) ws := g_icmp_eq C hd ht (fun h => kt (by rw [nI_toInt ha, nI_toInt hb] at h; omega)) (fun h => kf (by rw [nI_toInt ha, nI_toInt hb] at h; omega))
theorem g_if_eq (C : g_Cx I p s m args c cc nL A D ty own Ts) {x : Int32} {off : Int} {tgt : Nat} (hd : decode cc pc = .ok (.ifCond .eq off, 3)) (ht : (pc : Int) + off = (tgt : Int)) (kt : x.toInt = 0 → gG I p l e R s m args below meth c Q nL cells slots tgt lv rest ws) (kf : ¬ x.toInt = 0 → gG I p l e R s m args below meth c Q nL cells slots (pc + 3) lv rest ws) : gG I p l e R s m args below meth c Q nL cells slots pc lv (.int x :: rest) ws := fun H locs ls hI hl => lv_if_eq C.1 C.2.1 hd ht (fun h => kt (by subst h; exact t_0) H locs ls hI hl) (fun h => kf (fun q => h (t_eq.mpr (q.trans t_0.symm))) H locs ls hI hl)
theorem g_if_eqN (C : g_Cx I p s m args c cc nL A D ty own Ts) {a : Nat} {off : Int} {tgt : Nat} (hd : decode cc pc = .ok (.ifCond .eq off, 3)) (ht : (pc : Int) + off = (tgt : Int)) (ha : a < 2 ^ 31) (kt : a = 0 → gG I p l e R s m args below meth c Q nL cells slots tgt lv rest ws) (kf : ¬ a = 0 → gG I p l e R s m args below meth c Q nL cells slots (pc + 3) lv rest ws) : gG I p l e R s m args below meth c Q nL cells slots pc lv (.int (nI a) :: rest) ws := g_if_eq C hd ht (fun h => kt (by rw [nI_toInt ha] at h; omega)) (fun h => kf (by rw [nI_toInt ha] at h; omega))
theorem g_icmp_ne (C : g_Cx I p s m args c cc nL A D ty own Ts) {x y : Int32} {off : Int} {tgt : Nat} (hd : decode cc pc = .ok (.if_icmp .ne off, 3)) (ht : (pc : Int) + off = (tgt : Int)) (kt : ¬ x.toInt = y.toInt → gG I p l e R s m args below meth c Q nL cells slots tgt lv rest ws) (kf : x.toInt = y.toInt → gG I p l e R s m args below meth c Q nL cells slots (pc + 3) lv rest ws) : gG I p l e R s m args below meth c Q nL cells slots pc lv (.int y :: .int x :: rest) ws := fun H locs ls hI hl => lv_icmp_ne C.1 C.2.1 hd ht (fun h => kt (fun q => h (t_eq.mpr q)) H locs ls hI hl) (fun h => kf (t_eq.mp h) H locs ls hI hl)
theorem g_icmp_neN (C : g_Cx I p s m args c cc nL A D ty own Ts) {a b : Nat} {off : Int} {tgt : Nat} (hd : decode cc pc = .ok (.if_icmp .ne off, 3)) (ht : (pc : Int) + off = (tgt : Int)) (ha : a < 2 ^ 31) (hb : b < 2 ^ 31) (kt : ¬ a = b → gG I p l e R s m args below meth c Q nL cells slots tgt lv rest ws) (kf : a = b → gG I p l e R s m args below meth c Q nL cells slots (pc + 3) lv rest ws) : gG I p l e R s m args below meth c Q nL cells slots pc lv (.int (nI b) :: .int (nI a) :: rest) ws := g_icmp_ne C hd ht (fun h => kt (by rw [nI_toInt ha, nI_toInt hb] at h; omega)) (fun h => kf (by rw [nI_toInt ha, nI_toInt hb] at h; omega))
theorem g_if_ne (C : g_Cx I p s m args c cc nL A D ty own Ts) {x : Int32} {off : Int} {tgt : Nat} (hd : decode cc pc = .ok (.ifCond .ne off, 3)) (ht : (pc : Int) + off = (tgt : Int)) (kt : ¬ x.toInt = 0 → gG I p l e R s m args below meth c Q nL cells slots tgt lv rest ws) (kf : x.toInt = 0 → gG I p l e R s m args below meth c Q nL cells slots (pc + 3) lv rest ws) : gG I p l e R s m args below meth c Q nL cells slots pc lv (.int x :: rest) ws := fun H locs ls hI hl => lv_if_ne C.1 C.2.1 hd ht (fun h => kt (fun q => h (t_eq.mpr (q.trans t_0.symm))) H locs ls hI hl) (fun h => kf (by subst h; exact t_0) H locs ls hI hl)
theorem g_if_neN (C : g_Cx I p s m args c cc nL A D ty own Ts) {a : Nat} {off : Int} {tgt : Nat} (hd : decode cc pc = .ok (.ifCond .ne off, 3)) (ht : (pc : Int) + off = (tgt : Int)) (ha : a < 2 ^ 31) (kt : ¬ a = 0 → gG I p l e R s m args below meth c Q nL cells slots tgt lv rest ws) (kf : a = 0 → gG I p l e R s m args below meth c Q nL cells slots (pc + 3) lv rest ws) : gG I p l e R s m args below meth c Q nL cells slots pc lv (.int (nI a) :: rest) ws := g_if_ne C hd ht (fun h => kt (by rw [nI_toInt ha] at h; omega)) (fun h => kf (by rw [nI_toInt ha] at h; omega))
theorem g_icmp_lt (C : g_Cx I p s m args c cc nL A D ty own Ts) {x y : Int32} {off : Int} {tgt : Nat} (hd : decode cc pc = .ok (.if_icmp .lt off, 3)) (ht : (pc : Int) + off = (tgt : Int)) (kt : x.toInt < y.toInt → gG I p l e R s m args below meth c Q nL cells slots tgt lv rest ws) (kf : y.toInt ≤ x.toInt → gG I p l e R s m args below meth c Q nL cells slots (pc + 3) lv rest ws) : gG I p l e R s m args below meth c Q nL cells slots pc lv (.int y :: .int x :: rest) ws := fun H locs ls hI hl => lv_icmp_lt C.1 C.2.1 hd ht (fun h => kt (t_lt.mp h) H locs ls hI hl) (fun h => kf (t_nlt h) H locs ls hI hl)
theorem g_icmp_ltN (C : g_Cx I p s m args c cc nL A D ty own Ts) {a b : Nat} {off : Int} {tgt : Nat} (hd : decode cc pc = .ok (.if_icmp .lt off, 3)) (ht : (pc : Int) + off = (tgt : Int)) (ha : a < 2 ^ 31) (hb : b < 2 ^ 31) (kt : a < b → gG I p l e R s m args below meth c Q nL cells slots tgt lv rest ws) (kf : b ≤ a → gG I p l e R s m args below meth c Q nL cells slots (pc + 3) lv rest ws) : gG I p l e R s m args below meth c Q nL cells slots pc lv (.int (nI b) :: .int (nI a) :: rest) ws := g_icmp_lt C hd ht (fun h => kt (by rw [nI_toInt ha, nI_toInt hb] at h; omega)) (fun h => kf (by rw [nI_toInt ha, nI_toInt hb] at h; omega))
theorem g_if_lt (C : g_Cx I p s m args c cc nL A D ty own Ts) {x : Int32} {off : Int} {tgt : Nat} (hd : decode cc pc = .ok (.ifCond .lt off, 3)) (ht : (pc : Int) + off = (tgt : Int)) (kt : x.toInt < 0 → gG I p l e R s m args below meth c Q nL cells slots tgt lv rest ws) (kf : 0 ≤ x.toInt → gG I p l e R s m args below meth c Q nL cells slots (pc + 3) lv rest ws) : gG I p l e R s m args below meth c Q nL cells slots pc lv (.int x :: rest) ws := fun H locs ls hI hl => lv_if_lt C.1 C.2.1 hd ht (fun h => kt (by have := t_lt.mp h; rwa [t_0] at this) H locs ls hI hl) (fun h => kf (by have := t_nlt h; rwa [t_0] at this) H locs ls hI hl)
theorem g_if_ltN (C : g_Cx I p s m args c cc nL A D ty own Ts) {a : Nat} {off : Int} {tgt : Nat} (hd : decode cc pc = .ok (.ifCond .lt off, 3)) (ht : (pc : Int) + off = (tgt : Int)) (ha : a < 2 ^ 31) (kt : a < 0 → gG I p l e R s m args below meth c Q nL cells slots tgt lv rest ws) (kf : 0 ≤ a → gG I p l e R s m args below meth c Q nL cells slots (pc + 3) lv rest ws) : gG I p l e R s m args below meth c Q nL cells slots pc lv (.int (nI a) :: rest) ws := g_if_lt C hd ht (fun h => kt (by rw [nI_toInt ha] at h; omega)) (fun h => kf (by rw [nI_toInt ha] at h; omega))
theorem g_icmp_ge (C : g_Cx I p s m args c cc nL A D ty own Ts) {x y : Int32} {off : Int} {tgt : Nat} (hd : decode cc pc = .ok (.if_icmp .ge off, 3)) (ht : (pc : Int) + off = (tgt : Int)) (kt : y.toInt ≤ x.toInt → gG I p l e R s m args below meth c Q nL cells slots tgt lv rest ws) (kf : x.toInt < y.toInt → gG I p l e R s m args below meth c Q nL cells slots (pc + 3) lv rest ws) : gG I p l e R s m args below meth c Q nL cells slots pc lv (.int y :: .int x :: rest) ws := fun H locs ls hI hl => lv_icmp_ge C.1 C.2.1 hd ht (fun h => kt (t_le.mp h) H locs ls hI hl) (fun h => kf (t_nle h) H locs ls hI hl)
theorem g_icmp_geN (C : g_Cx I p s m args c cc nL A D ty own Ts) {a b : Nat} {off : Int} {tgt : Nat} (hd : decode cc pc = .ok (.if_icmp .ge off, 3)) (ht : (pc : Int) + off = (tgt : Int)) (ha : a < 2 ^ 31) (hb : b < 2 ^ 31) (kt : b ≤ a → gG I p l e R s m args below meth c Q nL cells slots tgt lv rest ws) (kf : a < b → gG I p l e R s m args below meth c Q nL cells slots (pc + 3) lv rest ws) : gG I p l e R s m args below meth c Q nL cells slots pc lv (.int (nI b) :: .int (nI a) :: rest) ws := g_icmp_ge C hd ht (fun h => kt (by rw [nI_toInt ha, nI_toInt hb] at h; omega)) (fun h => kf (by rw [nI_toInt ha, nI_toInt hb] at h; omega))
theorem g_if_ge (C : g_Cx I p s m args c cc nL A D ty own Ts) {x : Int32} {off : Int} {tgt : Nat} (hd : decode cc pc = .ok (.ifCond .ge off, 3)) (ht : (pc : Int) + off = (tgt : Int)) (kt : 0 ≤ x.toInt → gG I p l e R s m args below meth c Q nL cells slots tgt lv rest ws) (kf : x.toInt < 0 → gG I p l e R s m args below meth c Q nL cells slots (pc + 3) lv rest ws) : gG I p l e R s m args below meth c Q nL cells slots pc lv (.int x :: rest) ws := fun H locs ls hI hl => lv_if_ge C.1 C.2.1 hd ht (fun h => kt (by have := t_le.mp h; rwa [t_0] at this) H locs ls hI hl) (fun h => kf (by have := t_nle h; rwa [t_0] at this) H locs ls hI hl)
theorem g_if_geN (C : g_Cx I p s m args c cc nL A D ty own Ts) {a : Nat} {off : Int} {tgt : Nat} (hd : decode cc pc = .ok (.ifCond .ge off, 3)) (ht : (pc : Int) + off = (tgt : Int)) (ha : a < 2 ^ 31) (kt : 0 ≤ a → gG I p l e R s m args below meth c Q nL cells slots tgt lv rest ws) (kf : a < 0 → gG I p l e R s m args below meth c Q nL cells slots (pc + 3) lv rest ws) : gG I p l e R s m args below meth c Q nL cells slots pc lv (.int (nI a) :: rest) ws := g_if_ge C hd ht (fun h => kt (by rw [nI_toInt ha] at h; omega)) (fun h => kf (by rw [nI_toInt ha] at h; omega))
theorem g_icmp_gt (C : g_Cx I p s m args c cc nL A D ty own Ts) {x y : Int32} {off : Int} {tgt : Nat} (hd : decode cc pc = .ok (.if_icmp .gt off, 3)) (ht : (pc : Int) + off = (tgt : Int)) (kt : y.toInt < x.toInt → gG I p l e R s m args below meth c Q nL cells slots tgt lv rest ws) (kf : x.toInt ≤ y.toInt → gG I p l e R s m args below meth c Q nL cells slots (pc + 3) lv rest ws) : gG I p l e R s m args below meth c Q nL cells slots pc lv (.int y :: .int x :: rest) ws := fun H locs ls hI hl => lv_icmp_gt C.1 C.2.1 hd ht (fun h => kt (t_lt.mp h) H locs ls hI hl) (fun h => kf (t_nlt h) H locs ls hI hl)
theorem g_icmp_gtN (C : g_Cx I p s m args c cc nL A D ty own Ts) {a b : Nat} {off : Int} {tgt : Nat} (hd : decode cc pc = .ok (.if_icmp .gt off, 3)) (ht : (pc : Int) + off = (tgt : Int)) (ha : a < 2 ^ 31) (hb : b < 2 ^ 31) (kt : b < a → gG I p l e R s m args below meth c Q nL cells slots tgt lv rest ws) (kf : a ≤ b → gG I p l e R s m args below meth c Q nL cells slots (pc + 3) lv rest ws) : gG I p l e R s m args below meth c Q nL cells slots pc lv (.int (nI b) :: .int (nI a) :: rest) ws := g_icmp_gt C hd ht (fun h => kt (by rw [nI_toInt ha, nI_toInt hb] at h; omega)) (fun h => kf (by rw [nI_toInt ha, nI_toInt hb] at h; omega))
theorem g_if_gt (C : g_Cx I p s m args c cc nL A D ty own Ts) {x : Int32} {off : Int} {tgt : Nat} (hd : decode cc pc = .ok (.ifCond .gt off, 3)) (ht : (pc : Int) + off = (tgt : Int)) (kt : 0 < x.toInt → gG I p l e R s m args below meth c Q nL cells slots tgt lv rest ws) (kf : x.toInt ≤ 0 → gG I p l e R s m args below meth c Q nL cells slots (pc + 3) lv rest ws) : gG I p l e R s m args below meth c Q nL cells slots pc lv (.int x :: rest) ws := fun H locs ls hI hl => lv_if_gt C.1 C.2.1 hd ht (fun h => kt (by have := t_lt.mp h; rwa [t_0] at this) H locs ls hI hl) (fun h => kf (by have := t_nlt h; rwa [t_0] at this) H locs ls hI hl)
theorem g_if_gtN (C : g_Cx I p s m args c cc nL A D ty own Ts) {a : Nat} {off : Int} {tgt : Nat} (hd : decode cc pc = .ok (.ifCond .gt off, 3)) (ht : (pc : Int) + off = (tgt : Int)) (ha : a < 2 ^ 31) (kt : 0 < a → gG I p l e R s m args below meth c Q nL cells slots tgt lv rest ws) (kf : a ≤ 0 → gG I p l e R s m args below meth c Q nL cells slots (pc + 3) lv rest ws) : gG I p l e R s m args below meth c Q nL cells slots pc lv (.int (nI a) :: rest) ws := g_if_gt C hd ht (fun h => kt (by rw [nI_toInt ha] at h; omega)) (fun h => kf (by rw [nI_toInt ha] at h; omega))
theorem g_icmp_le (C : g_Cx I p s m args c cc nL A D ty own Ts) {x y : Int32} {off : Int} {tgt : Nat} (hd : decode cc pc = .ok (.if_icmp .le off, 3)) (ht : (pc : Int) + off = (tgt : Int)) (kt : x.toInt ≤ y.toInt → gG I p l e R s m args below meth c Q nL cells slots tgt lv rest ws) (kf : y.toInt < x.toInt → gG I p l e R s m args below meth c Q nL cells slots (pc + 3) lv rest ws) : gG I p l e R s m args below meth c Q nL cells slots pc lv (.int y :: .int x :: rest) ws := fun H locs ls hI hl => lv_icmp_le C.1 C.2.1 hd ht (fun h => kt (t_le.mp h) H locs ls hI hl) (fun h => kf (t_nle h) H locs ls hI hl)
theorem g_icmp_leN (C : g_Cx I p s m args c cc nL A D ty own Ts) {a b : Nat} {off : Int} {tgt : Nat} (hd : decode cc pc = .ok (.if_icmp .le off, 3)) (ht : (pc : Int) + off = (tgt : Int)) (ha : a < 2 ^ 31) (hb : b < 2 ^ 31) (kt : a ≤ b → gG I p l e R s m args below meth c Q nL cells slots tgt lv rest ws) (kf : b < a → gG I p l e R s m args below meth c Q nL cells slots (pc + 3) lv rest ws) : gG I p l e R s m args below meth c Q nL cells slots pc lv (.int (nI b) :: .int (nI a) :: rest) ws := g_icmp_le C hd ht (fun h => kt (by rw [nI_toInt ha, nI_toInt hb] at h; omega)) (fun h => kf (by rw [nI_toInt ha, nI_toInt hb] at h; omega))
theorem g_if_le (C : g_Cx I p s m args c cc nL A D ty own Ts) {x : Int32} {off : Int} {tgt : Nat} (hd : decode cc pc = .ok (.ifCond .le off, 3)) (ht : (pc : Int) + off = (tgt : Int)) (kt : x.toInt ≤ 0 → gG I p l e R s m args below meth c Q nL cells slots tgt lv rest ws) (kf : 0 < x.toInt → gG I p l e R s m args below meth c Q nL cells slots (pc + 3) lv rest ws) : gG I p l e R s m args below meth c Q nL cells slots pc lv (.int x :: rest) ws := fun H locs ls hI hl => lv_if_le C.1 C.2.1 hd ht (fun h => kt (by have := t_le.mp h; rwa [t_0] at this) H locs ls hI hl) (fun h => kf (by have := t_nle h; rwa [t_0] at this) H locs ls hI hl)
theorem g_if_leN (C : g_Cx I p s m args c cc nL A D ty own Ts) {a : Nat} {off : Int} {tgt : Nat} (hd : decode cc pc = .ok (.ifCond .le off, 3)) (ht : (pc : Int) + off = (tgt : Int)) (ha : a < 2 ^ 31) (kt : a ≤ 0 → gG I p l e R s m args below meth c Q nL cells slots tgt lv rest ws) (kf : 0 < a → gG I p l e R s m args below meth c Q nL cells slots (pc + 3) lv rest ws) : gG I p l e R s m args below meth c Q nL cells slots pc lv (.int (nI a) :: rest) ws := g_if_le C hd ht (fun h => kt (by rw [nI_toInt ha] at h; omega)) (fun h => kf (by rw [nI_toInt ha] at h; omega))
theorem g_goto (C : g_Cx I p s m args c cc nL A D ty own Ts) {off : Int} {tgt : Nat} (hd : decode cc pc = .ok (.goto off, 3)) (ht : (pc : Int) + off = (tgt : Int)) (k : gG I p l e R s m args below meth c Q nL cells slots tgt lv rest ws) : gG I p l e R s m args below meth c Q nL cells slots pc lv rest ws := fun H locs ls hI hl => lv_goto C.1 C.2.1 hd ht (k H locs ls hI hl)
theorem g_tableIn (C : g_Cx I p s m args c cc nL A D ty own Ts) {dflt lo hi : Int} {offs : Array Int} {len : Nat} {x : Int32} {off : Int} {tgt : Nat} (hd : decode cc pc = .ok (.tableswitch dflt lo hi offs, len)) (h1 : ¬ x.toInt < lo) (h2 : ¬ hi < x.toInt) (ho : offs[(x.toInt - lo).toNat]? = some off) (ht : (pc : Int) + off = (tgt : Int)) (k : gG I p l e R s m args below meth c Q nL cells slots tgt lv rest ws) : gG I p l e R s m args below meth c Q nL cells slots pc lv (.int x :: rest) ws := fun H locs ls hI hl => lv_tableIn C.1 C.2.1 hd h1 h2 ho ht (k H locs ls hI hl)
theorem g_tableOut (C : g_Cx I p s m args c cc nL A D ty own Ts) {dflt lo hi : Int} {offs : Array Int} {len : Nat} {x : Int32} {tgt : Nat} (hd : decode cc pc = .ok (.tableswitch dflt lo hi offs, len)) (h : x.toInt < lo ∨ hi < x.toInt) (ht : (pc : Int) + dflt = (tgt : Int)) (k : gG I p l e R s m args below meth c Q nL cells slots tgt lv rest ws) : gG I p l e R s m args below meth c Q nL cells slots pc lv (.int x :: rest) ws := fun H locs ls hI hl => lv_tableOut C.1 C.2.1 hd h ht (k H locs ls hI hl)
theorem g_ldc (C : g_Cx I p s m args c cc nL A D ty own Ts) {index : Nat} {v : Int32} (i0 : Nat) (hc : Ts[i0]? = some (.constant own index v)) (hd : decode cc pc = .ok (.ldc index, 2)) (k : gG I p l e R s m args below meth c Q nL cells slots (pc + 2) lv (.int v :: rest) ws) : gG I p l e R s m args below meth c Q nL cells slots pc lv rest ws := fun H locs ls hI hl => lv_ldc C.1 C.2.1 C.2.2.2.1 (C.2.2.2.2.1 _ (List.mem_of_getElem? hc)) hd (k H locs ls hI hl)
theorem g_ldcw (C : g_Cx I p s m args c cc nL A D ty own Ts) {index : Nat} {v : Int32} (i0 : Nat) (hc : Ts[i0]? = some (.constant own index v)) (hd : decode cc pc = .ok (.ldc_w index, 3)) (k : gG I p l e R s m args below meth c Q nL cells slots (pc + 3) lv (.int v :: rest) ws) : gG I p l e R s m args below meth c Q nL cells slots pc lv rest ws := fun H locs ls hI hl => lv_ldcw C.1 C.2.1 C.2.2.2.1 (C.2.2.2.2.1 _ (List.mem_of_getElem? hc)) hd (k H locs ls hI hl)
theorem g_ldc2 (C : g_Cx I p s m args c cc nL A D ty own Ts) {index : Nat} {v : Int64} (i0 : Nat) (hc : Ts[i0]? = some (.constantLong own index v)) (hd : decode cc pc = .ok (.ldc2_w index, 3)) (k : gG I p l e R s m args below meth c Q nL cells slots (pc + 3) lv (.long v :: rest) ws) : gG I p l e R s m args below meth c Q nL cells slots pc lv rest ws := fun H locs ls hI hl => lv_ldc2 C.1 C.2.1 C.2.2.2.1 (C.2.2.2.2.1 _ (List.mem_of_getElem? hc)) hd (k H locs ls hI hl)
theorem g_lv {pc : Nat} (is : List Nat) (h : lv_pick lv is = lv') (k : gG I p l e R s m args below meth c Q nL cells slots pc lv' st ws) : gG I p l e R s m args below meth c Q nL cells slots pc lv st ws := fun H locs ls hI hl => k H locs ls hI (lv_sub hl is h)
theorem g_is {pc pc2 : Nat} {lv2 : g_Lv} {st2 : List Value} {ws2 : va_W} (k : gG I p l e R s m args below meth c Q nL cells slots pc2 lv2 st2 ws2) (h1 : pc2 = pc) (h2 : lv2 = lv) (h3 : st2 = st) (h4 : ws2 = ws) : gG I p l e R s m args below meth c Q nL cells slots pc lv st ws := by subst h1; subst h2; subst h3; subst h4; exact k
theorem g_wid {k0 n0 : Nat} (h1 : cells ≤ k0) (h2 : slots ≤ n0) (k : gG I p l e R s m args below meth c Q nL k0 n0 pc lv st ws) : gG I p l e R s m args below meth c Q nL cells slots pc lv st ws := fun H locs ls hI hl => W.widen h1 h2 (k H locs ls hI hl)
theorem g_ws {pc : Nat} (is : List Nat) (hn : va_nd is = true) (h : is.map (fun i => ws[i]?) = ws'.map some) (h2 : is.filterMap (fun i => ws[i]?) = ws') (k : gG (g_IU A D s) p l e R s m args below meth c Q nL cells slots pc lv st ws') : gG (g_IU A D s) p l e R s m args below meth c Q nL cells slots pc lv st ws := fun H locs ls hI hl => k H locs ls ⟨hI.1.sub is h2, hI.2.1.sub is hn h, hI.2.2⟩ hl
theorem g_get (C : g_Cx I p s m args c cc nL A D ty own Ts) {a ci N index : Nat} {fs : List Value} {v : Value} {Cn ref : String} {T : u_T} (q0 : Nat) (he : ws[q0]? = some (a, .inr (ci, fs))) (hc : vwCl[ci]? = some (Cn, T, N)) (f0 : Nat) (hk : f0 < N) (hin : ∀ w ∈ u_ws Cn T N, w ∈ Ts) (i0 : Nat) (hlink : Ts[i0]? = some (.fieldLink own index ref (T f0).2.1 (T f0).2.2.1)) (hsame : (T f0).1 = ref) (hv : fs[f0]? = some v) (hd : decode cc pc = .ok (.getfield index, 3)) (k : gG I p l e R s m args below meth c Q nL cells slots (pc + 3) lv (v :: rest) ws) : gG I p l e R s m args below meth c Q nL cells slots pc lv (.ref a :: rest) ws :=
  fun H locs ls hI hl => va_get C.1 C.2.1 C.2.2.2.2.1 hin C.2.2.2.1 C.2.2.2.2.2.1 (C.2.2.2.2.2.2 _ _ _ hI).1 q0 he hc f0 hk (C.2.2.2.2.1 _ (List.mem_of_getElem? hlink)) (fun x h9 => by rw [← hsame]; exact h9) hv hd (k H locs ls hI hl)
theorem g_put (C : g_Cx (g_IU A D s) p s m args c cc nL A D ty own Ts) {a ci N index : Nat} {fs : List Value} {v : Value} {Cn ref : String} {T : u_T} {t1 : FieldType} (q0 : Nat) (he : ws[q0]? = some (a, .inr (ci, fs))) (hc : vwCl[ci]? = some (Cn, T, N)) (f0 : Nat) (hk : f0 < N) (hin : ∀ w ∈ u_ws Cn T N, w ∈ Ts) (i0 : Nat) (hlink : Ts[i0]? = some (.fieldLink own index ref (T f0).2.1 (T f0).2.2.1)) (hsame : (T f0).1 = ref) (ty0 : Nat → FieldType) (hty : ∀ k, k < N → parseFieldDescriptor (T k).2.2.1 = some (ty0 k)) (hnm : ∀ a, a < N → ∀ b, b < N → a ≠ b → (T a).2.1 ≠ (T b).2.1) (hfin : (T f0).2.2.2 = false) (ht1 : ty0 f0 = t1) (hn : narrow t1 v = v) (hfit : fits t1 v = true) (hl0 : f0 < fs.length) (hw : ws.set q0 (a, .inr (ci, fs.set f0 v)) = ws') (hd : decode cc pc = .ok (.putfield index, 3)) (k : gG (g_IU A D s) p l e R s m args below meth c Q nL cells slots (pc + 3) lv rest ws') : gG (g_IU A D s) p l e R s m args below meth c Q nL cells slots pc lv (v :: .ref a :: rest) ws :=
  fun H locs ls hI hl => va_put C.1 C.2.1 C.2.2.2.2.1 hin ty0 hty hnm C.2.2.2.1 C.2.2.2.2.2.1 hI.1 hI.2.1 hI.2.2 q0 he hc f0 hk (C.2.2.2.2.1 _ (List.mem_of_getElem? hlink)) (fun x h9 => by rw [← hsame]; exact h9) hfin (ty := t1) (by rw [← ht1]; exact hty f0 hk) hn hfit hl0 hd (fun H1 locs1 hP hD hS => k H1 locs1 ls ⟨hw ▸ hP, hw ▸ hD, hS⟩ hl)
theorem g_putF (C : g_Cx (g_IU A D s) p s m args c cc nL A D ty own Ts) {a ci N index : Nat} {fs : List Value} {v : Value} {Cn ref : String} {T : u_T} {t1 : FieldType} (hinit : meth.name = "<init>") (q0 : Nat) (he : ws[q0]? = some (a, .inr (ci, fs))) (hc : vwCl[ci]? = some (Cn, T, N)) (f0 : Nat) (hk : f0 < N) (hin : ∀ w ∈ u_ws Cn T N, w ∈ Ts) (i0 : Nat) (hlink : Ts[i0]? = some (.fieldLink own index ref (T f0).2.1 (T f0).2.2.1)) (hsame : (T f0).1 = ref) (hdecl : (T f0).1 = own) (ty0 : Nat → FieldType) (hty : ∀ k, k < N → parseFieldDescriptor (T k).2.2.1 = some (ty0 k)) (hnm : ∀ a, a < N → ∀ b, b < N → a ≠ b → (T a).2.1 ≠ (T b).2.1) (hfin : (T f0).2.2.2 = true) (ht1 : ty0 f0 = t1) (hn : narrow t1 v = v) (hfit : fits t1 v = true) (hl0 : f0 < fs.length) (hw : ws.set q0 (a, .inr (ci, fs.set f0 v)) = ws') (hd : decode cc pc = .ok (.putfield index, 3)) (k : gG (g_IU A D s) p l e R s m args below meth c Q nL cells slots (pc + 3) lv rest ws') : gG (g_IU A D s) p l e R s m args below meth c Q nL cells slots pc lv (v :: .ref a :: rest) ws :=
  fun H locs ls hI hl => va_putF C.1 C.2.1 C.2.2.2.2.1 hin ty0 hty hnm C.2.2.2.1 C.2.2.2.2.2.1 hI.1 hI.2.1 hI.2.2 q0 he hc f0 hk (C.2.2.2.2.1 _ (List.mem_of_getElem? hlink)) (fun x h9 => by rw [← hsame]; exact h9) hfin hinit hdecl (ty := t1) (by rw [← ht1]; exact hty f0 hk) hn hfit hl0 hd (fun H1 locs1 hP hD hS => k H1 locs1 ls ⟨hw ▸ hP, hw ▸ hD, hS⟩ hl)
theorem t_cl {i : Nat} (h : i < 2 ^ 31) : (nI i).toNatClampNeg = i := nI_clamp h
theorem g_iald (C : g_Cx I p s m args c cc nL A D ty own Ts) {a n i : Nat} {f : Nat → Int32} {v : Int32} (q0 : Nat) (he : ws[q0]? = some (a, .inl (ty.1, n, .inl f))) (hi : i < n) (hn : n < 2 ^ 31) (hv : f i = v) (hd : decode cc pc = .ok (.iaload, 1)) (k : gG I p l e R s m args below meth c Q nL cells slots (pc + 1) lv (.int v :: rest) ws) : gG I p l e R s m args below meth c Q nL cells slots pc lv (.int (nI i) :: .ref a :: rest) ws :=
  fun H locs ls hI hl => va_iald C.1 C.2.1 C.2.2.2.2.2.1 (C.2.2.2.2.2.2 _ _ _ hI).1 q0 0 he rfl (vp_in_nI hi hn) hd (by rw [nI_clamp (Nat.lt_trans hi hn), hv]; exact k H locs ls hI hl)
theorem g_lald (C : g_Cx I p s m args c cc nL A D ty own Ts) {a n i : Nat} {f : Nat → Int64} {v : Int64} (q0 : Nat) (he : ws[q0]? = some (a, .inl (ty.2.1, n, .inr (.inl f)))) (hi : i < n) (hn : n < 2 ^ 31) (hv : f i = v) (hd : decode cc pc = .ok (.laload, 1)) (k : gG I p l e R s m args below meth c Q nL cells slots (pc + 1) lv (.long v :: rest) ws) : gG I p l e R s m args below meth c Q nL cells slots pc lv (.int (nI i) :: .ref a :: rest) ws :=
  fun H locs ls hI hl => va_lald C.1 C.2.1 C.2.2.2.2.2.1 (C.2.2.2.2.2.2 _ _ _ hI).1 q0 1 he rfl (vp_in_nI hi hn) hd (by rw [nI_clamp (Nat.lt_trans hi hn), hv]; exact k H locs ls hI hl)
theorem g_zald (C : g_Cx I p s m args c cc nL A D ty own Ts) {a n i : Nat} {f : Nat → Int32} {v : Int32} (q0 : Nat) (he : ws[q0]? = some (a, .inl (ty.2.2, n, .inl f))) (hi : i < n) (hn : n < 2 ^ 31) (hv : f i = v) (hd : decode cc pc = .ok (.baload, 1)) (k : gG I p l e R s m args below meth c Q nL cells slots (pc + 1) lv (.int v :: rest) ws) : gG I p l e R s m args below meth c Q nL cells slots pc lv (.int (nI i) :: .ref a :: rest) ws :=
  fun H locs ls hI hl => va_zald C.1 C.2.1 C.2.2.2.2.2.1 (C.2.2.2.2.2.2 _ _ _ hI).1 q0 2 he rfl (vp_in_nI hi hn) hd (by rw [nI_clamp (Nat.lt_trans hi hn), hv]; exact k H locs ls hI hl)
theorem g_iast (C : g_Cx (g_IU A D s) p s m args c cc nL A D ty own Ts) {a n i : Nat} {f f' : Nat → Int32} {x : Int32} (q0 : Nat) (he : ws[q0]? = some (a, .inl (ty.1, n, .inl f))) (hi : i < n) (hn : n < 2 ^ 31) (hf : upd f i x = f') (hw : ws.set q0 (a, .inl (ty.1, n, .inl f')) = ws') (hd : decode cc pc = .ok (.iastore, 1)) (k : gG (g_IU A D s) p l e R s m args below meth c Q nL cells slots (pc + 1) lv rest ws') : gG (g_IU A D s) p l e R s m args below meth c Q nL cells slots pc lv (.int x :: .int (nI i) :: .ref a :: rest) ws :=
  fun H locs ls hI hl => va_iast C.1 C.2.1 C.2.2.2.2.2.1 hI.1 hI.2.1 hI.2.2 q0 0 he rfl (vp_in_nI hi hn) hd (fun H1 locs1 hP hD hS => by
    rw [nI_clamp (Nat.lt_trans hi hn), hf, hw] at hP hD
    exact k H1 locs1 ls ⟨hP, hD, hS⟩ hl)
theorem g_last (C : g_Cx (g_IU A D s) p s m args c cc nL A D ty own Ts) {a n i : Nat} {f f' : Nat → Int64} {x : Int64} (q0 : Nat) (he : ws[q0]? = some (a, .inl (ty.2.1, n, .inr (.inl (f))))) (hi : i < n) (hn : n < 2 ^ 31) (hf : vp_updL f i x = f') (hw : ws.set q0 (a, .inl (ty.2.1, n, .inr (.inl (f')))) = ws') (hd : decode cc pc = .ok (.lastore, 1)) (k : gG (g_IU A D s) p l e R s m args below meth c Q nL cells slots (pc + 1) lv rest ws') : gG (g_IU A D s) p l e R s m args below meth c Q nL cells slots pc lv (.long x :: .int (nI i) :: .ref a :: rest) ws :=
  fun H locs ls hI hl => va_last C.1 C.2.1 C.2.2.2.2.2.1 hI.1 hI.2.1 hI.2.2 q0 1 he rfl (vp_in_nI hi hn) hd (fun H1 locs1 hP hD hS => by
    rw [nI_clamp (Nat.lt_trans hi hn), hf, hw] at hP hD
    exact k H1 locs1 ls ⟨hP, hD, hS⟩ hl)
theorem g_zast (C : g_Cx (g_IU A D s) p s m args c cc nL A D ty own Ts) {a n i : Nat} {f f' : Nat → Int32} {x : Int32} (q0 : Nat) (he : ws[q0]? = some (a, .inl (ty.2.2, n, .inl f))) (hi : i < n) (hn : n < 2 ^ 31) (hf : upd f i (vp_nar .boolean x) = f') (hw : ws.set q0 (a, .inl (ty.2.2, n, .inl f')) = ws') (hd : decode cc pc = .ok (.bastore, 1)) (k : gG (g_IU A D s) p l e R s m args below meth c Q nL cells slots (pc + 1) lv rest ws') : gG (g_IU A D s) p l e R s m args below meth c Q nL cells slots pc lv (.int x :: .int (nI i) :: .ref a :: rest) ws :=
  fun H locs ls hI hl => va_zast C.1 C.2.1 C.2.2.2.2.2.1 hI.1 hI.2.1 hI.2.2 q0 2 he rfl (vp_in_nI hi hn) hd (fun H1 locs1 hP hD hS => by
    rw [nI_clamp (Nat.lt_trans hi hn), hf, hw] at hP hD
    exact k H1 locs1 ls ⟨hP, hD, hS⟩ hl)
theorem g_alen (C : g_Cx I p s m args c cc nL A D ty own Ts) {a t0 : Nat} {cA : ClassId} {x : vp_A} {t1 : FieldType} {v : Int32} (q0 : Nat) (he : ws[q0]? = some (a, .inl (cA, x))) (ht : (g_ty ty)[t0]? = some (cA, t1)) (hv : Int32.ofNat x.1 = v) (hd : decode cc pc = .ok (.arraylength, 1)) (k : gG I p l e R s m args below meth c Q nL cells slots (pc + 1) lv (.int v :: rest) ws) : gG I p l e R s m args below meth c Q nL cells slots pc lv (.ref a :: rest) ws :=
  fun H locs ls hI hl => va_alen C.1 C.2.1 C.2.2.2.2.2.1 (C.2.2.2.2.2.2 _ _ _ hI).1 q0 t0 he ht hv hd (k H locs ls hI hl)
end GL
/-- what a contract may ask beside its world: statics, links of nest mates -/
abbrev g_X : Type := (Nat → Prop) → State → Prop
def g_Xok (X : g_X) : Prop := (∀ (A A' : Nat → Prop) (s U : State) (locs : List Loc), va_S A s.heap U.heap locs → s.WarmedH U.vm → (∀ q, q < U.heap.size → A' q → A q) → X A s → X A' U) ∧ ∀ (A : Nat → Prop) (U : State) (g : JFrame) (mk : MethodId) (a : Array Value), X A U → X A (U.calling g mk a)
def g_X0 : g_X := fun _ _ => True
theorem g_X0_ok : g_Xok g_X0 := ⟨fun _ _ _ _ _ _ _ _ _ => trivial, fun _ _ _ _ _ _ => trivial⟩
/-- a method that changes nothing: from the world win, its answer is as post says -/
def g_P (l : Launch) (y : MethodName) (wsc : List Cond) (rm : Room) (D : va_G) (ty : g_T3) (X : g_X) (As : List Value) (win : va_W) (post : Option Value → Prop) : Prop :=
  Met l y wsc rm (va_Pc As (fun U => X (fun _ => False) U ∧ va_P D vwCl win U.heap ∧ va_K D vwCl (g_ty ty) U)) (fun _ st oc t => (∃ v, oc = .returned v ∧ post v) ∧ t.heap = st.heap) 0 0 (fun _ => False)
/-- a method that changes its world win, to one as post says; what it makes beside counts in mc, ms -/
def g_U (l : Launch) (y : MethodName) (wsc : List Cond) (rm : Room) (D : va_G) (ty : g_T3) (X : g_X) (As : List Value) (win : va_W) (mc ms : Nat) (post : Option Value → va_W → Prop) : Prop :=
  ∀ sz : Nat, Met l y wsc rm (va_Pc As (fun U => U.heap.size = sz ∧ X (va_A win sz) U ∧ va_P D vwCl win U.heap ∧ va_K D vwCl (g_ty ty) U ∧ va_D (fun _ => True) win)) (fun _ st oc t => (∃ v w, oc = .returned v ∧ post v w ∧ va_P D vwCl w t.heap ∧ va_D (va_A win sz) w) ∧ va_F (va_A win sz) st t) mc ms (va_A win sz)
def g_pi (p : Int32 → Prop) : Option Value → Prop := fun v => ∃ r, v = some (.int r) ∧ p r
def g_pl (p : Int64 → Prop) : Option Value → Prop := fun v => ∃ r, v = some (.long r) ∧ p r
def g_ui (p : Int32 → va_W → Prop) : Option Value → va_W → Prop := fun v w => ∃ r, v = some (.int r) ∧ p r w
def g_ul (p : Int64 → va_W → Prop) : Option Value → va_W → Prop := fun v w => ∃ r, v = some (.long r) ∧ p r w
def g_uv (p : va_W → Prop) : Option Value → va_W → Prop := fun v w => v = none ∧ p w
section GC
variable {I : g_I} {p : Program} {l : Launch} {e : Env} {R : Room} {s : State} {m : MethodId} {args : Array Value} {below : List Frame} {meth : Method} {c : Code} {Q : State → Prop} {nL cells slots pc : Nat} {lv lv' : g_Lv} {rest st0 : List Value} {ws ws' : va_W} {cc : ByteArray} {A : Nat → Prop} {D : va_G} {ty : g_T3} {own : String} {Ts : List Cond}
variable {X : g_X} {y : MethodName} {wsc wsc' : List Cond} {rm : Room} {bytes : ByteArray} {maxL index mc ms : Nat} {ret : Option FieldType} {As : List Value} {win wr : va_W} {post : Option Value → Prop} {postU : Option Value → va_W → Prop}
theorem g_callP (hrun : ∀ (H : Heap) (locs : List Loc) (ls : Array Slot), I ws H locs → lv_has ls nL lv → va_Run p l e R s m args below meth c H locs cells slots 0 0 (F0 m pc ls st0) rest (fun st oc t => (∃ v, oc = .returned v ∧ post v) ∧ t.heap = st.heap) (fun _ => False)) (k : ∀ v, post v → gG I p l e R s m args below meth c Q nL cells slots (pc + 3) lv (v.toList ++ rest) ws) : gG I p l e R s m args below meth c Q nL cells slots pc lv st0 ws := by
  intro H locs ls hI hl T hT X
  obtain ⟨v, st₀, t, T', L, h0, X', hL, e1, e2, ⟨⟨v', hv, hp⟩, hh⟩, st⟩ := hrun H locs ls hI hl T hT X
  cases hv
  have hLn : L = [] := by
    cases L with
    | nil => rfl
    | cons a b => exact absurd (hL a List.mem_cons_self) id
  subst hLn
  rw [List.append_nil] at X'
  obtain ⟨t2, a1, b1⟩ := k v hp H locs ls hI hl T' (by rw [e1, hh, h0]) X'
  exact ⟨t2, st t2 a1, b1⟩
theorem g_callU {wc : va_W} (hA : ∀ q, s.heap.size ≤ q → A q) (isC isR : List Nat) (hC : isC.map (fun i => ws[i]?) = wc.map some) (hR : isR.map (fun i => ws[i]?) = wr.map some) (hn : va_nd isR = true) (hdis : isR.all (fun i => !isC.contains i) = true)
    (hrun : ∀ (H : Heap) (locs : List Loc) (ls : Array Slot), g_IU A D s ws H locs → lv_has ls nL lv → va_Run p l e R s m args below meth c H locs cells slots mc ms (F0 m pc ls st0) rest (fun st oc t => (∃ v w, oc = .returned v ∧ postU v w ∧ va_P D vwCl w t.heap ∧ va_D (va_A wc H.size) w) ∧ va_F (va_A wc H.size) st t) (va_A wc H.size)) (k : ∀ v w, postU v w → gG (g_IU A D s) p l e R s m args below meth c Q nL (cells + mc) (slots + ms) (pc + 3) lv (v.toList ++ rest) (wr ++ w)) : gG (g_IU A D s) p l e R s m args below meth c Q nL cells slots pc lv st0 ws := by
  intro H locs ls hI hl T hT X
  obtain ⟨v, st₀, t, T', L, h0, X', hL, e1, e2, ⟨⟨v', w, hv, hp, hP1, hD1⟩, hz, hk⟩, st⟩ := hrun H locs ls hI hl T hT X
  cases hv
  rw [h0] at hz hk
  have hF := va_free hI.2.1 hI.2.2 hA isC hC
  rw [← e1] at hP1 hk hz
  obtain ⟨hP, hD⟩ := va_join hI.1 hI.2.1 isC isR hC hR hn (fun i hi hc => by
    have h1 := List.all_eq_true.mp hdis i hi
    simp [hc] at h1) hk hF hP1 hD1
  obtain ⟨t2, a1, b1⟩ := k v w hp T'.heap (locs ++ L) ls ⟨hP, hD, ⟨Nat.le_trans hI.2.2.1 hz, fun q h1 h2 => by
      rw [hk q (Nat.lt_of_lt_of_le h1 hI.2.2.1) (fun z => h2 (hF q z))]
      exact hI.2.2.2.1 q h1 h2, fun q hq => by
      rcases List.mem_append.mp hq with h | h
      · exact hI.2.2.2.2 q h
      · exact hF _ (hL q h)⟩⟩ hl T' rfl X'
  exact ⟨t2, st t2 a1, b1⟩
theorem g_callPS (C : g_Cx I p s m args c cc nL A D ty own Ts) (hX : g_Xok X ∧ X A s) (hM : g_P l y wsc rm D ty X As win post) (hw : wsc = Cond.code y bytes maxL ret :: wsc') (hg : GoodIn Ts (va_wsS own index y wsc)) (n : Nat) (hy : y.cls ≠ "java/lang/invoke/MethodHandle" ∧ y.cls ≠ "java/lang/invoke/VarHandle" ∧ (parseMethodDescriptor y.desc).map (fun d => d.parameters.length) = some n) (hnA : As.length = n) (hrm : rm.cells = 0 ∧ rm.slots = 0) (hR : rm.frames + 1 ≤ R.frames ∧ 8 + (maxL + 11) + rm.locals ≤ R.locals) (isC : List Nat) (hC : isC.filterMap (fun i => ws[i]?) = win) (hrest : (rest.map fun v => v.category).sum ≤ 8) (hd : decode cc pc = .ok (.invokestatic index, 3)) (hS0 : cells ≤ R.cells ∧ slots ≤ R.slots) (hst : As.reverse ++ rest = st0) (k : ∀ v, post v → gG I p l e R s m args below meth c Q nL cells slots (pc + 3) lv (v.toList ++ rest) ws) : gG I p l e R s m args below meth c Q nL cells slots pc lv st0 ws := by
  refine g_callP (rest := rest) (fun H locs ls hI hl => ?_) k
  exact va_runS ⟨C.1, C.2.1, C.2.2.1, C.2.2.2.1, C.2.2.2.2.1⟩ hM (va_cwS n C.2.2.2.2.1 hg hw hrm.1 hrm.2 hy hR) ⟨fun a U g mk q => ⟨q.1, hX.1.2 _ _ _ _ _ q.2.1, q.2.2.1, va_K.moved (u := U) (U := U.calling g mk a) (Vm.Alike.refl U.vm) q.2.2.2⟩, fun U hU hW => ⟨rfl, hX.1.1 A _ s U locs (by rw [hU]; exact (C.2.2.2.2.2.2 _ _ _ hI).2) hW (fun _ _ f => f.elim) hX.2, by rw [hU]; exact (C.2.2.2.2.2.2 _ _ _ hI).1.sub isC hC, va_K.moved hW.alike C.2.2.2.2.2.1⟩⟩ rfl hnA hl.1 hst.symm (lv_room hrest) hd hS0
theorem g_callPV {b ci N q0 : Nat} {fs : List Value} {T : u_T} (C : g_Cx I p s m args c cc nL A D ty own Ts) (hX : g_Xok X ∧ X A s) (hM : g_P l y wsc rm D ty X (.ref b :: As) win post) (hw : wsc = Cond.code y bytes maxL ret :: wsc') (hg : GoodIn Ts (wsV own index y.cls y wsc)) (n : Nat) (hy : y.cls ≠ "java/lang/invoke/MethodHandle" ∧ y.cls ≠ "java/lang/invoke/VarHandle" ∧ (parseMethodDescriptor y.desc).map (fun d => d.parameters.length) = some n) (hnA : As.length = n) (hrm : rm.cells = 0 ∧ rm.slots = 0) (hR : rm.frames + 1 ≤ R.frames ∧ 8 + (maxL + 11) + rm.locals ≤ R.locals) (hrc : vwCl[ci]? = some (y.cls, T, N)) (hre : ws[q0]? = some (b, .inr (ci, fs))) (isC : List Nat) (hC : isC.filterMap (fun i => ws[i]?) = win) (hrest : (rest.map fun v => v.category).sum ≤ 8) (hd : decode cc pc = .ok (.invokevirtual index, 3)) (hS0 : cells ≤ R.cells ∧ slots ≤ R.slots) (hst : As.reverse ++ .ref b :: rest = st0) (k : ∀ v, post v → gG I p l e R s m args below meth c Q nL cells slots (pc + 3) lv (v.toList ++ rest) ws) : gG I p l e R s m args below meth c Q nL cells slots pc lv st0 ws := by
  refine g_callP (rest := rest) (fun H locs ls hI hl => ?_) k
  exact va_runV ⟨C.1, C.2.1, C.2.2.1, C.2.2.2.1, C.2.2.2.2.1⟩ hM (cwV n C.2.2.2.2.1 hg hw hrm.1 hrm.2 ⟨rfl, hy⟩ hR) ⟨fun a U g mk q => ⟨q.1, hX.1.2 _ _ _ _ _ q.2.1, q.2.2.1, va_K.moved (u := U) (U := U.calling g mk a) (Vm.Alike.refl U.vm) q.2.2.2⟩, va_recv C.2.2.2.2.2.1 (C.2.2.2.2.2.2 _ _ _ hI).1 hrc hre, fun U hU hW => ⟨rfl, hX.1.1 A _ s U locs (by rw [hU]; exact (C.2.2.2.2.2.2 _ _ _ hI).2) hW (fun _ _ f => f.elim) hX.2, by rw [hU]; exact (C.2.2.2.2.2.2 _ _ _ hI).1.sub isC hC, va_K.moved hW.alike C.2.2.2.2.2.1⟩⟩ rfl hnA hl.1 hst.symm (lv_room hrest) hd hS0
theorem g_callUS (C : g_Cx (g_IU A D s) p s m args c cc nL A D ty own Ts) (hX : g_Xok X ∧ X A s) (hM : g_U l y wsc rm D ty X As win mc ms postU) (hw : wsc = Cond.code y bytes maxL ret :: wsc') (hg : GoodIn Ts (va_wsS own index y wsc)) (n : Nat) (hy : y.cls ≠ "java/lang/invoke/MethodHandle" ∧ y.cls ≠ "java/lang/invoke/VarHandle" ∧ (parseMethodDescriptor y.desc).map (fun d => d.parameters.length) = some n) (hnA : As.length = n) (hrm : rm.cells = mc ∧ rm.slots = ms) (hR : rm.frames + 1 ≤ R.frames ∧ 8 + (maxL + 11) + rm.locals ≤ R.locals) (hA : ∀ q, s.heap.size ≤ q → A q) (isC isR : List Nat) (hC : isC.map (fun i => ws[i]?) = win.map some) (hCf : isC.filterMap (fun i => ws[i]?) = win) (hnC : va_nd isC = true) (hRr : isR.map (fun i => ws[i]?) = wr.map some) (hn : va_nd isR = true) (hdis : isR.all (fun i => !isC.contains i) = true) (hrest : (rest.map fun v => v.category).sum ≤ 8) (hd : decode cc pc = .ok (.invokestatic index, 3)) (hS0 : cells + mc ≤ R.cells ∧ slots + ms ≤ R.slots) (hst : As.reverse ++ rest = st0) (k : ∀ v w, postU v w → gG (g_IU A D s) p l e R s m args below meth c Q nL (cells + mc) (slots + ms) (pc + 3) lv (v.toList ++ rest) (wr ++ w)) : gG (g_IU A D s) p l e R s m args below meth c Q nL cells slots pc lv st0 ws := by
  refine g_callU (rest := rest) (wc := win) hA isC isR hC hRr hn hdis (fun H locs ls hI hl => ?_) k
  exact va_runS ⟨C.1, C.2.1, C.2.2.1, C.2.2.2.1, C.2.2.2.2.1⟩ (hM H.size) (va_cwS n C.2.2.2.2.1 hg hw hrm.1 hrm.2 hy hR) ⟨fun a U g mk q => ⟨q.1, q.2.1, hX.1.2 _ _ _ _ _ q.2.2.1, q.2.2.2.1, va_K.moved (u := U) (U := U.calling g mk a) (Vm.Alike.refl U.vm) q.2.2.2.2.1, q.2.2.2.2.2⟩, fun U hU hW => ⟨rfl, by rw [hU], hX.1.1 A _ s U locs (by rw [hU]; exact hI.2.2) hW (fun q _ f => va_free hI.2.1 hI.2.2 hA isC hC q f) hX.2, by rw [hU]; exact hI.1.sub isC hCf, va_K.moved hW.alike C.2.2.2.2.2.1, (hI.2.1.sub isC hnC hC).weaken (fun _ _ _ _ => trivial)⟩⟩ rfl hnA hl.1 hst.symm (lv_room hrest) hd hS0
theorem g_callUV {b ci N q0 : Nat} {fs : List Value} {T : u_T} (C : g_Cx (g_IU A D s) p s m args c cc nL A D ty own Ts) (hX : g_Xok X ∧ X A s) (hM : g_U l y wsc rm D ty X (.ref b :: As) win mc ms postU) (hw : wsc = Cond.code y bytes maxL ret :: wsc') (hg : GoodIn Ts (wsV own index y.cls y wsc)) (n : Nat) (hy : y.cls ≠ "java/lang/invoke/MethodHandle" ∧ y.cls ≠ "java/lang/invoke/VarHandle" ∧ (parseMethodDescriptor y.desc).map (fun d => d.parameters.length) = some n) (hnA : As.length = n) (hrm : rm.cells = mc ∧ rm.slots = ms) (hR : rm.frames + 1 ≤ R.frames ∧ 8 + (maxL + 11) + rm.locals ≤ R.locals) (hrc : vwCl[ci]? = some (y.cls, T, N)) (hre : ws[q0]? = some (b, .inr (ci, fs))) (hA : ∀ q, s.heap.size ≤ q → A q) (isC isR : List Nat) (hC : isC.map (fun i => ws[i]?) = win.map some) (hCf : isC.filterMap (fun i => ws[i]?) = win) (hnC : va_nd isC = true) (hRr : isR.map (fun i => ws[i]?) = wr.map some) (hn : va_nd isR = true) (hdis : isR.all (fun i => !isC.contains i) = true) (hrest : (rest.map fun v => v.category).sum ≤ 8) (hd : decode cc pc = .ok (.invokevirtual index, 3)) (hS0 : cells + mc ≤ R.cells ∧ slots + ms ≤ R.slots) (hst : As.reverse ++ .ref b :: rest = st0) (k : ∀ v w, postU v w → gG (g_IU A D s) p l e R s m args below meth c Q nL (cells + mc) (slots + ms) (pc + 3) lv (v.toList ++ rest) (wr ++ w)) : gG (g_IU A D s) p l e R s m args below meth c Q nL cells slots pc lv st0 ws := by
  refine g_callU (rest := rest) (wc := win) hA isC isR hC hRr hn hdis (fun H locs ls hI hl => ?_) k
  exact va_runV ⟨C.1, C.2.1, C.2.2.1, C.2.2.2.1, C.2.2.2.2.1⟩ (hM H.size) (cwV n C.2.2.2.2.1 hg hw hrm.1 hrm.2 ⟨rfl, hy⟩ hR) ⟨fun a U g mk q => ⟨q.1, q.2.1, hX.1.2 _ _ _ _ _ q.2.2.1, q.2.2.2.1, va_K.moved (u := U) (U := U.calling g mk a) (Vm.Alike.refl U.vm) q.2.2.2.2.1, q.2.2.2.2.2⟩, va_recv C.2.2.2.2.2.1 hI.1 hrc hre, fun U hU hW => ⟨rfl, by rw [hU], hX.1.1 A _ s U locs (by rw [hU]; exact hI.2.2) hW (fun q _ f => va_free hI.2.1 hI.2.2 hA isC hC q f) hX.2, by rw [hU]; exact hI.1.sub isC hCf, va_K.moved hW.alike C.2.2.2.2.2.1, (hI.2.1.sub isC hnC hC).weaken (fun _ _ _ _ => trivial)⟩⟩ rfl hnA hl.1 hst.symm (lv_room hrest) hd hS0
theorem g_ofPi {pst : Int32 → Prop} (hy : plainName y.cls = true) (hcl : y.cls = own) (hw : wsc = Cond.code y cc nL (some .int) :: wsc') (hX : g_Xok X) (hlen : (lg_sl As).length ≤ nL)
    (k : ∀ (p : Program) (e : Env) (s : State) (m : MethodId) (args : Array Value) (below : List Frame) (meth : Method) (c : Code) (Q : State → Prop), g_Cx (g_IP D s win) p s m args c cc nL (fun _ => False) D ty own wsc → (g_Xok X ∧ X (fun _ => False) s) →
      (∀ (r : Int32) (pc : Nat) (lv : g_Lv) (w : va_W), decode cc pc = .ok (.ireturn, 1) → pst r → gG (g_IP D s win) p l e rm s m args below meth c Q nL 0 0 pc lv [.int r] w) →
      gG (g_IP D s win) p l e rm s m args below meth c Q nL 0 0 0 (lv_args 0 As) [] win) : g_P l y wsc rm D ty X As win (g_pi pst) := by
  refine Met.ofW (cc := cc) (maxL := nL) (ret := some .int) hy hw ?_
  intro p e s m args below meth c s₁ B hml hv
  obtain ⟨rfl, hx0, hP, hK⟩ := hv
  have hb := B.bytes
  have hr := B.returns
  have hlocks := B.notSynchronized
  have hl := lv_entry As (n := nL) hlen
  rw [lg_entry_eq]
  refine k p e s m _ below meth c _ ⟨B.exec, hb, hml, by rw [← hcl]; exact findClass_of_methodNamed B.named, atoms_spec (ws := wsc) B.pre, hK, fun w H locs h => ?_⟩ ⟨hX, hx0⟩ (fun r pc lv w hd hp H locs ls h hl9 => ?_) s.heap [] _ ⟨rfl, rfl, rfl, hP⟩ hl
  · obtain ⟨rfl, rfl, rfl, h4⟩ := h
    exact ⟨h4, va_S.rf⟩
  · obtain ⟨rfl, rfl, rfl, h4⟩ := h
    exact W.iret (v := r) B.exec hb hr (fun t ht hW => ⟨⟨_, rfl, r, rfl, hp⟩, ht⟩) (fun q hq => absurd hq List.not_mem_nil) hd hlocks
theorem g_ofPz {pst : Int32 → Prop} (hy : plainName y.cls = true) (hcl : y.cls = own) (hw : wsc = Cond.code y cc nL (some .boolean) :: wsc') (hX : g_Xok X) (hlen : (lg_sl As).length ≤ nL)
    (k : ∀ (p : Program) (e : Env) (s : State) (m : MethodId) (args : Array Value) (below : List Frame) (meth : Method) (c : Code) (Q : State → Prop), g_Cx (g_IP D s win) p s m args c cc nL (fun _ => False) D ty own wsc → (g_Xok X ∧ X (fun _ => False) s) →
      (∀ (r : Int32) (pc : Nat) (lv : g_Lv) (w : va_W) (hz : narrow .boolean (.int r) = .int r), decode cc pc = .ok (.ireturn, 1) → pst r → gG (g_IP D s win) p l e rm s m args below meth c Q nL 0 0 pc lv [.int r] w) →
      gG (g_IP D s win) p l e rm s m args below meth c Q nL 0 0 0 (lv_args 0 As) [] win) : g_P l y wsc rm D ty X As win (g_pi pst) := by
  refine Met.ofW (cc := cc) (maxL := nL) (ret := some .boolean) hy hw ?_
  intro p e s m args below meth c s₁ B hml hv
  obtain ⟨rfl, hx0, hP, hK⟩ := hv
  have hb := B.bytes
  have hr := B.returns
  have hlocks := B.notSynchronized
  have hl := lv_entry As (n := nL) hlen
  rw [lg_entry_eq]
  refine k p e s m _ below meth c _ ⟨B.exec, hb, hml, by rw [← hcl]; exact findClass_of_methodNamed B.named, atoms_spec (ws := wsc) B.pre, hK, fun w H locs h => ?_⟩ ⟨hX, hx0⟩ (fun r pc lv w hz hd hp H locs ls h hl9 => ?_) s.heap [] _ ⟨rfl, rfl, rfl, hP⟩ hl
  · obtain ⟨rfl, rfl, rfl, h4⟩ := h
    exact ⟨h4, va_S.rf⟩
  · obtain ⟨rfl, rfl, rfl, h4⟩ := h
    exact W.zret (v := r) B.exec hb hr hz (fun t ht hW => ⟨⟨_, rfl, r, rfl, hp⟩, ht⟩) (fun q hq => absurd hq List.not_mem_nil) hd hlocks
theorem g_ofPl {pst : Int64 → Prop} (hy : plainName y.cls = true) (hcl : y.cls = own) (hw : wsc = Cond.code y cc nL (some .long) :: wsc') (hX : g_Xok X) (hlen : (lg_sl As).length ≤ nL)
    (k : ∀ (p : Program) (e : Env) (s : State) (m : MethodId) (args : Array Value) (below : List Frame) (meth : Method) (c : Code) (Q : State → Prop), g_Cx (g_IP D s win) p s m args c cc nL (fun _ => False) D ty own wsc → (g_Xok X ∧ X (fun _ => False) s) →
      (∀ (r : Int64) (pc : Nat) (lv : g_Lv) (w : va_W), decode cc pc = .ok (.lreturn, 1) → pst r → gG (g_IP D s win) p l e rm s m args below meth c Q nL 0 0 pc lv [.long r] w) →
      gG (g_IP D s win) p l e rm s m args below meth c Q nL 0 0 0 (lv_args 0 As) [] win) : g_P l y wsc rm D ty X As win (g_pl pst) := by
  refine Met.ofW (cc := cc) (maxL := nL) (ret := some .long) hy hw ?_
  intro p e s m args below meth c s₁ B hml hv
  obtain ⟨rfl, hx0, hP, hK⟩ := hv
  have hb := B.bytes
  have hr := B.returns
  have hlocks := B.notSynchronized
  have hl := lv_entry As (n := nL) hlen
  rw [lg_entry_eq]
  refine k p e s m _ below meth c _ ⟨B.exec, hb, hml, by rw [← hcl]; exact findClass_of_methodNamed B.named, atoms_spec (ws := wsc) B.pre, hK, fun w H locs h => ?_⟩ ⟨hX, hx0⟩ (fun r pc lv w hd hp H locs ls h hl9 => ?_) s.heap [] _ ⟨rfl, rfl, rfl, hP⟩ hl
  · obtain ⟨rfl, rfl, rfl, h4⟩ := h
    exact ⟨h4, va_S.rf⟩
  · obtain ⟨rfl, rfl, rfl, h4⟩ := h
    exact W.lret (v := r) B.exec hb hr (fun t ht hW => ⟨⟨_, rfl, r, rfl, hp⟩, ht⟩) (fun q hq => absurd hq List.not_mem_nil) hd hlocks
theorem g_ofUi {pst : Int32 → va_W → Prop} (hy : plainName y.cls = true) (hcl : y.cls = own) (hw : wsc = Cond.code y cc nL (some .int) :: wsc') (hX : g_Xok X) (hlen : (lg_sl As).length ≤ nL)
    (k : ∀ (p : Program) (e : Env) (s : State) (m : MethodId) (args : Array Value) (below : List Frame) (meth : Method) (c : Code) (Q : State → Prop) (A : Nat → Prop), g_Cx (g_IU A D s) p s m args c cc nL A D ty own wsc → (∀ q, s.heap.size ≤ q → A q) → (g_Xok X ∧ X A s) → meth.name = y.name →
      (∀ (r : Int32) (cells slots pc : Nat) (lv : g_Lv) (w : va_W), decode cc pc = .ok (.ireturn, 1) → pst r w → cells ≤ mc → slots ≤ ms → gG (g_IU A D s) p l e rm s m args below meth c Q nL cells slots pc lv [.int r] w) →
      gG (g_IU A D s) p l e rm s m args below meth c Q nL 0 0 0 (lv_args 0 As) [] win) : g_U l y wsc rm D ty X As win mc ms (g_ui pst) := by
  intro sz
  refine Met.ofW (cc := cc) (maxL := nL) (ret := some .int) hy hw ?_
  intro p e s m args below meth c s₁ B hml hv
  obtain ⟨rfl, hsz, hx0, hP, hK, hD0⟩ := hv
  subst hsz
  have hb := B.bytes
  have hr := B.returns
  have hlocks := B.notSynchronized
  have hl := lv_entry As (n := nL) hlen
  rw [lg_entry_eq]
  refine k p e s m _ below meth c _ (va_A win s.heap.size) ⟨B.exec, hb, hml, by rw [← hcl]; exact findClass_of_methodNamed B.named, atoms_spec (ws := wsc) B.pre, hK, fun w H locs h => ⟨h.1, h.2.2⟩⟩ (fun q h => Or.inr h) ⟨hX, hx0⟩ (name_of_methodNamed B.named B.method).1 (fun r cells slots pc lv w hd hp h1 h2 H locs ls hI hl9 => ?_) s.heap [] _ ⟨hP, hD0.self, va_S.rf⟩ hl
  refine W.widen h1 h2 ?_
  exact W.iret (v := r) B.exec hb hr (fun t ht hW => ⟨⟨_, _, rfl, ⟨r, rfl, hp⟩, by rw [ht]; exact hI.1, hI.2.1⟩, hI.2.2.F ht⟩) hI.2.2.2.2 hd hlocks
theorem g_ofUz {pst : Int32 → va_W → Prop} (hy : plainName y.cls = true) (hcl : y.cls = own) (hw : wsc = Cond.code y cc nL (some .boolean) :: wsc') (hX : g_Xok X) (hlen : (lg_sl As).length ≤ nL)
    (k : ∀ (p : Program) (e : Env) (s : State) (m : MethodId) (args : Array Value) (below : List Frame) (meth : Method) (c : Code) (Q : State → Prop) (A : Nat → Prop), g_Cx (g_IU A D s) p s m args c cc nL A D ty own wsc → (∀ q, s.heap.size ≤ q → A q) → (g_Xok X ∧ X A s) → meth.name = y.name →
      (∀ (r : Int32) (cells slots pc : Nat) (lv : g_Lv) (w : va_W) (hz : narrow .boolean (.int r) = .int r), decode cc pc = .ok (.ireturn, 1) → pst r w → cells ≤ mc → slots ≤ ms → gG (g_IU A D s) p l e rm s m args below meth c Q nL cells slots pc lv [.int r] w) →
      gG (g_IU A D s) p l e rm s m args below meth c Q nL 0 0 0 (lv_args 0 As) [] win) : g_U l y wsc rm D ty X As win mc ms (g_ui pst) := by
  intro sz
  refine Met.ofW (cc := cc) (maxL := nL) (ret := some .boolean) hy hw ?_
  intro p e s m args below meth c s₁ B hml hv
  obtain ⟨rfl, hsz, hx0, hP, hK, hD0⟩ := hv
  subst hsz
  have hb := B.bytes
  have hr := B.returns
  have hlocks := B.notSynchronized
  have hl := lv_entry As (n := nL) hlen
  rw [lg_entry_eq]
  refine k p e s m _ below meth c _ (va_A win s.heap.size) ⟨B.exec, hb, hml, by rw [← hcl]; exact findClass_of_methodNamed B.named, atoms_spec (ws := wsc) B.pre, hK, fun w H locs h => ⟨h.1, h.2.2⟩⟩ (fun q h => Or.inr h) ⟨hX, hx0⟩ (name_of_methodNamed B.named B.method).1 (fun r cells slots pc lv w hz hd hp h1 h2 H locs ls hI hl9 => ?_) s.heap [] _ ⟨hP, hD0.self, va_S.rf⟩ hl
  refine W.widen h1 h2 ?_
  exact W.zret (v := r) B.exec hb hr hz (fun t ht hW => ⟨⟨_, _, rfl, ⟨r, rfl, hp⟩, by rw [ht]; exact hI.1, hI.2.1⟩, hI.2.2.F ht⟩) hI.2.2.2.2 hd hlocks
theorem g_ofUl {pst : Int64 → va_W → Prop} (hy : plainName y.cls = true) (hcl : y.cls = own) (hw : wsc = Cond.code y cc nL (some .long) :: wsc') (hX : g_Xok X) (hlen : (lg_sl As).length ≤ nL)
    (k : ∀ (p : Program) (e : Env) (s : State) (m : MethodId) (args : Array Value) (below : List Frame) (meth : Method) (c : Code) (Q : State → Prop) (A : Nat → Prop), g_Cx (g_IU A D s) p s m args c cc nL A D ty own wsc → (∀ q, s.heap.size ≤ q → A q) → (g_Xok X ∧ X A s) → meth.name = y.name →
      (∀ (r : Int64) (cells slots pc : Nat) (lv : g_Lv) (w : va_W), decode cc pc = .ok (.lreturn, 1) → pst r w → cells ≤ mc → slots ≤ ms → gG (g_IU A D s) p l e rm s m args below meth c Q nL cells slots pc lv [.long r] w) →
      gG (g_IU A D s) p l e rm s m args below meth c Q nL 0 0 0 (lv_args 0 As) [] win) : g_U l y wsc rm D ty X As win mc ms (g_ul pst) := by
  intro sz
  refine Met.ofW (cc := cc) (maxL := nL) (ret := some .long) hy hw ?_
  intro p e s m args below meth c s₁ B hml hv
  obtain ⟨rfl, hsz, hx0, hP, hK, hD0⟩ := hv
  subst hsz
  have hb := B.bytes
  have hr := B.returns
  have hlocks := B.notSynchronized
  have hl := lv_entry As (n := nL) hlen
  rw [lg_entry_eq]
  refine k p e s m _ below meth c _ (va_A win s.heap.size) ⟨B.exec, hb, hml, by rw [← hcl]; exact findClass_of_methodNamed B.named, atoms_spec (ws := wsc) B.pre, hK, fun w H locs h => ⟨h.1, h.2.2⟩⟩ (fun q h => Or.inr h) ⟨hX, hx0⟩ (name_of_methodNamed B.named B.method).1 (fun r cells slots pc lv w hd hp h1 h2 H locs ls hI hl9 => ?_) s.heap [] _ ⟨hP, hD0.self, va_S.rf⟩ hl
  refine W.widen h1 h2 ?_
  exact W.lret (v := r) B.exec hb hr (fun t ht hW => ⟨⟨_, _, rfl, ⟨r, rfl, hp⟩, by rw [ht]; exact hI.1, hI.2.1⟩, hI.2.2.F ht⟩) hI.2.2.2.2 hd hlocks
theorem g_ofUv {pst : va_W → Prop} (hy : plainName y.cls = true) (hcl : y.cls = own) (hw : wsc = Cond.code y cc nL (none) :: wsc') (hX : g_Xok X) (hlen : (lg_sl As).length ≤ nL)
    (k : ∀ (p : Program) (e : Env) (s : State) (m : MethodId) (args : Array Value) (below : List Frame) (meth : Method) (c : Code) (Q : State → Prop) (A : Nat → Prop), g_Cx (g_IU A D s) p s m args c cc nL A D ty own wsc → (∀ q, s.heap.size ≤ q → A q) → (g_Xok X ∧ X A s) → meth.name = y.name →
      (∀ (cells slots pc : Nat) (lv : g_Lv) (w : va_W), decode cc pc = .ok (.return_, 1) → pst w → cells ≤ mc → slots ≤ ms → gG (g_IU A D s) p l e rm s m args below meth c Q nL cells slots pc lv [] w) →
      gG (g_IU A D s) p l e rm s m args below meth c Q nL 0 0 0 (lv_args 0 As) [] win) : g_U l y wsc rm D ty X As win mc ms (g_uv pst) := by
  intro sz
  refine Met.ofW (cc := cc) (maxL := nL) (ret := none) hy hw ?_
  intro p e s m args below meth c s₁ B hml hv
  obtain ⟨rfl, hsz, hx0, hP, hK, hD0⟩ := hv
  subst hsz
  have hb := B.bytes
  have hr := B.returns
  have hlocks := B.notSynchronized
  have hl := lv_entry As (n := nL) hlen
  rw [lg_entry_eq]
  refine k p e s m _ below meth c _ (va_A win s.heap.size) ⟨B.exec, hb, hml, by rw [← hcl]; exact findClass_of_methodNamed B.named, atoms_spec (ws := wsc) B.pre, hK, fun w H locs h => ⟨h.1, h.2.2⟩⟩ (fun q h => Or.inr h) ⟨hX, hx0⟩ (name_of_methodNamed B.named B.method).1 (fun cells slots pc lv w hd hp h1 h2 H locs ls hI hl9 => ?_) s.heap [] _ ⟨hP, hD0.self, va_S.rf⟩ hl
  refine W.widen h1 h2 ?_
  exact W.vret B.exec hb hr (fun t ht hW => ⟨⟨_, _, rfl, ⟨rfl, hp⟩, by rw [ht]; exact hI.1, hI.2.1⟩, hI.2.2.F ht⟩) hI.2.2.2.2 hd hlocks
theorem g_ki {pst : Int32 → Prop} (k : ∀ r, pst r → gG I p l e R s m args below meth c Q nL cells slots pc lv (.int r :: rest) ws) : ∀ v, g_pi pst v → gG I p l e R s m args below meth c Q nL cells slots pc lv (v.toList ++ rest) ws := by
  rintro _ ⟨r, rfl, h⟩
  exact k r h
theorem g_kl {pst : Int64 → Prop} (k : ∀ r, pst r → gG I p l e R s m args below meth c Q nL cells slots pc lv (.long r :: rest) ws) : ∀ v, g_pl pst v → gG I p l e R s m args below meth c Q nL cells slots pc lv (v.toList ++ rest) ws := by
  rintro _ ⟨r, rfl, h⟩
  exact k r h
theorem g_kui {pst : Int32 → va_W → Prop} (k : ∀ r w, pst r w → gG I p l e R s m args below meth c Q nL cells slots pc lv (.int r :: rest) (wr ++ w)) : ∀ v w, g_ui pst v w → gG I p l e R s m args below meth c Q nL cells slots pc lv (v.toList ++ rest) (wr ++ w) := by
  rintro _ w ⟨r, rfl, h⟩
  exact k r w h
theorem g_kul {pst : Int64 → va_W → Prop} (k : ∀ r w, pst r w → gG I p l e R s m args below meth c Q nL cells slots pc lv (.long r :: rest) (wr ++ w)) : ∀ v w, g_ul pst v w → gG I p l e R s m args below meth c Q nL cells slots pc lv (v.toList ++ rest) (wr ++ w) := by
  rintro _ w ⟨r, rfl, h⟩
  exact k r w h
theorem g_kuv {pst : va_W → Prop} (k : ∀ w, pst w → gG I p l e R s m args below meth c Q nL cells slots pc lv rest (wr ++ w)) : ∀ v w, g_uv pst v w → gG I p l e R s m args below meth c Q nL cells slots pc lv (v.toList ++ rest) (wr ++ w) := by
  rintro _ w ⟨rfl, h⟩
  exact k w h
end GC
section GL
end GL
end
section
/-! ===== lN n to 2^64: shifts, and, or, masks, one bit ===== -/
theorem wb_tb (n : Nat) : (lN n).toBitVec = BitVec.ofNat 64 n := rfl
theorem wb_inj {a b : Int64} (h : a.toBitVec = b.toBitVec) : a = b := Int64.toBitVec_inj.mp h
theorem wb_tn {n : Nat} (h : n < 2 ^ 64) : (lN n).toBitVec.toNat = n := by rw [wb_tb, BitVec.toNat_ofNat, Nat.mod_eq_of_lt h]
theorem wb_of (x : Int64) : ∃ n, n < 2 ^ 64 ∧ x = lN n := ⟨x.toBitVec.toNat, x.toBitVec.isLt, wb_inj (by rw [wb_tb]; simp)⟩
theorem wb_of32 (x : Int32) : ∃ n, n < 2 ^ 32 ∧ x = nI n := ⟨x.toBitVec.toNat, x.toBitVec.isLt, Int32.toBitVec_inj.mp (by show _ = BitVec.ofNat 32 _; simp)⟩
theorem wb_c : ∀ k, k < 64 → ((nI k).toInt64 &&& 63) = lN k := by decide +kernel
theorem wb_cu : ∀ k, k < 64 → ((nI k).toInt64.toUInt64 &&& Int64.toUInt64 63) = UInt64.ofNat k := by decide +kernel
theorem wb_sm : ∀ k, k < 64 → (BitVec.ofNat 64 k).smod 64 = BitVec.ofNat 64 k := by decide +kernel
theorem wb_pw {a b : Nat} (h : a ≤ b) : 2 ^ b = 2 ^ a * 2 ^ (b - a) := by rw [← Nat.pow_add]; congr 1; omega
theorem wb_lt2 {a b : Nat} (h : a < b) : 2 ^ a < 2 ^ b := Nat.pow_lt_pow_right (by decide) h
theorem wb_mod (n : Nat) : lN n = lN (n % 2 ^ 64) := wb_inj (by rw [wb_tb, wb_tb]; apply BitVec.eq_of_toNat_eq; rw [BitVec.toNat_ofNat, BitVec.toNat_ofNat, Nat.mod_mod])
theorem wb_shr {n k : Nat} (hn : n < 2 ^ 64) (hk : k < 64) : ((lN n).toUInt64 >>> ((nI k).toInt64.toUInt64 &&& Int64.toUInt64 63)).toInt64 = lN (n / 2 ^ k) := by
  rw [wb_cu k hk]
  apply wb_inj
  apply BitVec.eq_of_toNat_eq
  show ((lN n).toUInt64 >>> UInt64.ofNat k).toNat = (BitVec.ofNat 64 _).toNat
  have h1 : (UInt64.ofNat k).toNat = k := by
    show (BitVec.ofNat 64 k).toNat = k
    rw [BitVec.toNat_ofNat, Nat.mod_eq_of_lt (by omega)]
  have h2 : (lN n).toUInt64.toNat = n := wb_tn hn
  rw [UInt64.toNat_shiftRight, h1, h2, Nat.mod_eq_of_lt hk, Nat.shiftRight_eq_div_pow, BitVec.toNat_ofNat, Nat.mod_eq_of_lt (Nat.lt_of_le_of_lt (Nat.div_le_self _ _) hn)]
theorem wb_shl (n : Nat) {k : Nat} (hk : k < 64) : lN n <<< ((nI k).toInt64 &&& 63) = lN (n * 2 ^ k) := by
  rw [wb_c k hk]
  apply wb_inj
  rw [Int64.toBitVec_shiftLeft, wb_tb, wb_tb, wb_tb, wb_sm k hk]
  apply BitVec.eq_of_toNat_eq
  rw [BitVec.shiftLeft_eq', BitVec.toNat_shiftLeft, BitVec.toNat_ofNat, BitVec.toNat_ofNat, BitVec.toNat_ofNat, Nat.mod_eq_of_lt (show k < 2 ^ 64 by omega), Nat.shiftLeft_eq, Nat.mul_mod, Nat.mod_mod, ← Nat.mul_mod]
theorem wb_and {a b : Nat} (ha : a < 2 ^ 64) (hb : b < 2 ^ 64) : lN a &&& lN b = lN (a &&& b) := by
  apply wb_inj
  rw [Int64.toBitVec_and, wb_tb, wb_tb, wb_tb]
  apply BitVec.eq_of_toNat_eq
  rw [BitVec.toNat_and, BitVec.toNat_ofNat, BitVec.toNat_ofNat, BitVec.toNat_ofNat, Nat.mod_eq_of_lt ha, Nat.mod_eq_of_lt hb, Nat.mod_eq_of_lt (Nat.and_lt_two_pow _ hb)]
theorem wb_or {a b : Nat} (ha : a < 2 ^ 64) (hb : b < 2 ^ 64) : lN a ||| lN b = lN (a ||| b) := by
  apply wb_inj
  rw [Int64.toBitVec_or, wb_tb, wb_tb, wb_tb]
  apply BitVec.eq_of_toNat_eq
  rw [BitVec.toNat_or, BitVec.toNat_ofNat, BitVec.toNat_ofNat, BitVec.toNat_ofNat, Nat.mod_eq_of_lt ha, Nat.mod_eq_of_lt hb, Nat.mod_eq_of_lt (Nat.or_lt_two_pow ha hb)]
theorem wb_mask {n k : Nat} (hn : n < 2 ^ 64) (hk : k < 64) : lN n &&& lN (2 ^ k - 1) = lN (n % 2 ^ k) := by
  rw [wb_and hn (by have := wb_lt2 hk; omega), Nat.and_two_pow_sub_one_eq_mod]
theorem wb_a1 {n : Nat} (hn : n < 2 ^ 64) : lN n &&& 1 = lN (n % 2) := wb_mask (k := 1) hn (by decide)
theorem wb_bit {n k : Nat} (hn : n < 2 ^ 64) (hk : k < 64) : ((lN n).toUInt64 >>> ((nI k).toInt64.toUInt64 &&& Int64.toUInt64 63)).toInt64 &&& 1 = lN (n / 2 ^ k % 2) := by
  rw [wb_shr hn hk, wb_a1 (Nat.lt_of_le_of_lt (Nat.div_le_self _ _) hn)]
theorem wb_xor {q k : Nat} (hk : k < 63) (h : 2 ^ k ≤ q) (h2 : q < 2 ^ (k + 1)) : lN q ^^^ lN (2 ^ k) = lN (q - 2 ^ k) := by
  obtain ⟨r, rfl⟩ : ∃ r, q = 2 ^ k + r := ⟨q - 2 ^ k, by omega⟩
  have hr : r < 2 ^ k := by rw [Nat.pow_succ] at h2; omega
  have hx : (2 ^ k + r) ^^^ 2 ^ k = r := by
    apply Nat.eq_of_testBit_eq
    intro i
    rw [Nat.testBit_xor, Nat.testBit_two_pow]
    rcases Nat.lt_trichotomy i k with h | h | h
    · rw [Nat.testBit_two_pow_add_gt h]
      simp [show ¬ k = i by omega]
    · subst h
      rw [Nat.testBit_two_pow_add_eq]
      simp
    · have a1 : 2 ^ (k + 1) ≤ 2 ^ i := Nat.pow_le_pow_right (by decide) h
      rw [Nat.testBit_lt_two_pow (show 2 ^ k + r < 2 ^ i by omega), Nat.testBit_lt_two_pow (show r < 2 ^ i by omega)]
      simp [show ¬ k = i by omega]
  have b1 := wb_lt2 (show k + 1 < 64 by omega)
  have b2 := wb_lt2 (show k < 64 by omega)
  apply wb_inj
  rw [Int64.toBitVec_xor, wb_tb, wb_tb, wb_tb]
  apply BitVec.eq_of_toNat_eq
  rw [BitVec.toNat_xor, BitVec.toNat_ofNat, BitVec.toNat_ofNat, BitVec.toNat_ofNat, Nat.mod_eq_of_lt (by omega : 2 ^ k + r < 2 ^ 64), Nat.mod_eq_of_lt b2, hx, Nat.add_sub_cancel_left, Nat.mod_eq_of_lt (by omega)]
/-! ===== Int64 as an unsigned number: uN x ===== -/
def uN (x : Int64) : Nat := x.toUInt64.toNat
theorem uN_lt (x : Int64) : uN x < 18446744073709551616 := x.toUInt64.toNat_lt
theorem uN_inj {x y : Int64} (h : uN x = uN y) : x = y := congrArg UInt64.toInt64 (UInt64.toNat_inj.mp h)
theorem uN_add (x y : Int64) : uN (x + y) = (uN x + uN y) % 18446744073709551616 := by
  show (x.toUInt64 + y.toUInt64).toNat = _
  exact UInt64.toNat_add _ _
theorem uN_mul (x y : Int64) : uN (x * y) = (uN x * uN y) % 18446744073709551616 := by
  show (x.toUInt64 * y.toUInt64).toNat = _
  exact UInt64.toNat_mul _ _
theorem uN_shl (x : Int64) : uN (x <<< ((1 : Int32).toInt64 &&& 63)) = (2 * uN x) % 18446744073709551616 := by
  have h : (((1 : Int32).toInt64 &&& 63).toBitVec.smod 64).toNat = 1 := by decide
  show (x.toBitVec <<< (((1 : Int32).toInt64 &&& 63).toBitVec.smod 64).toNat).toNat = _
  rw [h, BitVec.toNat_shiftLeft, Nat.shiftLeft_eq, Nat.mul_comm]
  rfl
theorem uN_shr (x : Int64) (s : UInt64) : uN (x.toUInt64 >>> s).toInt64 = uN x / 2 ^ (s.toNat % 64) := by
  show (x.toUInt64 >>> s).toNat = _
  rw [UInt64.toNat_shiftRight, Nat.shiftRight_eq_div_pow]
  rfl
theorem uN_s32 (x : Int64) : uN (x.toUInt64 >>> ((32 : Int32).toInt64.toUInt64 &&& Int64.toUInt64 63)).toInt64 = uN x / 4294967296 := by
  have h : ((32 : Int32).toInt64.toUInt64 &&& Int64.toUInt64 63).toNat % 64 = 32 := by decide
  rw [uN_shr, h]
theorem uN_s63 (x : Int64) : uN (x.toUInt64 >>> ((63 : Int32).toInt64.toUInt64 &&& Int64.toUInt64 63)).toInt64 = uN x / 9223372036854775808 := by
  have h : ((63 : Int32).toInt64.toUInt64 &&& Int64.toUInt64 63).toNat % 64 = 63 := by decide
  rw [uN_shr, h]
theorem uN_lo (x : Int64) : uN (x &&& 4294967295) = uN x % 4294967296 := by
  show (x.toUInt64 &&& Int64.toUInt64 4294967295).toNat = _
  rw [UInt64.toNat_and]
  exact Nat.and_two_pow_sub_one_eq_mod _ 32
theorem uN_bit (x : Int64) : (x &&& 1) = 0 ↔ uN x % 2 = 0 := by
  have h : uN (x &&& 1) = uN x % 2 := by
    show (x.toUInt64 &&& Int64.toUInt64 1).toNat = _
    rw [UInt64.toNat_and]
    exact Nat.and_two_pow_sub_one_eq_mod _ 1
  rw [← h]
  exact ⟨fun z => by rw [z]; rfl, fun z => uN_inj (z.trans rfl)⟩
theorem uN_or {x y : Int64} (hy : uN y < 2) : uN ((x <<< ((1 : Int32).toInt64 &&& 63)) ||| y) = (2 * uN x) % 18446744073709551616 + uN y := by
  have h1 : uN ((x <<< ((1 : Int32).toInt64 &&& 63)) ||| y) = uN (x <<< ((1 : Int32).toInt64 &&& 63)) ||| uN y := UInt64.toNat_or _ _
  have h2 : (2 * uN x) % 18446744073709551616 = 2 ^ 1 * (uN x % 9223372036854775808) := by omega
  rw [h1, uN_shl, h2]
  exact (Nat.two_pow_add_eq_or_of_lt (i := 1) hy _).symm
theorem nat_xor {a : Nat} (h : a < 18446744073709551616) : a ^^^ 2 ^ 63 = (a + 9223372036854775808) % 18446744073709551616 := by
  have h1 : (a ^^^ 2 ^ 63) % 2 ^ 63 = a % 2 ^ 63 := by rw [Nat.xor_mod_two_pow, Nat.mod_self, Nat.xor_zero]
  have h2 : (a ^^^ 2 ^ 63) / 2 ^ 63 = (a / 2 ^ 63) ^^^ 1 := by rw [Nat.xor_div_two_pow, Nat.div_self (Nat.two_pow_pos 63)]
  have h3 : a / 2 ^ 63 = 0 ∨ a / 2 ^ 63 = 1 := by omega
  generalize a ^^^ 2 ^ 63 = t at h1 h2
  rcases h3 with h3 | h3
  · rw [h3] at h2
    have h2 : t / 2 ^ 63 = 1 := h2
    omega
  · rw [h3] at h2
    have h2 : t / 2 ^ 63 = 0 := h2
    omega
theorem uN_xor (x : Int64) : uN (x ^^^ (-9223372036854775808)) = (uN x + 9223372036854775808) % 18446744073709551616 := by
  rw [← nat_xor (uN_lt x)]
  exact UInt64.toNat_xor _ _
theorem uN_int (x : Int64) : x.toInt = if 2 * uN x < 18446744073709551616 then (uN x : Int) else (uN x : Int) - 18446744073709551616 := BitVec.toInt_eq_toNat_cond _
theorem uN_le (x y : Int64) : (x ^^^ (-9223372036854775808)) ≤ (y ^^^ (-9223372036854775808)) ↔ uN x ≤ uN y := by
  have hx := uN_lt x
  have hy := uN_lt y
  rw [Int64.le_iff_toInt_le, uN_int, uN_int, uN_xor, uN_xor]
  omega
theorem uN_sk (x : Int64) {k : Nat} (hk : k < 64) : uN (x.toUInt64 >>> ((nI k).toInt64.toUInt64 &&& Int64.toUInt64 63)).toInt64 = uN x / 2 ^ k := by
  have h : ((nI k).toInt64.toUInt64 &&& Int64.toUInt64 63).toNat % 64 = k := by
    rw [nI_l (by omega), UInt64.toNat_and]
    have e : (lN k).toUInt64.toNat = k % 2 ^ 64 := rfl
    have e2 : (Int64.toUInt64 63).toNat = 2 ^ 6 - 1 := by decide
    rw [e, e2, Nat.and_two_pow_sub_one_eq_mod]
    omega
  rw [uN_shr, h]
/-! ===== unsigned comparison by xor with the least ===== -/
theorem lN_bv (n : Nat) : (lN n).toBitVec = BitVec.ofNat 64 n := rfl
theorem lN_nat {n : Nat} (h : n < 2 ^ 64) : (lN n).toBitVec.toNat = n := by rw [lN_bv, BitVec.toNat_ofNat]; exact Nat.mod_eq_of_lt h
theorem lN_xor (a b : Nat) : lN a ^^^ lN b = lN (a ^^^ b) := by
  apply Int64.toBitVec_inj.mp; rw [Int64.toBitVec_xor, lN_bv, lN_bv, lN_bv]; apply BitVec.eq_of_getLsbD_eq; intro i hi; simp [BitVec.getLsbD_ofNat, Nat.testBit_xor, hi]
end
section
/-! numbers in ints -/
theorem niand (a b : Nat) : nI a &&& nI b = nI (a &&& b) := by
  apply Int32.toBitVec_inj.1
  show BitVec.ofNat 32 a &&& BitVec.ofNat 32 b = BitVec.ofNat 32 (a &&& b)
  apply BitVec.eq_of_getLsbD_eq
  intro i hi
  simp [hi]
theorem nixor (a b : Nat) : nI a ^^^ nI b = nI (a ^^^ b) := by
  apply Int32.toBitVec_inj.1
  show BitVec.ofNat 32 a ^^^ BitVec.ofNat 32 b = BitVec.ofNat 32 (a ^^^ b)
  apply BitVec.eq_of_getLsbD_eq
  intro i hi
  simp [hi]
theorem nior (a b : Nat) : nI a ||| nI b = nI (a ||| b) := by
  apply Int32.toBitVec_inj.1
  show BitVec.ofNat 32 a ||| BitVec.ofNat 32 b = BitVec.ofNat 32 (a ||| b)
  apply BitVec.eq_of_getLsbD_eq
  intro i hi
  simp [hi]
theorem ni_and1 (a : Nat) : nI a &&& nI 1 = nI (a % 2) := by rw [niand, Nat.and_one_is_mod]
theorem ni_sl : ∀ k, k < 32 → ((nI k &&& 31).toBitVec.smod 32).toNat = k := by decide +kernel
theorem ni_su : ∀ k, k < 32 → (((nI k).toUInt32 &&& Int32.toUInt32 31).toBitVec % 32).toNat = k := by decide +kernel
theorem ni_shl {a k : Nat} (hk : k < 32) (h : a * 2 ^ k < 2 ^ 32) : i_shl (nI a) (nI k) = nI (a * 2 ^ k) := pk_shlN _ k (ni_sl k hk) h
theorem ni_shl1 {k : Nat} (hk : k < 32) : i_shl (nI 1) (nI k) = nI (2 ^ k) := by
  have h := ni_shl (a := 1) hk (by rw [Nat.one_mul]; exact Nat.pow_lt_pow_right (by decide) hk)
  rwa [Nat.one_mul] at h
theorem ni_ushr {a k : Nat} (h : a < 2 ^ 32) (hk : k < 32) : i_ushr (nI a) (nI k) = nI (a / 2 ^ k) := pk_ushrN h _ k (ni_su k hk)
theorem ni_shr {a k : Nat} (h : a < 2 ^ 31) (hk : k < 32) : i_shr (nI a) (nI k) = nI (a / 2 ^ k) := pk_shrN h _ k (ni_sl k hk)
theorem or_lt {a b n : Nat} (ha : a < 2 ^ n) (hb : b < 2 ^ n) : a ||| b < 2 ^ n := Nat.or_lt_two_pow ha hb
theorem xor_lt {a b n : Nat} (ha : a < 2 ^ n) (hb : b < 2 ^ n) : a ^^^ b < 2 ^ n := Nat.xor_lt_two_pow ha hb
theorem bt_lt (b : Bool) : b.toNat < 2 := by cases b <;> decide
theorem bt_z (b : Bool) : narrow .boolean (.int (nI b.toNat)) = .int (nI b.toNat) := by cases b <;> rfl
/-! functions of four bits as numbers: nib f x is the value for x -/
def nib (f : Int64) (x : Nat) : Nat := uN f / 16 ^ x % 16
theorem nib_lt (f : Int64) (x : Nat) : nib f x < 16 := Nat.mod_lt _ (by decide)
theorem uN_lN {n : Nat} (h : n < 2 ^ 64) : uN (lN n) = n := wb_tn h
theorem lN_uN (f : Int64) : lN (uN f) = f := uN_inj (uN_lN (uN_lt f))
theorem uN_ushr (f : Int64) {k : Nat} (hk : k < 64) : uN (j_ushr f (nI k)) = uN f / 2 ^ k := uN_sk f hk
theorem nib_16 (x : Nat) : (16 : Nat) ^ x = 2 ^ (4 * x) := by rw [Nat.pow_mul]
theorem l2i_tn (z : Int64) : (Int64.toInt32 z).toBitVec.toNat = uN z % 2 ^ 32 := by
  rw [Int64.toBitVec_toInt32, BitVec.signExtend_eq_setWidth_of_le _ (by decide), BitVec.toNat_setWidth]
  rfl
/-- the low bits of a long as an int -/
theorem l2i_low (z : Int64) (m k : Nat) (hm : m + 1 = 2 ^ k) (hk : k < 32) : Int64.toInt32 z &&& nI m = nI (uN z % 2 ^ k) := by
  apply Int32.toBitVec_inj.mp
  rw [Int32.toBitVec_and]
  apply BitVec.eq_of_toNat_eq
  have hp : 2 ^ k < 2 ^ 32 := Nat.pow_lt_pow_right (by decide) hk
  have hz : uN z % 2 ^ k < 2 ^ k := Nat.mod_lt _ (Nat.two_pow_pos k)
  rw [BitVec.toNat_and, l2i_tn, pk_tn (n := m) (by omega), pk_tn (by omega), show m = 2 ^ k - 1 by omega, Nat.and_two_pow_sub_one_eq_mod]
  exact Nat.mod_mod_of_dvd _ (Nat.pow_dvd_pow 2 (by omega))
theorem v_at (f : Int64) {x : Nat} (hx : x < 16) : Int64.toInt32 (j_ushr f (nI (4 * x))) &&& nI 15 = nI (nib f x) := by
  rw [l2i_low _ 15 4 rfl (by decide), uN_ushr f (by omega), ← nib_16]
  rfl
/-! what the functions' methods reckon, as they do -/
def kF (v : Nat) : Int64 := lN (v * 1229782938247303441)
def twF (f : Int64) : Int64 := j_shl (f &&& 8608480567731124087) (nI 1)
def suF (f g : Int64) : Int64 := ((f &&& 8608480567731124087) + (g &&& 8608480567731124087)) ^^^ ((f ^^^ g) &&& (-8608480567731124088))
def diF (f g : Int64) : Int64 := ((f ||| (-8608480567731124088)) - (g &&& 8608480567731124087)) ^^^ ((f ^^^ (g ^^^ (-1))) &&& (-8608480567731124088))
def twN (f : Int64) : Nat → Int64 | 0 => f | n + 1 => twF (twN f n)
def prN (f g : Int64) : Nat → Int64 | 0 => 0 | n + 1 => suF (prN f g n) (twN f n &&& ((j_ushr g (nI n) &&& 1229782938247303441) * 15))
def haF (f : Int64) : Int64 := j_ushr f (nI 1) &&& 8608480567731124087
def maF (op : Nat) (f g : Int64) : Int64 := match op with
  | 0 => f ^^^ (-1) | 1 => diF 0 f | 2 => twF f | 3 => haF f | 4 => f &&& g | 5 => f ||| g | 6 => f ^^^ g | 7 => suF f g | 8 => diF f g | _ => prN f g 4
def afN (f g : Int64) : Nat → Int64 | 0 => 0 | i + 1 => afN f g i ||| j_shl (Int32.toInt64 (nI (nib f (nib g i)))) (nI (4 * i))
def ivN (f : Int64) : Nat → Int64 | 0 => 0 | i + 1 => ivN f i ||| j_shl (Int32.toInt64 (nI i)) (nI (4 * nib f i))
def imN (f : Int64) (s : Nat) : Nat → Nat | 0 => 0 | i + 1 => if s / 2 ^ i % 2 = 1 then imN f s i ||| 2 ^ nib f i else imN f s i
theorem imN_lt (f : Int64) (s : Nat) : ∀ i, imN f s i < 2 ^ 16
  | 0 => by show 0 < 2 ^ 16; decide
  | i + 1 => by
    unfold imN
    split
    · exact or_lt (imN_lt f s i) (Nat.pow_lt_pow_right (by decide) (nib_lt f i))
    · exact imN_lt f s i
theorem imN_1 {f : Int64} {s i : Nat} (h : s / 2 ^ i % 2 = 1) : imN f s (i + 1) = imN f s i ||| 2 ^ nib f i := if_pos h
theorem imN_0 {f : Int64} {s i : Nat} (h : ¬ s / 2 ^ i % 2 = 1) : imN f s (i + 1) = imN f s i := if_neg h
def imF (f : Int64) (s : Nat) : Nat := imN f s 16
def itF (f : Int64) : Nat → Nat | 0 => 65535 | n + 1 => imF f (itF f n)
theorem itF_lt (f : Int64) : ∀ n, itF f n < 65536
  | 0 => by show 65535 < 65536; decide
  | n + 1 => imN_lt f _ 16
def isStp (f : Int64) (n : Nat) : Prop := n ≤ 16 ∧ itF f n = itF f 16 ∧ ∀ j, j < n → itF f j ≠ itF f 16
noncomputable def deB (p : Prop) : Bool := @decide p (Classical.propDecidable p)
theorem deB_t {p : Prop} (h : p) : deB p = true := @decide_eq_true p (Classical.propDecidable p) h
theorem deB_f {p : Prop} (h : ¬ p) : deB p = false := @decide_eq_false p (Classical.propDecidable p) h
noncomputable def linB (f : Int64) : Bool := deB (∀ a, a < 16 → ∀ b, b < 16 → nib f (a ^^^ b) = nib f a ^^^ nib f b)
noncomputable def risB (f : Int64) : Bool := deB (∀ x, x < 15 → nib f x ≤ nib f (x + 1))
noncomputable def lowB (f : Int64) : Bool := deB (∀ k, k < 4 → ∀ x, x < 16 → ¬ (nib f x ^^^ nib f (x &&& (2 * 2 ^ k - 1))) / 2 ^ k % 2 = 1)
def mkN (s : Nat) : Nat → Int64 | 0 => 0 | i + 1 => if s / 2 ^ i % 2 = 1 then mkN s i ||| j_shl 15 (nI (4 * i)) else mkN s i
theorem mkN_1 {s i : Nat} (h : s / 2 ^ i % 2 = 1) : mkN s (i + 1) = mkN s i ||| j_shl 15 (nI (4 * i)) := if_pos h
theorem mkN_0 {s i : Nat} (h : ¬ s / 2 ^ i % 2 = 1) : mkN s (i + 1) = mkN s i := if_neg h
/-! bit counts, as they are reckoned -/
def lb1 (x : Int64) : Int64 := x - (j_ushr x (nI 1) &&& 6148914691236517205)
def lb2 (x : Int64) : Int64 := (x &&& 3689348814741910323) + (j_ushr x (nI 2) &&& 3689348814741910323)
def lb3 (x : Int64) : Int64 := (x + j_ushr x (nI 4)) &&& 1085102592571150095
def lb4 (x : Int64) (k : Nat) : Int64 := x + j_ushr x (nI k)
def lbc (x : Int64) : Int32 := Int64.toInt32 (lb4 (lb4 (lb4 (lb3 (lb2 (lb1 x))) 8) 16) 32) &&& nI 127
def ib1 (x : Int32) : Int32 := x - (i_ushr x (nI 1) &&& nI 1431655765)
def ib2 (x : Int32) : Int32 := (x &&& nI 858993459) + (i_ushr x (nI 2) &&& nI 858993459)
def ib3 (x : Int32) : Int32 := (x + i_ushr x (nI 4)) &&& nI 252645135
def ib4 (x : Int32) (k : Nat) : Int32 := x + i_ushr x (nI k)
def ibc (x : Int32) : Int32 := ib4 (ib4 (ib3 (ib2 (ib1 x))) 8) 16 &&& nI 63
def dfF (f g : Int64) : Int64 :=
  let d0 := f ^^^ g
  let d1 := d0 ||| j_ushr d0 (nI 2)
  (d1 ||| j_ushr d1 (nI 1)) &&& 1229782938247303441
end
section
abbrev rm_t_X0_valueAt : Room := ({ frames := 0, cells := 0, slots := 0, locals := 0 } : Room)
set_option maxHeartbeats 4000000 in
set_option maxRecDepth 100000 in
theorem t_X0_valueAt (l : Launch) (D : va_G) (ty : g_T3) (f : Int64) (x : Nat) (hx : x < 16) : g_P l yX0_valueAt wsX0_valueAt rm_t_X0_valueAt D ty g_X0 [.long f, .int (nI x)] [] (g_pi (fun r => r = nI (nib f x))) := by
  refine g_ofPi (cc := cX0_valueAt) (nL := 3) (own := RX0) (by decide) rfl rfl g_X0_ok (Nat.le_of_ble_eq_true rfl) ?_
  intro p e s m args below meth c Q C hX hR
  refine g_lv (lv' := [(0, .long f), (2, .int (nI x))]) [0, 1] rfl ?_
  refine g_lload_n C dX0_valueAt_0 0 rfl rfl ?_
  refine g_iconst C dX0_valueAt_1 (v := (nI 4)) (by decide) ?_
  refine g_iload_n C dX0_valueAt_2 1 rfl rfl ?_
  refine g_imul C dX0_valueAt_3 (v := (nI (4 * x))) (pk_mul _ _) ?_
  refine g_lushr C dX0_valueAt_4 (v := (j_ushr f (nI (4 * x)))) rfl ?_
  refine g_l2i C dX0_valueAt_5 (v := (Int64.toInt32 (j_ushr f (nI (4 * x))))) rfl ?_
  refine g_bipush C dX0_valueAt_6 (v := (nI 15)) (by decide) ?_
  refine g_iand C dX0_valueAt_8 (v := ((Int64.toInt32 (j_ushr f (nI (4 * x)))) &&& (nI 15))) rfl ?_
  exact hR _ _ _ _ dX0_valueAt_9 (v_at f hx)

abbrev rm_t_X0_constant : Room := ({ frames := 0, cells := 0, slots := 0, locals := 0 } : Room)
set_option maxHeartbeats 4000000 in
set_option maxRecDepth 100000 in
theorem t_X0_constant (l : Launch) (D : va_G) (ty : g_T3) (v : Nat) (hv : v < 2 ^ 31) : g_P l yX0_constant wsX0_constant rm_t_X0_constant D ty g_X0 [.int (nI v)] [] (g_pl (fun r => r = kF v)) := by
  refine g_ofPl (cc := cX0_constant) (nL := 1) (own := RX0) (by decide) rfl rfl g_X0_ok (Nat.le_of_ble_eq_true rfl) ?_
  intro p e s m args below meth c Q C hX hR
  refine g_lv (lv' := [(0, .int (nI v))]) [0] rfl ?_
  refine g_iload_n C dX0_constant_0 0 rfl rfl ?_
  refine g_i2l C dX0_constant_1 (v := (lN v)) (nI_l hv) ?_
  refine g_ldc2 C (v := (1229782938247303441)) 1 rfl dX0_constant_2 ?_
  refine g_lmul C dX0_constant_5 (v := ((lN v) * (1229782938247303441))) rfl ?_
  exact hR _ _ _ _ dX0_constant_6 (lN_mul _ _)

abbrev rm_t_X0_twice : Room := ({ frames := 0, cells := 0, slots := 0, locals := 0 } : Room)
set_option maxHeartbeats 4000000 in
set_option maxRecDepth 100000 in
theorem t_X0_twice (l : Launch) (D : va_G) (ty : g_T3) (f : Int64) : g_P l yX0_twice wsX0_twice rm_t_X0_twice D ty g_X0 [.long f] [] (g_pl (fun r => r = twF f)) := by
  refine g_ofPl (cc := cX0_twice) (nL := 2) (own := RX0) (by decide) rfl rfl g_X0_ok (Nat.le_of_ble_eq_true rfl) ?_
  intro p e s m args below meth c Q C hX hR
  refine g_lv (lv' := [(0, .long f)]) [0] rfl ?_
  refine g_lload_n C dX0_twice_0 0 rfl rfl ?_
  refine g_ldc2 C (v := (8608480567731124087)) 1 rfl dX0_twice_1 ?_
  refine g_land C dX0_twice_4 (v := (f &&& (8608480567731124087))) rfl ?_
  refine g_iconst C dX0_twice_5 (v := (nI 1)) (by decide) ?_
  refine g_lshl C dX0_twice_6 (v := (j_shl (f &&& (8608480567731124087)) (nI 1))) rfl ?_
  exact hR _ _ _ _ dX0_twice_7 (rfl)

abbrev rm_t_X0_sum : Room := ({ frames := 0, cells := 0, slots := 0, locals := 0 } : Room)
set_option maxHeartbeats 4000000 in
set_option maxRecDepth 100000 in
theorem t_X0_sum (l : Launch) (D : va_G) (ty : g_T3) (f g : Int64) : g_P l yX0_sum wsX0_sum rm_t_X0_sum D ty g_X0 [.long f, .long g] [] (g_pl (fun r => r = suF f g)) := by
  refine g_ofPl (cc := cX0_sum) (nL := 4) (own := RX0) (by decide) rfl rfl g_X0_ok (Nat.le_of_ble_eq_true rfl) ?_
  intro p e s m args below meth c Q C hX hR
  refine g_lv (lv' := [(0, .long f), (2, .long g)]) [0, 1] rfl ?_
  refine g_lload_n C dX0_sum_0 0 rfl rfl ?_
  refine g_ldc2 C (v := (8608480567731124087)) 1 rfl dX0_sum_1 ?_
  refine g_land C dX0_sum_4 (v := (f &&& (8608480567731124087))) rfl ?_
  refine g_lload_n C dX0_sum_5 1 rfl rfl ?_
  refine g_ldc2 C (v := (8608480567731124087)) 1 rfl dX0_sum_6 ?_
  refine g_land C dX0_sum_9 (v := (g &&& (8608480567731124087))) rfl ?_
  refine g_ladd C dX0_sum_10 (v := ((f &&& (8608480567731124087)) + (g &&& (8608480567731124087)))) rfl ?_
  refine g_lload_n C dX0_sum_11 0 rfl rfl ?_
  refine g_lload_n C dX0_sum_12 1 rfl rfl ?_
  refine g_lxor C dX0_sum_13 (v := (f ^^^ g)) rfl ?_
  refine g_ldc2 C (v := (-8608480567731124088)) 2 rfl dX0_sum_14 ?_
  refine g_land C dX0_sum_17 (v := ((f ^^^ g) &&& (-8608480567731124088))) rfl ?_
  refine g_lxor C dX0_sum_18 (v := (((f &&& (8608480567731124087)) + (g &&& (8608480567731124087))) ^^^ ((f ^^^ g) &&& (-8608480567731124088)))) rfl ?_
  exact hR _ _ _ _ dX0_sum_19 (rfl)

abbrev rm_t_X0_difference : Room := ({ frames := 0, cells := 0, slots := 0, locals := 0 } : Room)
set_option maxHeartbeats 4000000 in
set_option maxRecDepth 100000 in
theorem t_X0_difference (l : Launch) (D : va_G) (ty : g_T3) (f g : Int64) : g_P l yX0_difference wsX0_difference rm_t_X0_difference D ty g_X0 [.long f, .long g] [] (g_pl (fun r => r = diF f g)) := by
  refine g_ofPl (cc := cX0_difference) (nL := 4) (own := RX0) (by decide) rfl rfl g_X0_ok (Nat.le_of_ble_eq_true rfl) ?_
  intro p e s m args below meth c Q C hX hR
  refine g_lv (lv' := [(0, .long f), (2, .long g)]) [0, 1] rfl ?_
  refine g_lload_n C dX0_difference_0 0 rfl rfl ?_
  refine g_ldc2 C (v := (-8608480567731124088)) 1 rfl dX0_difference_1 ?_
  refine g_lor C dX0_difference_4 (v := (f ||| (-8608480567731124088))) rfl ?_
  refine g_lload_n C dX0_difference_5 1 rfl rfl ?_
  refine g_ldc2 C (v := (8608480567731124087)) 2 rfl dX0_difference_6 ?_
  refine g_land C dX0_difference_9 (v := (g &&& (8608480567731124087))) rfl ?_
  refine g_lsub C dX0_difference_10 (v := ((f ||| (-8608480567731124088)) - (g &&& (8608480567731124087)))) rfl ?_
  refine g_lload_n C dX0_difference_11 0 rfl rfl ?_
  refine g_lload_n C dX0_difference_12 1 rfl rfl ?_
  refine g_ldc2 C (v := (-1)) 3 rfl dX0_difference_13 ?_
  refine g_lxor C dX0_difference_16 (v := (g ^^^ (-1))) rfl ?_
  refine g_lxor C dX0_difference_17 (v := (f ^^^ (g ^^^ (-1)))) rfl ?_
  refine g_ldc2 C (v := (-8608480567731124088)) 1 rfl dX0_difference_18 ?_
  refine g_land C dX0_difference_21 (v := ((f ^^^ (g ^^^ (-1))) &&& (-8608480567731124088))) rfl ?_
  refine g_lxor C dX0_difference_22 (v := (((f ||| (-8608480567731124088)) - (g &&& (8608480567731124087))) ^^^ ((f ^^^ (g ^^^ (-1))) &&& (-8608480567731124088)))) rfl ?_
  exact hR _ _ _ _ dX0_difference_23 (rfl)

abbrev rm_t_X0_product : Room := ({ frames := 1, cells := 0, slots := 0, locals := 23 } : Room)
set_option maxHeartbeats 4000000 in
set_option maxRecDepth 100000 in
theorem t_X0_product (l : Launch) (D : va_G) (ty : g_T3) (f g : Int64) : g_P l yX0_product wsX0_product rm_t_X0_product D ty g_X0 [.long f, .long g] [] (g_pl (fun r => r = prN f g 4)) := by
  refine g_ofPl (cc := cX0_product) (nL := 11) (own := RX0) (by decide) rfl rfl g_X0_ok (Nat.le_of_ble_eq_true rfl) ?_
  intro p e s m args below meth c Q C hX hR
  refine g_lv (lv' := [(0, .long f), (2, .long g)]) [0, 1] rfl ?_
  refine g_lconst C dX0_product_0 (v := 0) (by decide) ?_
  refine g_lstore C dX0_product_1 (by decide) (lv' := [(4, .long 0), (0, .long f), (2, .long g)]) rfl ?_
  refine g_lload_n C dX0_product_3 1 rfl rfl ?_
  refine g_lstore C dX0_product_4 (by decide) (lv' := [(6, .long f), (4, .long 0), (0, .long f), (2, .long g)]) rfl ?_
  refine g_iconst C dX0_product_6 (v := (nI 0)) (by decide) ?_
  refine g_istore C dX0_product_7 (by decide) (lv' := [(8, .int (nI 0)), (6, .long f), (4, .long 0), (0, .long f), (2, .long g)]) rfl ?_
  have L9 : ∀ (n : Nat) (i : Nat), 4 - i < n → (i ≤ 4) → gG (g_IP D s []) p l e rm_t_X0_product s m args below meth c Q 11 0 0 9 [(8, .int (nI i)), (6, .long (twN f i)), (4, .long (prN f g i)), (0, .long f), (2, .long g)] [] [] := by
    intro n
    induction n with
    | zero => intro i hn; exact absurd hn (Nat.not_lt_zero _)
    | succ n ih9 =>
      intro i hn9 hi
      refine g_iload C dX0_product_9 0 rfl ?_
      refine g_iconst C dX0_product_11 (v := (nI 4)) (by decide) ?_
      refine g_icmp_geN C dX0_product_12 (tgt := 54) (by decide) (by omega) (by omega) (fun h12 => ?_) (fun h12 => ?_)
      · skip
        obtain rfl : i = 4 := by omega
        refine g_lload C dX0_product_54 2 rfl ?_
        exact hR _ _ _ _ dX0_product_56 (rfl)
      · skip
        refine g_lload_n C dX0_product_15 4 rfl rfl ?_
        refine g_iload C dX0_product_16 0 rfl ?_
        refine g_lushr C dX0_product_18 (v := (j_ushr g (nI i))) rfl ?_
        refine g_ldc2 C (v := (1229782938247303441)) 1 rfl dX0_product_19 ?_
        refine g_land C dX0_product_22 (v := ((j_ushr g (nI i)) &&& (1229782938247303441))) rfl ?_
        refine g_ldc2 C (v := (15)) 2 rfl dX0_product_23 ?_
        refine g_lmul C dX0_product_26 (v := (((j_ushr g (nI i)) &&& (1229782938247303441)) * (15))) rfl ?_
        refine g_lstore C dX0_product_27 (by decide) (lv' := [(9, .long (((j_ushr g (nI i)) &&& (1229782938247303441)) * (15))), (8, .int (nI i)), (6, .long (twN f i)), (4, .long (prN f g i)), (0, .long f), (2, .long g)]) rfl ?_
        refine g_lload C dX0_product_29 3 rfl ?_
        refine g_lload C dX0_product_31 2 rfl ?_
        refine g_lload C dX0_product_33 0 rfl ?_
        refine g_land C dX0_product_35 (v := ((twN f i) &&& (((j_ushr g (nI i)) &&& (1229782938247303441)) * (15)))) rfl ?_
        refine g_callPS C ⟨g_X0_ok, trivial⟩ (t_X0_sum l D ty (prN f g i) ((twN f i) &&& (((j_ushr g (nI i)) &&& (1229782938247303441)) * (15)))) rfl gX0_product_X0_sum 2 (by decide +kernel) rfl ⟨rfl, rfl⟩ ⟨Nat.le_of_ble_eq_true rfl, Nat.le_of_ble_eq_true rfl⟩ (rest := []) [] rfl (Nat.le_of_ble_eq_true rfl) dX0_product_36 ⟨Nat.le_of_ble_eq_true rfl, Nat.le_of_ble_eq_true rfl⟩ rfl (g_kl (fun r hr => ?_))
        subst hr
        refine g_lstore C dX0_product_39 (by decide) (lv' := [(4, .long (suF (prN f g i) ((twN f i) &&& (((j_ushr g (nI i)) &&& (1229782938247303441)) * (15))))), (9, .long (((j_ushr g (nI i)) &&& (1229782938247303441)) * (15))), (8, .int (nI i)), (6, .long (twN f i)), (0, .long f), (2, .long g)]) rfl ?_
        refine g_lload C dX0_product_41 3 rfl ?_
        refine g_callPS C ⟨g_X0_ok, trivial⟩ (t_X0_twice l D ty (twN f i)) rfl gX0_product_X0_twice 1 (by decide +kernel) rfl ⟨rfl, rfl⟩ ⟨Nat.le_of_ble_eq_true rfl, Nat.le_of_ble_eq_true rfl⟩ (rest := []) [] rfl (Nat.le_of_ble_eq_true rfl) dX0_product_43 ⟨Nat.le_of_ble_eq_true rfl, Nat.le_of_ble_eq_true rfl⟩ rfl (g_kl (fun r hr => ?_))
        subst hr
        refine g_lstore C dX0_product_46 (by decide) (lv' := [(6, .long (twF (twN f i))), (4, .long (suF (prN f g i) ((twN f i) &&& (((j_ushr g (nI i)) &&& (1229782938247303441)) * (15))))), (9, .long (((j_ushr g (nI i)) &&& (1229782938247303441)) * (15))), (8, .int (nI i)), (0, .long f), (2, .long g)]) rfl ?_
        refine g_iinc C dX0_product_48 3 rfl (v := (nI (i + 1))) (nI_1 i) (by decide) (lv' := [(8, .int (nI (i + 1))), (6, .long (twF (twN f i))), (4, .long (suF (prN f g i) ((twN f i) &&& (((j_ushr g (nI i)) &&& (1229782938247303441)) * (15))))), (9, .long (((j_ushr g (nI i)) &&& (1229782938247303441)) * (15))), (0, .long f), (2, .long g)]) rfl ?_
        refine g_goto C dX0_product_51 (tgt := 9) (by decide) ?_
        refine g_lv [0, 1, 2, 4, 5] rfl ?_
        exact ih9 (i + 1) (by omega) (by omega)
  exact L9 _ 0 (Nat.lt_succ_self _) (by omega)

abbrev rm_t_X0_made : Room := ({ frames := 2, cells := 0, slots := 0, locals := 53 } : Room)
set_option maxHeartbeats 4000000 in
set_option maxRecDepth 100000 in
theorem t_X0_made (l : Launch) (D : va_G) (ty : g_T3) (op : Nat) (hop : op < 10) (f g : Int64) : g_P l yX0_made wsX0_made rm_t_X0_made D ty g_X0 [.int (nI op), .long f, .long g] [] (g_pl (fun r => r = maF op f g)) := by
  refine g_ofPl (cc := cX0_made) (nL := 5) (own := RX0) (by decide) rfl rfl g_X0_ok (Nat.le_of_ble_eq_true rfl) ?_
  intro p e s m args below meth c Q C hX hR
  refine g_lv (lv' := [(0, .int (nI op)), (1, .long f), (3, .long g)]) [0, 1, 2] rfl ?_
  refine g_iload_n C dX0_made_0 0 rfl rfl ?_
  rcases (show op = 0 ∨ op = 1 ∨ op = 2 ∨ op = 3 ∨ op = 4 ∨ op = 5 ∨ op = 6 ∨ op = 7 ∨ op = 8 ∨ op = 9 by omega) with h | h | h | h | h | h | h | h | h | h
  · skip
    obtain rfl : op = 0 := by omega
    skip
    refine g_tableIn C dX0_made_1 (by decide) (by decide) (off := 51) (by decide) (tgt := 52) (by decide) ?_
    refine g_lload_n C dX0_made_52 1 rfl rfl ?_
    refine g_ldc2 C (v := (-1)) 1 rfl dX0_made_53 ?_
    refine g_lxor C dX0_made_56 (v := (f ^^^ (-1))) rfl ?_
    exact hR _ _ _ _ dX0_made_57 (rfl)
  · skip
    obtain rfl : op = 1 := by omega
    skip
    refine g_tableIn C dX0_made_1 (by decide) (by decide) (off := 57) (by decide) (tgt := 58) (by decide) ?_
    refine g_lconst C dX0_made_58 (v := 0) (by decide) ?_
    refine g_lload_n C dX0_made_59 1 rfl rfl ?_
    refine g_callPS C ⟨g_X0_ok, trivial⟩ (t_X0_difference l D ty 0 f) rfl gX0_made_X0_difference 2 (by decide +kernel) rfl ⟨rfl, rfl⟩ ⟨Nat.le_of_ble_eq_true rfl, Nat.le_of_ble_eq_true rfl⟩ (rest := []) [] rfl (Nat.le_of_ble_eq_true rfl) dX0_made_60 ⟨Nat.le_of_ble_eq_true rfl, Nat.le_of_ble_eq_true rfl⟩ rfl (g_kl (fun r hr => ?_))
    subst hr
    exact hR _ _ _ _ dX0_made_63 (rfl)
  · skip
    obtain rfl : op = 2 := by omega
    skip
    refine g_tableIn C dX0_made_1 (by decide) (by decide) (off := 63) (by decide) (tgt := 64) (by decide) ?_
    refine g_lload_n C dX0_made_64 1 rfl rfl ?_
    refine g_callPS C ⟨g_X0_ok, trivial⟩ (t_X0_twice l D ty f) rfl gX0_made_X0_twice 1 (by decide +kernel) rfl ⟨rfl, rfl⟩ ⟨Nat.le_of_ble_eq_true rfl, Nat.le_of_ble_eq_true rfl⟩ (rest := []) [] rfl (Nat.le_of_ble_eq_true rfl) dX0_made_65 ⟨Nat.le_of_ble_eq_true rfl, Nat.le_of_ble_eq_true rfl⟩ rfl (g_kl (fun r hr => ?_))
    subst hr
    exact hR _ _ _ _ dX0_made_68 (rfl)
  · skip
    obtain rfl : op = 3 := by omega
    skip
    refine g_tableIn C dX0_made_1 (by decide) (by decide) (off := 68) (by decide) (tgt := 69) (by decide) ?_
    refine g_lload_n C dX0_made_69 1 rfl rfl ?_
    refine g_iconst C dX0_made_70 (v := (nI 1)) (by decide) ?_
    refine g_lushr C dX0_made_71 (v := (j_ushr f (nI 1))) rfl ?_
    refine g_ldc2 C (v := (8608480567731124087)) 2 rfl dX0_made_72 ?_
    refine g_land C dX0_made_75 (v := ((j_ushr f (nI 1)) &&& (8608480567731124087))) rfl ?_
    exact hR _ _ _ _ dX0_made_76 (rfl)
  · skip
    obtain rfl : op = 4 := by omega
    skip
    refine g_tableIn C dX0_made_1 (by decide) (by decide) (off := 76) (by decide) (tgt := 77) (by decide) ?_
    refine g_lload_n C dX0_made_77 1 rfl rfl ?_
    refine g_lload_n C dX0_made_78 2 rfl rfl ?_
    refine g_land C dX0_made_79 (v := (f &&& g)) rfl ?_
    exact hR _ _ _ _ dX0_made_80 (rfl)
  · skip
    obtain rfl : op = 5 := by omega
    skip
    refine g_tableIn C dX0_made_1 (by decide) (by decide) (off := 80) (by decide) (tgt := 81) (by decide) ?_
    refine g_lload_n C dX0_made_81 1 rfl rfl ?_
    refine g_lload_n C dX0_made_82 2 rfl rfl ?_
    refine g_lor C dX0_made_83 (v := (f ||| g)) rfl ?_
    exact hR _ _ _ _ dX0_made_84 (rfl)
  · skip
    obtain rfl : op = 6 := by omega
    skip
    refine g_tableIn C dX0_made_1 (by decide) (by decide) (off := 84) (by decide) (tgt := 85) (by decide) ?_
    refine g_lload_n C dX0_made_85 1 rfl rfl ?_
    refine g_lload_n C dX0_made_86 2 rfl rfl ?_
    refine g_lxor C dX0_made_87 (v := (f ^^^ g)) rfl ?_
    exact hR _ _ _ _ dX0_made_88 (rfl)
  · skip
    obtain rfl : op = 7 := by omega
    skip
    refine g_tableIn C dX0_made_1 (by decide) (by decide) (off := 88) (by decide) (tgt := 89) (by decide) ?_
    refine g_lload_n C dX0_made_89 1 rfl rfl ?_
    refine g_lload_n C dX0_made_90 2 rfl rfl ?_
    refine g_callPS C ⟨g_X0_ok, trivial⟩ (t_X0_sum l D ty f g) rfl gX0_made_X0_sum 2 (by decide +kernel) rfl ⟨rfl, rfl⟩ ⟨Nat.le_of_ble_eq_true rfl, Nat.le_of_ble_eq_true rfl⟩ (rest := []) [] rfl (Nat.le_of_ble_eq_true rfl) dX0_made_91 ⟨Nat.le_of_ble_eq_true rfl, Nat.le_of_ble_eq_true rfl⟩ rfl (g_kl (fun r hr => ?_))
    subst hr
    exact hR _ _ _ _ dX0_made_94 (rfl)
  · skip
    obtain rfl : op = 8 := by omega
    skip
    refine g_tableIn C dX0_made_1 (by decide) (by decide) (off := 94) (by decide) (tgt := 95) (by decide) ?_
    refine g_lload_n C dX0_made_95 1 rfl rfl ?_
    refine g_lload_n C dX0_made_96 2 rfl rfl ?_
    refine g_callPS C ⟨g_X0_ok, trivial⟩ (t_X0_difference l D ty f g) rfl gX0_made_X0_difference 2 (by decide +kernel) rfl ⟨rfl, rfl⟩ ⟨Nat.le_of_ble_eq_true rfl, Nat.le_of_ble_eq_true rfl⟩ (rest := []) [] rfl (Nat.le_of_ble_eq_true rfl) dX0_made_97 ⟨Nat.le_of_ble_eq_true rfl, Nat.le_of_ble_eq_true rfl⟩ rfl (g_kl (fun r hr => ?_))
    subst hr
    exact hR _ _ _ _ dX0_made_100 (rfl)
  · skip
    obtain rfl : op = 9 := by omega
    skip
    refine g_tableOut C dX0_made_1 (by decide) (tgt := 101) (by decide) ?_
    refine g_lload_n C dX0_made_101 1 rfl rfl ?_
    refine g_lload_n C dX0_made_102 2 rfl rfl ?_
    refine g_callPS C ⟨g_X0_ok, trivial⟩ (t_X0_product l D ty f g) rfl gX0_made_X0_product 2 (by decide +kernel) rfl ⟨rfl, rfl⟩ ⟨Nat.le_of_ble_eq_true rfl, Nat.le_of_ble_eq_true rfl⟩ (rest := []) [] rfl (Nat.le_of_ble_eq_true rfl) dX0_made_103 ⟨Nat.le_of_ble_eq_true rfl, Nat.le_of_ble_eq_true rfl⟩ rfl (g_kl (fun r hr => ?_))
    subst hr
    exact hR _ _ _ _ dX0_made_106 (rfl)

abbrev rm_t_X0_after : Room := ({ frames := 1, cells := 0, slots := 0, locals := 22 } : Room)
set_option maxHeartbeats 4000000 in
set_option maxRecDepth 100000 in
theorem t_X0_after (l : Launch) (D : va_G) (ty : g_T3) (f g : Int64) : g_P l yX0_after wsX0_after rm_t_X0_after D ty g_X0 [.long f, .long g] [] (g_pl (fun r => r = afN f g 16)) := by
  refine g_ofPl (cc := cX0_after) (nL := 7) (own := RX0) (by decide) rfl rfl g_X0_ok (Nat.le_of_ble_eq_true rfl) ?_
  intro p e s m args below meth c Q C hX hR
  refine g_lv (lv' := [(0, .long f), (2, .long g)]) [0, 1] rfl ?_
  refine g_lconst C dX0_after_0 (v := 0) (by decide) ?_
  refine g_lstore C dX0_after_1 (by decide) (lv' := [(4, .long 0), (0, .long f), (2, .long g)]) rfl ?_
  refine g_iconst C dX0_after_3 (v := (nI 0)) (by decide) ?_
  refine g_istore C dX0_after_4 (by decide) (lv' := [(6, .int (nI 0)), (4, .long 0), (0, .long f), (2, .long g)]) rfl ?_
  have L6 : ∀ (n : Nat) (i : Nat), 16 - i < n → (i ≤ 16) → gG (g_IP D s []) p l e rm_t_X0_after s m args below meth c Q 7 0 0 6 [(6, .int (nI i)), (4, .long (afN f g i)), (0, .long f), (2, .long g)] [] [] := by
    intro n
    induction n with
    | zero => intro i hn; exact absurd hn (Nat.not_lt_zero _)
    | succ n ih6 =>
      intro i hn6 hi
      refine g_iload C dX0_after_6 0 rfl ?_
      refine g_bipush C dX0_after_8 (v := (nI 16)) (by decide) ?_
      refine g_icmp_geN C dX0_after_10 (tgt := 40) (by decide) (by omega) (by omega) (fun h10 => ?_) (fun h10 => ?_)
      · skip
        obtain rfl : i = 16 := by omega
        refine g_lload C dX0_after_40 1 rfl ?_
        exact hR _ _ _ _ dX0_after_42 (rfl)
      · skip
        refine g_lload C dX0_after_13 1 rfl ?_
        refine g_lload_n C dX0_after_15 2 rfl rfl ?_
        refine g_lload_n C dX0_after_16 3 rfl rfl ?_
        refine g_iload C dX0_after_17 0 rfl ?_
        refine g_callPS C ⟨g_X0_ok, trivial⟩ (t_X0_valueAt l D ty g i (by omega)) rfl gX0_after_X0_valueAt 2 (by decide +kernel) rfl ⟨rfl, rfl⟩ ⟨Nat.le_of_ble_eq_true rfl, Nat.le_of_ble_eq_true rfl⟩ (rest := [.long f, .long (afN f g i)]) [] rfl (Nat.le_of_ble_eq_true rfl) dX0_after_19 ⟨Nat.le_of_ble_eq_true rfl, Nat.le_of_ble_eq_true rfl⟩ rfl (g_ki (fun r hr => ?_))
        subst hr
        have := nib_lt g i
        refine g_callPS C ⟨g_X0_ok, trivial⟩ (t_X0_valueAt l D ty f (nib g i) (by omega)) rfl gX0_after_X0_valueAt 2 (by decide +kernel) rfl ⟨rfl, rfl⟩ ⟨Nat.le_of_ble_eq_true rfl, Nat.le_of_ble_eq_true rfl⟩ (rest := [.long (afN f g i)]) [] rfl (Nat.le_of_ble_eq_true rfl) dX0_after_22 ⟨Nat.le_of_ble_eq_true rfl, Nat.le_of_ble_eq_true rfl⟩ rfl (g_ki (fun r hr => ?_))
        subst hr
        have := nib_lt f (nib g i)
        refine g_i2l C dX0_after_25 (v := (Int32.toInt64 (nI (nib f (nib g i))))) rfl ?_
        refine g_iconst C dX0_after_26 (v := (nI 4)) (by decide) ?_
        refine g_iload C dX0_after_27 0 rfl ?_
        refine g_imul C dX0_after_29 (v := (nI (4 * i))) (pk_mul _ _) ?_
        refine g_lshl C dX0_after_30 (v := (j_shl (Int32.toInt64 (nI (nib f (nib g i)))) (nI (4 * i)))) rfl ?_
        refine g_lor C dX0_after_31 (v := (afN f g (i + 1))) rfl ?_
        refine g_lstore C dX0_after_32 (by decide) (lv' := [(4, .long (afN f g (i + 1))), (6, .int (nI i)), (0, .long f), (2, .long g)]) rfl ?_
        refine g_iinc C dX0_after_34 1 rfl (v := (nI (i + 1))) (nI_1 i) (by decide) (lv' := [(6, .int (nI (i + 1))), (4, .long (afN f g (i + 1))), (0, .long f), (2, .long g)]) rfl ?_
        refine g_goto C dX0_after_37 (tgt := 6) (by decide) ?_
        exact ih6 (i + 1) (by omega) (by omega)
  exact L6 _ 0 (Nat.lt_succ_self _) (by omega)

abbrev rm_t_X0_inverseOf : Room := ({ frames := 1, cells := 0, slots := 0, locals := 22 } : Room)
set_option maxHeartbeats 4000000 in
set_option maxRecDepth 100000 in
theorem t_X0_inverseOf (l : Launch) (D : va_G) (ty : g_T3) (f : Int64) : g_P l yX0_inverseOf wsX0_inverseOf rm_t_X0_inverseOf D ty g_X0 [.long f] [] (g_pl (fun r => r = ivN f 16)) := by
  refine g_ofPl (cc := cX0_inverseOf) (nL := 5) (own := RX0) (by decide) rfl rfl g_X0_ok (Nat.le_of_ble_eq_true rfl) ?_
  intro p e s m args below meth c Q C hX hR
  refine g_lv (lv' := [(0, .long f)]) [0] rfl ?_
  refine g_lconst C dX0_inverseOf_0 (v := 0) (by decide) ?_
  refine g_lstore_n C dX0_inverseOf_1 rfl (by decide) (lv' := [(2, .long 0), (0, .long f)]) rfl ?_
  refine g_iconst C dX0_inverseOf_2 (v := (nI 0)) (by decide) ?_
  refine g_istore C dX0_inverseOf_3 (by decide) (lv' := [(4, .int (nI 0)), (2, .long 0), (0, .long f)]) rfl ?_
  have L5 : ∀ (n : Nat) (i : Nat), 16 - i < n → (i ≤ 16) → gG (g_IP D s []) p l e rm_t_X0_inverseOf s m args below meth c Q 5 0 0 5 [(4, .int (nI i)), (2, .long (ivN f i)), (0, .long f)] [] [] := by
    intro n
    induction n with
    | zero => intro i hn; exact absurd hn (Nat.not_lt_zero _)
    | succ n ih5 =>
      intro i hn5 hi
      refine g_iload C dX0_inverseOf_5 0 rfl ?_
      refine g_bipush C dX0_inverseOf_7 (v := (nI 16)) (by decide) ?_
      refine g_icmp_geN C dX0_inverseOf_9 (tgt := 33) (by decide) (by omega) (by omega) (fun h9 => ?_) (fun h9 => ?_)
      · skip
        obtain rfl : i = 16 := by omega
        refine g_lload_n C dX0_inverseOf_33 1 rfl rfl ?_
        exact hR _ _ _ _ dX0_inverseOf_34 (rfl)
      · skip
        refine g_lload_n C dX0_inverseOf_12 1 rfl rfl ?_
        refine g_iload C dX0_inverseOf_13 0 rfl ?_
        refine g_i2l C dX0_inverseOf_15 (v := (Int32.toInt64 (nI i))) rfl ?_
        refine g_iconst C dX0_inverseOf_16 (v := (nI 4)) (by decide) ?_
        refine g_lload_n C dX0_inverseOf_17 2 rfl rfl ?_
        refine g_iload C dX0_inverseOf_18 0 rfl ?_
        refine g_callPS C ⟨g_X0_ok, trivial⟩ (t_X0_valueAt l D ty f i (by omega)) rfl gX0_inverseOf_X0_valueAt 2 (by decide +kernel) rfl ⟨rfl, rfl⟩ ⟨Nat.le_of_ble_eq_true rfl, Nat.le_of_ble_eq_true rfl⟩ (rest := [.int (nI 4), .long (Int32.toInt64 (nI i)), .long (ivN f i)]) [] rfl (Nat.le_of_ble_eq_true rfl) dX0_inverseOf_20 ⟨Nat.le_of_ble_eq_true rfl, Nat.le_of_ble_eq_true rfl⟩ rfl (g_ki (fun r hr => ?_))
        subst hr
        have := nib_lt f i
        refine g_imul C dX0_inverseOf_23 (v := (nI (4 * (nib f i)))) (pk_mul _ _) ?_
        refine g_lshl C dX0_inverseOf_24 (v := (j_shl (Int32.toInt64 (nI i)) (nI (4 * (nib f i))))) rfl ?_
        refine g_lor C dX0_inverseOf_25 (v := (ivN f (i + 1))) rfl ?_
        refine g_lstore_n C dX0_inverseOf_26 rfl (by decide) (lv' := [(2, .long (ivN f (i + 1))), (4, .int (nI i)), (0, .long f)]) rfl ?_
        refine g_iinc C dX0_inverseOf_27 1 rfl (v := (nI (i + 1))) (nI_1 i) (by decide) (lv' := [(4, .int (nI (i + 1))), (2, .long (ivN f (i + 1))), (0, .long f)]) rfl ?_
        refine g_goto C dX0_inverseOf_30 (tgt := 5) (by decide) ?_
        exact ih5 (i + 1) (by omega) (by omega)
  exact L5 _ 0 (Nat.lt_succ_self _) (by omega)

abbrev rm_t_J13_bitCount_95d88 : Room := ({ frames := 0, cells := 0, slots := 0, locals := 0 } : Room)
set_option maxHeartbeats 4000000 in
set_option maxRecDepth 100000 in
theorem t_J13_bitCount_95d88 (l : Launch) (D : va_G) (ty : g_T3) (x : Int64) : g_P l yJ13_bitCount_95d88 wsJ13_bitCount_95d88 rm_t_J13_bitCount_95d88 D ty g_X0 [.long x] [] (g_pi (fun r => r = lbc x)) := by
  refine g_ofPi (cc := cJ13_bitCount_95d88) (nL := 2) (own := RJ13) (by decide) rfl rfl g_X0_ok (Nat.le_of_ble_eq_true rfl) ?_
  intro p e s m args below meth c Q C hX hR
  refine g_lv (lv' := [(0, .long x)]) [0] rfl ?_
  refine g_lload_n C dJ13_bitCount_95d88_0 0 rfl rfl ?_
  refine g_lload_n C dJ13_bitCount_95d88_1 0 rfl rfl ?_
  refine g_iconst C dJ13_bitCount_95d88_2 (v := (nI 1)) (by decide) ?_
  refine g_lushr C dJ13_bitCount_95d88_3 (v := (j_ushr x (nI 1))) rfl ?_
  refine g_ldc2 C (v := (6148914691236517205)) 1 rfl dJ13_bitCount_95d88_4 ?_
  refine g_land C dJ13_bitCount_95d88_7 (v := ((j_ushr x (nI 1)) &&& (6148914691236517205))) rfl ?_
  refine g_lsub C dJ13_bitCount_95d88_8 (v := (lb1 x)) rfl ?_
  refine g_lstore_n C dJ13_bitCount_95d88_9 rfl (by decide) (lv' := [(0, .long (lb1 x))]) rfl ?_
  refine g_lload_n C dJ13_bitCount_95d88_10 0 rfl rfl ?_
  refine g_ldc2 C (v := (3689348814741910323)) 2 rfl dJ13_bitCount_95d88_11 ?_
  refine g_land C dJ13_bitCount_95d88_14 (v := ((lb1 x) &&& (3689348814741910323))) rfl ?_
  refine g_lload_n C dJ13_bitCount_95d88_15 0 rfl rfl ?_
  refine g_iconst C dJ13_bitCount_95d88_16 (v := (nI 2)) (by decide) ?_
  refine g_lushr C dJ13_bitCount_95d88_17 (v := (j_ushr (lb1 x) (nI 2))) rfl ?_
  refine g_ldc2 C (v := (3689348814741910323)) 2 rfl dJ13_bitCount_95d88_18 ?_
  refine g_land C dJ13_bitCount_95d88_21 (v := ((j_ushr (lb1 x) (nI 2)) &&& (3689348814741910323))) rfl ?_
  refine g_ladd C dJ13_bitCount_95d88_22 (v := (lb2 (lb1 x))) rfl ?_
  refine g_lstore_n C dJ13_bitCount_95d88_23 rfl (by decide) (lv' := [(0, .long (lb2 (lb1 x)))]) rfl ?_
  refine g_lload_n C dJ13_bitCount_95d88_24 0 rfl rfl ?_
  refine g_lload_n C dJ13_bitCount_95d88_25 0 rfl rfl ?_
  refine g_iconst C dJ13_bitCount_95d88_26 (v := (nI 4)) (by decide) ?_
  refine g_lushr C dJ13_bitCount_95d88_27 (v := (j_ushr (lb2 (lb1 x)) (nI 4))) rfl ?_
  refine g_ladd C dJ13_bitCount_95d88_28 (v := ((lb2 (lb1 x)) + (j_ushr (lb2 (lb1 x)) (nI 4)))) rfl ?_
  refine g_ldc2 C (v := (1085102592571150095)) 3 rfl dJ13_bitCount_95d88_29 ?_
  refine g_land C dJ13_bitCount_95d88_32 (v := (lb3 (lb2 (lb1 x)))) rfl ?_
  refine g_lstore_n C dJ13_bitCount_95d88_33 rfl (by decide) (lv' := [(0, .long (lb3 (lb2 (lb1 x))))]) rfl ?_
  refine g_lload_n C dJ13_bitCount_95d88_34 0 rfl rfl ?_
  refine g_lload_n C dJ13_bitCount_95d88_35 0 rfl rfl ?_
  refine g_bipush C dJ13_bitCount_95d88_36 (v := (nI 8)) (by decide) ?_
  refine g_lushr C dJ13_bitCount_95d88_38 (v := (j_ushr (lb3 (lb2 (lb1 x))) (nI 8))) rfl ?_
  refine g_ladd C dJ13_bitCount_95d88_39 (v := (lb4 (lb3 (lb2 (lb1 x))) 8)) rfl ?_
  refine g_lstore_n C dJ13_bitCount_95d88_40 rfl (by decide) (lv' := [(0, .long (lb4 (lb3 (lb2 (lb1 x))) 8))]) rfl ?_
  refine g_lload_n C dJ13_bitCount_95d88_41 0 rfl rfl ?_
  refine g_lload_n C dJ13_bitCount_95d88_42 0 rfl rfl ?_
  refine g_bipush C dJ13_bitCount_95d88_43 (v := (nI 16)) (by decide) ?_
  refine g_lushr C dJ13_bitCount_95d88_45 (v := (j_ushr (lb4 (lb3 (lb2 (lb1 x))) 8) (nI 16))) rfl ?_
  refine g_ladd C dJ13_bitCount_95d88_46 (v := (lb4 (lb4 (lb3 (lb2 (lb1 x))) 8) 16)) rfl ?_
  refine g_lstore_n C dJ13_bitCount_95d88_47 rfl (by decide) (lv' := [(0, .long (lb4 (lb4 (lb3 (lb2 (lb1 x))) 8) 16))]) rfl ?_
  refine g_lload_n C dJ13_bitCount_95d88_48 0 rfl rfl ?_
  refine g_lload_n C dJ13_bitCount_95d88_49 0 rfl rfl ?_
  refine g_bipush C dJ13_bitCount_95d88_50 (v := (nI 32)) (by decide) ?_
  refine g_lushr C dJ13_bitCount_95d88_52 (v := (j_ushr (lb4 (lb4 (lb3 (lb2 (lb1 x))) 8) 16) (nI 32))) rfl ?_
  refine g_ladd C dJ13_bitCount_95d88_53 (v := (lb4 (lb4 (lb4 (lb3 (lb2 (lb1 x))) 8) 16) 32)) rfl ?_
  refine g_lstore_n C dJ13_bitCount_95d88_54 rfl (by decide) (lv' := [(0, .long (lb4 (lb4 (lb4 (lb3 (lb2 (lb1 x))) 8) 16) 32))]) rfl ?_
  refine g_lload_n C dJ13_bitCount_95d88_55 0 rfl rfl ?_
  refine g_l2i C dJ13_bitCount_95d88_56 (v := (Int64.toInt32 (lb4 (lb4 (lb4 (lb3 (lb2 (lb1 x))) 8) 16) 32))) rfl ?_
  refine g_bipush C dJ13_bitCount_95d88_57 (v := (nI 127)) (by decide) ?_
  refine g_iand C dJ13_bitCount_95d88_59 (v := ((Int64.toInt32 (lb4 (lb4 (lb4 (lb3 (lb2 (lb1 x))) 8) 16) 32)) &&& (nI 127))) rfl ?_
  exact hR _ _ _ _ dJ13_bitCount_95d88_60 (rfl)

abbrev rm_t_J6_bitCount_0f7a4 : Room := ({ frames := 0, cells := 0, slots := 0, locals := 0 } : Room)
set_option maxHeartbeats 4000000 in
set_option maxRecDepth 100000 in
theorem t_J6_bitCount_0f7a4 (l : Launch) (D : va_G) (ty : g_T3) (x : Int32) : g_P l yJ6_bitCount_0f7a4 wsJ6_bitCount_0f7a4 rm_t_J6_bitCount_0f7a4 D ty g_X0 [.int x] [] (g_pi (fun r => r = ibc x)) := by
  refine g_ofPi (cc := cJ6_bitCount_0f7a4) (nL := 1) (own := RJ6) (by decide) rfl rfl g_X0_ok (Nat.le_of_ble_eq_true rfl) ?_
  intro p e s m args below meth c Q C hX hR
  refine g_lv (lv' := [(0, .int x)]) [0] rfl ?_
  refine g_iload_n C dJ6_bitCount_0f7a4_0 0 rfl rfl ?_
  refine g_iload_n C dJ6_bitCount_0f7a4_1 0 rfl rfl ?_
  refine g_iconst C dJ6_bitCount_0f7a4_2 (v := (nI 1)) (by decide) ?_
  refine g_iushr C dJ6_bitCount_0f7a4_3 (v := (i_ushr x (nI 1))) rfl ?_
  refine g_ldcw C (v := (nI 1431655765)) 1 rfl dJ6_bitCount_0f7a4_4 ?_
  refine g_iand C dJ6_bitCount_0f7a4_7 (v := ((i_ushr x (nI 1)) &&& (nI 1431655765))) rfl ?_
  refine g_isub C dJ6_bitCount_0f7a4_8 (v := (ib1 x)) rfl ?_
  refine g_istore_n C dJ6_bitCount_0f7a4_9 rfl (by decide) (lv' := [(0, .int (ib1 x))]) rfl ?_
  refine g_iload_n C dJ6_bitCount_0f7a4_10 0 rfl rfl ?_
  refine g_ldcw C (v := (nI 858993459)) 2 rfl dJ6_bitCount_0f7a4_11 ?_
  refine g_iand C dJ6_bitCount_0f7a4_14 (v := ((ib1 x) &&& (nI 858993459))) rfl ?_
  refine g_iload_n C dJ6_bitCount_0f7a4_15 0 rfl rfl ?_
  refine g_iconst C dJ6_bitCount_0f7a4_16 (v := (nI 2)) (by decide) ?_
  refine g_iushr C dJ6_bitCount_0f7a4_17 (v := (i_ushr (ib1 x) (nI 2))) rfl ?_
  refine g_ldcw C (v := (nI 858993459)) 2 rfl dJ6_bitCount_0f7a4_18 ?_
  refine g_iand C dJ6_bitCount_0f7a4_21 (v := ((i_ushr (ib1 x) (nI 2)) &&& (nI 858993459))) rfl ?_
  refine g_iadd C dJ6_bitCount_0f7a4_22 (v := (ib2 (ib1 x))) rfl ?_
  refine g_istore_n C dJ6_bitCount_0f7a4_23 rfl (by decide) (lv' := [(0, .int (ib2 (ib1 x)))]) rfl ?_
  refine g_iload_n C dJ6_bitCount_0f7a4_24 0 rfl rfl ?_
  refine g_iload_n C dJ6_bitCount_0f7a4_25 0 rfl rfl ?_
  refine g_iconst C dJ6_bitCount_0f7a4_26 (v := (nI 4)) (by decide) ?_
  refine g_iushr C dJ6_bitCount_0f7a4_27 (v := (i_ushr (ib2 (ib1 x)) (nI 4))) rfl ?_
  refine g_iadd C dJ6_bitCount_0f7a4_28 (v := ((ib2 (ib1 x)) + (i_ushr (ib2 (ib1 x)) (nI 4)))) rfl ?_
  refine g_ldcw C (v := (nI 252645135)) 3 rfl dJ6_bitCount_0f7a4_29 ?_
  refine g_iand C dJ6_bitCount_0f7a4_32 (v := (ib3 (ib2 (ib1 x)))) rfl ?_
  refine g_istore_n C dJ6_bitCount_0f7a4_33 rfl (by decide) (lv' := [(0, .int (ib3 (ib2 (ib1 x))))]) rfl ?_
  refine g_iload_n C dJ6_bitCount_0f7a4_34 0 rfl rfl ?_
  refine g_iload_n C dJ6_bitCount_0f7a4_35 0 rfl rfl ?_
  refine g_bipush C dJ6_bitCount_0f7a4_36 (v := (nI 8)) (by decide) ?_
  refine g_iushr C dJ6_bitCount_0f7a4_38 (v := (i_ushr (ib3 (ib2 (ib1 x))) (nI 8))) rfl ?_
  refine g_iadd C dJ6_bitCount_0f7a4_39 (v := (ib4 (ib3 (ib2 (ib1 x))) 8)) rfl ?_
  refine g_istore_n C dJ6_bitCount_0f7a4_40 rfl (by decide) (lv' := [(0, .int (ib4 (ib3 (ib2 (ib1 x))) 8))]) rfl ?_
  refine g_iload_n C dJ6_bitCount_0f7a4_41 0 rfl rfl ?_
  refine g_iload_n C dJ6_bitCount_0f7a4_42 0 rfl rfl ?_
  refine g_bipush C dJ6_bitCount_0f7a4_43 (v := (nI 16)) (by decide) ?_
  refine g_iushr C dJ6_bitCount_0f7a4_45 (v := (i_ushr (ib4 (ib3 (ib2 (ib1 x))) 8) (nI 16))) rfl ?_
  refine g_iadd C dJ6_bitCount_0f7a4_46 (v := (ib4 (ib4 (ib3 (ib2 (ib1 x))) 8) 16)) rfl ?_
  refine g_istore_n C dJ6_bitCount_0f7a4_47 rfl (by decide) (lv' := [(0, .int (ib4 (ib4 (ib3 (ib2 (ib1 x))) 8) 16))]) rfl ?_
  refine g_iload_n C dJ6_bitCount_0f7a4_48 0 rfl rfl ?_
  refine g_bipush C dJ6_bitCount_0f7a4_49 (v := (nI 63)) (by decide) ?_
  refine g_iand C dJ6_bitCount_0f7a4_51 (v := ((ib4 (ib4 (ib3 (ib2 (ib1 x))) 8) 16) &&& (nI 63))) rfl ?_
  exact hR _ _ _ _ dJ6_bitCount_0f7a4_52 (rfl)

abbrev rm_t_X0_countDifferences : Room := ({ frames := 1, cells := 0, slots := 0, locals := 21 } : Room)
set_option maxHeartbeats 4000000 in
set_option maxRecDepth 100000 in
theorem t_X0_countDifferences (l : Launch) (D : va_G) (ty : g_T3) (f g : Int64) : g_P l yX0_countDifferences wsX0_countDifferences rm_t_X0_countDifferences D ty g_X0 [.long f, .long g] [] (g_pi (fun r => r = lbc (dfF f g))) := by
  refine g_ofPi (cc := cX0_countDifferences) (nL := 6) (own := RX0) (by decide) rfl rfl g_X0_ok (Nat.le_of_ble_eq_true rfl) ?_
  intro p e s m args below meth c Q C hX hR
  refine g_lv (lv' := [(0, .long f), (2, .long g)]) [0, 1] rfl ?_
  refine g_lload_n C dX0_countDifferences_0 0 rfl rfl ?_
  refine g_lload_n C dX0_countDifferences_1 1 rfl rfl ?_
  refine g_lxor C dX0_countDifferences_2 (v := (f ^^^ g)) rfl ?_
  refine g_lstore C dX0_countDifferences_3 (by decide) (lv' := [(4, .long (f ^^^ g)), (0, .long f), (2, .long g)]) rfl ?_
  refine g_lload C dX0_countDifferences_5 0 rfl ?_
  refine g_lload C dX0_countDifferences_7 0 rfl ?_
  refine g_iconst C dX0_countDifferences_9 (v := (nI 2)) (by decide) ?_
  refine g_lushr C dX0_countDifferences_10 (v := (j_ushr (f ^^^ g) (nI 2))) rfl ?_
  refine g_lor C dX0_countDifferences_11 (v := ((f ^^^ g) ||| (j_ushr (f ^^^ g) (nI 2)))) rfl ?_
  refine g_lstore C dX0_countDifferences_12 (by decide) (lv' := [(4, .long ((f ^^^ g) ||| (j_ushr (f ^^^ g) (nI 2)))), (0, .long f), (2, .long g)]) rfl ?_
  refine g_lload C dX0_countDifferences_14 0 rfl ?_
  refine g_lload C dX0_countDifferences_16 0 rfl ?_
  refine g_iconst C dX0_countDifferences_18 (v := (nI 1)) (by decide) ?_
  refine g_lushr C dX0_countDifferences_19 (v := (j_ushr ((f ^^^ g) ||| (j_ushr (f ^^^ g) (nI 2))) (nI 1))) rfl ?_
  refine g_lor C dX0_countDifferences_20 (v := (((f ^^^ g) ||| (j_ushr (f ^^^ g) (nI 2))) ||| (j_ushr ((f ^^^ g) ||| (j_ushr (f ^^^ g) (nI 2))) (nI 1)))) rfl ?_
  refine g_lstore C dX0_countDifferences_21 (by decide) (lv' := [(4, .long (((f ^^^ g) ||| (j_ushr (f ^^^ g) (nI 2))) ||| (j_ushr ((f ^^^ g) ||| (j_ushr (f ^^^ g) (nI 2))) (nI 1)))), (0, .long f), (2, .long g)]) rfl ?_
  refine g_lload C dX0_countDifferences_23 0 rfl ?_
  refine g_ldc2 C (v := (1229782938247303441)) 1 rfl dX0_countDifferences_25 ?_
  refine g_land C dX0_countDifferences_28 (v := (dfF f g)) rfl ?_
  refine g_callPS C ⟨g_X0_ok, trivial⟩ (t_J13_bitCount_95d88 l D ty (dfF f g)) rfl gX0_countDifferences_J13_bitCount_95d88 1 (by decide +kernel) rfl ⟨rfl, rfl⟩ ⟨Nat.le_of_ble_eq_true rfl, Nat.le_of_ble_eq_true rfl⟩ (rest := []) [] rfl (Nat.le_of_ble_eq_true rfl) dX0_countDifferences_29 ⟨Nat.le_of_ble_eq_true rfl, Nat.le_of_ble_eq_true rfl⟩ rfl (g_ki (fun r hr => ?_))
  subst hr
  exact hR _ _ _ _ dX0_countDifferences_32 (rfl)

abbrev rm_t_X0_image : Room := ({ frames := 1, cells := 0, slots := 0, locals := 22 } : Room)
set_option maxHeartbeats 4000000 in
set_option maxRecDepth 100000 in
theorem t_X0_image (l : Launch) (D : va_G) (ty : g_T3) (f : Int64) (sv : Nat) (hs : sv < 65536) : g_P l yX0_image wsX0_image rm_t_X0_image D ty g_X0 [.long f, .int (nI sv)] [] (g_pi (fun r => r = nI (imF f sv))) := by
  refine g_ofPi (cc := cX0_image) (nL := 5) (own := RX0) (by decide) rfl rfl g_X0_ok (Nat.le_of_ble_eq_true rfl) ?_
  intro p e s m args below meth c Q C hX hR
  refine g_lv (lv' := [(0, .long f), (2, .int (nI sv))]) [0, 1] rfl ?_
  refine g_iconst C dX0_image_0 (v := (nI 0)) (by decide) ?_
  refine g_istore_n C dX0_image_1 rfl (by decide) (lv' := [(3, .int (nI 0)), (0, .long f), (2, .int (nI sv))]) rfl ?_
  refine g_iconst C dX0_image_2 (v := (nI 0)) (by decide) ?_
  refine g_istore C dX0_image_3 (by decide) (lv' := [(4, .int (nI 0)), (3, .int (nI 0)), (0, .long f), (2, .int (nI sv))]) rfl ?_
  have L5 : ∀ (n : Nat) (i v : Nat), 16 - i < n → (i ≤ 16) → (v = imN f sv i) → gG (g_IP D s []) p l e rm_t_X0_image s m args below meth c Q 5 0 0 5 [(4, .int (nI i)), (3, .int (nI v)), (0, .long f), (2, .int (nI sv))] [] [] := by
    intro n
    induction n with
    | zero => intro i v hn; exact absurd hn (Nat.not_lt_zero _)
    | succ n ih5 =>
      intro i v hn5 hi hv
      refine g_iload C dX0_image_5 0 rfl ?_
      refine g_bipush C dX0_image_7 (v := (nI 16)) (by decide) ?_
      refine g_icmp_geN C dX0_image_9 (tgt := 39) (by decide) (by omega) (by omega) (fun h9 => ?_) (fun h9 => ?_)
      · skip
        obtain rfl : i = 16 := by omega
        subst hv
        refine g_iload_n C dX0_image_39 1 rfl rfl ?_
        exact hR _ _ _ _ dX0_image_40 (rfl)
      · skip
        refine g_iload_n C dX0_image_12 3 rfl rfl ?_
        refine g_iload C dX0_image_13 0 rfl ?_
        refine g_iushr C dX0_image_15 (v := (nI (sv / 2 ^ i))) (ni_ushr (by omega) (by omega)) ?_
        refine g_iconst C dX0_image_16 (v := (nI 1)) (by decide) ?_
        refine g_iand C dX0_image_17 (v := (nI ((sv / 2 ^ i) % 2))) (ni_and1 _) ?_
        refine g_iconst C dX0_image_18 (v := (nI 1)) (by decide) ?_
        refine g_icmp_neN C dX0_image_19 (tgt := 33) (by decide) (by omega) (by omega) (fun h19 => ?_) (fun h19 => ?_)
        · skip
          refine g_iinc C dX0_image_33 0 rfl (v := (nI (i + 1))) (nI_1 i) (by decide) (lv' := [(4, .int (nI (i + 1))), (3, .int (nI v)), (0, .long f), (2, .int (nI sv))]) rfl ?_
          refine g_goto C dX0_image_36 (tgt := 5) (by decide) ?_
          exact ih5 (i + 1) _ (by omega) (by omega) (by rw [hv]; first | exact (imN_1 (by omega)).symm | exact (imN_0 (by omega)).symm)
        · skip
          refine g_iload_n C dX0_image_22 1 rfl rfl ?_
          refine g_iconst C dX0_image_23 (v := (nI 1)) (by decide) ?_
          refine g_lload_n C dX0_image_24 2 rfl rfl ?_
          refine g_iload C dX0_image_25 0 rfl ?_
          refine g_callPS C ⟨g_X0_ok, trivial⟩ (t_X0_valueAt l D ty f i (by omega)) rfl gX0_image_X0_valueAt 2 (by decide +kernel) rfl ⟨rfl, rfl⟩ ⟨Nat.le_of_ble_eq_true rfl, Nat.le_of_ble_eq_true rfl⟩ (rest := [.int (nI 1), .int (nI v)]) [] rfl (Nat.le_of_ble_eq_true rfl) dX0_image_27 ⟨Nat.le_of_ble_eq_true rfl, Nat.le_of_ble_eq_true rfl⟩ rfl (g_ki (fun r hr => ?_))
          subst hr
          have := nib_lt f i
          refine g_ishl C dX0_image_30 (v := (nI (2 ^ (nib f i)))) (ni_shl1 (by omega)) ?_
          refine g_ior C dX0_image_31 (v := (nI (v ||| (2 ^ (nib f i))))) (nior _ _) ?_
          refine g_istore_n C dX0_image_32 rfl (by decide) (lv' := [(3, .int (nI (v ||| (2 ^ (nib f i))))), (4, .int (nI i)), (0, .long f), (2, .int (nI sv))]) rfl ?_
          refine g_iinc C dX0_image_33 1 rfl (v := (nI (i + 1))) (nI_1 i) (by decide) (lv' := [(4, .int (nI (i + 1))), (3, .int (nI (v ||| (2 ^ (nib f i))))), (0, .long f), (2, .int (nI sv))]) rfl ?_
          refine g_goto C dX0_image_36 (tgt := 5) (by decide) ?_
          exact ih5 (i + 1) _ (by omega) (by omega) (by rw [hv]; first | exact (imN_1 (by omega)).symm | exact (imN_0 (by omega)).symm)
  exact L5 _ 0 0 (Nat.lt_succ_self _) (by omega) rfl

abbrev rm_t_X0_countValues : Room := ({ frames := 2, cells := 0, slots := 0, locals := 46 } : Room)
set_option maxHeartbeats 4000000 in
set_option maxRecDepth 100000 in
theorem t_X0_countValues (l : Launch) (D : va_G) (ty : g_T3) (f : Int64) : g_P l yX0_countValues wsX0_countValues rm_t_X0_countValues D ty g_X0 [.long f] [] (g_pi (fun r => r = ibc (nI (imF f 65535)))) := by
  refine g_ofPi (cc := cX0_countValues) (nL := 2) (own := RX0) (by decide) rfl rfl g_X0_ok (Nat.le_of_ble_eq_true rfl) ?_
  intro p e s m args below meth c Q C hX hR
  refine g_lv (lv' := [(0, .long f)]) [0] rfl ?_
  refine g_lload_n C dX0_countValues_0 0 rfl rfl ?_
  refine g_ldc C (v := (nI 65535)) 1 rfl dX0_countValues_1 ?_
  refine g_callPS C ⟨g_X0_ok, trivial⟩ (t_X0_image l D ty f 65535 (by omega)) rfl gX0_countValues_X0_image 2 (by decide +kernel) rfl ⟨rfl, rfl⟩ ⟨Nat.le_of_ble_eq_true rfl, Nat.le_of_ble_eq_true rfl⟩ (rest := []) [] rfl (Nat.le_of_ble_eq_true rfl) dX0_countValues_3 ⟨Nat.le_of_ble_eq_true rfl, Nat.le_of_ble_eq_true rfl⟩ rfl (g_ki (fun r hr => ?_))
  subst hr
  have : imF f 65535 < 65536 := imN_lt _ _ 16
  refine g_callPS C ⟨g_X0_ok, trivial⟩ (t_J6_bitCount_0f7a4 l D ty (nI (imF f 65535))) rfl gX0_countValues_J6_bitCount_0f7a4 1 (by decide +kernel) rfl ⟨rfl, rfl⟩ ⟨Nat.le_of_ble_eq_true rfl, Nat.le_of_ble_eq_true rfl⟩ (rest := []) [] rfl (Nat.le_of_ble_eq_true rfl) dX0_countValues_6 ⟨Nat.le_of_ble_eq_true rfl, Nat.le_of_ble_eq_true rfl⟩ rfl (g_ki (fun r hr => ?_))
  subst hr
  exact hR _ _ _ _ dX0_countValues_9 (rfl)

abbrev rm_t_X0_returningInputs : Room := ({ frames := 2, cells := 0, slots := 0, locals := 46 } : Room)
set_option maxHeartbeats 4000000 in
set_option maxRecDepth 100000 in
theorem t_X0_returningInputs (l : Launch) (D : va_G) (ty : g_T3) (f : Int64) : g_P l yX0_returningInputs wsX0_returningInputs rm_t_X0_returningInputs D ty g_X0 [.long f] [] (g_pi (fun r => r = nI (itF f 16))) := by
  refine g_ofPi (cc := cX0_returningInputs) (nL := 4) (own := RX0) (by decide) rfl rfl g_X0_ok (Nat.le_of_ble_eq_true rfl) ?_
  intro p e s m args below meth c Q C hX hR
  refine g_lv (lv' := [(0, .long f)]) [0] rfl ?_
  refine g_ldc C (v := (nI 65535)) 1 rfl dX0_returningInputs_0 ?_
  refine g_istore_n C dX0_returningInputs_2 rfl (by decide) (lv' := [(2, .int (nI 65535)), (0, .long f)]) rfl ?_
  refine g_iconst C dX0_returningInputs_3 (v := (nI 0)) (by decide) ?_
  refine g_istore_n C dX0_returningInputs_4 rfl (by decide) (lv' := [(3, .int (nI 0)), (2, .int (nI 65535)), (0, .long f)]) rfl ?_
  have L5 : ∀ (n : Nat) (i : Nat), 16 - i < n → (i ≤ 16) → gG (g_IP D s []) p l e rm_t_X0_returningInputs s m args below meth c Q 4 0 0 5 [(3, .int (nI i)), (2, .int (nI (itF f i))), (0, .long f)] [] [] := by
    intro n
    induction n with
    | zero => intro i hn; exact absurd hn (Nat.not_lt_zero _)
    | succ n ih5 =>
      intro i hn5 hi
      have := itF_lt f i
      refine g_iload_n C dX0_returningInputs_5 0 rfl rfl ?_
      refine g_bipush C dX0_returningInputs_6 (v := (nI 16)) (by decide) ?_
      refine g_icmp_geN C dX0_returningInputs_8 (tgt := 23) (by decide) (by omega) (by omega) (fun h8 => ?_) (fun h8 => ?_)
      · skip
        obtain rfl : i = 16 := by omega
        refine g_iload_n C dX0_returningInputs_23 1 rfl rfl ?_
        exact hR _ _ _ _ dX0_returningInputs_24 (rfl)
      · skip
        refine g_lload_n C dX0_returningInputs_11 2 rfl rfl ?_
        refine g_iload_n C dX0_returningInputs_12 1 rfl rfl ?_
        refine g_callPS C ⟨g_X0_ok, trivial⟩ (t_X0_image l D ty f (itF f i) (by omega)) rfl gX0_returningInputs_X0_image 2 (by decide +kernel) rfl ⟨rfl, rfl⟩ ⟨Nat.le_of_ble_eq_true rfl, Nat.le_of_ble_eq_true rfl⟩ (rest := []) [] rfl (Nat.le_of_ble_eq_true rfl) dX0_returningInputs_13 ⟨Nat.le_of_ble_eq_true rfl, Nat.le_of_ble_eq_true rfl⟩ rfl (g_ki (fun r hr => ?_))
        subst hr
        have : imF f (itF f i) < 65536 := imN_lt _ _ 16
        refine g_istore_n C dX0_returningInputs_16 rfl (by decide) (lv' := [(2, .int (nI (imF f (itF f i)))), (3, .int (nI i)), (0, .long f)]) rfl ?_
        refine g_iinc C dX0_returningInputs_17 1 rfl (v := (nI (i + 1))) (nI_1 i) (by decide) (lv' := [(3, .int (nI (i + 1))), (2, .int (nI (imF f (itF f i)))), (0, .long f)]) rfl ?_
        refine g_goto C dX0_returningInputs_20 (tgt := 5) (by decide) ?_
        exact ih5 (i + 1) (by omega) (by omega)
  exact L5 _ 0 (Nat.lt_succ_self _) (by omega)

abbrev rm_t_X0_stepsToReturning : Room := ({ frames := 3, cells := 0, slots := 0, locals := 69 } : Room)
set_option maxHeartbeats 4000000 in
set_option maxRecDepth 100000 in
theorem t_X0_stepsToReturning (l : Launch) (D : va_G) (ty : g_T3) (f : Int64) : g_P l yX0_stepsToReturning wsX0_stepsToReturning rm_t_X0_stepsToReturning D ty g_X0 [.long f] [] (g_pi (fun r => ∃ n, r = nI n ∧ isStp f n)) := by
  refine g_ofPi (cc := cX0_stepsToReturning) (nL := 5) (own := RX0) (by decide) rfl rfl g_X0_ok (Nat.le_of_ble_eq_true rfl) ?_
  intro p e s m args below meth c Q C hX hR
  refine g_lv (lv' := [(0, .long f)]) [0] rfl ?_
  refine g_lload_n C dX0_stepsToReturning_0 0 rfl rfl ?_
  refine g_callPS C ⟨g_X0_ok, trivial⟩ (t_X0_returningInputs l D ty f) rfl gX0_stepsToReturning_X0_returningInputs 1 (by decide +kernel) rfl ⟨rfl, rfl⟩ ⟨Nat.le_of_ble_eq_true rfl, Nat.le_of_ble_eq_true rfl⟩ (rest := []) [] rfl (Nat.le_of_ble_eq_true rfl) dX0_stepsToReturning_1 ⟨Nat.le_of_ble_eq_true rfl, Nat.le_of_ble_eq_true rfl⟩ rfl (g_ki (fun r hr => ?_))
  subst hr
  have := itF_lt f 16
  refine g_istore_n C dX0_stepsToReturning_4 rfl (by decide) (lv' := [(2, .int (nI (itF f 16))), (0, .long f)]) rfl ?_
  refine g_ldc C (v := (nI 65535)) 1 rfl dX0_stepsToReturning_5 ?_
  refine g_istore_n C dX0_stepsToReturning_7 rfl (by decide) (lv' := [(3, .int (nI 65535)), (2, .int (nI (itF f 16))), (0, .long f)]) rfl ?_
  refine g_iconst C dX0_stepsToReturning_8 (v := (nI 0)) (by decide) ?_
  refine g_istore C dX0_stepsToReturning_9 (by decide) (lv' := [(4, .int (nI 0)), (3, .int (nI 65535)), (2, .int (nI (itF f 16))), (0, .long f)]) rfl ?_
  have L11 : ∀ (n : Nat) (i : Nat), 16 - i < n → (i ≤ 16) → (∀ j, j < i → itF f j ≠ itF f 16) → gG (g_IP D s []) p l e rm_t_X0_stepsToReturning s m args below meth c Q 5 0 0 11 [(4, .int (nI i)), (3, .int (nI (itF f i))), (2, .int (nI (itF f 16))), (0, .long f)] [] [] := by
    intro n
    induction n with
    | zero => intro i hn; exact absurd hn (Nat.not_lt_zero _)
    | succ n ih11 =>
      intro i hn11 hi hj
      have := itF_lt f i
      refine g_iload C dX0_stepsToReturning_11 0 rfl ?_
      refine g_bipush C dX0_stepsToReturning_13 (v := (nI 16)) (by decide) ?_
      refine g_icmp_geN C dX0_stepsToReturning_15 (tgt := 35) (by decide) (by omega) (by omega) (fun h15 => ?_) (fun h15 => ?_)
      · skip
        obtain rfl : i = 16 := by omega
        refine g_iload C dX0_stepsToReturning_35 0 rfl ?_
        exact hR _ _ _ _ dX0_stepsToReturning_37 (⟨_, rfl, hi, by first | rfl | omega, hj⟩)
      · skip
        refine g_iload_n C dX0_stepsToReturning_18 1 rfl rfl ?_
        refine g_iload_n C dX0_stepsToReturning_19 2 rfl rfl ?_
        refine g_icmp_eqN C dX0_stepsToReturning_20 (tgt := 35) (by decide) (by omega) (by omega) (fun h20 => ?_) (fun h20 => ?_)
        · skip
          refine g_iload C dX0_stepsToReturning_35 0 rfl ?_
          exact hR _ _ _ _ dX0_stepsToReturning_37 (⟨_, rfl, hi, by first | rfl | omega, hj⟩)
        · skip
          refine g_lload_n C dX0_stepsToReturning_23 3 rfl rfl ?_
          refine g_iload_n C dX0_stepsToReturning_24 1 rfl rfl ?_
          refine g_callPS C ⟨g_X0_ok, trivial⟩ (t_X0_image l D ty f (itF f i) (by omega)) rfl gX0_stepsToReturning_X0_image 2 (by decide +kernel) rfl ⟨rfl, rfl⟩ ⟨Nat.le_of_ble_eq_true rfl, Nat.le_of_ble_eq_true rfl⟩ (rest := []) [] rfl (Nat.le_of_ble_eq_true rfl) dX0_stepsToReturning_25 ⟨Nat.le_of_ble_eq_true rfl, Nat.le_of_ble_eq_true rfl⟩ rfl (g_ki (fun r hr => ?_))
          subst hr
          have : imF f (itF f i) < 65536 := imN_lt _ _ 16
          refine g_istore_n C dX0_stepsToReturning_28 rfl (by decide) (lv' := [(3, .int (nI (imF f (itF f i)))), (4, .int (nI i)), (2, .int (nI (itF f 16))), (0, .long f)]) rfl ?_
          refine g_iinc C dX0_stepsToReturning_29 1 rfl (v := (nI (i + 1))) (nI_1 i) (by decide) (lv' := [(4, .int (nI (i + 1))), (3, .int (nI (imF f (itF f i)))), (2, .int (nI (itF f 16))), (0, .long f)]) rfl ?_
          refine g_goto C dX0_stepsToReturning_32 (tgt := 11) (by decide) ?_
          exact ih11 (i + 1) (by omega) (by omega) (fun j h => (Nat.lt_or_ge j i).elim (hj j) (fun q => by rw [show j = i by omega]; omega))
  exact L11 _ 0 (Nat.lt_succ_self _) (by omega) (fun j h => absurd h (Nat.not_lt_zero j))

abbrev rm_t_X0_isLinear : Room := ({ frames := 1, cells := 0, slots := 0, locals := 22 } : Room)
set_option maxHeartbeats 4000000 in
set_option maxRecDepth 100000 in
theorem t_X0_isLinear (l : Launch) (D : va_G) (ty : g_T3) (f : Int64) : g_P l yX0_isLinear wsX0_isLinear rm_t_X0_isLinear D ty g_X0 [.long f] [] (g_pi (fun r => r = nI (linB f).toNat)) := by
  refine g_ofPz (cc := cX0_isLinear) (nL := 4) (own := RX0) (by decide) rfl rfl g_X0_ok (Nat.le_of_ble_eq_true rfl) ?_
  intro p e s m args below meth c Q C hX hR
  refine g_lv (lv' := [(0, .long f)]) [0] rfl ?_
  refine g_iconst C dX0_isLinear_0 (v := (nI 0)) (by decide) ?_
  refine g_istore_n C dX0_isLinear_1 rfl (by decide) (lv' := [(2, .int (nI 0)), (0, .long f)]) rfl ?_
  have L2 : ∀ (n : Nat) (a : Nat), 16 - a < n → (a ≤ 16) → (∀ x, x < a → ∀ y, y < 16 → nib f (x ^^^ y) = nib f x ^^^ nib f y) → gG (g_IP D s []) p l e rm_t_X0_isLinear s m args below meth c Q 4 0 0 2 [(2, .int (nI a)), (0, .long f)] [] [] := by
    intro n
    induction n with
    | zero => intro a hn; exact absurd hn (Nat.not_lt_zero _)
    | succ n ih2 =>
      intro a hn2 ha hq
      refine g_iload_n C dX0_isLinear_2 0 rfl rfl ?_
      refine g_bipush C dX0_isLinear_3 (v := (nI 16)) (by decide) ?_
      refine g_icmp_geN C dX0_isLinear_5 (tgt := 51) (by decide) (by omega) (by omega) (fun h5 => ?_) (fun h5 => ?_)
      · skip
        obtain rfl : a = 16 := by omega
        refine g_iconst C dX0_isLinear_51 (v := (nI 1)) (by decide) ?_
        exact hR _ _ _ _ rfl dX0_isLinear_52 (by rw [show linB f = true from deB_t hq]; rfl)
      · skip
        refine g_iconst C dX0_isLinear_8 (v := (nI 0)) (by decide) ?_
        refine g_istore_n C dX0_isLinear_9 rfl (by decide) (lv' := [(3, .int (nI 0)), (2, .int (nI a)), (0, .long f)]) rfl ?_
        have L10 : ∀ (n : Nat) (b : Nat), 16 - b < n → (b ≤ 16) → (∀ y, y < b → nib f (a ^^^ y) = nib f a ^^^ nib f y) → gG (g_IP D s []) p l e rm_t_X0_isLinear s m args below meth c Q 4 0 0 10 [(3, .int (nI b)), (2, .int (nI a)), (0, .long f)] [] [] := by
          intro n
          induction n with
          | zero => intro b hn; exact absurd hn (Nat.not_lt_zero _)
          | succ n ih10 =>
            intro b hn10 hb hb2
            have hxy : a < 16 → b < 16 → a ^^^ b < 16 := fun h1 h2 => xor_lt (n := 4) h1 h2
            refine g_iload_n C dX0_isLinear_10 0 rfl rfl ?_
            refine g_bipush C dX0_isLinear_11 (v := (nI 16)) (by decide) ?_
            refine g_icmp_geN C dX0_isLinear_13 (tgt := 45) (by decide) (by omega) (by omega) (fun h13 => ?_) (fun h13 => ?_)
            · skip
              refine g_iinc C dX0_isLinear_45 1 rfl (v := (nI (a + 1))) (nI_1 a) (by decide) (lv' := [(2, .int (nI (a + 1))), (3, .int (nI b)), (0, .long f)]) rfl ?_
              refine g_goto C dX0_isLinear_48 (tgt := 2) (by decide) ?_
              refine g_lv [0, 2] rfl ?_
              exact ih2 (a + 1) (by omega) (by omega) (fun x hx => by rcases Nat.lt_or_ge x a with q | q; exact hq x q; obtain rfl : x = a := (by omega); obtain rfl : b = 16 := (by omega); exact hb2)
            · skip
              refine g_lload_n C dX0_isLinear_16 2 rfl rfl ?_
              refine g_iload_n C dX0_isLinear_17 1 rfl rfl ?_
              refine g_iload_n C dX0_isLinear_18 0 rfl rfl ?_
              refine g_ixor C dX0_isLinear_19 (v := (nI (a ^^^ b))) (nixor _ _) ?_
              have := hxy (by omega) (by omega)
              refine g_callPS C ⟨g_X0_ok, trivial⟩ (t_X0_valueAt l D ty f (a ^^^ b) (by omega)) rfl gX0_isLinear_X0_valueAt 2 (by decide +kernel) rfl ⟨rfl, rfl⟩ ⟨Nat.le_of_ble_eq_true rfl, Nat.le_of_ble_eq_true rfl⟩ (rest := []) [] rfl (Nat.le_of_ble_eq_true rfl) dX0_isLinear_20 ⟨Nat.le_of_ble_eq_true rfl, Nat.le_of_ble_eq_true rfl⟩ rfl (g_ki (fun r hr => ?_))
              subst hr
              have := nib_lt f (a ^^^ b)
              refine g_lload_n C dX0_isLinear_23 2 rfl rfl ?_
              refine g_iload_n C dX0_isLinear_24 1 rfl rfl ?_
              refine g_callPS C ⟨g_X0_ok, trivial⟩ (t_X0_valueAt l D ty f a (by omega)) rfl gX0_isLinear_X0_valueAt 2 (by decide +kernel) rfl ⟨rfl, rfl⟩ ⟨Nat.le_of_ble_eq_true rfl, Nat.le_of_ble_eq_true rfl⟩ (rest := [.int (nI (nib f (a ^^^ b)))]) [] rfl (Nat.le_of_ble_eq_true rfl) dX0_isLinear_25 ⟨Nat.le_of_ble_eq_true rfl, Nat.le_of_ble_eq_true rfl⟩ rfl (g_ki (fun r hr => ?_))
              subst hr
              have := nib_lt f a
              refine g_lload_n C dX0_isLinear_28 2 rfl rfl ?_
              refine g_iload_n C dX0_isLinear_29 0 rfl rfl ?_
              refine g_callPS C ⟨g_X0_ok, trivial⟩ (t_X0_valueAt l D ty f b (by omega)) rfl gX0_isLinear_X0_valueAt 2 (by decide +kernel) rfl ⟨rfl, rfl⟩ ⟨Nat.le_of_ble_eq_true rfl, Nat.le_of_ble_eq_true rfl⟩ (rest := [.int (nI (nib f a)), .int (nI (nib f (a ^^^ b)))]) [] rfl (Nat.le_of_ble_eq_true rfl) dX0_isLinear_30 ⟨Nat.le_of_ble_eq_true rfl, Nat.le_of_ble_eq_true rfl⟩ rfl (g_ki (fun r hr => ?_))
              subst hr
              have := nib_lt f b
              have : nib f a ^^^ nib f b < 16 := xor_lt (n := 4) (nib_lt f a) (nib_lt f b)
              refine g_ixor C dX0_isLinear_33 (v := (nI ((nib f a) ^^^ (nib f b)))) (nixor _ _) ?_
              refine g_icmp_eqN C dX0_isLinear_34 (tgt := 39) (by decide) (by omega) (by omega) (fun h34 => ?_) (fun h34 => ?_)
              · skip
                refine g_iinc C dX0_isLinear_39 0 rfl (v := (nI (b + 1))) (nI_1 b) (by decide) (lv' := [(3, .int (nI (b + 1))), (2, .int (nI a)), (0, .long f)]) rfl ?_
                refine g_goto C dX0_isLinear_42 (tgt := 10) (by decide) ?_
                exact ih10 (b + 1) (by omega) (by omega) (fun y hy => by rcases Nat.lt_or_ge y b with q | q; exact hb2 y q; obtain rfl : y = b := (by omega); exact h34)
              · skip
                refine g_iconst C dX0_isLinear_37 (v := (nI 0)) (by decide) ?_
                exact hR _ _ _ _ rfl dX0_isLinear_38 (by rw [show linB f = false from deB_f (fun q => h34 (q a (by omega) b (by omega)))]; rfl)
        exact L10 _ 0 (Nat.lt_succ_self _) (by omega) (fun _ h => absurd h (Nat.not_lt_zero _))
  exact L2 _ 0 (Nat.lt_succ_self _) (by omega) (fun _ h => absurd h (Nat.not_lt_zero _))

abbrev rm_t_X0_isRising : Room := ({ frames := 1, cells := 0, slots := 0, locals := 22 } : Room)
set_option maxHeartbeats 4000000 in
set_option maxRecDepth 100000 in
theorem t_X0_isRising (l : Launch) (D : va_G) (ty : g_T3) (f : Int64) : g_P l yX0_isRising wsX0_isRising rm_t_X0_isRising D ty g_X0 [.long f] [] (g_pi (fun r => r = nI (risB f).toNat)) := by
  refine g_ofPz (cc := cX0_isRising) (nL := 3) (own := RX0) (by decide) rfl rfl g_X0_ok (Nat.le_of_ble_eq_true rfl) ?_
  intro p e s m args below meth c Q C hX hR
  refine g_lv (lv' := [(0, .long f)]) [0] rfl ?_
  refine g_iconst C dX0_isRising_0 (v := (nI 1)) (by decide) ?_
  refine g_istore_n C dX0_isRising_1 rfl (by decide) (lv' := [(2, .int (nI 1)), (0, .long f)]) rfl ?_
  have L2 : ∀ (n : Nat) (a : Nat), 16 - a < n → (1 ≤ a ∧ a ≤ 16) → (∀ x, x + 1 < a → nib f x ≤ nib f (x + 1)) → gG (g_IP D s []) p l e rm_t_X0_isRising s m args below meth c Q 3 0 0 2 [(2, .int (nI a)), (0, .long f)] [] [] := by
    intro n
    induction n with
    | zero => intro a hn; exact absurd hn (Nat.not_lt_zero _)
    | succ n ih2 =>
      intro a hn2 ha hq
      refine g_iload_n C dX0_isRising_2 0 rfl rfl ?_
      refine g_bipush C dX0_isRising_3 (v := (nI 16)) (by decide) ?_
      refine g_icmp_geN C dX0_isRising_5 (tgt := 31) (by decide) (by omega) (by omega) (fun h5 => ?_) (fun h5 => ?_)
      · skip
        obtain rfl : a = 16 := by omega
        refine g_iconst C dX0_isRising_31 (v := (nI 1)) (by decide) ?_
        exact hR _ _ _ _ rfl dX0_isRising_32 (by rw [show risB f = true from deB_t (fun x hx => hq x (by omega))]; rfl)
      · skip
        refine g_lload_n C dX0_isRising_8 1 rfl rfl ?_
        refine g_iload_n C dX0_isRising_9 0 rfl rfl ?_
        refine g_callPS C ⟨g_X0_ok, trivial⟩ (t_X0_valueAt l D ty f a (by omega)) rfl gX0_isRising_X0_valueAt 2 (by decide +kernel) rfl ⟨rfl, rfl⟩ ⟨Nat.le_of_ble_eq_true rfl, Nat.le_of_ble_eq_true rfl⟩ (rest := []) [] rfl (Nat.le_of_ble_eq_true rfl) dX0_isRising_10 ⟨Nat.le_of_ble_eq_true rfl, Nat.le_of_ble_eq_true rfl⟩ rfl (g_ki (fun r hr => ?_))
        subst hr
        have := nib_lt f a
        refine g_lload_n C dX0_isRising_13 1 rfl rfl ?_
        refine g_iload_n C dX0_isRising_14 0 rfl rfl ?_
        refine g_iconst C dX0_isRising_15 (v := (nI 1)) (by decide) ?_
        refine g_isub C dX0_isRising_16 (v := (nI (a - 1))) (pk_sub (by omega)) ?_
        refine g_callPS C ⟨g_X0_ok, trivial⟩ (t_X0_valueAt l D ty f (a - 1) (by omega)) rfl gX0_isRising_X0_valueAt 2 (by decide +kernel) rfl ⟨rfl, rfl⟩ ⟨Nat.le_of_ble_eq_true rfl, Nat.le_of_ble_eq_true rfl⟩ (rest := [.int (nI (nib f a))]) [] rfl (Nat.le_of_ble_eq_true rfl) dX0_isRising_17 ⟨Nat.le_of_ble_eq_true rfl, Nat.le_of_ble_eq_true rfl⟩ rfl (g_ki (fun r hr => ?_))
        subst hr
        have := nib_lt f (a - 1)
        refine g_icmp_geN C dX0_isRising_20 (tgt := 25) (by decide) (by omega) (by omega) (fun h20 => ?_) (fun h20 => ?_)
        · skip
          refine g_iinc C dX0_isRising_25 0 rfl (v := (nI (a + 1))) (nI_1 a) (by decide) (lv' := [(2, .int (nI (a + 1))), (0, .long f)]) rfl ?_
          refine g_goto C dX0_isRising_28 (tgt := 2) (by decide) ?_
          exact ih2 (a + 1) (by omega) (by omega) (fun x hx => by rcases Nat.lt_or_ge (x + 1) a with q | q; exact hq x q; obtain rfl : a = x + 1 := (by omega); exact h20)
        · skip
          refine g_iconst C dX0_isRising_23 (v := (nI 0)) (by decide) ?_
          exact hR _ _ _ _ rfl dX0_isRising_24 (by rw [show risB f = false from deB_f (fun q => by have := q (a - 1) (by omega); rw [show a - 1 + 1 = a by omega] at this; omega)]; rfl)
  exact L2 _ 1 (Nat.lt_succ_self _) (by omega) (fun _ h => absurd h (by omega))

abbrev rm_t_X0_isOfLowerBits : Room := ({ frames := 1, cells := 0, slots := 0, locals := 22 } : Room)
set_option maxHeartbeats 4000000 in
set_option maxRecDepth 100000 in
theorem t_X0_isOfLowerBits (l : Launch) (D : va_G) (ty : g_T3) (f : Int64) : g_P l yX0_isOfLowerBits wsX0_isOfLowerBits rm_t_X0_isOfLowerBits D ty g_X0 [.long f] [] (g_pi (fun r => r = nI (lowB f).toNat)) := by
  refine g_ofPz (cc := cX0_isOfLowerBits) (nL := 6) (own := RX0) (by decide) rfl rfl g_X0_ok (Nat.le_of_ble_eq_true rfl) ?_
  intro p e s m args below meth c Q C hX hR
  refine g_lv (lv' := [(0, .long f)]) [0] rfl ?_
  refine g_iconst C dX0_isOfLowerBits_0 (v := (nI 0)) (by decide) ?_
  refine g_istore_n C dX0_isOfLowerBits_1 rfl (by decide) (lv' := [(2, .int (nI 0)), (0, .long f)]) rfl ?_
  have L2 : ∀ (n : Nat) (k : Nat), 4 - k < n → (k ≤ 4) → (∀ j, j < k → ∀ x, x < 16 → ¬ (nib f x ^^^ nib f (x &&& (2 * 2 ^ j - 1))) / 2 ^ j % 2 = 1) → gG (g_IP D s []) p l e rm_t_X0_isOfLowerBits s m args below meth c Q 6 0 0 2 [(2, .int (nI k)), (0, .long f)] [] [] := by
    intro n
    induction n with
    | zero => intro k hn; exact absurd hn (Nat.not_lt_zero _)
    | succ n ih2 =>
      intro k hn2 hk hq
      refine g_iload_n C dX0_isOfLowerBits_2 0 rfl rfl ?_
      refine g_iconst C dX0_isOfLowerBits_3 (v := (nI 4)) (by decide) ?_
      refine g_icmp_geN C dX0_isOfLowerBits_4 (tgt := 64) (by decide) (by omega) (by omega) (fun h4 => ?_) (fun h4 => ?_)
      · skip
        obtain rfl : k = 4 := by omega
        refine g_iconst C dX0_isOfLowerBits_64 (v := (nI 1)) (by decide) ?_
        exact hR _ _ _ _ rfl dX0_isOfLowerBits_65 (by rw [show lowB f = true from deB_t hq]; rfl)
      · skip
        have hp : 2 ^ k ≤ 8 := (Nat.pow_le_pow_right (by decide) (show k ≤ 3 by omega) : 2 ^ k ≤ 2 ^ 3)
        have hp0 : 0 < 2 ^ k := Nat.two_pow_pos k
        refine g_iconst C dX0_isOfLowerBits_7 (v := (nI 2)) (by decide) ?_
        refine g_iload_n C dX0_isOfLowerBits_8 0 rfl rfl ?_
        refine g_ishl C dX0_isOfLowerBits_9 (v := (nI (2 * 2 ^ k))) (ni_shl (by omega) (by omega)) ?_
        refine g_iconst C dX0_isOfLowerBits_10 (v := (nI 1)) (by decide) ?_
        refine g_isub C dX0_isOfLowerBits_11 (v := (nI ((2 * 2 ^ k) - 1))) (pk_sub (by omega)) ?_
        refine g_istore_n C dX0_isOfLowerBits_12 rfl (by decide) (lv' := [(3, .int (nI ((2 * 2 ^ k) - 1))), (2, .int (nI k)), (0, .long f)]) rfl ?_
        refine g_iconst C dX0_isOfLowerBits_13 (v := (nI 0)) (by decide) ?_
        refine g_istore C dX0_isOfLowerBits_14 (by decide) (lv' := [(4, .int (nI 0)), (3, .int (nI ((2 * 2 ^ k) - 1))), (2, .int (nI k)), (0, .long f)]) rfl ?_
        have L16 : ∀ (n : Nat) (b : Nat), 16 - b < n → (b ≤ 16) → (∀ x, x < b → ¬ (nib f x ^^^ nib f (x &&& (2 * 2 ^ k - 1))) / 2 ^ k % 2 = 1) → gG (g_IP D s []) p l e rm_t_X0_isOfLowerBits s m args below meth c Q 6 0 0 16 [(4, .int (nI b)), (3, .int (nI (2 * 2 ^ k - 1))), (2, .int (nI k)), (0, .long f)] [] [] := by
          intro n
          induction n with
          | zero => intro b hn; exact absurd hn (Nat.not_lt_zero _)
          | succ n ih16 =>
            intro b hn16 hb hb2
            refine g_iload C dX0_isOfLowerBits_16 0 rfl ?_
            refine g_bipush C dX0_isOfLowerBits_18 (v := (nI 16)) (by decide) ?_
            refine g_icmp_geN C dX0_isOfLowerBits_20 (tgt := 58) (by decide) (by omega) (by omega) (fun h20 => ?_) (fun h20 => ?_)
            · skip
              refine g_iinc C dX0_isOfLowerBits_58 2 rfl (v := (nI (k + 1))) (nI_1 k) (by decide) (lv' := [(2, .int (nI (k + 1))), (4, .int (nI b)), (3, .int (nI (2 * 2 ^ k - 1))), (0, .long f)]) rfl ?_
              refine g_goto C dX0_isOfLowerBits_61 (tgt := 2) (by decide) ?_
              refine g_lv [0, 3] rfl ?_
              exact ih2 (k + 1) (by omega) (by omega) (fun x hx => by rcases Nat.lt_or_ge x k with q | q; exact hq x q; obtain rfl : x = k := (by omega); obtain rfl : b = 16 := (by omega); exact hb2)
            · skip
              refine g_lload_n C dX0_isOfLowerBits_23 3 rfl rfl ?_
              refine g_iload C dX0_isOfLowerBits_24 0 rfl ?_
              refine g_callPS C ⟨g_X0_ok, trivial⟩ (t_X0_valueAt l D ty f b (by omega)) rfl gX0_isOfLowerBits_X0_valueAt 2 (by decide +kernel) rfl ⟨rfl, rfl⟩ ⟨Nat.le_of_ble_eq_true rfl, Nat.le_of_ble_eq_true rfl⟩ (rest := []) [] rfl (Nat.le_of_ble_eq_true rfl) dX0_isOfLowerBits_26 ⟨Nat.le_of_ble_eq_true rfl, Nat.le_of_ble_eq_true rfl⟩ rfl (g_ki (fun r hr => ?_))
              subst hr
              have := nib_lt f b
              refine g_lload_n C dX0_isOfLowerBits_29 3 rfl rfl ?_
              refine g_iload C dX0_isOfLowerBits_30 0 rfl ?_
              refine g_iload_n C dX0_isOfLowerBits_32 1 rfl rfl ?_
              refine g_iand C dX0_isOfLowerBits_33 (v := (nI (b &&& (2 * 2 ^ k - 1)))) (niand _ _) ?_
              have : b &&& (2 * 2 ^ k - 1) < 16 := Nat.lt_of_le_of_lt Nat.and_le_left (by omega)
              refine g_callPS C ⟨g_X0_ok, trivial⟩ (t_X0_valueAt l D ty f (b &&& (2 * 2 ^ k - 1)) (by omega)) rfl gX0_isOfLowerBits_X0_valueAt 2 (by decide +kernel) rfl ⟨rfl, rfl⟩ ⟨Nat.le_of_ble_eq_true rfl, Nat.le_of_ble_eq_true rfl⟩ (rest := [.int (nI (nib f b))]) [] rfl (Nat.le_of_ble_eq_true rfl) dX0_isOfLowerBits_34 ⟨Nat.le_of_ble_eq_true rfl, Nat.le_of_ble_eq_true rfl⟩ rfl (g_ki (fun r hr => ?_))
              subst hr
              have := nib_lt f (b &&& (2 * 2 ^ k - 1))
              refine g_ixor C dX0_isOfLowerBits_37 (v := (nI ((nib f b) ^^^ (nib f (b &&& (2 * 2 ^ k - 1)))))) (nixor _ _) ?_
              refine g_istore C dX0_isOfLowerBits_38 (by decide) (lv' := [(5, .int (nI ((nib f b) ^^^ (nib f (b &&& (2 * 2 ^ k - 1)))))), (4, .int (nI b)), (3, .int (nI (2 * 2 ^ k - 1))), (2, .int (nI k)), (0, .long f)]) rfl ?_
              have hx4 : nib f b ^^^ nib f (b &&& (2 * 2 ^ k - 1)) < 16 := xor_lt (n := 4) (nib_lt f _) (nib_lt f _)
              refine g_iload C dX0_isOfLowerBits_40 0 rfl ?_
              refine g_iload_n C dX0_isOfLowerBits_42 3 rfl rfl ?_
              refine g_iushr C dX0_isOfLowerBits_43 (v := (nI (((nib f b) ^^^ (nib f (b &&& (2 * 2 ^ k - 1)))) / 2 ^ k))) (ni_ushr (by omega) (by omega)) ?_
              refine g_iconst C dX0_isOfLowerBits_44 (v := (nI 1)) (by decide) ?_
              refine g_iand C dX0_isOfLowerBits_45 (v := (nI ((((nib f b) ^^^ (nib f (b &&& (2 * 2 ^ k - 1)))) / 2 ^ k) % 2))) (ni_and1 _) ?_
              refine g_iconst C dX0_isOfLowerBits_46 (v := (nI 1)) (by decide) ?_
              refine g_icmp_neN C dX0_isOfLowerBits_47 (tgt := 52) (by decide) (by omega) (by omega) (fun h47 => ?_) (fun h47 => ?_)
              · skip
                refine g_iinc C dX0_isOfLowerBits_52 1 rfl (v := (nI (b + 1))) (nI_1 b) (by decide) (lv' := [(4, .int (nI (b + 1))), (5, .int (nI ((nib f b) ^^^ (nib f (b &&& (2 * 2 ^ k - 1)))))), (3, .int (nI (2 * 2 ^ k - 1))), (2, .int (nI k)), (0, .long f)]) rfl ?_
                refine g_goto C dX0_isOfLowerBits_55 (tgt := 16) (by decide) ?_
                refine g_lv [0, 2, 3, 4] rfl ?_
                exact ih16 (b + 1) (by omega) (by omega) (fun y hy => by rcases Nat.lt_or_ge y b with q | q; exact hb2 y q; obtain rfl : y = b := (by omega); exact h47)
              · skip
                refine g_iconst C dX0_isOfLowerBits_50 (v := (nI 0)) (by decide) ?_
                exact hR _ _ _ _ rfl dX0_isOfLowerBits_51 (by rw [show lowB f = false from deB_f (fun q => q k (by omega) b (by omega) h47)]; rfl)
        exact L16 _ 0 (Nat.lt_succ_self _) (by omega) (fun _ h => absurd h (Nat.not_lt_zero _))
  exact L2 _ 0 (Nat.lt_succ_self _) (by omega) (fun _ h => absurd h (Nat.not_lt_zero _))

abbrev rm_t_X0_maskOf : Room := ({ frames := 0, cells := 0, slots := 0, locals := 0 } : Room)
set_option maxHeartbeats 4000000 in
set_option maxRecDepth 100000 in
theorem t_X0_maskOf (l : Launch) (D : va_G) (ty : g_T3) (sv : Nat) (hs : sv < 65536) : g_P l yX0_maskOf wsX0_maskOf rm_t_X0_maskOf D ty g_X0 [.int (nI sv)] [] (g_pl (fun r => r = mkN sv 16)) := by
  refine g_ofPl (cc := cX0_maskOf) (nL := 4) (own := RX0) (by decide) rfl rfl g_X0_ok (Nat.le_of_ble_eq_true rfl) ?_
  intro p e s m args below meth c Q C hX hR
  refine g_lv (lv' := [(0, .int (nI sv))]) [0] rfl ?_
  refine g_lconst C dX0_maskOf_0 (v := 0) (by decide) ?_
  refine g_lstore_n C dX0_maskOf_1 rfl (by decide) (lv' := [(1, .long 0), (0, .int (nI sv))]) rfl ?_
  refine g_iconst C dX0_maskOf_2 (v := (nI 0)) (by decide) ?_
  refine g_istore_n C dX0_maskOf_3 rfl (by decide) (lv' := [(3, .int (nI 0)), (1, .long 0), (0, .int (nI sv))]) rfl ?_
  have L4 : ∀ (n : Nat) (i : Nat) (v : Int64), 16 - i < n → (i ≤ 16) → (v = mkN sv i) → gG (g_IP D s []) p l e rm_t_X0_maskOf s m args below meth c Q 4 0 0 4 [(3, .int (nI i)), (1, .long v), (0, .int (nI sv))] [] [] := by
    intro n
    induction n with
    | zero => intro i v hn; exact absurd hn (Nat.not_lt_zero _)
    | succ n ih4 =>
      intro i v hn4 hi hv
      refine g_iload_n C dX0_maskOf_4 0 rfl rfl ?_
      refine g_bipush C dX0_maskOf_5 (v := (nI 16)) (by decide) ?_
      refine g_icmp_geN C dX0_maskOf_7 (tgt := 35) (by decide) (by omega) (by omega) (fun h7 => ?_) (fun h7 => ?_)
      · skip
        obtain rfl : i = 16 := by omega
        subst hv
        refine g_lload_n C dX0_maskOf_35 1 rfl rfl ?_
        exact hR _ _ _ _ dX0_maskOf_36 (rfl)
      · skip
        refine g_iload_n C dX0_maskOf_10 2 rfl rfl ?_
        refine g_iload_n C dX0_maskOf_11 0 rfl rfl ?_
        refine g_iushr C dX0_maskOf_12 (v := (nI (sv / 2 ^ i))) (ni_ushr (by omega) (by omega)) ?_
        refine g_iconst C dX0_maskOf_13 (v := (nI 1)) (by decide) ?_
        refine g_iand C dX0_maskOf_14 (v := (nI ((sv / 2 ^ i) % 2))) (ni_and1 _) ?_
        refine g_iconst C dX0_maskOf_15 (v := (nI 1)) (by decide) ?_
        refine g_icmp_neN C dX0_maskOf_16 (tgt := 29) (by decide) (by omega) (by omega) (fun h16 => ?_) (fun h16 => ?_)
        · skip
          refine g_iinc C dX0_maskOf_29 0 rfl (v := (nI (i + 1))) (nI_1 i) (by decide) (lv' := [(3, .int (nI (i + 1))), (1, .long v), (0, .int (nI sv))]) rfl ?_
          refine g_goto C dX0_maskOf_32 (tgt := 4) (by decide) ?_
          exact ih4 (i + 1) _ (by omega) (by omega) (by rw [hv]; first | exact (mkN_1 (by omega)).symm | exact (mkN_0 (by omega)).symm)
        · skip
          refine g_lload_n C dX0_maskOf_19 1 rfl rfl ?_
          refine g_ldc2 C (v := (15)) 1 rfl dX0_maskOf_20 ?_
          refine g_iconst C dX0_maskOf_23 (v := (nI 4)) (by decide) ?_
          refine g_iload_n C dX0_maskOf_24 0 rfl rfl ?_
          refine g_imul C dX0_maskOf_25 (v := (nI (4 * i))) (pk_mul _ _) ?_
          refine g_lshl C dX0_maskOf_26 (v := (j_shl (15) (nI (4 * i)))) rfl ?_
          refine g_lor C dX0_maskOf_27 (v := (v ||| (j_shl (15) (nI (4 * i))))) rfl ?_
          refine g_lstore_n C dX0_maskOf_28 rfl (by decide) (lv' := [(1, .long (v ||| (j_shl (15) (nI (4 * i))))), (3, .int (nI i)), (0, .int (nI sv))]) rfl ?_
          refine g_iinc C dX0_maskOf_29 1 rfl (v := (nI (i + 1))) (nI_1 i) (by decide) (lv' := [(3, .int (nI (i + 1))), (1, .long (v ||| (j_shl (15) (nI (4 * i))))), (0, .int (nI sv))]) rfl ?_
          refine g_goto C dX0_maskOf_32 (tgt := 4) (by decide) ?_
          exact ih4 (i + 1) _ (by omega) (by omega) (by rw [hv]; first | exact (mkN_1 (by omega)).symm | exact (mkN_0 (by omega)).symm)
  exact L4 _ 0 _ (Nat.lt_succ_self _) (by omega) rfl
end

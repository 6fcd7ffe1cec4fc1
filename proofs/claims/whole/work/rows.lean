section
-- ===== PART A: goes FIRST, ahead of the names: the tables' words, and 'selects' of the private methods out of them =====
/-- a private method of a class that the tables say can be made, by its rows of tables_1 -/
def lw_okq (q : MethodName × Nat) : Prop := (q.1.cls ≠ "java/lang/invoke/MethodHandle" ∧ q.1.cls ≠ "java/lang/invoke/VarHandle") ∧ Cond.instantiable q.1.cls q.2 ∈ tables_1 ∧ Cond.privateMethod q.1 ∈ tables_1 ∧ Cond.instanceMethod q.1 ∈ tables_1
theorem lw_p0 : lw_okq (⟨"java/lang/Throwable", "fillInStackTrace", "(I)Ljava/lang/Throwable;"⟩, 6) := ⟨⟨by decide +kernel, by decide +kernel⟩, List.mem_of_getElem? (i := 211) (by decide +kernel), List.mem_of_getElem? (i := 209) (by decide +kernel), List.mem_of_getElem? (i := 210) (by decide +kernel)⟩
theorem lw_p1 : lw_okq (⟨"SpanParser$Grammar", "reachedByChains", "(I)I"⟩, 8) := ⟨⟨by decide +kernel, by decide +kernel⟩, List.mem_of_getElem? (i := 39) (by decide +kernel), List.mem_of_getElem? (i := 287) (by decide +kernel), List.mem_of_getElem? (i := 288) (by decide +kernel)⟩
theorem lw_p2 : lw_okq (⟨"SpanParser$Grammar", "isChain", "(I)Z"⟩, 8) := ⟨⟨by decide +kernel, by decide +kernel⟩, List.mem_of_getElem? (i := 39) (by decide +kernel), List.mem_of_getElem? (i := 294) (by decide +kernel), List.mem_of_getElem? (i := 295) (by decide +kernel)⟩
theorem lw_p3 : lw_okq (⟨"SpanParser", "forgetInput", "()V"⟩, 7) := ⟨⟨by decide +kernel, by decide +kernel⟩, List.mem_of_getElem? (i := 17) (by decide +kernel), List.mem_of_getElem? (i := 321) (by decide +kernel), List.mem_of_getElem? (i := 322) (by decide +kernel)⟩
theorem lw_p4 : lw_okq (⟨"SpanParser$Chart", "fillSpan", "(LSpanParser$Grammar;LSpanParser$Text;II)V"⟩, 7) := ⟨⟨by decide +kernel, by decide +kernel⟩, List.mem_of_getElem? (i := 72) (by decide +kernel), List.mem_of_getElem? (i := 413) (by decide +kernel), List.mem_of_getElem? (i := 414) (by decide +kernel)⟩
theorem lw_p5 : lw_okq (⟨"SpanParser$Chart", "settleCharacters", "(LSpanParser$Grammar;LSpanParser$Text;II)V"⟩, 7) := ⟨⟨by decide +kernel, by decide +kernel⟩, List.mem_of_getElem? (i := 72) (by decide +kernel), List.mem_of_getElem? (i := 417) (by decide +kernel), List.mem_of_getElem? (i := 418) (by decide +kernel)⟩
theorem lw_p6 : lw_okq (⟨"SpanParser$Chart", "deriveRule", "(LSpanParser$Grammar;III)V"⟩, 7) := ⟨⟨by decide +kernel, by decide +kernel⟩, List.mem_of_getElem? (i := 72) (by decide +kernel), List.mem_of_getElem? (i := 442) (by decide +kernel), List.mem_of_getElem? (i := 443) (by decide +kernel)⟩
theorem lw_p7 : lw_okq (⟨"SpanParser$Chart", "firstDivision", "(III)Z"⟩, 7) := ⟨⟨by decide +kernel, by decide +kernel⟩, List.mem_of_getElem? (i := 72) (by decide +kernel), List.mem_of_getElem? (i := 446) (by decide +kernel), List.mem_of_getElem? (i := 447) (by decide +kernel)⟩
theorem lw_p8 : lw_okq (⟨"SpanParser$Chart", "divisionWays", "(III)J"⟩, 7) := ⟨⟨by decide +kernel, by decide +kernel⟩, List.mem_of_getElem? (i := 72) (by decide +kernel), List.mem_of_getElem? (i := 450) (by decide +kernel), List.mem_of_getElem? (i := 451) (by decide +kernel)⟩
theorem lw_p9 : lw_okq (⟨"SpanParser$Chart", "divisionWeight", "(DIII)D"⟩, 7) := ⟨⟨by decide +kernel, by decide +kernel⟩, List.mem_of_getElem? (i := 72) (by decide +kernel), List.mem_of_getElem? (i := 462) (by decide +kernel), List.mem_of_getElem? (i := 463) (by decide +kernel)⟩
theorem lw_p10 : lw_okq (⟨"SpanParser$Chart", "packedEnds", "(I)I"⟩, 7) := ⟨⟨by decide +kernel, by decide +kernel⟩, List.mem_of_getElem? (i := 72) (by decide +kernel), List.mem_of_getElem? (i := 469) (by decide +kernel), List.mem_of_getElem? (i := 470) (by decide +kernel)⟩
theorem lw_p11 : lw_okq (⟨"SpanParser$Chart", "nextDivision", "(II)Z"⟩, 7) := ⟨⟨by decide +kernel, by decide +kernel⟩, List.mem_of_getElem? (i := 72) (by decide +kernel), List.mem_of_getElem? (i := 473) (by decide +kernel), List.mem_of_getElem? (i := 474) (by decide +kernel)⟩
theorem lw_p12 : lw_okq (⟨"SpanParser$Grammar", "rulesOf", "(IZ)I"⟩, 8) := ⟨⟨by decide +kernel, by decide +kernel⟩, List.mem_of_getElem? (i := 39) (by decide +kernel), List.mem_of_getElem? (i := 481) (by decide +kernel), List.mem_of_getElem? (i := 482) (by decide +kernel)⟩
theorem lw_p13 : lw_okq (⟨"SpanParser$Chart", "settleNonterminal", "(LSpanParser$Grammar;IIZ)V"⟩, 7) := ⟨⟨by decide +kernel, by decide +kernel⟩, List.mem_of_getElem? (i := 72) (by decide +kernel), List.mem_of_getElem? (i := 494) (by decide +kernel), List.mem_of_getElem? (i := 495) (by decide +kernel)⟩
theorem lw_p14 : lw_okq (⟨"SpanParser$Tree", "insert", "(IIII)V"⟩, 4) := ⟨⟨by decide +kernel, by decide +kernel⟩, List.mem_of_getElem? (i := 100) (by decide +kernel), List.mem_of_getElem? (i := 523) (by decide +kernel), List.mem_of_getElem? (i := 524) (by decide +kernel)⟩
theorem lw_p15 : lw_okq (⟨"SpanParser$Tree", "insertBelow", "(LSpanParser$Grammar;LSpanParser$Chart;I)V"⟩, 4) := ⟨⟨by decide +kernel, by decide +kernel⟩, List.mem_of_getElem? (i := 100) (by decide +kernel), List.mem_of_getElem? (i := 530) (by decide +kernel), List.mem_of_getElem? (i := 531) (by decide +kernel)⟩
def lw_privs_1 : List (MethodName × Nat) := [(⟨"java/lang/Throwable", "fillInStackTrace", "(I)Ljava/lang/Throwable;"⟩, 6), (⟨"SpanParser$Grammar", "reachedByChains", "(I)I"⟩, 8), (⟨"SpanParser$Grammar", "isChain", "(I)Z"⟩, 8), (⟨"SpanParser", "forgetInput", "()V"⟩, 7), (⟨"SpanParser$Chart", "fillSpan", "(LSpanParser$Grammar;LSpanParser$Text;II)V"⟩, 7), (⟨"SpanParser$Chart", "settleCharacters", "(LSpanParser$Grammar;LSpanParser$Text;II)V"⟩, 7), (⟨"SpanParser$Chart", "deriveRule", "(LSpanParser$Grammar;III)V"⟩, 7), (⟨"SpanParser$Chart", "firstDivision", "(III)Z"⟩, 7), (⟨"SpanParser$Chart", "divisionWays", "(III)J"⟩, 7), (⟨"SpanParser$Chart", "divisionWeight", "(DIII)D"⟩, 7), (⟨"SpanParser$Chart", "packedEnds", "(I)I"⟩, 7), (⟨"SpanParser$Chart", "nextDivision", "(II)Z"⟩, 7), (⟨"SpanParser$Grammar", "rulesOf", "(IZ)I"⟩, 8), (⟨"SpanParser$Chart", "settleNonterminal", "(LSpanParser$Grammar;IIZ)V"⟩, 7), (⟨"SpanParser$Tree", "insert", "(IIII)V"⟩, 4), (⟨"SpanParser$Tree", "insertBelow", "(LSpanParser$Grammar;LSpanParser$Chart;I)V"⟩, 4)]
theorem lw_r1 : ∀ q ∈ lw_privs_1, lw_okq q := List.forall_mem_cons.mpr ⟨lw_p0, List.forall_mem_cons.mpr ⟨lw_p1, List.forall_mem_cons.mpr ⟨lw_p2, List.forall_mem_cons.mpr ⟨lw_p3, List.forall_mem_cons.mpr ⟨lw_p4, List.forall_mem_cons.mpr ⟨lw_p5, List.forall_mem_cons.mpr ⟨lw_p6, List.forall_mem_cons.mpr ⟨lw_p7, List.forall_mem_cons.mpr ⟨lw_p8, List.forall_mem_cons.mpr ⟨lw_p9, List.forall_mem_cons.mpr ⟨lw_p10, List.forall_mem_cons.mpr ⟨lw_p11, List.forall_mem_cons.mpr ⟨lw_p12, List.forall_mem_cons.mpr ⟨lw_p13, List.forall_mem_cons.mpr ⟨lw_p14, List.forall_mem_cons.mpr ⟨lw_p15, fun _ h => absurd h List.not_mem_nil⟩⟩⟩⟩⟩⟩⟩⟩⟩⟩⟩⟩⟩⟩⟩⟩
theorem lw_p16 : lw_okq (⟨"SpanParserModel", "bad", "(Z)Z"⟩, 29) := ⟨⟨by decide +kernel, by decide +kernel⟩, List.mem_of_getElem? (i := 585) (by decide +kernel), List.mem_of_getElem? (i := 690) (by decide +kernel), List.mem_of_getElem? (i := 691) (by decide +kernel)⟩
theorem lw_p17 : lw_okq (⟨"SpanParserModel", "fail", "(I)I"⟩, 29) := ⟨⟨by decide +kernel, by decide +kernel⟩, List.mem_of_getElem? (i := 585) (by decide +kernel), List.mem_of_getElem? (i := 694) (by decide +kernel), List.mem_of_getElem? (i := 695) (by decide +kernel)⟩
theorem lw_p18 : lw_okq (⟨"SpanParserModel", "wrong", "()I"⟩, 29) := ⟨⟨by decide +kernel, by decide +kernel⟩, List.mem_of_getElem? (i := 585) (by decide +kernel), List.mem_of_getElem? (i := 704) (by decide +kernel), List.mem_of_getElem? (i := 705) (by decide +kernel)⟩
theorem lw_p19 : lw_okq (⟨"SpanParserModel", "leads", "(II)Z"⟩, 29) := ⟨⟨by decide +kernel, by decide +kernel⟩, List.mem_of_getElem? (i := 585) (by decide +kernel), List.mem_of_getElem? (i := 708) (by decide +kernel), List.mem_of_getElem? (i := 709) (by decide +kernel)⟩
theorem lw_p20 : lw_okq (⟨"SpanParserModel", "isChain", "(I)Z"⟩, 29) := ⟨⟨by decide +kernel, by decide +kernel⟩, List.mem_of_getElem? (i := 585) (by decide +kernel), List.mem_of_getElem? (i := 712) (by decide +kernel), List.mem_of_getElem? (i := 713) (by decide +kernel)⟩
theorem lw_p21 : lw_okq (⟨"SpanParserModel", "change", "()V"⟩, 29) := ⟨⟨by decide +kernel, by decide +kernel⟩, List.mem_of_getElem? (i := 585) (by decide +kernel), List.mem_of_getElem? (i := 716) (by decide +kernel), List.mem_of_getElem? (i := 717) (by decide +kernel)⟩
theorem lw_p22 : lw_okq (⟨"SpanParserModel", "isRule", "(I)Z"⟩, 29) := ⟨⟨by decide +kernel, by decide +kernel⟩, List.mem_of_getElem? (i := 585) (by decide +kernel), List.mem_of_getElem? (i := 724) (by decide +kernel), List.mem_of_getElem? (i := 725) (by decide +kernel)⟩
theorem lw_p23 : lw_okq (⟨"SpanParserModel", "fill", "(II)V"⟩, 29) := ⟨⟨by decide +kernel, by decide +kernel⟩, List.mem_of_getElem? (i := 585) (by decide +kernel), List.mem_of_getElem? (i := 744) (by decide +kernel), List.mem_of_getElem? (i := 745) (by decide +kernel)⟩
theorem lw_p24 : lw_okq (⟨"SpanParserModel", "divide", "(III)V"⟩, 29) := ⟨⟨by decide +kernel, by decide +kernel⟩, List.mem_of_getElem? (i := 585) (by decide +kernel), List.mem_of_getElem? (i := 751) (by decide +kernel), List.mem_of_getElem? (i := 752) (by decide +kernel)⟩
theorem lw_p25 : lw_okq (⟨"SpanParserModel", "symbol", "(IIII)I"⟩, 29) := ⟨⟨by decide +kernel, by decide +kernel⟩, List.mem_of_getElem? (i := 585) (by decide +kernel), List.mem_of_getElem? (i := 755) (by decide +kernel), List.mem_of_getElem? (i := 756) (by decide +kernel)⟩
theorem lw_p26 : lw_okq (⟨"SpanParserModel", "stands", "(II)Z"⟩, 29) := ⟨⟨by decide +kernel, by decide +kernel⟩, List.mem_of_getElem? (i := 585) (by decide +kernel), List.mem_of_getElem? (i := 759) (by decide +kernel), List.mem_of_getElem? (i := 760) (by decide +kernel)⟩
theorem lw_p27 : lw_okq (⟨"SpanParserModel", "count", "(IIIII)I"⟩, 29) := ⟨⟨by decide +kernel, by decide +kernel⟩, List.mem_of_getElem? (i := 585) (by decide +kernel), List.mem_of_getElem? (i := 763) (by decide +kernel), List.mem_of_getElem? (i := 764) (by decide +kernel)⟩
theorem lw_p28 : lw_okq (⟨"SpanParserModel", "allowed", "(III)Z"⟩, 29) := ⟨⟨by decide +kernel, by decide +kernel⟩, List.mem_of_getElem? (i := 585) (by decide +kernel), List.mem_of_getElem? (i := 767) (by decide +kernel), List.mem_of_getElem? (i := 768) (by decide +kernel)⟩
theorem lw_p29 : lw_okq (⟨"SpanParserModel", "weightOf", "(I)D"⟩, 29) := ⟨⟨by decide +kernel, by decide +kernel⟩, List.mem_of_getElem? (i := 585) (by decide +kernel), List.mem_of_getElem? (i := 776) (by decide +kernel), List.mem_of_getElem? (i := 777) (by decide +kernel)⟩
theorem lw_p30 : lw_okq (⟨"SpanParserModel", "heaviest", "(IIIII)I"⟩, 29) := ⟨⟨by decide +kernel, by decide +kernel⟩, List.mem_of_getElem? (i := 585) (by decide +kernel), List.mem_of_getElem? (i := 780) (by decide +kernel), List.mem_of_getElem? (i := 781) (by decide +kernel)⟩
theorem lw_p31 : lw_okq (⟨"SpanParserModel", "next", "(II)Z"⟩, 29) := ⟨⟨by decide +kernel, by decide +kernel⟩, List.mem_of_getElem? (i := 585) (by decide +kernel), List.mem_of_getElem? (i := 784) (by decide +kernel), List.mem_of_getElem? (i := 785) (by decide +kernel)⟩
def lw_privs_2 : List (MethodName × Nat) := [(⟨"SpanParserModel", "bad", "(Z)Z"⟩, 29), (⟨"SpanParserModel", "fail", "(I)I"⟩, 29), (⟨"SpanParserModel", "wrong", "()I"⟩, 29), (⟨"SpanParserModel", "leads", "(II)Z"⟩, 29), (⟨"SpanParserModel", "isChain", "(I)Z"⟩, 29), (⟨"SpanParserModel", "change", "()V"⟩, 29), (⟨"SpanParserModel", "isRule", "(I)Z"⟩, 29), (⟨"SpanParserModel", "fill", "(II)V"⟩, 29), (⟨"SpanParserModel", "divide", "(III)V"⟩, 29), (⟨"SpanParserModel", "symbol", "(IIII)I"⟩, 29), (⟨"SpanParserModel", "stands", "(II)Z"⟩, 29), (⟨"SpanParserModel", "count", "(IIIII)I"⟩, 29), (⟨"SpanParserModel", "allowed", "(III)Z"⟩, 29), (⟨"SpanParserModel", "weightOf", "(I)D"⟩, 29), (⟨"SpanParserModel", "heaviest", "(IIIII)I"⟩, 29), (⟨"SpanParserModel", "next", "(II)Z"⟩, 29)]
theorem lw_r2 : ∀ q ∈ lw_privs_2, lw_okq q := List.forall_mem_cons.mpr ⟨lw_p16, List.forall_mem_cons.mpr ⟨lw_p17, List.forall_mem_cons.mpr ⟨lw_p18, List.forall_mem_cons.mpr ⟨lw_p19, List.forall_mem_cons.mpr ⟨lw_p20, List.forall_mem_cons.mpr ⟨lw_p21, List.forall_mem_cons.mpr ⟨lw_p22, List.forall_mem_cons.mpr ⟨lw_p23, List.forall_mem_cons.mpr ⟨lw_p24, List.forall_mem_cons.mpr ⟨lw_p25, List.forall_mem_cons.mpr ⟨lw_p26, List.forall_mem_cons.mpr ⟨lw_p27, List.forall_mem_cons.mpr ⟨lw_p28, List.forall_mem_cons.mpr ⟨lw_p29, List.forall_mem_cons.mpr ⟨lw_p30, List.forall_mem_cons.mpr ⟨lw_p31, fun _ h => absurd h List.not_mem_nil⟩⟩⟩⟩⟩⟩⟩⟩⟩⟩⟩⟩⟩⟩⟩⟩
theorem lw_p32 : lw_okq (⟨"SpanParserModel", "isGood", "(III)Z"⟩, 29) := ⟨⟨by decide +kernel, by decide +kernel⟩, List.mem_of_getElem? (i := 585) (by decide +kernel), List.mem_of_getElem? (i := 788) (by decide +kernel), List.mem_of_getElem? (i := 789) (by decide +kernel)⟩
theorem lw_p33 : lw_okq (⟨"SpanParserModel", "grow", "(I)V"⟩, 29) := ⟨⟨by decide +kernel, by decide +kernel⟩, List.mem_of_getElem? (i := 585) (by decide +kernel), List.mem_of_getElem? (i := 792) (by decide +kernel), List.mem_of_getElem? (i := 793) (by decide +kernel)⟩
theorem lw_p34 : lw_okq (⟨"SpanParserModel", "put", "(IIIII)I"⟩, 29) := ⟨⟨by decide +kernel, by decide +kernel⟩, List.mem_of_getElem? (i := 585) (by decide +kernel), List.mem_of_getElem? (i := 796) (by decide +kernel), List.mem_of_getElem? (i := 797) (by decide +kernel)⟩
def lw_privs_3 : List (MethodName × Nat) := [(⟨"SpanParserModel", "isGood", "(III)Z"⟩, 29), (⟨"SpanParserModel", "grow", "(I)V"⟩, 29), (⟨"SpanParserModel", "put", "(IIIII)I"⟩, 29)]
theorem lw_r3 : ∀ q ∈ lw_privs_3, lw_okq q := List.forall_mem_cons.mpr ⟨lw_p32, List.forall_mem_cons.mpr ⟨lw_p33, List.forall_mem_cons.mpr ⟨lw_p34, fun _ h => absurd h List.not_mem_nil⟩⟩⟩
def lw_privs : List (MethodName × Nat) := lw_privs_1 ++ (lw_privs_2 ++ (lw_privs_3))
def lw_tbl : List Cond := k2_sels lw_privs ++ tables_1
theorem lw_privs_ok : ∀ q ∈ lw_privs, lw_okq q := by
  show ∀ q ∈ lw_privs_1 ++ (lw_privs_2 ++ (lw_privs_3)), lw_okq q
  exact List.forall_mem_append.mpr ⟨lw_r1, List.forall_mem_append.mpr ⟨lw_r2, lw_r3⟩⟩
end
section
/-! ===== BEGIN words of one list among another's, by their places ===== -/
theorem goodIn_r {big : List Cond} (ws : List Cond) (ps : List Nat) (hp : ws = ps.filterMap (fun i => big[i]?)) (h : ws.all goodWord = true) : GoodIn big ws := by
  intro w hw
  have h1 := List.all_eq_true.mp h w hw
  rw [hp] at hw
  obtain ⟨i, -, hi⟩ := List.mem_filterMap.mp hw
  have hm : w ∈ big := by first | exact List.mem_of_getElem? hi | exact List.getElem?_mem hi
  exact ⟨hm, good_of_word h1⟩
theorem goodIn_app {big a b : List Cond} (ha : GoodIn big a) (hb : GoodIn big b) : GoodIn big (a ++ b) := fun w h => (List.mem_append.mp h).elim (ha w) (hb w)
theorem goodIn_ca {big a b : List Cond} {c : Cond} (ha : GoodIn big (c :: a)) (hb : GoodIn big b) : GoodIn big (c :: (a ++ b)) := fun w h => (List.mem_cons.mp h).elim (fun e => ha w (List.mem_cons.mpr (Or.inl e))) (fun h => (List.mem_append.mp h).elim (fun h => ha w (List.mem_cons.mpr (Or.inr h))) (hb w))
theorem goodIn_sub {big ws : List Cond} (hm : ∀ w ∈ ws, w ∈ big) (h : ws.all goodWord = true) : GoodIn big ws := fun w hw => ⟨hm w hw, good_of_word (List.all_eq_true.mp h w hw)⟩
/-! ===== END ===== -/

/-! ===== BEGIN exceptions that leave a method, and their catching by the caller (launches without stack traces) ===== -/
section VXA
/-! The laws vx_back, vx_callV, vx_callS, vx_callSW, vx_throw0, vx_throwS follow proofs of the library, with one case more: JvmDerived/Free/Laws.lean (Back.of_free), Shelf42/LK1.lean (callV, callS), Shelf/KitTraced.lean (throwNew0V, throwNewS). -/

/-- where a method has thrown q: the class by its name, the cell, what was written, the world -/
def vx_T (XC : String → State → State → Prop) (st : State) (q : Addr) (t : State) (mc ms : Nat) (free : Addr → Prop) : Prop :=
  ∃ (E : String) (ce : Cell) (L : List Loc), XC E st t ∧ t.heap[q]? = some ce ∧ ce.vm = .none ∧ st.vm.findClass E = some ce.cls ∧ st.WarmedH t.vm ∧ st.sameButNew ({ t with vm := st.vm } : State) L mc ms ∧ ∀ z ∈ L, free z.base
def vx_Q (Qc : Array Value → State → Outcome → State → Prop) (XC : String → State → State → Prop) (mc ms : Nat) (free : Addr → Prop) : Array Value → State → Outcome → State → Prop := fun a st o t =>
  (Qc a st o t ∧ ∃ L, FrameEnd st o t L mc ms ∧ ∀ q ∈ L, free q.base) ∨ ∃ q, o = .threw q ∧ vx_T XC st q t mc ms free
/-- a callee that returns or throws -/
def vx_Met (l : Launch) (y : MethodName) (ws : List Cond) (rm : Room) (Pc : Array Value → State → Prop) (Qc : Array Value → State → Outcome → State → Prop) (XC : String → State → State → Prop) (mc ms : Nat) (free : Addr → Prop) : Prop :=
  MetFree l y (headSpec ws rm) Pc (fun _ _ _ _ _ => True) (vx_Q Qc XC mc ms free)
def vx_Post (XC : String → State → State → Prop) (mc ms : Nat) (free : Addr → Prop) : Pt → Array Value → Addr → Pt → Prop := fun A a q B =>
  ∃ (g : JFrame) (mk : MethodId) (t : State) (L : List Loc) (E : String) (ce : Cell), B.U.heap = t.heap ∧ B.U.vm = t.vm ∧ XC E (A.U.calling g mk a) t ∧ t.heap[q]? = some ce ∧ ce.vm = .none ∧ A.U.vm.findClass E = some ce.cls ∧ B.locs = A.locs ++ L ∧ (∀ z ∈ L, free z.base) ∧ B.cells = A.cells + mc ∧ B.slots = A.slots + ms
def vx_Back (l : Launch) (R : Room) (p : Program) (e : Env) (below : List Frame) (s : State) (sargs : Array Value) (y : MethodName) (len W9 : Nat)
    (Pre : Pt → Array Value → Prop) (Post : Pt → Array Value → Option Value → Pt → Prop) (PostX : Pt → Array Value → Addr → Pt → Prop) : Prop :=
  ∀ (m : MethodId) (meth : Method) (c : Code) (A : Pt) (g : JFrame) (ig : Instr) (mk : MethodId) (a : Array Value),
    Stand p l e R s m sargs below meth c A.U A.locs A.cells A.slots → g.method = m → g.locals.size = c.maxLocals → decode c.code g.pc = .ok (ig, len) →
    2 * g.monitorRoom + (g.stack.map fun v => v.category).sum ≤ W9 → A.U.methodNamed? y = some mk → Pre A a →
    (∃ (v : Option Value) (B : Pt), Stand p l e R s m sargs below meth c B.U B.locs B.cells B.slots ∧ Post A a v B ∧
      Steps p.tables e below (doInvoke e (A.U.setTop g) [] mk a).1 (B.U.setTop { g with pc := g.pc + len, stack := v.toList ++ g.stack })) ∨
    (∃ (q : Addr) (B : Pt), Stand p l e R s m sargs below meth c B.U B.locs B.cells B.slots ∧ PostX A a q B ∧
      Steps p.tables e below (doInvoke e (A.U.setTop g) [] mk a).1 ((B.U.setTop g).pushFrame (.throwing q)))
section Payer
variable {l : Launch} {R : Room} {p : Program} {e : Env} {below : List Frame} {s : State} {sargs : Array Value} {y : MethodName} {len W9 : Nat}
theorem vx_back {ws : List Cond} {rm : Room} {Pc : Array Value → State → Prop} {Qc : Array Value → State → Outcome → State → Prop} {XC : String → State → State → Prop} {mc ms : Nat} {free : Addr → Prop} {bytes : ByteArray} {maxL : Nat} {ret : Option FieldType}
    (hM : vx_Met l y ws rm Pc Qc XC mc ms free) (hblind : FrameBlind Pc) (hrc : rm.cells = mc) (hrs : rm.slots = ms)
    (hframes : rm.frames + 1 ≤ R.frames) (hlocals : W9 + (maxL + 11) + rm.locals ≤ R.locals)
    (hws : ∀ w ∈ ws, ∀ a' U, s.WarmedH U.vm → w.before a' U = true) (hcode : Cond.code y bytes maxL ret ∈ ws) (hinit : ∀ a' U, s.WarmedH U.vm → (Cond.initialized y.cls).before a' U = true) :
    vx_Back l R p e below s sargs y len W9 (PreOf R mc ms Pc) (PostOf Qc mc ms free) (vx_Post XC mc ms free) := by
  intro m meth c A g ig mk a X hg hsize hdg hW hn hp
  have h1 : (headSpec ws rm).pre.before a A.U = true := atoms_intro fun w hw => hws w hw _ _ X.warmed
  have h2 : (Cond.code y bytes maxL ret).before a A.U = true := hws _ hcode _ _ X.warmed
  have h3 : (Cond.initialized y.cls).before a A.U = true := hinit _ _ X.warmed
  have h4 : A.cells + (headSpec ws rm).room.cells ≤ R.cells := by rw [show (headSpec ws rm).room.cells = mc from hrc]; exact hp.1
  have h5 : A.slots + (headSpec ws rm).room.slots ≤ R.slots := by rw [show (headSpec ws rm).room.slots = ms from hrs]; exact hp.2.1
  have hPc : Pc a (A.U.calling g mk a) := hblind _ _ _ _ hp.2.2
  obtain ⟨U, Ls, c0, s0⟩ := A
  dsimp only [Pt.U, Pt.locs, Pt.cells, Pt.slots] at h1 h2 h3 h4 h5 X hn hPc ⊢
  obtain ⟨methY, cY, hmY, hcY, -, hlY, -, -, -, -⟩ := Cond.code_spec hn h2
  obtain ⟨kY, hkY, -⟩ := className_of_methodNamed hn
  have hinitY : kY.init = .initialized := Cond.initialized_spec (findClass_of_methodNamed hn) hkY h3
  have h : At U g.method c below := by rw [hg]; exact X.here
  have hlocals9 : W9 + (maxL + 11) + (headSpec ws rm).room.locals ≤ R.locals := hlocals
  have happ : (headSpec ws rm).appliesLoose y e.platform (U.calling g mk a) = true :=
    Spec.appliesLoose_calling (g := g) h hdg hn hkY hinitY
      (X.room_calling (g := g) (R' := (headSpec ws rm).room) hsize hmY hcY hframes (by rw [hlY]; omega) h4 h5) h1
  obtain ⟨mid, hmid⟩ := h.above
  have hfr : (U.setTop g).frames = (.java g :: mid) ++ below := by rw [State.frames_setTop' g h.top, hmid]; rfl
  obtain ⟨o, s₂, hsteps, -, hend, hq⟩ := Steps.callFree hM p X.admits X.cas X.clock (acts := []) hfr happ hPc trivial
  have hq' : vx_Q Qc XC mc ms free a (U.calling g mk a) o s₂ := hq
  rw [State.frames_setTop' g h.top] at hend
  obtain ⟨g₀, hg0⟩ := Option.isSome_iff_exists.mp h.top
  obtain ⟨r, hr⟩ := State.topJava?_eq_some.mp hg0
  have hr' : (({ U with heap := s₂.heap, slotsUsed := s₂.slotsUsed } : State).setVm s₂.vm).frames = .java g₀ :: r := hr
  rcases hq' with ⟨hqc, L, hfe, hL⟩ | ⟨q, rfl, E, ce, L, hx, hce, hcv, hcl, hW₂, hsm, hL⟩
  · obtain ⟨⟨v, rfl⟩, hW₂, e2, q2, q3, q4, q5, q6⟩ := id hfe
    have e3 : s₂ = ({ (U.calling g mk a).setFrames s₂.frames with heap := s₂.heap, slotsUsed := s₂.slotsUsed } : State).setVm s₂.vm := by
      have : s₂ = ({ s₂ with vm := (U.calling g mk a).vm } : State).setVm s₂.vm := rfl
      rw [e2] at this
      exact this
    obtain ⟨c₂, i₂, len₂, hc₂, hd₂, hf₂⟩ := hend
    have hW' : U.WarmedH s₂.vm := hW₂
    have hcc : c₂ = c := by
      have h1 : s₂.code? g.method = U.code? g.method := by
        rw [State.code?_eq, State.code?_eq, hW'.alike.method?]
      exact Option.some.inj (hc₂.symm.trans (h1.trans h.code))
    subst hcc
    have hlen : len₂ = len := by rw [hdg] at hd₂; cases hd₂; rfl
    subst hlen
    have hs₂ : s₂ = (({ U with heap := s₂.heap, slotsUsed := s₂.slotsUsed } : State).setVm s₂.vm).setTop { g with pc := g.pc + len₂, stack := v.toList ++ g.stack } := by
      refine e3.trans ?_
      rw [hf₂, State.calling_eq h.top, State.setFrames_setFrames, State.setTop_of_frames _ hr', hr]
      rfl
    have hsame : U.sameButNew ({ U with heap := s₂.heap, slotsUsed := s₂.slotsUsed } : State) L mc ms := by
      refine ⟨?_, q2, q3, q4, q5, q6⟩
      obtain ⟨t, ht, -⟩ := State.frames_cons hr
      show ({ U with heap := s₂.heap, slotsUsed := s₂.slotsUsed } : State) = { U.setFrames U.frames with heap := s₂.heap, slotsUsed := s₂.slotsUsed }
      rw [State.setFrames_self ht]
    subst hg
    refine Or.inl ⟨v, ⟨(({ U with heap := s₂.heap, slotsUsed := s₂.slotsUsed } : State).setVm s₂.vm), Ls ++ L, c0 + mc, s0 + ms⟩,
      ⟨X.admits, X.cas, X.clock, X.frames, X.room, X.hears, X.method, X.code, (X.here.setHeapUsed s₂.heap s₂.slotsUsed).setVm hW'.alike, X.tail, State.WarmedH.trans X.warmed hW', X.limits, X.bytes, X.same.trans (hsame.setVm s.vm)⟩,
      ⟨g, mk, s₂, L, rfl, rfl, hqc, rfl, hL, rfl, rfl⟩, ?_⟩
    show Steps p.tables e below _ ((({ U with heap := s₂.heap, slotsUsed := s₂.slotsUsed } : State).setVm s₂.vm).setTop { g with pc := g.pc + len₂, stack := v.toList ++ g.stack })
    rw [← hs₂]
    exact hsteps
  · obtain ⟨e2, q2, q3, q4, q5, q6⟩ := id hsm
    have e3 : s₂ = ({ (U.calling g mk a).setFrames s₂.frames with heap := s₂.heap, slotsUsed := s₂.slotsUsed } : State).setVm s₂.vm := by
      have : s₂ = ({ s₂ with vm := (U.calling g mk a).vm } : State).setVm s₂.vm := rfl
      rw [e2] at this
      exact this
    have hf₂ : s₂.frames = .throwing q :: .java g :: U.frames.tail := hend
    have hW' : U.WarmedH s₂.vm := hW₂
    have hs₂ : s₂ = ((({ U with heap := s₂.heap, slotsUsed := s₂.slotsUsed } : State).setVm s₂.vm).setTop g).pushFrame (.throwing q) := by
      refine e3.trans ?_
      rw [hf₂, State.calling_eq h.top, State.setFrames_setFrames, State.pushFrame, State.frames_setTop _ hr', State.setTop_of_frames _ hr', State.setFrames_setFrames, hr]
      rfl
    have hsame : U.sameButNew ({ U with heap := s₂.heap, slotsUsed := s₂.slotsUsed } : State) L mc ms := by
      refine ⟨?_, q2, q3, q4, q5, q6⟩
      obtain ⟨t, ht, -⟩ := State.frames_cons hr
      show ({ U with heap := s₂.heap, slotsUsed := s₂.slotsUsed } : State) = { U.setFrames U.frames with heap := s₂.heap, slotsUsed := s₂.slotsUsed }
      rw [State.setFrames_self ht]
    subst hg
    refine Or.inr ⟨q, ⟨(({ U with heap := s₂.heap, slotsUsed := s₂.slotsUsed } : State).setVm s₂.vm), Ls ++ L, c0 + mc, s0 + ms⟩,
      ⟨X.admits, X.cas, X.clock, X.frames, X.room, X.hears, X.method, X.code, (X.here.setHeapUsed s₂.heap s₂.slotsUsed).setVm hW'.alike, X.tail, State.WarmedH.trans X.warmed hW', X.limits, X.bytes, X.same.trans (hsame.setVm s.vm)⟩,
      ⟨g, mk, s₂, L, E, ce, rfl, rfl, hx, hce, hcv, hcl, rfl, hL, rfl, rfl⟩, ?_⟩
    show Steps p.tables e below _ (((({ U with heap := s₂.heap, slotsUsed := s₂.slotsUsed } : State).setVm s₂.vm).setTop g).pushFrame (.throwing q))
    rw [← hs₂]
    exact hsteps
end Payer
section Calls
variable {p : Program} {l : Launch} {e : Env} {R : Room} {s : State} {m : MethodId} {args : Array Value} {below : List Frame} {meth : Method} {c : Code} {T : State} {locs : List Loc} {cells slots : Nat}
theorem vx_callV (X : Stand p l e R s m args below meth c T locs cells slots) (hexec : p.tables.exec = Jvm.exec) {own C : String} {index : Nat} {y : MethodName} {bytes : ByteArray} {maxL : Nat} {ret : Option FieldType}
    (hown : s.vm.findClass own = some m.cls) (hlink : (Cond.methodLink own index y).before args s = true) (hinst : (Cond.instanceMethod y).before args s = true) (hsel : (Cond.selects C y y).before args s = true)
    (hcode : (Cond.code y bytes maxL ret).before args s = true) (hy : y.cls ≠ "java/lang/invoke/MethodHandle" ∧ y.cls ≠ "java/lang/invoke/VarHandle")
    {W9 : Nat} {Pre : Pt → Array Value → Prop} {Post : Pt → Array Value → Option Value → Pt → Prop} {PostX : Pt → Array Value → Addr → Pt → Prop} (hK : vx_Back l R p e below s args y 3 W9 Pre Post PostX)
    {b : Addr} {cellB : Cell} (hcell : T.heap[b]? = some cellB) (hobj : cellB.vm.isStatics = false) (hcls : s.vm.findClass C = some cellB.cls)
    {g : JFrame} (hg : g.method = m) (hsize : g.locals.size = c.maxLocals) {argsL rest : List Value} (hlen : ∀ sig, parseMethodDescriptor y.desc = some sig → argsL.length = sig.parameters.length)
    (hstack : g.stack = argsL.reverse ++ .ref b :: rest) (hW : 2 * g.monitorRoom + (rest.map fun v => v.category).sum ≤ W9) (hdg : decode c.code g.pc = .ok (.invokevirtual index, 3))
    (hpre : ∀ vm₁, s.WarmedH vm₁ → Pre ⟨T.setVm vm₁, locs, cells, slots⟩ (Value.ref b :: argsL).toArray) :
    (∃ (v : Option Value) (vm₁ : Vm) (B : Pt), s.WarmedH vm₁ ∧ Stand p l e R s m args below meth c B.U B.locs B.cells B.slots ∧ Post ⟨T.setVm vm₁, locs, cells, slots⟩ (Value.ref b :: argsL).toArray v B ∧
      ∀ target, Steps p.tables e below (B.U.setTop { g with pc := g.pc + 3, stack := v.toList ++ rest }) target → Steps p.tables e below (T.setTop g) target) ∨
    (∃ (q : Addr) (vm₁ : Vm) (B : Pt), s.WarmedH vm₁ ∧ Stand p l e R s m args below meth c B.U B.locs B.cells B.slots ∧ PostX ⟨T.setVm vm₁, locs, cells, slots⟩ (Value.ref b :: argsL).toArray q B ∧
      Steps p.tables e below (T.setTop g) ((B.U.setTop { g with stack := rest }).pushFrame (.throwing q))) := by
  obtain ⟨mk, methM, hnamed, hmethM, hstM, habM⟩ := Cond.instanceMethod_spec hinst
  obtain ⟨methM', cM, hmethM', -, -, -, -, -, -, hsigM⟩ := Cond.code_spec hnamed hcode
  cases hmethM.symm.trans hmethM'
  obtain ⟨c2, r2, m2, q1, q2, q3, q4, kP, hkP, hkPi⟩ := Cond.selects_spec hsel
  cases hcls.symm.trans q1
  cases (State.methodFound?_of_named hnamed hy).symm.trans q2
  cases hnamed.symm.trans q3
  have hselP : selectMethod e.platform s.vm cellB.cls mk = .method mk := by rw [Launch.admits_selectMethod X.admits]; exact q4
  obtain ⟨vm₁, X₁, hstep₁⟩ := X.invokevirtual hexec hown hlink hnamed hmethM hstM hkP hkPi hy (a := b) (cell := cellB) hcell
    (fun z h => by rw [h] at hobj; cases hobj) hselP hmethM habM hkP hkPi (g := g) hg (argsL := argsL) (rest := rest) (hlen _ hsigM) hstack hdg
  rcases hK m meth c ⟨T.setVm vm₁, locs, cells, slots⟩ { g with stack := rest } (.invokevirtual index) mk (Value.ref b :: argsL).toArray X₁ hg hsize hdg hW (X₁.named hnamed) (hpre vm₁ X₁.warmed) with ⟨v, B, X', hpost, hsteps⟩ | ⟨q, B, X', hpost, hsteps⟩
  · exact Or.inl ⟨v, vm₁, B, X₁.warmed, X', hpost, fun target h => hstep₁ _ fun acts => by rw [doInvoke_state]; exact hsteps.trans h⟩
  · exact Or.inr ⟨q, vm₁, B, X₁.warmed, X', hpost, hstep₁ _ fun acts => by rw [doInvoke_state]; exact hsteps⟩
theorem vx_callS (X : Stand p l e R s m args below meth c T locs cells slots) (hexec : p.tables.exec = Jvm.exec) {own : String} {index : Nat} {y : MethodName} {bytes : ByteArray} {maxL : Nat} {ret : Option FieldType}
    (hown : s.vm.findClass own = some m.cls) (hlink : (Cond.methodLink own index y).before args s = true) (hstat : (Cond.static y).before args s = true) (hinit : (Cond.initialized y.cls).before args s = true)
    (hcode : (Cond.code y bytes maxL ret).before args s = true) (hy : y.cls ≠ "java/lang/invoke/MethodHandle" ∧ y.cls ≠ "java/lang/invoke/VarHandle")
    {W9 : Nat} {Pre : Pt → Array Value → Prop} {Post : Pt → Array Value → Option Value → Pt → Prop} {PostX : Pt → Array Value → Addr → Pt → Prop} (hK : vx_Back l R p e below s args y 3 W9 Pre Post PostX)
    {g : JFrame} (hg : g.method = m) (hsize : g.locals.size = c.maxLocals) {argsL rest : List Value} (hlen : ∀ sig, parseMethodDescriptor y.desc = some sig → argsL.length = sig.parameters.length)
    (hstack : g.stack = argsL.reverse ++ rest) (hW : 2 * g.monitorRoom + (rest.map fun v => v.category).sum ≤ W9) (hdg : decode c.code g.pc = .ok (.invokestatic index, 3))
    (hpre : ∀ vm₁, s.WarmedH vm₁ → Pre ⟨T.setVm vm₁, locs, cells, slots⟩ argsL.toArray) :
    (∃ (v : Option Value) (vm₁ : Vm) (B : Pt), s.WarmedH vm₁ ∧ Stand p l e R s m args below meth c B.U B.locs B.cells B.slots ∧ Post ⟨T.setVm vm₁, locs, cells, slots⟩ argsL.toArray v B ∧
      ∀ target, Steps p.tables e below (B.U.setTop { g with pc := g.pc + 3, stack := v.toList ++ rest }) target → Steps p.tables e below (T.setTop g) target) ∨
    (∃ (q : Addr) (vm₁ : Vm) (B : Pt), s.WarmedH vm₁ ∧ Stand p l e R s m args below meth c B.U B.locs B.cells B.slots ∧ PostX ⟨T.setVm vm₁, locs, cells, slots⟩ argsL.toArray q B ∧
      Steps p.tables e below (T.setTop g) ((B.U.setTop { g with stack := rest }).pushFrame (.throwing q))) := by
  obtain ⟨mk, hnamed⟩ := Cond.code_named hcode
  obtain ⟨methM, cM, hmethM, -, -, -, -, -, -, hsigM⟩ := Cond.code_spec hnamed hcode
  have hstatic : methM.isStatic = true := Cond.static_spec hnamed hmethM hstat
  obtain ⟨kP, hkP, -⟩ := className_of_methodNamed hnamed
  have hinitP : kP.init = .initialized := Cond.initialized_spec (findClass_of_methodNamed hnamed) hkP hinit
  obtain ⟨vm₁, X₁, hstep₁⟩ := X.invokestatic hexec hown hlink hnamed hmethM hstatic hkP hinitP hy (g := g) hg (argsL := argsL) (rest := rest) (hlen _ hsigM) hstack hdg
  rcases hK m meth c ⟨T.setVm vm₁, locs, cells, slots⟩ { g with stack := rest } (.invokestatic index) mk argsL.toArray X₁ hg hsize hdg hW (X₁.named hnamed) (hpre vm₁ X₁.warmed) with ⟨v, B, X', hpost, hsteps⟩ | ⟨q, B, X', hpost, hsteps⟩
  · exact Or.inl ⟨v, vm₁, B, X₁.warmed, X', hpost, fun target h => hstep₁ _ fun acts => by rw [doInvoke_state]; exact hsteps.trans h⟩
  · exact Or.inr ⟨q, vm₁, B, X₁.warmed, X', hpost, hstep₁ _ fun acts => by rw [doInvoke_state]; exact hsteps⟩
end Calls
theorem vx_cls {s : State} {T : State} {vm₁ : Vm} {E : String} {k : ClassId} (hW : s.WarmedH vm₁) (h : (T.setVm vm₁).vm.findClass E = some k) : s.vm.findClass E = some k := by
  have h1 : vm₁.findClass E = some k := h
  rw [hW.alike.findClass] at h1
  exact h1
/-- the method's frame g, with q thrown over it -/
def vx_W (p : Program) (l : Launch) (e : Env) (R : Room) (s : State) (m : MethodId) (args : Array Value) (below : List Frame) (meth : Method) (c : Code) (H : Heap) (locs : List Loc) (cells slots : Nat) (Q : State → Prop) (g : JFrame) (q : Addr) : Prop :=
  ∀ T : State, T.heap = H → Stand p l e R s m args below meth c T locs cells slots → ∃ t, Steps p.tables e below ((T.setTop g).pushFrame (.throwing q)) t ∧ Q t
def vx_Run (p : Program) (l : Launch) (e : Env) (R : Room) (s : State) (m : MethodId) (args : Array Value) (below : List Frame) (meth : Method) (c : Code) (H : Heap) (locs : List Loc) (cells slots mc ms : Nat) (g : JFrame) (rest : List Value) (Qa : State → Outcome → State → Prop) (XC : String → State → State → Prop) (free : Addr → Prop) : Prop :=
  ∀ T : State, T.heap = H → Stand p l e R s m args below meth c T locs cells slots →
    (∃ (v : Option Value) (st₀ t T' : State) (L : List Loc), st₀.heap = H ∧ Stand p l e R s m args below meth c T' (locs ++ L) (cells + mc) (slots + ms) ∧ (∀ q ∈ L, free q.base) ∧ T'.heap = t.heap ∧ T'.vm = t.vm ∧ Qa st₀ (.returned v) t ∧
      Goes p e below T g T' { g with pc := g.pc + 3, stack := v.toList ++ rest }) ∨
    (∃ (q : Addr) (st₀ t T' : State) (L : List Loc) (E : String) (ce : Cell), st₀.heap = H ∧ Stand p l e R s m args below meth c T' (locs ++ L) (cells + mc) (slots + ms) ∧ (∀ z ∈ L, free z.base) ∧ T'.heap = t.heap ∧ T'.vm = t.vm ∧ XC E st₀ t ∧ t.heap[q]? = some ce ∧ ce.vm = .none ∧ s.vm.findClass E = some ce.cls ∧
      Steps p.tables e below (T.setTop g) ((T'.setTop { g with stack := rest }).pushFrame (.throwing q)))
def vx_X {S : Type} (px : S → Prop) (B : String → S → State → Prop) (A : Nat → Prop) : String → State → State → Prop := fun E st t => ∃ u : S, px u ∧ B E u t ∧ va_F A st t
section Runs
variable {p : Program} {l : Launch} {e : Env} {R : Room} {s : State} {m : MethodId} {args : Array Value} {below : List Frame} {meth : Method} {c : Code} {H : Heap} {locs : List Loc} {cells slots : Nat}
variable {y : MethodName} {bytes cc : ByteArray} {maxL nL mc ms n index : Nat} {ret : Option FieldType} {ws : List Cond} {rm : Room} {Pc : Array Value → State → Prop} {Qc : Array Value → State → Outcome → State → Prop} {XC : String → State → State → Prop} {free : Addr → Prop} {Ts : List Cond} {own C : String} {b : Addr} {As rest : List Value} {g : JFrame}
theorem vx_callBack (cb : CallB R s args own index y bytes maxL ret ws rm mc ms n) (hM : vx_Met l y ws rm Pc Qc XC mc ms free) (hbl : FrameBlind Pc) : vx_Back l R p e below s args y 3 8 (PreOf R mc ms Pc) (PostOf Qc mc ms free) (vx_Post XC mc ms free) := by
  obtain ⟨hrc, hrs, hfr, hlo, hws, hcw, -, hini, -⟩ := cb
  exact vx_back (bytes := bytes) (maxL := maxL) (ret := ret) hM hbl hrc hrs hfr hlo hws hcw (fun a' U hW => word_at hW (Or.inl (by first | rfl | simp [Cond.onTables, Cond.keeps, Cond.steady])) hini)
theorem vx_runV (S : CallFix p m c cc nL s args Ts own) (hM : vx_Met l y ws rm Pc Qc XC mc ms free) (cw : CallW R s args own C index y bytes maxL ret ws rm mc ms n) (hp : PreV s H C b Pc As)
    (hg : g.method = m) (hn : As.length = n) (hsize : g.locals.size = nL) (hstack : g.stack = As.reverse ++ .ref b :: rest) (hW : 2 * g.monitorRoom + (rest.map fun v => v.category).sum ≤ 8) (hdg : decode cc g.pc = .ok (.invokevirtual index, 3)) (hf : cells + mc ≤ R.cells ∧ slots + ms ≤ R.slots) :
    vx_Run p l e R s m args below meth c H locs cells slots mc ms g rest (Qc (Value.ref b :: As).toArray) XC free := by
  have hK : vx_Back l R p e below s args y 3 8 (PreOf R mc ms Pc) (PostOf Qc mc ms free) (vx_Post XC mc ms free) := vx_callBack cw.1 hM hp.1
  obtain ⟨⟨-, -, -, -, -, -, hcode, -, hy, hlen, hl⟩, hin, hse⟩ := cw
  obtain ⟨hx, hb, hml, ho, -⟩ := S
  obtain ⟨-, ⟨cellB, hcB, hoB, hclB⟩, hPc⟩ := hp
  intro T hT X
  rcases vx_callV X hx (C := C) (bytes := bytes) (maxL := maxL) (ret := ret) ho hl hin hse hcode hy hK (by rw [hT]; exact hcB) hoB hclB hg (hsize.trans hml.symm) (argsL := As) (rest := rest) (fun sig h => hn.trans (hlen sig h)) hstack hW (by rw [hb]; exact hdg)
    (fun vm₁ hW₁ => ⟨hf.1, hf.2, hPc (T.setVm vm₁) hT hW₁⟩) with ⟨v, vm₁, ⟨U', l2, c2, s2⟩, hW₁, X', ⟨g', mk, t, L, e1, e2, hq, h1, hL, h2, h3⟩, st⟩ | ⟨q, vm₁, ⟨U', l2, c2, s2⟩, hW₁, X', ⟨g', mk, t, L, E, ce, e1, e2, hq, hce, hcv, hcl, h1, hL, h2, h3⟩, st⟩
  · dsimp only [Pt.U, Pt.locs, Pt.cells, Pt.slots] at X' e1 e2 h1 h2 h3 st
    subst h1; subst h2; subst h3
    exact Or.inl ⟨v, (T.setVm vm₁).calling g' mk (Value.ref b :: As).toArray, t, U', L, hT, X', hL, e1, e2, hq, st⟩
  · dsimp only [Pt.U, Pt.locs, Pt.cells, Pt.slots] at X' e1 e2 h1 h2 h3 st hcl
    subst h1; subst h2; subst h3
    exact Or.inr ⟨q, (T.setVm vm₁).calling g' mk (Value.ref b :: As).toArray, t, U', L, E, ce, hT, X', hL, e1, e2, hq, hce, hcv, vx_cls hW₁ hcl, st⟩
theorem vx_runS (S : CallFix p m c cc nL s args Ts own) (hM : vx_Met l y ws rm Pc Qc XC mc ms free) (cw : CallB R s args own index y bytes maxL ret ws rm mc ms n ∧ (Cond.static y).before args s = true) (hp : PreS s H Pc As)
    (hg : g.method = m) (hn : As.length = n) (hsize : g.locals.size = nL) (hstack : g.stack = As.reverse ++ rest) (hW : 2 * g.monitorRoom + (rest.map fun v => v.category).sum ≤ 8) (hdg : decode cc g.pc = .ok (.invokestatic index, 3)) (hf : cells + mc ≤ R.cells ∧ slots + ms ≤ R.slots) :
    vx_Run p l e R s m args below meth c H locs cells slots mc ms g rest (Qc As.toArray) XC free := by
  have hK : vx_Back l R p e below s args y 3 8 (PreOf R mc ms Pc) (PostOf Qc mc ms free) (vx_Post XC mc ms free) := vx_callBack cw.1 hM hp.1
  obtain ⟨⟨-, -, -, -, -, -, hcode, hini, hy, hlen, hl⟩, hstt⟩ := cw
  obtain ⟨hx, hb, hml, ho, -⟩ := S
  intro T hT X
  rcases vx_callS X hx (bytes := bytes) (maxL := maxL) (ret := ret) ho hl hstt hini hcode hy hK hg (hsize.trans hml.symm) (argsL := As) (rest := rest) (fun sig h => hn.trans (hlen sig h)) hstack hW (by rw [hb]; exact hdg)
    (fun vm₁ hW₁ => ⟨hf.1, hf.2, hp.2 (T.setVm vm₁) hT hW₁⟩) with ⟨v, vm₁, ⟨U', l2, c2, s2⟩, hW₁, X', ⟨g', mk, t, L, e1, e2, hq, h1, hL, h2, h3⟩, st⟩ | ⟨q, vm₁, ⟨U', l2, c2, s2⟩, hW₁, X', ⟨g', mk, t, L, E, ce, e1, e2, hq, hce, hcv, hcl, h1, hL, h2, h3⟩, st⟩
  · dsimp only [Pt.U, Pt.locs, Pt.cells, Pt.slots] at X' e1 e2 h1 h2 h3 st
    subst h1; subst h2; subst h3
    exact Or.inl ⟨v, (T.setVm vm₁).calling g' mk As.toArray, t, U', L, hT, X', hL, e1, e2, hq, st⟩
  · dsimp only [Pt.U, Pt.locs, Pt.cells, Pt.slots] at X' e1 e2 h1 h2 h3 st hcl
    subst h1; subst h2; subst h3
    exact Or.inr ⟨q, (T.setVm vm₁).calling g' mk As.toArray, t, U', L, E, ce, hT, X', hL, e1, e2, hq, hce, hcv, vx_cls hW₁ hcl, st⟩
end Runs
section Rows
variable {p : Program} {l : Launch} {e : Env} {R : Room} {s : State} {m : MethodId} {args : Array Value} {below : List Frame} {meth : Method} {c : Code} {H : Heap} {locs : List Loc} {cells slots : Nat} {Q : State → Prop}
variable {mc ms : Nat} {free : Addr → Prop} {A0 A1 : Nat → Prop} {H0 : Heap} {a : Array Value} {pc : Nat} {ls : Array Slot} {st0 rest : List Value}
theorem vx_keep {st₀ t T' : State} {L : List Loc} (h0 : st₀.heap = H) (e1 : T'.heap = t.heap) (hS : va_S A0 H0 H locs) (hA : ∀ q, q < H.size → A1 q → A0 q) (hf : ∀ q, free q → A0 q) (hL : ∀ q ∈ L, free q.base) (hF : va_F A1 st₀ t) :
    H.size ≤ T'.heap.size ∧ (∀ q : Nat, q < H.size → ¬ A1 q → T'.heap[q]? = H[q]?) ∧ va_S A0 H0 T'.heap (locs ++ L) := by
  obtain ⟨hz, hk⟩ := hF
  rw [h0] at hz hk
  exact ⟨by rw [e1]; exact hz, fun q h1 h2 => by rw [e1]; exact hk q h1 h2,
    ⟨Nat.le_trans hS.1 (by rw [e1]; exact hz), fun q h1 h2 => by rw [e1, hk q (Nat.lt_of_lt_of_le h1 hS.1) (fun z => h2 (hA q (Nat.lt_of_lt_of_le h1 hS.1) z))]; exact hS.2.1 q h1 h2, fun q hq => by
      rcases List.mem_append.mp hq with h | h
      · exact hS.2.2 q h
      · exact hf _ (hL q h)⟩⟩
theorem vx_calli {S SX : Type} {post : Int32 → S → Prop} {px : SX → Prop} {B : S → State → Prop} {BX : String → SX → State → Prop} {AX : Nat → Prop} (hr : vx_Run p l e R s m args below meth c H locs cells slots mc ms (F0 m pc ls st0) rest (va_Qi post B A1 a) (vx_X px BX AX) free) (hS : va_S A0 H0 H locs) (hA : ∀ q, q < H.size → A1 q → A0 q) (hf : ∀ q, free q → A0 q) (hAX : ∀ q, q < H.size → AX q → A0 q)
    (kx : ∀ (E : String) (ce : Cell) (q9 : Addr) (u : SX) (t : State) (H1 : Heap) (locs1 : List Loc), t.heap = H1 → s.vm.Alike t.vm → px u → BX E u t → H.size ≤ H1.size → (∀ q : Nat, q < H.size → ¬ AX q → H1[q]? = H[q]?) → va_S A0 H0 H1 locs1 → H1[q9]? = some ce → ce.vm = .none → s.vm.findClass E = some ce.cls → vx_W p l e R s m args below meth c H1 locs1 (cells + mc) (slots + ms) Q (F0 m pc ls rest) q9)
    (kk : ∀ (r : Int32) (u : S) (t : State) (H1 : Heap) (locs1 : List Loc), t.heap = H1 → s.vm.Alike t.vm → post r u → B u t → H.size ≤ H1.size → (∀ q : Nat, q < H.size → ¬ A1 q → H1[q]? = H[q]?) → va_S A0 H0 H1 locs1 → W p l e R s m args below meth c H1 locs1 (cells + mc) (slots + ms) Q (F0 m (pc + 3) ls (.int r :: rest))) : W p l e R s m args below meth c H locs cells slots Q (F0 m pc ls st0) := by
  intro T hT X
  rcases hr T hT X with ⟨v, st₀, t, T', L, h0, X', hL, e1, e2, ⟨⟨r, u, hv, hp, hb⟩, hF⟩, st⟩ | ⟨q, st₀, t, T', L, E, ce, h0, X', hL, e1, e2, ⟨u, hp, hb, hF⟩, hce, hcv, hcl, st⟩
  · cases hv
    obtain ⟨k1, k2, k3⟩ := vx_keep h0 e1 hS hA hf hL hF
    obtain ⟨t2, a1, b1⟩ := kk r u t T'.heap (locs ++ L) e1.symm (by rw [← e2]; exact X'.warmed.alike) hp hb k1 k2 k3 T' rfl X'
    exact ⟨t2, st t2 a1, b1⟩
  · obtain ⟨k1, k2, k3⟩ := vx_keep h0 e1 hS hAX hf hL hF
    obtain ⟨t2, a1, b1⟩ := kx E ce q u t T'.heap (locs ++ L) e1.symm (by rw [← e2]; exact X'.warmed.alike) hp hb k1 k2 k3 (by rw [e1]; exact hce) hcv hcl T' rfl X'
    exact ⟨t2, st.trans a1, b1⟩
theorem vx_calll {S SX : Type} {post : Int64 → S → Prop} {px : SX → Prop} {B : S → State → Prop} {BX : String → SX → State → Prop} {AX : Nat → Prop} (hr : vx_Run p l e R s m args below meth c H locs cells slots mc ms (F0 m pc ls st0) rest (va_Ql post B A1 a) (vx_X px BX AX) free) (hS : va_S A0 H0 H locs) (hA : ∀ q, q < H.size → A1 q → A0 q) (hf : ∀ q, free q → A0 q) (hAX : ∀ q, q < H.size → AX q → A0 q)
    (kx : ∀ (E : String) (ce : Cell) (q9 : Addr) (u : SX) (t : State) (H1 : Heap) (locs1 : List Loc), t.heap = H1 → s.vm.Alike t.vm → px u → BX E u t → H.size ≤ H1.size → (∀ q : Nat, q < H.size → ¬ AX q → H1[q]? = H[q]?) → va_S A0 H0 H1 locs1 → H1[q9]? = some ce → ce.vm = .none → s.vm.findClass E = some ce.cls → vx_W p l e R s m args below meth c H1 locs1 (cells + mc) (slots + ms) Q (F0 m pc ls rest) q9)
    (kk : ∀ (r : Int64) (u : S) (t : State) (H1 : Heap) (locs1 : List Loc), t.heap = H1 → s.vm.Alike t.vm → post r u → B u t → H.size ≤ H1.size → (∀ q : Nat, q < H.size → ¬ A1 q → H1[q]? = H[q]?) → va_S A0 H0 H1 locs1 → W p l e R s m args below meth c H1 locs1 (cells + mc) (slots + ms) Q (F0 m (pc + 3) ls (.long r :: rest))) : W p l e R s m args below meth c H locs cells slots Q (F0 m pc ls st0) := by
  intro T hT X
  rcases hr T hT X with ⟨v, st₀, t, T', L, h0, X', hL, e1, e2, ⟨⟨r, u, hv, hp, hb⟩, hF⟩, st⟩ | ⟨q, st₀, t, T', L, E, ce, h0, X', hL, e1, e2, ⟨u, hp, hb, hF⟩, hce, hcv, hcl, st⟩
  · cases hv
    obtain ⟨k1, k2, k3⟩ := vx_keep h0 e1 hS hA hf hL hF
    obtain ⟨t2, a1, b1⟩ := kk r u t T'.heap (locs ++ L) e1.symm (by rw [← e2]; exact X'.warmed.alike) hp hb k1 k2 k3 T' rfl X'
    exact ⟨t2, st t2 a1, b1⟩
  · obtain ⟨k1, k2, k3⟩ := vx_keep h0 e1 hS hAX hf hL hF
    obtain ⟨t2, a1, b1⟩ := kx E ce q u t T'.heap (locs ++ L) e1.symm (by rw [← e2]; exact X'.warmed.alike) hp hb k1 k2 k3 (by rw [e1]; exact hce) hcv hcl T' rfl X'
    exact ⟨t2, st.trans a1, b1⟩
theorem vx_callf {S SX : Type} {post : UInt32 → S → Prop} {px : SX → Prop} {B : S → State → Prop} {BX : String → SX → State → Prop} {AX : Nat → Prop} (hr : vx_Run p l e R s m args below meth c H locs cells slots mc ms (F0 m pc ls st0) rest (va_Qf post B A1 a) (vx_X px BX AX) free) (hS : va_S A0 H0 H locs) (hA : ∀ q, q < H.size → A1 q → A0 q) (hf : ∀ q, free q → A0 q) (hAX : ∀ q, q < H.size → AX q → A0 q)
    (kx : ∀ (E : String) (ce : Cell) (q9 : Addr) (u : SX) (t : State) (H1 : Heap) (locs1 : List Loc), t.heap = H1 → s.vm.Alike t.vm → px u → BX E u t → H.size ≤ H1.size → (∀ q : Nat, q < H.size → ¬ AX q → H1[q]? = H[q]?) → va_S A0 H0 H1 locs1 → H1[q9]? = some ce → ce.vm = .none → s.vm.findClass E = some ce.cls → vx_W p l e R s m args below meth c H1 locs1 (cells + mc) (slots + ms) Q (F0 m pc ls rest) q9)
    (kk : ∀ (r : UInt32) (u : S) (t : State) (H1 : Heap) (locs1 : List Loc), t.heap = H1 → s.vm.Alike t.vm → post r u → B u t → H.size ≤ H1.size → (∀ q : Nat, q < H.size → ¬ A1 q → H1[q]? = H[q]?) → va_S A0 H0 H1 locs1 → W p l e R s m args below meth c H1 locs1 (cells + mc) (slots + ms) Q (F0 m (pc + 3) ls (.float r :: rest))) : W p l e R s m args below meth c H locs cells slots Q (F0 m pc ls st0) := by
  intro T hT X
  rcases hr T hT X with ⟨v, st₀, t, T', L, h0, X', hL, e1, e2, ⟨⟨r, u, hv, hp, hb⟩, hF⟩, st⟩ | ⟨q, st₀, t, T', L, E, ce, h0, X', hL, e1, e2, ⟨u, hp, hb, hF⟩, hce, hcv, hcl, st⟩
  · cases hv
    obtain ⟨k1, k2, k3⟩ := vx_keep h0 e1 hS hA hf hL hF
    obtain ⟨t2, a1, b1⟩ := kk r u t T'.heap (locs ++ L) e1.symm (by rw [← e2]; exact X'.warmed.alike) hp hb k1 k2 k3 T' rfl X'
    exact ⟨t2, st t2 a1, b1⟩
  · obtain ⟨k1, k2, k3⟩ := vx_keep h0 e1 hS hAX hf hL hF
    obtain ⟨t2, a1, b1⟩ := kx E ce q u t T'.heap (locs ++ L) e1.symm (by rw [← e2]; exact X'.warmed.alike) hp hb k1 k2 k3 (by rw [e1]; exact hce) hcv hcl T' rfl X'
    exact ⟨t2, st.trans a1, b1⟩
theorem vx_calld {S SX : Type} {post : UInt64 → S → Prop} {px : SX → Prop} {B : S → State → Prop} {BX : String → SX → State → Prop} {AX : Nat → Prop} (hr : vx_Run p l e R s m args below meth c H locs cells slots mc ms (F0 m pc ls st0) rest (va_Qd post B A1 a) (vx_X px BX AX) free) (hS : va_S A0 H0 H locs) (hA : ∀ q, q < H.size → A1 q → A0 q) (hf : ∀ q, free q → A0 q) (hAX : ∀ q, q < H.size → AX q → A0 q)
    (kx : ∀ (E : String) (ce : Cell) (q9 : Addr) (u : SX) (t : State) (H1 : Heap) (locs1 : List Loc), t.heap = H1 → s.vm.Alike t.vm → px u → BX E u t → H.size ≤ H1.size → (∀ q : Nat, q < H.size → ¬ AX q → H1[q]? = H[q]?) → va_S A0 H0 H1 locs1 → H1[q9]? = some ce → ce.vm = .none → s.vm.findClass E = some ce.cls → vx_W p l e R s m args below meth c H1 locs1 (cells + mc) (slots + ms) Q (F0 m pc ls rest) q9)
    (kk : ∀ (r : UInt64) (u : S) (t : State) (H1 : Heap) (locs1 : List Loc), t.heap = H1 → s.vm.Alike t.vm → post r u → B u t → H.size ≤ H1.size → (∀ q : Nat, q < H.size → ¬ A1 q → H1[q]? = H[q]?) → va_S A0 H0 H1 locs1 → W p l e R s m args below meth c H1 locs1 (cells + mc) (slots + ms) Q (F0 m (pc + 3) ls (.double r :: rest))) : W p l e R s m args below meth c H locs cells slots Q (F0 m pc ls st0) := by
  intro T hT X
  rcases hr T hT X with ⟨v, st₀, t, T', L, h0, X', hL, e1, e2, ⟨⟨r, u, hv, hp, hb⟩, hF⟩, st⟩ | ⟨q, st₀, t, T', L, E, ce, h0, X', hL, e1, e2, ⟨u, hp, hb, hF⟩, hce, hcv, hcl, st⟩
  · cases hv
    obtain ⟨k1, k2, k3⟩ := vx_keep h0 e1 hS hA hf hL hF
    obtain ⟨t2, a1, b1⟩ := kk r u t T'.heap (locs ++ L) e1.symm (by rw [← e2]; exact X'.warmed.alike) hp hb k1 k2 k3 T' rfl X'
    exact ⟨t2, st t2 a1, b1⟩
  · obtain ⟨k1, k2, k3⟩ := vx_keep h0 e1 hS hAX hf hL hF
    obtain ⟨t2, a1, b1⟩ := kx E ce q u t T'.heap (locs ++ L) e1.symm (by rw [← e2]; exact X'.warmed.alike) hp hb k1 k2 k3 (by rw [e1]; exact hce) hcv hcl T' rfl X'
    exact ⟨t2, st.trans a1, b1⟩
theorem vx_callv {S SX : Type} {post : S → Prop} {px : SX → Prop} {B : S → State → Prop} {BX : String → SX → State → Prop} {AX : Nat → Prop} (hr : vx_Run p l e R s m args below meth c H locs cells slots mc ms (F0 m pc ls st0) rest (va_Qv post B A1 a) (vx_X px BX AX) free) (hS : va_S A0 H0 H locs) (hA : ∀ q, q < H.size → A1 q → A0 q) (hf : ∀ q, free q → A0 q) (hAX : ∀ q, q < H.size → AX q → A0 q)
    (kx : ∀ (E : String) (ce : Cell) (q9 : Addr) (u : SX) (t : State) (H1 : Heap) (locs1 : List Loc), t.heap = H1 → s.vm.Alike t.vm → px u → BX E u t → H.size ≤ H1.size → (∀ q : Nat, q < H.size → ¬ AX q → H1[q]? = H[q]?) → va_S A0 H0 H1 locs1 → H1[q9]? = some ce → ce.vm = .none → s.vm.findClass E = some ce.cls → vx_W p l e R s m args below meth c H1 locs1 (cells + mc) (slots + ms) Q (F0 m pc ls rest) q9)
    (kk : ∀ (u : S) (t : State) (H1 : Heap) (locs1 : List Loc), t.heap = H1 → s.vm.Alike t.vm → post u → B u t → H.size ≤ H1.size → (∀ q : Nat, q < H.size → ¬ A1 q → H1[q]? = H[q]?) → va_S A0 H0 H1 locs1 → W p l e R s m args below meth c H1 locs1 (cells + mc) (slots + ms) Q (F0 m (pc + 3) ls (rest))) : W p l e R s m args below meth c H locs cells slots Q (F0 m pc ls st0) := by
  intro T hT X
  rcases hr T hT X with ⟨v, st₀, t, T', L, h0, X', hL, e1, e2, ⟨⟨u, hv, hp, hb⟩, hF⟩, st⟩ | ⟨q, st₀, t, T', L, E, ce, h0, X', hL, e1, e2, ⟨u, hp, hb, hF⟩, hce, hcv, hcl, st⟩
  · cases hv
    obtain ⟨k1, k2, k3⟩ := vx_keep h0 e1 hS hA hf hL hF
    obtain ⟨t2, a1, b1⟩ := kk u t T'.heap (locs ++ L) e1.symm (by rw [← e2]; exact X'.warmed.alike) hp hb k1 k2 k3 T' rfl X'
    exact ⟨t2, st t2 a1, b1⟩
  · obtain ⟨k1, k2, k3⟩ := vx_keep h0 e1 hS hAX hf hL hF
    obtain ⟨t2, a1, b1⟩ := kx E ce q u t T'.heap (locs ++ L) e1.symm (by rw [← e2]; exact X'.warmed.alike) hp hb k1 k2 k3 (by rw [e1]; exact hce) hcv hcl T' rfl X'
    exact ⟨t2, st.trans a1, b1⟩
/-- caught by the row x of this method's table; the rows ahead don't take it -/
theorem vx_catch {own name : String} {E : String} {ce : Cell} {q : Addr} (hown : s.vm.findClass own = some m.cls) (pre : List ExceptionTableEntry) (x : ExceptionTableEntry) (suf : List ExceptionTableEntry) (hsplit : c.exceptionTable.toList = pre ++ x :: suf)
    (hpass : ∀ z ∈ pre, covers z pc = false ∨ (z.catchType ≠ 0 ∧ ∃ nm : String, (Cond.classLink own z.catchType nm).before args s = true ∧ va_Nc E nm s)) (hx : covers x pc = true) (h0 : x.catchType ≠ 0)
    (hlink : (Cond.classLink own x.catchType name).before args s = true) (hcast : (Cond.castable E name).before args s = true) (hcell : H[q]? = some ce) (hv : ce.vm = .none) (hcl : s.vm.findClass E = some ce.cls)
    (kk : W p l e R s m args below meth c H locs cells slots Q (F0 m x.handlerPc ls [.ref q])) : vx_W p l e R s m args below meth c H locs cells slots Q (F0 m pc ls rest) q := by
  intro T hT X
  have hpl : e.platform.magicAccessors = ({} : Platform).magicAccessors := by rw [X.admits.platform]
  obtain ⟨c3, c4, hc3, hc4, hasg⟩ := Cond.castable_spec hcast
  cases Option.some.inj (hc3.symm.trans hcl)
  obtain ⟨c5, hc5, hcl5⟩ := Cond.classLink_spec hown hlink e.platform hpl
  cases Option.some.inj (hc4.symm.trans hc5)
  obtain ⟨vm', X', st⟩ := X.thenCaughtThrough q (g := F0 m pc ls rest) rfl (Steps.refl _) (by rw [hT]; exact hcell) (by rw [hv]; rfl) (by obtain ⟨k9, h9, -⟩ := Vm.findClass_spec hcl; exact ⟨k9, h9⟩) pre x suf hsplit
    (fun z hz => by
      rcases hpass z hz with h | ⟨hz0, nm, hl1, hn1⟩
      · exact Or.inl h
      · obtain ⟨c6, hc6, hcl6⟩ := Cond.classLink_spec hown hl1 e.platform hpl
        obtain ⟨a8, b8, h1, h2, h3⟩ := hn1
        cases Option.some.inj (h1.symm.trans hcl)
        cases Option.some.inj (h2.symm.trans hc6)
        exact Or.inr ⟨hz0, _, hcl6, h3⟩) hx (Or.inr ⟨h0, c4, hcl5, hasg⟩)
  obtain ⟨t, a1, b1⟩ := kk (T.setVm vm') hT X'
  exact ⟨t, st.trans a1, b1⟩
end Rows
section Ends
variable {p : Program} {l : Launch} {e : Env} {R : Room} {s : State} {m : MethodId} {args : Array Value} {below : List Frame} {meth : Method} {c : Code} {H : Heap} {locs : List Loc} {cells slots : Nat} {Q : State → Prop}
variable {mc ms : Nat} {free : Addr → Prop} {A0 A1 : Nat → Prop} {H0 : Heap} {a : Array Value} {ls : Array Slot} {st0 rest : List Value}
variable {Qc : Array Value → State → Outcome → State → Prop} {XC : String → State → State → Prop}
/-- what a body that may throw owes at its end -/
def vx_MQ (below : List Frame) (Qc : Array Value → State → Outcome → State → Prop) (XC : String → State → State → Prop) (a : Array Value) (s : State) (mc ms : Nat) (free : Addr → Prop) : State → Prop := fun t =>
  ∃ o, t.status = .running ∧ Ended t below o ∧ vx_Q Qc XC mc ms free a s o t
theorem vx_ret {g : JFrame} {mc ms : Nat} (k : W p l e R s m args below meth c H locs cells slots (MQ below Qc args s mc ms free) g) : W p l e R s m args below meth c H locs cells slots (vx_MQ below Qc XC args s mc ms free) g := by
  intro T hT X
  obtain ⟨t, a1, o, b1, b2, b3, b4⟩ := k T hT X
  exact ⟨t, a1, o, b1, b2, Or.inl ⟨b3, b4⟩⟩
/-- not caught here: it goes on to the caller -/
theorem vx_widen {g : JFrame} {q : Addr} {k n : Nat} (h1 : cells ≤ k) (h2 : slots ≤ n) (kk : vx_W p l e R s m args below meth c H locs k n Q g q) : vx_W p l e R s m args below meth c H locs cells slots Q g q := fun T hT X => kk T hT (stand_widen X h1 h2)
theorem vx_out {pc : Nat} {E : String} {ce : Cell} {q : Addr} {mc ms : Nat} (hout : ∀ x ∈ c.exceptionTable.toList, covers x pc = false) (hlocks : meth.locks = false) (hcell : H[q]? = some ce) (hv : ce.vm = .none) (hcl : s.vm.findClass E = some ce.cls)
    (hx : ∀ t : State, t.heap = H → s.vm.Alike t.vm → XC E s t) (hf : ∀ z ∈ locs, free z.base) (hc : cells ≤ mc) (hs : slots ≤ ms) :
    vx_W p l e R s m args below meth c H locs cells slots (vx_MQ below Qc XC args s mc ms free) (F0 m pc ls rest) q := by
  intro T hT X
  obtain ⟨st1, hrun, hend, hW, hsm⟩ := X.leaveThrown q (g := F0 m pc ls rest) rfl rfl rfl hout hlocks
  have hcell9 : (T.setFrames (.throwing q :: below)).heap[q]? = some ce := by
    show T.heap[q]? = some ce
    rw [hT]; exact hcell
  exact ⟨_, st1, .threw q, hrun, hend, Or.inr ⟨q, rfl, E, ce, locs, hx _ hT hW.alike, hcell9, hv, hcl, hW, hsm.mono hc hs, hf⟩⟩
theorem vx_frame {U : State} {k n : Nat} (h : s.sameButNew ({ U with vm := s.vm } : State) locs k n) : s.heap.size ≤ U.heap.size ∧ ∀ q : Nat, q < s.heap.size → (∀ z ∈ locs, z.base ≠ q) → U.heap[q]? = s.heap[q]? := by
  obtain ⟨-, h2, -, -, -, h6⟩ := h
  refine ⟨h2, fun q hq hz => ?_⟩
  obtain ⟨c9, e1, e2, e3, e4⟩ := h6 q _ (Array.getElem?_eq_getElem hq)
  have hs : c9.slots = (s.heap[q]).slots := Array.ext_getElem? fun i => e4 i fun hm => hz _ hm rfl
  have h9 : c9 = s.heap[q] := by
    rw [hs] at e2
    exact e2
  have e5 : U.heap[q]? = some c9 := e1
  rw [e5, h9, Array.getElem?_eq_getElem hq]
/-- the words of a throw but the four that speak of the heap -/
def vx_no (w : Cond) : Bool := decide (w ≠ .isRef (.static Bundle.tN "UNASSIGNED_STACK" Bundle.steD)) && decide (w ≠ .isRef (.static Bundle.tN "SUPPRESSED_SENTINEL" Bundle.listD)) && decide (w ≠ .laysStatic Bundle.tN "UNASSIGNED_STACK" Bundle.steD) && decide (w ≠ .laysStatic Bundle.tN "SUPPRESSED_SENTINEL" Bundle.listD)
def vx_at0 (own : String) (ic : Nat) (X : String) (names : List String) : List Cond := (Bundle.ownAtoms0 own ic X names).filter vx_no
def vx_atS (own : String) (ic : Nat) (X : String) (names : List String) : List Cond := (Bundle.ownAtoms own ic X names).filter vx_no
/-- a word that the tables alone decide, or a good one -/
def vx_ot (w : Cond) : Bool := w.onTables || goodWord w
theorem vx_ot_at {args a' : Array Value} {s U : State} {w : Cond} (hW : s.WarmedH U.vm) (hvm : s.vm = U.vm) (hg : vx_ot w = true) (h : w.before args s = true) : w.before a' U = true := by
  simp only [vx_ot, Bool.or_eq_true] at hg
  rcases hg with hg | hg
  · exact va_tabs hg hvm h
  · exact word_at hW (good_of_word hg) h
/-- a list's words: the good ones out of the method's own list, the others by premises of their own -/
theorem vx_hat {args : Array Value} {s : State} {L B : List Cond} (h1 : ∀ w ∈ L.filter goodWord, w.before args s = true) (h2 : ∀ w ∈ L.filter (fun w => !goodWord w), w ∈ B) (h3 : ∀ w ∈ B, w.before args s = true) : ∀ w ∈ L, w.before args s = true := by
  intro w hw
  by_cases g : goodWord w = true
  · exact h1 w (List.mem_filter.mpr ⟨hw, g⟩)
  · refine h3 w (h2 w (List.mem_filter.mpr ⟨hw, ?_⟩))
    show (!goodWord w) = true
    cases hgw : goodWord w
    · rfl
    · exact absurd hgw g
theorem vx_c {args : Array Value} {s : State} {w : Cond} {B : List Cond} (h : w.before args s = true) (t : ∀ w ∈ B, w.before args s = true) : ∀ w' ∈ w :: B, w'.before args s = true := fun w' h' => (List.mem_cons.mp h').elim (fun e => by rw [e]; exact h) (t w')
theorem vx_n {args : Array Value} {s : State} : ∀ w ∈ ([] : List Cond), w.before args s = true := fun _ h => nomatch h
theorem vx_own {args : Array Value} {s : State} {L : List Cond} (h1 : ∀ w ∈ L.filter vx_no, w.before args s = true)
    (hU : (Cond.isRef (.static Bundle.tN "UNASSIGNED_STACK" Bundle.steD)).before args s = true) (hN : (Cond.isRef (.static Bundle.tN "SUPPRESSED_SENTINEL" Bundle.listD)).before args s = true)
    (lU : (Cond.laysStatic Bundle.tN "UNASSIGNED_STACK" Bundle.steD).before args s = true) (lN : (Cond.laysStatic Bundle.tN "SUPPRESSED_SENTINEL" Bundle.listD).before args s = true) : ∀ w ∈ L, w.before args s = true := by
  intro w hw
  by_cases e1 : w = .isRef (.static Bundle.tN "UNASSIGNED_STACK" Bundle.steD)
  · rw [e1]; exact hU
  · by_cases e2 : w = .isRef (.static Bundle.tN "SUPPRESSED_SENTINEL" Bundle.listD)
    · rw [e2]; exact hN
    · by_cases e3 : w = .laysStatic Bundle.tN "UNASSIGNED_STACK" Bundle.steD
      · rw [e3]; exact lU
      · by_cases e4 : w = .laysStatic Bundle.tN "SUPPRESSED_SENTINEL" Bundle.listD
        · rw [e4]; exact lN
        · exact h1 w (List.mem_filter.mpr ⟨hw, by unfold vx_no; rw [decide_eq_true e1, decide_eq_true e2, decide_eq_true e3, decide_eq_true e4]; rfl⟩)
/-- where a static field lies, its class's statics cell in H -/
def vx_L (C n d : String) (A : Nat → Prop) (U : State) (H : Heap) : Prop := ∃ (c : ClassId) (k : Class) (i : Nat) (f : Field) (a : Nat) (cell : Cell), U.vm.findClass C = some c ∧ U.fieldFound? C n d = some (c, k, i, f) ∧ f.isStatic = true ∧ k.statics = some a ∧ H[a]? = some cell ∧ cell.vm.isStatics = true ∧ cell.cls = c ∧ f.slot < cell.slots.size ∧ k.staticTypes[f.slot]? = some f.type ∧ ¬ A a
theorem vx_L.moved {C n d : String} {A : Nat → Prop} {u U : State} {H : Heap} (hvm : u.vm.Alike U.vm) (h : vx_L C n d A u H) : vx_L C n d A U H := by
  obtain ⟨c, k, i, f, a, cell, h1, h2, h3, h4, h5, h6, h7, h8, h9, h10⟩ := h
  obtain ⟨k', hi', he⟩ := State.fieldFound?_setVm hvm h2
  exact ⟨c, k', i, f, a, cell, by rw [hvm.findClass]; exact h1, hi', h3, by rw [he]; exact h4, h5, h6, h7, h8, by rw [he]; exact h9, h10⟩
theorem vx_L.kept {C n d : String} {A : Nat → Prop} {U : State} {H H1 : Heap} (h : vx_L C n d A U H) (hq : ∀ a : Nat, a < H.size → ¬ A a → H1[a]? = H[a]?) : vx_L C n d A U H1 := by
  obtain ⟨c, k, i, f, a, cell, h1, h2, h3, h4, h5, h6, h7, h8, h9, h10⟩ := h
  exact ⟨c, k, i, f, a, cell, h1, h2, h3, h4, by rw [hq a (Array.getElem?_eq_some_iff.mp h5).1 h10]; exact h5, h6, h7, h8, h9, h10⟩
theorem vx_L.narrow {C n d : String} {A B : Nat → Prop} {U : State} {H : Heap} (h : vx_L C n d A U H) (hAB : ∀ q, B q → A q) : vx_L C n d B U H := by
  obtain ⟨c, k, i, f, a, cell, h1, h2, h3, h4, h5, h6, h7, h8, h9, h10⟩ := h
  exact ⟨c, k, i, f, a, cell, h1, h2, h3, h4, h5, h6, h7, h8, h9, fun z => h10 (hAB _ z)⟩
theorem vx_L.word {C n d : String} {A : Nat → Prop} {s : State} {args : Array Value} (h : vx_L C n d A s s.heap) : (Cond.laysStatic C n d).before args s = true := by
  obtain ⟨c, k, i, f, a, cell, h1, h2, h3, h4, h5, h6, h7, h8, h9, -⟩ := h
  show (Cond.laysStatic C n d).holds args s none s [] = true
  exact Cond.laysStatic_of h1 h2 h3 h4 h5 h6 h7 h8 h9
/-- .. and what it holds: null or some reference -/
def vx_Zq (C n d : String) (A : Nat → Prop) (U : State) (H : Heap) : Prop := va_Zq C n d A U H ∧ vx_L C n d A U H
theorem vx_Zq.moved {C n d : String} {A : Nat → Prop} {u U : State} {H : Heap} (hvm : u.vm.Alike U.vm) (h : vx_Zq C n d A u H) : vx_Zq C n d A U H := ⟨va_Zq.moved hvm h.1, vx_L.moved hvm h.2⟩
theorem vx_Zq.kept {C n d : String} {A : Nat → Prop} {U : State} {H H1 : Heap} (h : vx_Zq C n d A U H) (hq : ∀ a : Nat, a < H.size → ¬ A a → H1[a]? = H[a]?) : vx_Zq C n d A U H1 := ⟨va_Zq.kept h.1 hq, vx_L.kept h.2 hq⟩
theorem vx_Zq.narrow {C n d : String} {A B : Nat → Prop} {U : State} {H : Heap} (h : vx_Zq C n d A U H) (hAB : ∀ q, B q → A q) : vx_Zq C n d B U H := ⟨va_Zq.narrow h.1 hAB, vx_L.narrow h.2 hAB⟩
theorem vx_Zqof {args : Array Value} {s : State} {C n d : String} {A : Nat → Prop} (hl : (Cond.laysStatic C n d).before args s = true) (hini : (Cond.initialized C).before args s = true) (h : (Cond.isRef (.static C n d)).before args s = true) (hA : ∀ a : Nat, a < s.heap.size → ¬ A a) : vx_Zq C n d A s s.heap := by
  refine ⟨va_Zqof hl hini h hA, ?_⟩
  obtain ⟨c, k, i, f, a, cell, h1, h2, h3, h4, h5, h6, h7, h8, h9⟩ := Cond.laysStatic_spec hl
  exact ⟨c, k, i, f, a, cell, h1, h2, h3, h4, h5, h6, h7, h8, h9, hA a (Array.getElem?_eq_some_iff.mp h5).1⟩
theorem vx_isRef {C n d : String} {v : Value} {A : Nat → Prop} {s : State} {args : Array Value} (h : va_Z C n d v A s s.heap) (hv : v.isRef = true) : (Cond.isRef (.static C n d)).before args s = true := by
  obtain ⟨cf, kf, fi, f, a, cell, h1, h2, h3, h4, h5, h6, h7, -⟩ := h
  have he : (Term.static C n d).eval args s none [] s = some v := by
    simp [Term.eval, State.fieldNamed?, h1, h2, h4, h5, h6, h7]
  simp only [Cond.before, Cond.holds, Cond.value, he]
  cases v <;> simp_all [Value.isRef]
theorem vx_isRefq {C n d : String} {A : Nat → Prop} {s : State} {args : Array Value} (h : va_Zq C n d A s s.heap) : (Cond.isRef (.static C n d)).before args s = true := by
  rcases h with h | ⟨t, h⟩
  · exact vx_isRef h rfl
  · exact vx_isRef h rfl
/-- the same frame, seen from here: as if the method were called anew in this heap -/
theorem vx_rebase {T : State} (X : Stand p l e R s m args below meth c T locs cells slots) {R' : Room} (hf : R'.frames ≤ R.frames) (hl : R'.locals ≤ R.locals) (hc : cells + R'.cells ≤ R.cells) (hs : slots + R'.slots ≤ R.slots) :
    Stand p l e R' ((T.setVm s.vm).setFrames (.invoking m args :: below)) m args below meth c T [] 0 0 := by
  have htop : (T.setVm s.vm).topJava?.isSome := X.here.top
  have hF : ((T.setVm s.vm).setFrames (.invoking m args :: below)).frames = .invoking m args :: below := State.frames_setFrames _ (State.cur_lt_of_top htop)
  obtain ⟨g₀, hg0⟩ := Option.isSome_iff_exists.mp htop
  obtain ⟨r, hr⟩ := State.topJava?_eq_some.mp hg0
  have hl9 : e.platform.stackLimits (T.setVm s.vm).me = e.platform.stackLimits s.me := X.limits
  have hb9 : (T.setVm s.vm).me.stackBytes = s.me.stackBytes := X.bytes
  refine ⟨X.admits, X.cas, X.clock, hF, ?_, X.hears, X.method, X.code, X.here, X.tail, X.warmed, ?_, ?_, ?_⟩
  · have h := X.room
    have hU : ((T.setVm s.vm).setFrames (.invoking m args :: below)).localsInUse = s.localsInUse := by
      rw [State.localsInUse_invoking hF (meth := meth) (c := c) X.method X.code, State.localsInUse_invoking X.frames X.method X.code]
    simp only [State.hasRoom, Bool.and_eq_true, decide_eq_true_eq] at h ⊢
    obtain ⟨⟨⟨⟨h1, h2, h3, h4, h5, h6⟩, h7⟩, h8⟩, h9⟩ := h
    rw [X.frames, List.length_cons] at h2 h3
    have q1 := X.heapSize
    have q2 := X.used
    simp only [hF, hU, List.length_cons, State.stackLimits_setFrames, State.stackBytes_setFrames, hl9, hb9]
    refine ⟨⟨⟨⟨by omega, by omega, by omega, by omega, by omega, h6⟩, ?_⟩, ?_⟩, X.book⟩
    · show T.heap.size + R'.cells ≤ e.platform.maxCells
      omega
    · show T.slotsUsed + R'.slots ≤ e.platform.maxSlots
      omega
  · rw [State.stackLimits_setFrames]; rfl
  · rw [State.stackBytes_setFrames]; rfl
  · refine ⟨?_, Nat.le_refl _, Nat.le_refl _, ?_, ?_, fun a c9 h9 => ⟨c9, h9, rfl, rfl, fun _ _ => rfl⟩⟩
    · obtain ⟨t, ht, -⟩ := State.frames_cons hr
      show T.setVm s.vm = { ((T.setVm s.vm).setFrames (.invoking m args :: below)).setFrames (T.setVm s.vm).frames with heap := T.heap, slotsUsed := T.slotsUsed }
      rw [State.setFrames_setFrames, State.setFrames_self ht]
      rfl
    · show T.slotsUsed = T.slotsUsed + ((T.heap.toList.drop T.heap.size).map (·.slots.size)).sum
      rw [List.drop_eq_nil_of_le (Nat.le_of_eq Array.length_toList)]
      rfl
    · show ((T.heap.toList.drop T.heap.size).map (·.slots.size)).sum ≤ 0
      rw [List.drop_eq_nil_of_le (Nat.le_of_eq Array.length_toList)]
      exact Nat.le_refl _
/-- 'throw new E()': new; dup; invokespecial; athrow -/
theorem vx_throw0 {cc : ByteArray} {pc : Nat} (hexec : p.tables.exec = Jvm.exec) (hb : c.code = cc) (hl : l.stackTraces = false) {own cls : String} {names : List String} {ik ic mc ms : Nat} {A : Nat → Prop}
    (hown : s.vm.findClass own = some m.cls) (hcls : Bundle.fit cls = true) (hnames : ∀ n ∈ names, Bundle.fit n = true)
    (hk : (Cond.classLink own ik cls).before args s = true) (hini : (Cond.initialized cls).before args s = true) (hat : ∀ w ∈ vx_at0 own ic cls names, w.before args s = true)
    (hgood : ∀ w ∈ Cond.classLink own ik cls :: Cond.initialized cls :: vx_at0 own ic cls names, vx_ot w = true)
    (hU : vx_Zq Bundle.tN "UNASSIGNED_STACK" Bundle.steD A s s.heap) (hN : vx_Zq Bundle.tN "SUPPRESSED_SENTINEL" Bundle.listD A s s.heap) (hS : va_S A s.heap H locs) (hsize : ls.size = c.maxLocals)
    (d0 : decode cc pc = .ok (.new ik, 3)) (d3 : decode cc (pc + 3) = .ok (.dup, 1)) (d4 : decode cc (pc + 4) = .ok (.invokespecial ic, 3)) (d7 : decode cc (pc + 7) = .ok (.athrow, 1))
    (hout : ∀ x ∈ c.exceptionTable.toList, covers x (pc + 7) = false)
    (hRframes : names.length + 3 < R.frames) (hRlocals : (rest.map fun v => v.category).sum + (13 * (names.length + 1) + 42) ≤ R.locals) (hRcells : cells + 1 ≤ R.cells) (hRslots : slots + 6 ≤ R.slots) (hlocks : meth.locks = false)
    (hx : ∀ t : State, s.vm.Alike t.vm → H.size ≤ t.heap.size → (∀ q : Nat, q < H.size → t.heap[q]? = H[q]?) → XC cls s t)
    (hf : ∀ z ∈ locs, free z.base) (hc : cells + 1 ≤ mc) (hs : slots + 6 ≤ ms) :
    W p l e R s m args below meth c H locs cells slots (vx_MQ below Qc XC args s mc ms free) (F0 m pc ls rest) := by
  intro T hT X
  have htr : e.platform.stackTraces = false := (show e.platform.stackTraces = l.stackTraces by rw [X.admits.platform]).trans hl
  have Y := vx_rebase X (R' := { frames := R.frames, locals := R.locals, cells := 1, slots := 6 }) (Nat.le_refl _) (Nat.le_refl _) hRcells hRslots
  obtain ⟨s', hA⟩ : ∃ z, z = (T.setVm s.vm).setFrames (.invoking m args :: below) := ⟨_, rfl⟩
  rw [← hA] at Y
  have hvm : s'.vm = s.vm := by rw [hA]; rfl
  have hhp : s'.heap = H := by rw [hA]; exact hT
  have hW0 : s.WarmedH s'.vm := by rw [hvm]; exact State.WarmedH.refl s
  have hat' : ∀ w ∈ vx_at0 own ic cls names, w.before args s' = true := fun w hw => vx_ot_at hW0 hvm.symm (hgood w (List.mem_cons_of_mem _ (List.mem_cons_of_mem _ hw))) (hat w hw)
  have hk' : (Cond.classLink own ik cls).before args s' = true := vx_ot_at hW0 hvm.symm (hgood _ List.mem_cons_self) hk
  have hini' : (Cond.initialized cls).before args s' = true := vx_ot_at hW0 hvm.symm (hgood _ (List.mem_cons_of_mem _ List.mem_cons_self)) hini
  have hU' : vx_Zq Bundle.tN "UNASSIGNED_STACK" Bundle.steD A s' s'.heap := by rw [hhp]; exact vx_Zq.moved hW0.alike (hU.kept hS.2.1)
  have hN' : vx_Zq Bundle.tN "SUPPRESSED_SENTINEL" Bundle.listD A s' s'.heap := by rw [hhp]; exact vx_Zq.moved hW0.alike (hN.kept hS.2.1)
  have h : ∀ w ∈ Bundle.ownAtoms0 own ic cls names, w.before args s' = true := vx_own hat' (vx_isRefq hU'.1) (vx_isRefq hN'.1) hU'.2.word hN'.2.word
  have hown' : s'.vm.findClass own = some m.cls := by rw [hvm]; exact hown
  have hins : (Cond.instantiable cls 6).before args s' = true := h _ (by simp [Bundle.ownAtoms0])
  obtain ⟨vm₁, cX, kX, hfX, hkX, -, -, X₁, st1⟩ := Y.newCold hexec (own := own) (C := cls) (index := ik) (n := 6) hown' hk' hins hini'
    (g := F0 m pc ls rest) rfl (by rw [hb]; exact d0) (Nat.le_refl _) (Nat.le_refl _)
  generalize hT1 : (T.setVm vm₁).pushCell { cls := cX, slots := kX.instanceTypes.map defaultValue, vm := .none } = T1 at X₁ st1
  have hcat : (Value.ref T.heap.size).category = 1 := rfl
  have hcellA : T1.heap[T.heap.size]? = some (freshCell cX kX) := by rw [← hT1]; exact State.heap_pushCell_size _ _
  have d3' : decode c.code (pc + 3) = .ok (.dup, 1) := by rw [hb]; exact d3
  obtain ⟨U, hsteps, hrun, hend, hW, hsame, ce, hce, hO⟩ := X₁.ctorThrow0 hexec htr (own := own) (cls := cls) (names := names) (ic := ic) hown' hcls hnames h (fun x hx => nomatch hx) hfX hkX hcellA (by rw [hhp, hT]; exact Nat.le_refl _)
    (g := { method := m, pc := pc + 4, locals := ls, stack := .ref T.heap.size :: .ref T.heap.size :: rest, locked := none }) rfl hsize rfl rfl (rest := rest) rfl
    (by rw [hb]; exact d4) (by rw [hb]; exact d7) hout hRframes (by simp only [List.map_cons, List.sum_cons, hcat]; omega) hlocks
  obtain ⟨f1, f2⟩ := vx_frame hsame
  rw [hhp] at f1 f2
  have hWs : s.WarmedH U.vm := State.WarmedH.trans hW0 hW
  have hcl : s.vm.findClass cls = some ce.cls := by
    have h9 := hO.cls
    rw [hvm] at h9
    exact h9
  have hall : s.sameButNew ({ U with vm := s.vm } : State) locs mc ms := by
    subst hA
    obtain ⟨e1, e2⟩ := hsame
    rw [State.setFrames_setFrames] at e1
    have h2 : (T.setVm s.vm).sameButNew ({ U with vm := s.vm } : State) [] (0 + 1) (0 + 6) := ⟨e1, e2⟩
    have h3 := X.same.trans h2
    rw [List.append_nil] at h3
    exact h3.mono hc hs
  refine ⟨U, ?_, .threw T.heap.size, hrun, hend, Or.inr ⟨T.heap.size, rfl, cls, ce, locs, hx U hWs.alike f1 (fun q hq => f2 q hq (fun z hz => nomatch hz)), hce, hO.vm, hcl, hWs, hall, hf⟩⟩
  refine st1 _ ?_
  show Steps p.tables e below (T1.setTop { method := m, pc := pc + 3, locals := ls, stack := .ref T.heap.size :: rest, locked := none }) _
  jvm_step X₁.here [X₁.here.top, hexec, d3', Value.category]
  exact hsteps
/-- 'throw new E("text")': new; dup; ldc; invokespecial; athrow -/
theorem vx_throwS {cc : ByteArray} {pc : Nat} (hexec : p.tables.exec = Jvm.exec) (hb : c.code = cc) (hl : l.stackTraces = false) {own cls text : String} {names : List String} {ik is ic mc ms sa : Nat} {A : Nat → Prop}
    (hown : s.vm.findClass own = some m.cls) (hcls : Bundle.fit cls = true) (hnames : ∀ n ∈ names, Bundle.fit n = true)
    (hk : (Cond.classLink own ik cls).before args s = true) (hini : (Cond.initialized cls).before args s = true) (hstr : vk_R own is text sa s) (hat : ∀ w ∈ vx_atS own ic cls names, w.before args s = true)
    (hgood : ∀ w ∈ Cond.classLink own ik cls :: Cond.initialized cls :: vx_atS own ic cls names, vx_ot w = true)
    (hU : vx_Zq Bundle.tN "UNASSIGNED_STACK" Bundle.steD A s s.heap) (hN : vx_Zq Bundle.tN "SUPPRESSED_SENTINEL" Bundle.listD A s s.heap) (hS : va_S A s.heap H locs) (hsize : ls.size = c.maxLocals)
    (d0 : decode cc pc = .ok (.new ik, 3)) (d3 : decode cc (pc + 3) = .ok (.dup, 1)) (d4 : decode cc (pc + 4) = .ok (.ldc is, 2)) (d6 : decode cc (pc + 6) = .ok (.invokespecial ic, 3)) (d9 : decode cc (pc + 9) = .ok (.athrow, 1))
    (hout : ∀ x ∈ c.exceptionTable.toList, covers x (pc + 9) = false)
    (hRframes : names.length + 3 < R.frames) (hRlocals : (rest.map fun v => v.category).sum + (13 * (names.length + 1) + 43) ≤ R.locals) (hRcells : cells + 1 ≤ R.cells) (hRslots : slots + 6 ≤ R.slots) (hlocks : meth.locks = false)
    (hx : ∀ t : State, s.vm.Alike t.vm → H.size ≤ t.heap.size → (∀ q : Nat, q < H.size → t.heap[q]? = H[q]?) → XC cls s t)
    (hf : ∀ z ∈ locs, free z.base) (hc : cells + 1 ≤ mc) (hs : slots + 6 ≤ ms) :
    W p l e R s m args below meth c H locs cells slots (vx_MQ below Qc XC args s mc ms free) (F0 m pc ls rest) := by
  intro T hT X
  have htr : e.platform.stackTraces = false := (show e.platform.stackTraces = l.stackTraces by rw [X.admits.platform]).trans hl
  have Y := vx_rebase X (R' := { frames := R.frames, locals := R.locals, cells := 1, slots := 6 }) (Nat.le_refl _) (Nat.le_refl _) hRcells hRslots
  obtain ⟨s', hA⟩ : ∃ z, z = (T.setVm s.vm).setFrames (.invoking m args :: below) := ⟨_, rfl⟩
  rw [← hA] at Y
  have hvm : s'.vm = s.vm := by rw [hA]; rfl
  have hhp : s'.heap = H := by rw [hA]; exact hT
  have hW0 : s.WarmedH s'.vm := by rw [hvm]; exact State.WarmedH.refl s
  have hat' : ∀ w ∈ vx_atS own ic cls names, w.before args s' = true := fun w hw => vx_ot_at hW0 hvm.symm (hgood w (List.mem_cons_of_mem _ (List.mem_cons_of_mem _ hw))) (hat w hw)
  have hk' : (Cond.classLink own ik cls).before args s' = true := vx_ot_at hW0 hvm.symm (hgood _ List.mem_cons_self) hk
  have hini' : (Cond.initialized cls).before args s' = true := vx_ot_at hW0 hvm.symm (hgood _ (List.mem_cons_of_mem _ List.mem_cons_self)) hini
  have hU' : vx_Zq Bundle.tN "UNASSIGNED_STACK" Bundle.steD A s' s'.heap := by rw [hhp]; exact vx_Zq.moved hW0.alike (hU.kept hS.2.1)
  have hN' : vx_Zq Bundle.tN "SUPPRESSED_SENTINEL" Bundle.listD A s' s'.heap := by rw [hhp]; exact vx_Zq.moved hW0.alike (hN.kept hS.2.1)
  have h : ∀ w ∈ Bundle.ownAtoms own ic cls names, w.before args s' = true := vx_own hat' (vx_isRefq hU'.1) (vx_isRefq hN'.1) hU'.2.word hN'.2.word
  have hown' : s'.vm.findClass own = some m.cls := by rw [hvm]; exact hown
  have hins : (Cond.instantiable cls 6).before args s' = true := h _ (by simp [Bundle.ownAtoms])
  obtain ⟨vm₁, cX, kX, hfX, hkX, -, -, X₁, st1⟩ := Y.newCold hexec (own := own) (C := cls) (index := ik) (n := 6) hown' hk' hins hini'
    (g := F0 m pc ls rest) rfl (by rw [hb]; exact d0) (Nat.le_refl _) (Nat.le_refl _)
  generalize hT1 : (T.setVm vm₁).pushCell { cls := cX, slots := kX.instanceTypes.map defaultValue, vm := .none } = T1 at X₁ st1
  have hcat : (Value.ref T.heap.size).category = 1 := rfl
  have hcellA : T1.heap[T.heap.size]? = some (freshCell cX kX) := by rw [← hT1]; exact State.heap_pushCell_size _ _
  have d3' : decode c.code (pc + 3) = .ok (.dup, 1) := by rw [hb]; exact d3
  have d4' : decode c.code (pc + 4) = .ok (.ldc is, 2) := by rw [hb]; exact d4
  have hstr' : vk_R own is text sa s' := vk_R.warm hW0 hstr
  obtain ⟨U, hsteps, hrun, hend, hW, hsame, ce, hce, hO⟩ := X₁.ctorThrowS hexec htr (own := own) (cls := cls) (names := names) (ic := ic) hown' hcls hnames h (fun x hx => nomatch hx) hfX hkX hcellA (by rw [hhp, hT]; exact Nat.le_refl _) (msg := .ref sa) rfl
    (g := { method := m, pc := pc + 6, locals := ls, stack := .ref sa :: .ref T.heap.size :: .ref T.heap.size :: rest, locked := none }) rfl hsize rfl rfl (rest := rest) rfl
    (by rw [hb]; exact d6) (by rw [hb]; exact d9) hout hRframes (by simp only [List.map_cons, List.sum_cons, hcat]; omega) hlocks
  obtain ⟨f1, f2⟩ := vx_frame hsame
  rw [hhp] at f1 f2
  have hWs : s.WarmedH U.vm := State.WarmedH.trans hW0 hW
  have hcl : s.vm.findClass cls = some ce.cls := by
    have h9 := hO.cls
    rw [hvm] at h9
    exact h9
  have hall : s.sameButNew ({ U with vm := s.vm } : State) locs mc ms := by
    subst hA
    obtain ⟨e1, e2⟩ := hsame
    rw [State.setFrames_setFrames] at e1
    have h2 : (T.setVm s.vm).sameButNew ({ U with vm := s.vm } : State) [] (0 + 1) (0 + 6) := ⟨e1, e2⟩
    have h3 := X.same.trans h2
    rw [List.append_nil] at h3
    exact h3.mono hc hs
  refine ⟨U, ?_, .threw T.heap.size, hrun, hend, Or.inr ⟨T.heap.size, rfl, cls, ce, locs, hx U hWs.alike f1 (fun q hq => f2 q hq (fun z hz => nomatch hz)), hce, hO.vm, hcl, hWs, hall, hf⟩⟩
  refine st1 _ ?_
  show Steps p.tables e below (T1.setTop { method := m, pc := pc + 3, locals := ls, stack := .ref T.heap.size :: rest, locked := none }) _
  jvm_step X₁.here [X₁.here.top, hexec, d3', Value.category]
  exact X₁.ldcString hexec (own := own) (text := text) (index := is) (a := sa) hown' hstr'.1 hstr'.2
    (g := { method := m, pc := pc + 4, locals := ls, stack := .ref T.heap.size :: .ref T.heap.size :: rest, locked := none }) rfl d4' _ hsteps
/-- 'throw new E("text")', the text by a wide index -/
theorem vx_throwSW {cc : ByteArray} {pc : Nat} (hexec : p.tables.exec = Jvm.exec) (hb : c.code = cc) (hl : l.stackTraces = false) {own cls text : String} {names : List String} {ik is ic mc ms sa : Nat} {A : Nat → Prop}
    (hown : s.vm.findClass own = some m.cls) (hcls : Bundle.fit cls = true) (hnames : ∀ n ∈ names, Bundle.fit n = true)
    (hk : (Cond.classLink own ik cls).before args s = true) (hini : (Cond.initialized cls).before args s = true) (hstr : vk_R own is text sa s) (hat : ∀ w ∈ vx_atS own ic cls names, w.before args s = true)
    (hgood : ∀ w ∈ Cond.classLink own ik cls :: Cond.initialized cls :: vx_atS own ic cls names, vx_ot w = true)
    (hU : vx_Zq Bundle.tN "UNASSIGNED_STACK" Bundle.steD A s s.heap) (hN : vx_Zq Bundle.tN "SUPPRESSED_SENTINEL" Bundle.listD A s s.heap) (hS : va_S A s.heap H locs) (hsize : ls.size = c.maxLocals)
    (d0 : decode cc pc = .ok (.new ik, 3)) (d3 : decode cc (pc + 3) = .ok (.dup, 1)) (d4 : decode cc (pc + 4) = .ok (.ldc_w is, 3)) (d7 : decode cc (pc + 7) = .ok (.invokespecial ic, 3)) (d10 : decode cc (pc + 10) = .ok (.athrow, 1))
    (hout : ∀ x ∈ c.exceptionTable.toList, covers x (pc + 10) = false)
    (hRframes : names.length + 3 < R.frames) (hRlocals : (rest.map fun v => v.category).sum + (13 * (names.length + 1) + 43) ≤ R.locals) (hRcells : cells + 1 ≤ R.cells) (hRslots : slots + 6 ≤ R.slots) (hlocks : meth.locks = false)
    (hx : ∀ t : State, s.vm.Alike t.vm → H.size ≤ t.heap.size → (∀ q : Nat, q < H.size → t.heap[q]? = H[q]?) → XC cls s t)
    (hf : ∀ z ∈ locs, free z.base) (hc : cells + 1 ≤ mc) (hs : slots + 6 ≤ ms) :
    W p l e R s m args below meth c H locs cells slots (vx_MQ below Qc XC args s mc ms free) (F0 m pc ls rest) := by
  intro T hT X
  have htr : e.platform.stackTraces = false := (show e.platform.stackTraces = l.stackTraces by rw [X.admits.platform]).trans hl
  have Y := vx_rebase X (R' := { frames := R.frames, locals := R.locals, cells := 1, slots := 6 }) (Nat.le_refl _) (Nat.le_refl _) hRcells hRslots
  obtain ⟨s', hA⟩ : ∃ z, z = (T.setVm s.vm).setFrames (.invoking m args :: below) := ⟨_, rfl⟩
  rw [← hA] at Y
  have hvm : s'.vm = s.vm := by rw [hA]; rfl
  have hhp : s'.heap = H := by rw [hA]; exact hT
  have hW0 : s.WarmedH s'.vm := by rw [hvm]; exact State.WarmedH.refl s
  have hat' : ∀ w ∈ vx_atS own ic cls names, w.before args s' = true := fun w hw => vx_ot_at hW0 hvm.symm (hgood w (List.mem_cons_of_mem _ (List.mem_cons_of_mem _ hw))) (hat w hw)
  have hk' : (Cond.classLink own ik cls).before args s' = true := vx_ot_at hW0 hvm.symm (hgood _ List.mem_cons_self) hk
  have hini' : (Cond.initialized cls).before args s' = true := vx_ot_at hW0 hvm.symm (hgood _ (List.mem_cons_of_mem _ List.mem_cons_self)) hini
  have hU' : vx_Zq Bundle.tN "UNASSIGNED_STACK" Bundle.steD A s' s'.heap := by rw [hhp]; exact vx_Zq.moved hW0.alike (hU.kept hS.2.1)
  have hN' : vx_Zq Bundle.tN "SUPPRESSED_SENTINEL" Bundle.listD A s' s'.heap := by rw [hhp]; exact vx_Zq.moved hW0.alike (hN.kept hS.2.1)
  have h : ∀ w ∈ Bundle.ownAtoms own ic cls names, w.before args s' = true := vx_own hat' (vx_isRefq hU'.1) (vx_isRefq hN'.1) hU'.2.word hN'.2.word
  have hown' : s'.vm.findClass own = some m.cls := by rw [hvm]; exact hown
  have hins : (Cond.instantiable cls 6).before args s' = true := h _ (by simp [Bundle.ownAtoms])
  obtain ⟨vm₁, cX, kX, hfX, hkX, -, -, X₁, st1⟩ := Y.newCold hexec (own := own) (C := cls) (index := ik) (n := 6) hown' hk' hins hini'
    (g := F0 m pc ls rest) rfl (by rw [hb]; exact d0) (Nat.le_refl _) (Nat.le_refl _)
  generalize hT1 : (T.setVm vm₁).pushCell { cls := cX, slots := kX.instanceTypes.map defaultValue, vm := .none } = T1 at X₁ st1
  have hcat : (Value.ref T.heap.size).category = 1 := rfl
  have hcellA : T1.heap[T.heap.size]? = some (freshCell cX kX) := by rw [← hT1]; exact State.heap_pushCell_size _ _
  have d3' : decode c.code (pc + 3) = .ok (.dup, 1) := by rw [hb]; exact d3
  have d4' : decode c.code (pc + 4) = .ok (.ldc_w is, 3) := by rw [hb]; exact d4
  have hstr' : vk_R own is text sa s' := vk_R.warm hW0 hstr
  obtain ⟨U, hsteps, hrun, hend, hW, hsame, ce, hce, hO⟩ := X₁.ctorThrowS hexec htr (own := own) (cls := cls) (names := names) (ic := ic) hown' hcls hnames h (fun x hx => nomatch hx) hfX hkX hcellA (by rw [hhp, hT]; exact Nat.le_refl _) (msg := .ref sa) rfl
    (g := { method := m, pc := pc + 7, locals := ls, stack := .ref sa :: .ref T.heap.size :: .ref T.heap.size :: rest, locked := none }) rfl hsize rfl rfl (rest := rest) rfl
    (by rw [hb]; exact d7) (by rw [hb]; exact d10) hout hRframes (by simp only [List.map_cons, List.sum_cons, hcat]; omega) hlocks
  obtain ⟨f1, f2⟩ := vx_frame hsame
  rw [hhp] at f1 f2
  have hWs : s.WarmedH U.vm := State.WarmedH.trans hW0 hW
  have hcl : s.vm.findClass cls = some ce.cls := by
    have h9 := hO.cls
    rw [hvm] at h9
    exact h9
  have hall : s.sameButNew ({ U with vm := s.vm } : State) locs mc ms := by
    subst hA
    obtain ⟨e1, e2⟩ := hsame
    rw [State.setFrames_setFrames] at e1
    have h2 : (T.setVm s.vm).sameButNew ({ U with vm := s.vm } : State) [] (0 + 1) (0 + 6) := ⟨e1, e2⟩
    have h3 := X.same.trans h2
    rw [List.append_nil] at h3
    exact h3.mono hc hs
  refine ⟨U, ?_, .threw T.heap.size, hrun, hend, Or.inr ⟨T.heap.size, rfl, cls, ce, locs, hx U hWs.alike f1 (fun q hq => f2 q hq (fun z hz => nomatch hz)), hce, hO.vm, hcl, hWs, hall, hf⟩⟩
  refine st1 _ ?_
  show Steps p.tables e below (T1.setTop { method := m, pc := pc + 3, locals := ls, stack := .ref T.heap.size :: rest, locked := none }) _
  jvm_step X₁.here [X₁.here.top, hexec, d3', Value.category]
  exact X₁.ldcStringW hexec (own := own) (text := text) (index := is) (a := sa) hown' hstr'.1 hstr'.2
    (g := { method := m, pc := pc + 4, locals := ls, stack := .ref T.heap.size :: .ref T.heap.size :: rest, locked := none }) rfl d4' _ hsteps
end Ends
section Bodies
variable {l : Launch}
theorem vx_ofW {y : MethodName} {ws ws' : List Cond} {rm : Room} {Pc : Array Value → State → Prop} {Qc : Array Value → State → Outcome → State → Prop} {XC : String → State → State → Prop} {mc ms : Nat} {free : Addr → Prop} {cc : ByteArray} {maxL : Nat} {ret : Option FieldType}
    (hy : plainName y.cls = true) (hw : ws = Cond.code y cc maxL ret :: ws')
    (body : ∀ p e s m args below meth c s₁, BodyLoose p l y (headSpec ws rm) cc maxL ret e s m args below meth c s₁ → c.maxLocals = maxL → (∀ x ∈ c.exceptionTable.toList, False) → Pc args s →
      W p l e (headSpec ws rm).room s m args below meth c s.heap [] 0 0 (vx_MQ below Qc XC args s mc ms free) (entryFrame m args maxL)) : vx_Met l y ws rm Pc Qc XC mc ms free := by
  refine MetFree.of_bodyS (code := cc) (maxLocals := maxL) (ret := ret) hy ?_ ?_
  · intro args s m h hn
    obtain ⟨meth, c, h1, h2, h3, h4, h5, h6, -, -⟩ := Cond.code_spec hn (atoms_spec (ws := ws) h _ (by rw [hw]; exact List.mem_cons_self))
    exact ⟨meth, c, h1, h2, h3, h4, h5, h6⟩
  · intro p e s m args below meth c s₁ B hml hP _
    have hh0 : s₁.heap = s.heap := by rw [B.state]; rfl
    have ht : ∀ x ∈ c.exceptionTable.toList, False := by
      obtain ⟨meth9, c9, h1, h2, -, -, -, -, h7, -⟩ := Cond.code_spec B.named (atoms_spec (ws := ws) B.pre _ (by rw [hw]; exact List.mem_cons_self))
      cases Option.some.inj (h1.symm.trans B.method)
      cases Option.some.inj (h2.symm.trans (Stand.of_body B).code)
      intro x hx
      rw [Array.isEmpty_iff.mp h7] at hx
      cases hx
    obtain ⟨t, a1, o, b1, b2, b3⟩ := body p e s m args below meth c s₁ B hml ht hP s₁ hh0 (Stand.of_body B)
    exact ⟨t, o, a1, b1, b2, b3⟩
/-- the table of a body with handlers -/
theorem vx_table {p : Program} {x y : MethodName} {S : Spec} {cc bytes : ByteArray} {maxL maxL' : Nat} {ret ret' : Option FieldType} {e : Env} {s s₁ : State} {m : MethodId} {args : Array Value} {below : List Frame} {meth : Method} {c : Code} {hh : List (Nat × Nat × Nat × Nat)}
    (B : BodyLoose p l y S cc maxL ret e s m args below meth c s₁) (h : (Cond.codeWith y bytes maxL' ret' hh).before args s = true) : c.exceptionTable.toList = tableOf hh := by
  obtain ⟨m9, meth9, c9, hn9, h1, h2, -, -, h6, -⟩ := Cond.codeWith_spec h
  cases Option.some.inj (hn9.symm.trans B.named)
  cases Option.some.inj (h1.symm.trans B.method)
  cases Option.some.inj (h2.symm.trans (Stand.of_body B).code)
  rw [← h6, table_eq]
end Bodies
end VXA
/-! ===== END ===== -/
/-! ===== BEGIN a static call of a method with an exception table ===== -/
section VXS
variable {p : Program} {l : Launch} {e : Env} {R : Room} {s : State} {m : MethodId} {args : Array Value} {below : List Frame} {meth : Method} {c : Code} {T : State} {H : Heap} {locs : List Loc} {cells slots : Nat}
abbrev vx_CSW (R : Room) (s : State) (args : Array Value) (own : String) (index : Nat) (y : MethodName) (bytes : ByteArray) (maxL : Nat) (ret : Option FieldType) (hh : List (Nat × Nat × Nat × Nat)) (ws : List Cond) (rm : Room) (mc ms n : Nat) : Prop :=
  (rm.cells = mc ∧ rm.slots = ms ∧ rm.frames + 1 ≤ R.frames ∧ 8 + (maxL + 11) + rm.locals ≤ R.locals ∧ (∀ w ∈ ws, ∀ (a' : Array Value) (U : State), s.WarmedH U.vm → w.before a' U = true) ∧ Cond.codeWith y bytes maxL ret hh ∈ ws) ∧
  (Cond.codeWith y bytes maxL ret hh).before args s = true ∧ (Cond.initialized y.cls).before args s = true ∧ (y.cls ≠ "java/lang/invoke/MethodHandle" ∧ y.cls ≠ "java/lang/invoke/VarHandle") ∧
  (∀ sig, parseMethodDescriptor y.desc = some sig → n = sig.parameters.length) ∧ (Cond.methodLink own index y).before args s = true ∧ (Cond.static y).before args s = true
theorem vx_cwSW {own : String} {index maxL mc ms : Nat} {y : MethodName} {bytes : ByteArray} {ret : Option FieldType} {hh : List (Nat × Nat × Nat × Nat)} {Ts ws ws' : List Cond} {rm : Room} (n : Nat) (ht : ∀ w ∈ Ts, w.before args s = true) (hT : GoodIn Ts (va_wsS own index y ws)) (hw : ws = Cond.codeWith y bytes maxL ret hh :: ws') (hrc : rm.cells = mc) (hrs : rm.slots = ms)
    (hd : y.cls ≠ "java/lang/invoke/MethodHandle" ∧ y.cls ≠ "java/lang/invoke/VarHandle" ∧ (parseMethodDescriptor y.desc).map (fun d => d.parameters.length) = some n) (hR : rm.frames + 1 ≤ R.frames ∧ 8 + (maxL + 11) + rm.locals ≤ R.locals) :
    vx_CSW R s args own index y bytes maxL ret hh ws rm mc ms n := by
  have ok : ∀ w ∈ va_wsS own index y ws, w.before args s = true := fun w h => ht w (hT w h).1
  have hG : GoodIn Ts ws := fun w h => hT w (by unfold va_wsS; exact List.mem_append_right _ h)
  have hc : Cond.codeWith y bytes maxL ret hh ∈ ws := by rw [hw]; exact List.mem_cons_self
  refine ⟨⟨hrc, hrs, hR.1, hR.2, pay_in ht hG, hc⟩, ht _ (hG _ hc).1, ok _ (by simp [va_wsS]), ⟨hd.1, hd.2.1⟩, fun sig h => ?_, ok _ (by simp [va_wsS]), ok _ (by simp [va_wsS])⟩
  have h2 := hd.2.2
  rw [h] at h2
  exact (Option.some.inj h2).symm
theorem vx_callSW (X : Stand p l e R s m args below meth c T locs cells slots) (hexec : p.tables.exec = Jvm.exec) {own : String} {index : Nat} {y : MethodName} {bytes : ByteArray} {maxL : Nat} {ret : Option FieldType} {hh : List (Nat × Nat × Nat × Nat)}
    (hown : s.vm.findClass own = some m.cls) (hlink : (Cond.methodLink own index y).before args s = true) (hstat : (Cond.static y).before args s = true) (hinit : (Cond.initialized y.cls).before args s = true)
    (hcode : (Cond.codeWith y bytes maxL ret hh).before args s = true) (hy : y.cls ≠ "java/lang/invoke/MethodHandle" ∧ y.cls ≠ "java/lang/invoke/VarHandle")
    {W9 : Nat} {Pre : Pt → Array Value → Prop} {Post : Pt → Array Value → Option Value → Pt → Prop} (hK : Back l R p e below s args y 3 W9 Pre Post)
    {g : JFrame} (hg : g.method = m) (hsize : g.locals.size = c.maxLocals) {argsL rest : List Value} (hlen : ∀ sig, parseMethodDescriptor y.desc = some sig → argsL.length = sig.parameters.length)
    (hstack : g.stack = argsL.reverse ++ rest) (hW : 2 * g.monitorRoom + (rest.map fun v => v.category).sum ≤ W9) (hdg : decode c.code g.pc = .ok (.invokestatic index, 3))
    (hpre : ∀ vm₁, s.WarmedH vm₁ → Pre ⟨T.setVm vm₁, locs, cells, slots⟩ argsL.toArray) :
    ∃ (v : Option Value) (vm₁ : Vm) (B : Pt), s.WarmedH vm₁ ∧ Stand p l e R s m args below meth c B.U B.locs B.cells B.slots ∧ Post ⟨T.setVm vm₁, locs, cells, slots⟩ argsL.toArray v B ∧
      ∀ target, Steps p.tables e below (B.U.setTop { g with pc := g.pc + 3, stack := v.toList ++ rest }) target → Steps p.tables e below (T.setTop g) target := by
  obtain ⟨mk, methM, cM, hnamed, hmethM, -, -, -, -, -, -, hsigM⟩ := Cond.codeWith_spec hcode
  have hstatic : methM.isStatic = true := Cond.static_spec hnamed hmethM hstat
  obtain ⟨kP, hkP, -⟩ := className_of_methodNamed hnamed
  have hinitP : kP.init = .initialized := Cond.initialized_spec (findClass_of_methodNamed hnamed) hkP hinit
  obtain ⟨vm₁, X₁, hstep₁⟩ := X.invokestatic hexec hown hlink hnamed hmethM hstatic hkP hinitP hy (g := g) hg (argsL := argsL) (rest := rest) (hlen _ hsigM) hstack hdg
  obtain ⟨v, B, X', hpost, hsteps⟩ := hK m meth c ⟨T.setVm vm₁, locs, cells, slots⟩ { g with stack := rest } (.invokestatic index) mk argsL.toArray X₁ hg hsize hdg hW (X₁.named hnamed) (hpre vm₁ X₁.warmed)
  exact ⟨v, vm₁, B, X₁.warmed, X', hpost, fun target h => hstep₁ _ fun acts => by rw [doInvoke_state]; exact hsteps.trans h⟩
theorem vx_runSW {y : MethodName} {bytes cc : ByteArray} {maxL nL mc ms n index : Nat} {ret : Option FieldType} {hh : List (Nat × Nat × Nat × Nat)} {ws : List Cond} {rm : Room} {Pc : Array Value → State → Prop} {Qc : Array Value → State → Outcome → State → Prop} {free : Addr → Prop} {Ts : List Cond} {own : String} {As rest : List Value} {g : JFrame}
    (S : CallFix p m c cc nL s args Ts own) (hM : Met l y ws rm Pc Qc mc ms free) (cw : vx_CSW R s args own index y bytes maxL ret hh ws rm mc ms n) (hp : PreS s H Pc As)
    (hg : g.method = m) (hn : As.length = n) (hsize : g.locals.size = nL) (hstack : g.stack = As.reverse ++ rest) (hW : 2 * g.monitorRoom + (rest.map fun v => v.category).sum ≤ 8) (hdg : decode cc g.pc = .ok (.invokestatic index, 3)) (hf : cells + mc ≤ R.cells ∧ slots + ms ≤ R.slots) :
    va_Run p l e R s m args below meth c H locs cells slots mc ms g rest (Qc As.toArray) (free) := by
  obtain ⟨⟨hrc, hrs, hfr, hlo, hws, hcw⟩, hcode, hini, hy, hlen, hl, hstt⟩ := cw
  have hK : Back l R p e below s args y 3 8 (PreOf R mc ms Pc) (PostOf Qc mc ms free) := va_backW (hh := hh) (bytes := bytes) (maxL := maxL) (ret := ret) hM hp.1 hrc hrs hfr hlo hws hcw (fun a' U hW => word_at hW (Or.inl (by first | rfl | simp [Cond.onTables, Cond.keeps, Cond.steady])) hini)
  obtain ⟨hx, hb, hml, ho, -⟩ := S
  intro T hT X
  obtain ⟨v, vm₁, ⟨U', l2, c2, s2⟩, hW₁, X', ⟨g', mk, t, L, e1, e2, hq, h1, hL, h2, h3⟩, st⟩ := vx_callSW X hx (hh := hh) (bytes := bytes) (maxL := maxL) (ret := ret) ho hl hstt hini hcode hy hK hg (hsize.trans hml.symm) (argsL := As) (rest := rest) (fun sig h => hn.trans (hlen sig h)) hstack hW (by rw [hb]; exact hdg)
    (fun vm₁ hW₁ => ⟨hf.1, hf.2, hp.2 (T.setVm vm₁) hT hW₁⟩)
  dsimp only [Pt.U, Pt.locs, Pt.cells, Pt.slots] at X' e1 e2 h1 h2 h3 st
  subst h1; subst h2; subst h3
  exact ⟨v, (T.setVm vm₁).calling g' mk As.toArray, t, U', L, hT, X', hL, e1, e2, hq, st⟩
/-- not caught here, past rows that name other classes: it goes on to the caller -/
theorem vx_outP {p : Program} {l : Launch} {e : Env} {R : Room} {s : State} {m : MethodId} {args : Array Value} {below : List Frame} {meth : Method} {c : Code} {H : Heap} {locs : List Loc} {cells slots : Nat} {free : Addr → Prop} {ls : Array Slot} {rest : List Value} {Qc : Array Value → State → Outcome → State → Prop} {XC : String → State → State → Prop}
    {pc : Nat} {own E : String} {ce : Cell} {q : Addr} {mc ms : Nat} (hown : s.vm.findClass own = some m.cls) (hlocks : meth.locks = false)
    (hpass : ∀ z ∈ c.exceptionTable.toList, covers z pc = false ∨ (z.catchType ≠ 0 ∧ ∃ nm : String, (Cond.classLink own z.catchType nm).before args s = true ∧ va_Nc E nm s)) (hcell : H[q]? = some ce) (hv : ce.vm = .none) (hcl : s.vm.findClass E = some ce.cls)
    (hx : ∀ t : State, t.heap = H → s.vm.Alike t.vm → XC E s t) (hf : ∀ z ∈ locs, free z.base) (hc : cells ≤ mc) (hs : slots ≤ ms) :
    vx_W p l e R s m args below meth c H locs cells slots (vx_MQ below Qc XC args s mc ms free) (F0 m pc ls rest) q := by
  intro T hT X
  have hpl : e.platform.magicAccessors = ({} : Platform).magicAccessors := by rw [X.admits.platform]
  obtain ⟨vm', hW', X', st⟩ := X.outThrough hlocks q (g := F0 m pc ls rest) rfl rfl rfl (cell := ce) (by rw [hT]; exact hcell) (by rw [hv]; rfl)
    (by obtain ⟨k9, h9, -⟩ := Vm.findClass_spec hcl; exact ⟨k9, h9⟩) (fun z hz => by
      rcases hpass z hz with h | ⟨hz0, nm, hl1, hn1⟩
      · exact Or.inl h
      · obtain ⟨c6, hc6, hcl6⟩ := Cond.classLink_spec hown hl1 e.platform hpl
        obtain ⟨a8, b8, h1, h2, h3⟩ := hn1
        cases Option.some.inj (h1.symm.trans hcl)
        cases Option.some.inj (h2.symm.trans hc6)
        exact Or.inr ⟨hz0, _, hcl6, h3⟩)
  obtain ⟨g₀, hfr⟩ := X'.frames_eq
  have hcell9 : ((T.setVm vm').setFrames (.throwing q :: below)).heap[q]? = some ce := by
    show T.heap[q]? = some ce
    rw [hT]; exact hcell
  have hend : Ended ((T.setVm vm').setFrames (.throwing q :: below)) below (.threw q) := State.frames_setFrames _ (State.cur_lt_of_frames hfr)
  refine ⟨(T.setVm vm').setFrames (.throwing q :: below), ?_, .threw q, X'.here.running, hend, Or.inr ⟨q, rfl, E, ce, locs, hx _ hT (X'.ends _).1.alike, hcell9, hv, hcl, (X'.ends _).1, (X'.ends _).2.mono hc hs, hf⟩⟩
  rw [X.pushThrowing_eq]
  exact st
/-- a thing of a world lies in the heap -/
theorem vx_lt {D : va_G} {cl : List vw_C} {ws : va_W} {H1 : Heap} (h : va_P D cl ws H1) {k : Nat} {q : Nat × va_E} (hk : ws[k]? = some q) : q.1 < H1.size := (h k q hk).lt
end VXS
/-! ===== END ===== -/
/-! ===== BEGIN methods with a table of their own: called by a name, returning or throwing ===== -/
section VXH
/-! vx_backW, vx_callVX, vx_callSX, vx_callVW, vx_runVW, vx_runVX, vx_runSX, vx_ofWH follow the same proofs as their sisters above (Free/Laws.lean, Shelf42/LK1.lean); vx_outP calls Shelf42/NT130.lean (outThrough). -/
section
variable {l : Launch} {R : Room} {p : Program} {e : Env} {below : List Frame} {s : State} {sargs : Array Value} {y : MethodName} {len W9 : Nat}
theorem vx_backW {ws : List Cond} {rm : Room} {Pc : Array Value → State → Prop} {Qc : Array Value → State → Outcome → State → Prop} {XC : String → State → State → Prop} {mc ms : Nat} {free : Addr → Prop} {bytes : ByteArray} {maxL : Nat} {ret : Option FieldType} {hh : List (Nat × Nat × Nat × Nat)}
    (hM : vx_Met l y ws rm Pc Qc XC mc ms free) (hblind : FrameBlind Pc) (hrc : rm.cells = mc) (hrs : rm.slots = ms)
    (hframes : rm.frames + 1 ≤ R.frames) (hlocals : W9 + (maxL + 11) + rm.locals ≤ R.locals)
    (hws : ∀ w ∈ ws, ∀ a' U, s.WarmedH U.vm → w.before a' U = true) (hcode : Cond.codeWith y bytes maxL ret hh ∈ ws) (hinit : ∀ a' U, s.WarmedH U.vm → (Cond.initialized y.cls).before a' U = true) :
    vx_Back l R p e below s sargs y len W9 (PreOf R mc ms Pc) (PostOf Qc mc ms free) (vx_Post XC mc ms free) := by
  intro m meth c A g ig mk a X hg hsize hdg hW hn hp
  have h1 : (headSpec ws rm).pre.before a A.U = true := atoms_intro fun w hw => hws w hw _ _ X.warmed
  have h2 : (Cond.codeWith y bytes maxL ret hh).before a A.U = true := hws _ hcode _ _ X.warmed
  have h3 : (Cond.initialized y.cls).before a A.U = true := hinit _ _ X.warmed
  have h4 : A.cells + (headSpec ws rm).room.cells ≤ R.cells := by rw [show (headSpec ws rm).room.cells = mc from hrc]; exact hp.1
  have h5 : A.slots + (headSpec ws rm).room.slots ≤ R.slots := by rw [show (headSpec ws rm).room.slots = ms from hrs]; exact hp.2.1
  have hPc : Pc a (A.U.calling g mk a) := hblind _ _ _ _ hp.2.2
  obtain ⟨U, Ls, c0, s0⟩ := A
  dsimp only [Pt.U, Pt.locs, Pt.cells, Pt.slots] at h1 h2 h3 h4 h5 X hn hPc ⊢
  obtain ⟨m9, methY, cY, hn9, hmY, hcY, -, hlY, -⟩ := Cond.codeWith_spec h2
  cases Option.some.inj (hn9.symm.trans hn)
  obtain ⟨kY, hkY, -⟩ := className_of_methodNamed hn
  have hinitY : kY.init = .initialized := Cond.initialized_spec (findClass_of_methodNamed hn) hkY h3
  have h : At U g.method c below := by rw [hg]; exact X.here
  have hlocals9 : W9 + (maxL + 11) + (headSpec ws rm).room.locals ≤ R.locals := hlocals
  have happ : (headSpec ws rm).appliesLoose y e.platform (U.calling g mk a) = true :=
    Spec.appliesLoose_calling (g := g) h hdg hn hkY hinitY
      (X.room_calling (g := g) (R' := (headSpec ws rm).room) hsize hmY hcY hframes (by rw [hlY]; omega) h4 h5) h1
  obtain ⟨mid, hmid⟩ := h.above
  have hfr : (U.setTop g).frames = (.java g :: mid) ++ below := by rw [State.frames_setTop' g h.top, hmid]; rfl
  obtain ⟨o, s₂, hsteps, -, hend, hq⟩ := Steps.callFree hM p X.admits X.cas X.clock (acts := []) hfr happ hPc trivial
  have hq' : vx_Q Qc XC mc ms free a (U.calling g mk a) o s₂ := hq
  rw [State.frames_setTop' g h.top] at hend
  obtain ⟨g₀, hg0⟩ := Option.isSome_iff_exists.mp h.top
  obtain ⟨r, hr⟩ := State.topJava?_eq_some.mp hg0
  have hr' : (({ U with heap := s₂.heap, slotsUsed := s₂.slotsUsed } : State).setVm s₂.vm).frames = .java g₀ :: r := hr
  rcases hq' with ⟨hqc, L, hfe, hL⟩ | ⟨q, rfl, E, ce, L, hx, hce, hcv, hcl, hW₂, hsm, hL⟩
  · obtain ⟨⟨v, rfl⟩, hW₂, e2, q2, q3, q4, q5, q6⟩ := id hfe
    have e3 : s₂ = ({ (U.calling g mk a).setFrames s₂.frames with heap := s₂.heap, slotsUsed := s₂.slotsUsed } : State).setVm s₂.vm := by
      have : s₂ = ({ s₂ with vm := (U.calling g mk a).vm } : State).setVm s₂.vm := rfl
      rw [e2] at this
      exact this
    obtain ⟨c₂, i₂, len₂, hc₂, hd₂, hf₂⟩ := hend
    have hW' : U.WarmedH s₂.vm := hW₂
    have hcc : c₂ = c := by
      have h1 : s₂.code? g.method = U.code? g.method := by
        rw [State.code?_eq, State.code?_eq, hW'.alike.method?]
      exact Option.some.inj (hc₂.symm.trans (h1.trans h.code))
    subst hcc
    have hlen : len₂ = len := by rw [hdg] at hd₂; cases hd₂; rfl
    subst hlen
    have hs₂ : s₂ = (({ U with heap := s₂.heap, slotsUsed := s₂.slotsUsed } : State).setVm s₂.vm).setTop { g with pc := g.pc + len₂, stack := v.toList ++ g.stack } := by
      refine e3.trans ?_
      rw [hf₂, State.calling_eq h.top, State.setFrames_setFrames, State.setTop_of_frames _ hr', hr]
      rfl
    have hsame : U.sameButNew ({ U with heap := s₂.heap, slotsUsed := s₂.slotsUsed } : State) L mc ms := by
      refine ⟨?_, q2, q3, q4, q5, q6⟩
      obtain ⟨t, ht, -⟩ := State.frames_cons hr
      show ({ U with heap := s₂.heap, slotsUsed := s₂.slotsUsed } : State) = { U.setFrames U.frames with heap := s₂.heap, slotsUsed := s₂.slotsUsed }
      rw [State.setFrames_self ht]
    subst hg
    refine Or.inl ⟨v, ⟨(({ U with heap := s₂.heap, slotsUsed := s₂.slotsUsed } : State).setVm s₂.vm), Ls ++ L, c0 + mc, s0 + ms⟩,
      ⟨X.admits, X.cas, X.clock, X.frames, X.room, X.hears, X.method, X.code, (X.here.setHeapUsed s₂.heap s₂.slotsUsed).setVm hW'.alike, X.tail, State.WarmedH.trans X.warmed hW', X.limits, X.bytes, X.same.trans (hsame.setVm s.vm)⟩,
      ⟨g, mk, s₂, L, rfl, rfl, hqc, rfl, hL, rfl, rfl⟩, ?_⟩
    show Steps p.tables e below _ ((({ U with heap := s₂.heap, slotsUsed := s₂.slotsUsed } : State).setVm s₂.vm).setTop { g with pc := g.pc + len₂, stack := v.toList ++ g.stack })
    rw [← hs₂]
    exact hsteps
  · obtain ⟨e2, q2, q3, q4, q5, q6⟩ := id hsm
    have e3 : s₂ = ({ (U.calling g mk a).setFrames s₂.frames with heap := s₂.heap, slotsUsed := s₂.slotsUsed } : State).setVm s₂.vm := by
      have : s₂ = ({ s₂ with vm := (U.calling g mk a).vm } : State).setVm s₂.vm := rfl
      rw [e2] at this
      exact this
    have hf₂ : s₂.frames = .throwing q :: .java g :: U.frames.tail := hend
    have hW' : U.WarmedH s₂.vm := hW₂
    have hs₂ : s₂ = ((({ U with heap := s₂.heap, slotsUsed := s₂.slotsUsed } : State).setVm s₂.vm).setTop g).pushFrame (.throwing q) := by
      refine e3.trans ?_
      rw [hf₂, State.calling_eq h.top, State.setFrames_setFrames, State.pushFrame, State.frames_setTop _ hr', State.setTop_of_frames _ hr', State.setFrames_setFrames, hr]
      rfl
    have hsame : U.sameButNew ({ U with heap := s₂.heap, slotsUsed := s₂.slotsUsed } : State) L mc ms := by
      refine ⟨?_, q2, q3, q4, q5, q6⟩
      obtain ⟨t, ht, -⟩ := State.frames_cons hr
      show ({ U with heap := s₂.heap, slotsUsed := s₂.slotsUsed } : State) = { U.setFrames U.frames with heap := s₂.heap, slotsUsed := s₂.slotsUsed }
      rw [State.setFrames_self ht]
    subst hg
    refine Or.inr ⟨q, ⟨(({ U with heap := s₂.heap, slotsUsed := s₂.slotsUsed } : State).setVm s₂.vm), Ls ++ L, c0 + mc, s0 + ms⟩,
      ⟨X.admits, X.cas, X.clock, X.frames, X.room, X.hears, X.method, X.code, (X.here.setHeapUsed s₂.heap s₂.slotsUsed).setVm hW'.alike, X.tail, State.WarmedH.trans X.warmed hW', X.limits, X.bytes, X.same.trans (hsame.setVm s.vm)⟩,
      ⟨g, mk, s₂, L, E, ce, rfl, rfl, hx, hce, hcv, hcl, rfl, hL, rfl, rfl⟩, ?_⟩
    show Steps p.tables e below _ (((({ U with heap := s₂.heap, slotsUsed := s₂.slotsUsed } : State).setVm s₂.vm).setTop g).pushFrame (.throwing q))
    rw [← hs₂]
    exact hsteps
end
variable {p : Program} {l : Launch} {e : Env} {R : Room} {s : State} {m : MethodId} {args : Array Value} {below : List Frame} {meth : Method} {c : Code} {T : State} {H : Heap} {locs : List Loc} {cells slots : Nat}
theorem vx_callVX (X : Stand p l e R s m args below meth c T locs cells slots) (hexec : p.tables.exec = Jvm.exec) {own C : String} {index : Nat} {y : MethodName} {bytes : ByteArray} {maxL : Nat} {ret : Option FieldType} {hh : List (Nat × Nat × Nat × Nat)}
    (hown : s.vm.findClass own = some m.cls) (hlink : (Cond.methodLink own index y).before args s = true) (hinst : (Cond.instanceMethod y).before args s = true) (hsel : (Cond.selects C y y).before args s = true)
    (hcode : (Cond.codeWith y bytes maxL ret hh).before args s = true) (hy : y.cls ≠ "java/lang/invoke/MethodHandle" ∧ y.cls ≠ "java/lang/invoke/VarHandle")
    {W9 : Nat} {Pre : Pt → Array Value → Prop} {Post : Pt → Array Value → Option Value → Pt → Prop} {PostX : Pt → Array Value → Addr → Pt → Prop} (hK : vx_Back l R p e below s args y 3 W9 Pre Post PostX)
    {b : Addr} {cellB : Cell} (hcell : T.heap[b]? = some cellB) (hobj : cellB.vm.isStatics = false) (hcls : s.vm.findClass C = some cellB.cls)
    {g : JFrame} (hg : g.method = m) (hsize : g.locals.size = c.maxLocals) {argsL rest : List Value} (hlen : ∀ sig, parseMethodDescriptor y.desc = some sig → argsL.length = sig.parameters.length)
    (hstack : g.stack = argsL.reverse ++ .ref b :: rest) (hW : 2 * g.monitorRoom + (rest.map fun v => v.category).sum ≤ W9) (hdg : decode c.code g.pc = .ok (.invokevirtual index, 3))
    (hpre : ∀ vm₁, s.WarmedH vm₁ → Pre ⟨T.setVm vm₁, locs, cells, slots⟩ (Value.ref b :: argsL).toArray) :
    (∃ (v : Option Value) (vm₁ : Vm) (B : Pt), s.WarmedH vm₁ ∧ Stand p l e R s m args below meth c B.U B.locs B.cells B.slots ∧ Post ⟨T.setVm vm₁, locs, cells, slots⟩ (Value.ref b :: argsL).toArray v B ∧
      ∀ target, Steps p.tables e below (B.U.setTop { g with pc := g.pc + 3, stack := v.toList ++ rest }) target → Steps p.tables e below (T.setTop g) target) ∨
    (∃ (q : Addr) (vm₁ : Vm) (B : Pt), s.WarmedH vm₁ ∧ Stand p l e R s m args below meth c B.U B.locs B.cells B.slots ∧ PostX ⟨T.setVm vm₁, locs, cells, slots⟩ (Value.ref b :: argsL).toArray q B ∧
      Steps p.tables e below (T.setTop g) ((B.U.setTop { g with stack := rest }).pushFrame (.throwing q))) := by
  obtain ⟨mk, methM, hnamed, hmethM, hstM, habM⟩ := Cond.instanceMethod_spec hinst
  obtain ⟨m8, methM', cM, hn8, hmethM', -, -, -, -, -, -, hsigM⟩ := Cond.codeWith_spec hcode
  cases Option.some.inj (hn8.symm.trans hnamed)
  cases hmethM.symm.trans hmethM'
  obtain ⟨c2, r2, m2, q1, q2, q3, q4, kP, hkP, hkPi⟩ := Cond.selects_spec hsel
  cases hcls.symm.trans q1
  cases (State.methodFound?_of_named hnamed hy).symm.trans q2
  cases hnamed.symm.trans q3
  have hselP : selectMethod e.platform s.vm cellB.cls mk = .method mk := by rw [Launch.admits_selectMethod X.admits]; exact q4
  obtain ⟨vm₁, X₁, hstep₁⟩ := X.invokevirtual hexec hown hlink hnamed hmethM hstM hkP hkPi hy (a := b) (cell := cellB) hcell
    (fun z h => by rw [h] at hobj; cases hobj) hselP hmethM habM hkP hkPi (g := g) hg (argsL := argsL) (rest := rest) (hlen _ hsigM) hstack hdg
  rcases hK m meth c ⟨T.setVm vm₁, locs, cells, slots⟩ { g with stack := rest } (.invokevirtual index) mk (Value.ref b :: argsL).toArray X₁ hg hsize hdg hW (X₁.named hnamed) (hpre vm₁ X₁.warmed) with ⟨v, B, X', hpost, hsteps⟩ | ⟨q, B, X', hpost, hsteps⟩
  · exact Or.inl ⟨v, vm₁, B, X₁.warmed, X', hpost, fun target h => hstep₁ _ fun acts => by rw [doInvoke_state]; exact hsteps.trans h⟩
  · exact Or.inr ⟨q, vm₁, B, X₁.warmed, X', hpost, hstep₁ _ fun acts => by rw [doInvoke_state]; exact hsteps⟩
theorem vx_callSX (X : Stand p l e R s m args below meth c T locs cells slots) (hexec : p.tables.exec = Jvm.exec) {own : String} {index : Nat} {y : MethodName} {bytes : ByteArray} {maxL : Nat} {ret : Option FieldType} {hh : List (Nat × Nat × Nat × Nat)}
    (hown : s.vm.findClass own = some m.cls) (hlink : (Cond.methodLink own index y).before args s = true) (hstat : (Cond.static y).before args s = true) (hinit : (Cond.initialized y.cls).before args s = true)
    (hcode : (Cond.codeWith y bytes maxL ret hh).before args s = true) (hy : y.cls ≠ "java/lang/invoke/MethodHandle" ∧ y.cls ≠ "java/lang/invoke/VarHandle")
    {W9 : Nat} {Pre : Pt → Array Value → Prop} {Post : Pt → Array Value → Option Value → Pt → Prop} {PostX : Pt → Array Value → Addr → Pt → Prop} (hK : vx_Back l R p e below s args y 3 W9 Pre Post PostX)
    {g : JFrame} (hg : g.method = m) (hsize : g.locals.size = c.maxLocals) {argsL rest : List Value} (hlen : ∀ sig, parseMethodDescriptor y.desc = some sig → argsL.length = sig.parameters.length)
    (hstack : g.stack = argsL.reverse ++ rest) (hW : 2 * g.monitorRoom + (rest.map fun v => v.category).sum ≤ W9) (hdg : decode c.code g.pc = .ok (.invokestatic index, 3))
    (hpre : ∀ vm₁, s.WarmedH vm₁ → Pre ⟨T.setVm vm₁, locs, cells, slots⟩ argsL.toArray) :
    (∃ (v : Option Value) (vm₁ : Vm) (B : Pt), s.WarmedH vm₁ ∧ Stand p l e R s m args below meth c B.U B.locs B.cells B.slots ∧ Post ⟨T.setVm vm₁, locs, cells, slots⟩ argsL.toArray v B ∧
      ∀ target, Steps p.tables e below (B.U.setTop { g with pc := g.pc + 3, stack := v.toList ++ rest }) target → Steps p.tables e below (T.setTop g) target) ∨
    (∃ (q : Addr) (vm₁ : Vm) (B : Pt), s.WarmedH vm₁ ∧ Stand p l e R s m args below meth c B.U B.locs B.cells B.slots ∧ PostX ⟨T.setVm vm₁, locs, cells, slots⟩ argsL.toArray q B ∧
      Steps p.tables e below (T.setTop g) ((B.U.setTop { g with stack := rest }).pushFrame (.throwing q))) := by
  obtain ⟨mk, methM, cM, hnamed, hmethM, -, -, -, -, -, -, hsigM⟩ := Cond.codeWith_spec hcode
  have hstatic : methM.isStatic = true := Cond.static_spec hnamed hmethM hstat
  obtain ⟨kP, hkP, -⟩ := className_of_methodNamed hnamed
  have hinitP : kP.init = .initialized := Cond.initialized_spec (findClass_of_methodNamed hnamed) hkP hinit
  obtain ⟨vm₁, X₁, hstep₁⟩ := X.invokestatic hexec hown hlink hnamed hmethM hstatic hkP hinitP hy (g := g) hg (argsL := argsL) (rest := rest) (hlen _ hsigM) hstack hdg
  rcases hK m meth c ⟨T.setVm vm₁, locs, cells, slots⟩ { g with stack := rest } (.invokestatic index) mk argsL.toArray X₁ hg hsize hdg hW (X₁.named hnamed) (hpre vm₁ X₁.warmed) with ⟨v, B, X', hpost, hsteps⟩ | ⟨q, B, X', hpost, hsteps⟩
  · exact Or.inl ⟨v, vm₁, B, X₁.warmed, X', hpost, fun target h => hstep₁ _ fun acts => by rw [doInvoke_state]; exact hsteps.trans h⟩
  · exact Or.inr ⟨q, vm₁, B, X₁.warmed, X', hpost, hstep₁ _ fun acts => by rw [doInvoke_state]; exact hsteps⟩
theorem vx_callVW (X : Stand p l e R s m args below meth c T locs cells slots) (hexec : p.tables.exec = Jvm.exec) {own C : String} {index : Nat} {y : MethodName} {bytes : ByteArray} {maxL : Nat} {ret : Option FieldType} {hh : List (Nat × Nat × Nat × Nat)}
    (hown : s.vm.findClass own = some m.cls) (hlink : (Cond.methodLink own index y).before args s = true) (hinst : (Cond.instanceMethod y).before args s = true) (hsel : (Cond.selects C y y).before args s = true)
    (hcode : (Cond.codeWith y bytes maxL ret hh).before args s = true) (hy : y.cls ≠ "java/lang/invoke/MethodHandle" ∧ y.cls ≠ "java/lang/invoke/VarHandle")
    {W9 : Nat} {Pre : Pt → Array Value → Prop} {Post : Pt → Array Value → Option Value → Pt → Prop} (hK : Back l R p e below s args y 3 W9 Pre Post)
    {b : Addr} {cellB : Cell} (hcell : T.heap[b]? = some cellB) (hobj : cellB.vm.isStatics = false) (hcls : s.vm.findClass C = some cellB.cls)
    {g : JFrame} (hg : g.method = m) (hsize : g.locals.size = c.maxLocals) {argsL rest : List Value} (hlen : ∀ sig, parseMethodDescriptor y.desc = some sig → argsL.length = sig.parameters.length)
    (hstack : g.stack = argsL.reverse ++ .ref b :: rest) (hW : 2 * g.monitorRoom + (rest.map fun v => v.category).sum ≤ W9) (hdg : decode c.code g.pc = .ok (.invokevirtual index, 3))
    (hpre : ∀ vm₁, s.WarmedH vm₁ → Pre ⟨T.setVm vm₁, locs, cells, slots⟩ (Value.ref b :: argsL).toArray) :
    ∃ (v : Option Value) (vm₁ : Vm) (B : Pt), s.WarmedH vm₁ ∧ Stand p l e R s m args below meth c B.U B.locs B.cells B.slots ∧ Post ⟨T.setVm vm₁, locs, cells, slots⟩ (Value.ref b :: argsL).toArray v B ∧
      ∀ target, Steps p.tables e below (B.U.setTop { g with pc := g.pc + 3, stack := v.toList ++ rest }) target → Steps p.tables e below (T.setTop g) target := by
  obtain ⟨mk, methM, hnamed, hmethM, hstM, habM⟩ := Cond.instanceMethod_spec hinst
  obtain ⟨m8, methM', cM, hn8, hmethM', -, -, -, -, -, -, hsigM⟩ := Cond.codeWith_spec hcode
  cases Option.some.inj (hn8.symm.trans hnamed)
  cases hmethM.symm.trans hmethM'
  obtain ⟨c2, r2, m2, q1, q2, q3, q4, kP, hkP, hkPi⟩ := Cond.selects_spec hsel
  cases hcls.symm.trans q1
  cases (State.methodFound?_of_named hnamed hy).symm.trans q2
  cases hnamed.symm.trans q3
  have hselP : selectMethod e.platform s.vm cellB.cls mk = .method mk := by rw [Launch.admits_selectMethod X.admits]; exact q4
  obtain ⟨vm₁, X₁, hstep₁⟩ := X.invokevirtual hexec hown hlink hnamed hmethM hstM hkP hkPi hy (a := b) (cell := cellB) hcell
    (fun z h => by rw [h] at hobj; cases hobj) hselP hmethM habM hkP hkPi (g := g) hg (argsL := argsL) (rest := rest) (hlen _ hsigM) hstack hdg
  obtain ⟨v, B, X', hpost, hsteps⟩ := hK m meth c ⟨T.setVm vm₁, locs, cells, slots⟩ { g with stack := rest } (.invokevirtual index) mk (Value.ref b :: argsL).toArray X₁ hg hsize hdg hW (X₁.named hnamed) (hpre vm₁ X₁.warmed)
  exact ⟨v, vm₁, B, X₁.warmed, X', hpost, fun target h => hstep₁ _ fun acts => by rw [doInvoke_state]; exact hsteps.trans h⟩
abbrev vx_CVW (R : Room) (s : State) (args : Array Value) (own C : String) (index : Nat) (y : MethodName) (bytes : ByteArray) (maxL : Nat) (ret : Option FieldType) (hh : List (Nat × Nat × Nat × Nat)) (ws : List Cond) (rm : Room) (mc ms n : Nat) : Prop :=
  (rm.cells = mc ∧ rm.slots = ms ∧ rm.frames + 1 ≤ R.frames ∧ 8 + (maxL + 11) + rm.locals ≤ R.locals ∧ (∀ w ∈ ws, ∀ (a' : Array Value) (U : State), s.WarmedH U.vm → w.before a' U = true) ∧ Cond.codeWith y bytes maxL ret hh ∈ ws) ∧
  (Cond.codeWith y bytes maxL ret hh).before args s = true ∧ (Cond.initialized y.cls).before args s = true ∧ (y.cls ≠ "java/lang/invoke/MethodHandle" ∧ y.cls ≠ "java/lang/invoke/VarHandle") ∧
  (∀ sig, parseMethodDescriptor y.desc = some sig → n = sig.parameters.length) ∧ (Cond.methodLink own index y).before args s = true ∧ (Cond.instanceMethod y).before args s = true ∧ (Cond.selects C y y).before args s = true
theorem vx_cwVW {own C : String} {index maxL mc ms : Nat} {y : MethodName} {bytes : ByteArray} {ret : Option FieldType} {hh : List (Nat × Nat × Nat × Nat)} {Ts ws ws' : List Cond} {rm : Room} (n : Nat) (ht : ∀ w ∈ Ts, w.before args s = true) (hT : GoodIn Ts (wsV own index C y ws)) (hw : ws = Cond.codeWith y bytes maxL ret hh :: ws') (hrc : rm.cells = mc) (hrs : rm.slots = ms)
    (hd : y.cls = C ∧ y.cls ≠ "java/lang/invoke/MethodHandle" ∧ y.cls ≠ "java/lang/invoke/VarHandle" ∧ (parseMethodDescriptor y.desc).map (fun d => d.parameters.length) = some n) (hR : rm.frames + 1 ≤ R.frames ∧ 8 + (maxL + 11) + rm.locals ≤ R.locals) :
    vx_CVW R s args own C index y bytes maxL ret hh ws rm mc ms n := by
  obtain ⟨hC, hd⟩ := hd
  subst hC
  have ok : ∀ w ∈ wsV own index y.cls y ws, w.before args s = true := fun w h => ht w (hT w h).1
  have hG : GoodIn Ts ws := fun w h => hT w (by unfold wsV; exact List.mem_append_right _ h)
  have hc : Cond.codeWith y bytes maxL ret hh ∈ ws := by rw [hw]; exact List.mem_cons_self
  refine ⟨⟨hrc, hrs, hR.1, hR.2, pay_in ht hG, hc⟩, ht _ (hG _ hc).1, ok _ (by simp [wsV]), ⟨hd.1, hd.2.1⟩, fun sig h => ?_, ok _ (by simp [wsV]), ok _ (by simp [wsV]), ok _ (by simp [wsV])⟩
  have h2 := hd.2.2
  rw [h] at h2
  exact (Option.some.inj h2).symm
theorem vx_runVW {y : MethodName} {bytes cc : ByteArray} {maxL nL mc ms n index : Nat} {ret : Option FieldType} {hh : List (Nat × Nat × Nat × Nat)} {ws : List Cond} {rm : Room} {Pc : Array Value → State → Prop} {Qc : Array Value → State → Outcome → State → Prop} {free : Addr → Prop} {Ts : List Cond} {own C : String} {b : Addr} {As rest : List Value} {g : JFrame}
    (S : CallFix p m c cc nL s args Ts own) (hM : Met l y ws rm Pc Qc mc ms free) (cw : vx_CVW R s args own C index y bytes maxL ret hh ws rm mc ms n) (hp : PreV s H C b Pc As)
    (hg : g.method = m) (hn : As.length = n) (hsize : g.locals.size = nL) (hstack : g.stack = As.reverse ++ .ref b :: rest) (hW : 2 * g.monitorRoom + (rest.map fun v => v.category).sum ≤ 8) (hdg : decode cc g.pc = .ok (.invokevirtual index, 3)) (hf : cells + mc ≤ R.cells ∧ slots + ms ≤ R.slots) :
    va_Run p l e R s m args below meth c H locs cells slots mc ms g rest (Qc (Value.ref b :: As).toArray) free := by
  obtain ⟨⟨hrc, hrs, hfr, hlo, hws, hcw⟩, hcode, hini, hy, hlen, hl, hin, hse⟩ := cw
  have hK : Back l R p e below s args y 3 8 (PreOf R mc ms Pc) (PostOf Qc mc ms free) := va_backW (hh := hh) (bytes := bytes) (maxL := maxL) (ret := ret) hM hp.1 hrc hrs hfr hlo hws hcw (fun a' U hW => word_at hW (Or.inl (by first | rfl | simp [Cond.onTables, Cond.keeps, Cond.steady])) hini)
  obtain ⟨hx, hb, hml, ho, -⟩ := S
  obtain ⟨-, ⟨cellB, hcB, hoB, hclB⟩, hPc⟩ := hp
  intro T hT X
  obtain ⟨v, vm₁, ⟨U', l2, c2, s2⟩, hW₁, X', ⟨g', mk, t, L, e1, e2, hq, h1, hL, h2, h3⟩, st⟩ := vx_callVW X hx (C := C) (hh := hh) (bytes := bytes) (maxL := maxL) (ret := ret) ho hl hin hse hcode hy hK (by rw [hT]; exact hcB) hoB hclB hg (hsize.trans hml.symm) (argsL := As) (rest := rest) (fun sig h => hn.trans (hlen sig h)) hstack hW (by rw [hb]; exact hdg)
    (fun vm₁ hW₁ => ⟨hf.1, hf.2, hPc (T.setVm vm₁) hT hW₁⟩)
  dsimp only [Pt.U, Pt.locs, Pt.cells, Pt.slots] at X' e1 e2 h1 h2 h3 st
  subst h1; subst h2; subst h3
  exact ⟨v, (T.setVm vm₁).calling g' mk (Value.ref b :: As).toArray, t, U', L, hT, X', hL, e1, e2, hq, st⟩
section
variable {y : MethodName} {bytes cc : ByteArray} {maxL nL mc ms n index : Nat} {ret : Option FieldType} {ws : List Cond} {rm : Room} {Pc : Array Value → State → Prop} {Qc : Array Value → State → Outcome → State → Prop} {XC : String → State → State → Prop} {free : Addr → Prop} {Ts : List Cond} {own C : String} {b : Addr} {As rest : List Value} {g : JFrame}
theorem vx_runVX {hh : List (Nat × Nat × Nat × Nat)} (S : CallFix p m c cc nL s args Ts own) (hM : vx_Met l y ws rm Pc Qc XC mc ms free) (cw : vx_CVW R s args own C index y bytes maxL ret hh ws rm mc ms n) (hp : PreV s H C b Pc As)
    (hg : g.method = m) (hn : As.length = n) (hsize : g.locals.size = nL) (hstack : g.stack = As.reverse ++ .ref b :: rest) (hW : 2 * g.monitorRoom + (rest.map fun v => v.category).sum ≤ 8) (hdg : decode cc g.pc = .ok (.invokevirtual index, 3)) (hf : cells + mc ≤ R.cells ∧ slots + ms ≤ R.slots) :
    vx_Run p l e R s m args below meth c H locs cells slots mc ms g rest (Qc (Value.ref b :: As).toArray) XC free := by
  obtain ⟨⟨hrc, hrs, hfr, hlo, hws, hcw⟩, hcode, hini, hy, hlen, hl, hin, hse⟩ := cw
  have hK : vx_Back l R p e below s args y 3 8 (PreOf R mc ms Pc) (PostOf Qc mc ms free) (vx_Post XC mc ms free) := vx_backW (hh := hh) (bytes := bytes) (maxL := maxL) (ret := ret) hM hp.1 hrc hrs hfr hlo hws hcw (fun a' U hW => word_at hW (Or.inl (by first | rfl | simp [Cond.onTables, Cond.keeps, Cond.steady])) hini)
  obtain ⟨hx, hb, hml, ho, -⟩ := S
  obtain ⟨-, ⟨cellB, hcB, hoB, hclB⟩, hPc⟩ := hp
  intro T hT X
  rcases vx_callVX X hx (C := C) (hh := hh) (bytes := bytes) (maxL := maxL) (ret := ret) ho hl hin hse hcode hy hK (by rw [hT]; exact hcB) hoB hclB hg (hsize.trans hml.symm) (argsL := As) (rest := rest) (fun sig h => hn.trans (hlen sig h)) hstack hW (by rw [hb]; exact hdg)
    (fun vm₁ hW₁ => ⟨hf.1, hf.2, hPc (T.setVm vm₁) hT hW₁⟩) with ⟨v, vm₁, ⟨U', l2, c2, s2⟩, hW₁, X', ⟨g', mk, t, L, e1, e2, hq, h1, hL, h2, h3⟩, st⟩ | ⟨q, vm₁, ⟨U', l2, c2, s2⟩, hW₁, X', ⟨g', mk, t, L, E, ce, e1, e2, hq, hce, hcv, hcl, h1, hL, h2, h3⟩, st⟩
  · dsimp only [Pt.U, Pt.locs, Pt.cells, Pt.slots] at X' e1 e2 h1 h2 h3 st
    subst h1; subst h2; subst h3
    exact Or.inl ⟨v, (T.setVm vm₁).calling g' mk (Value.ref b :: As).toArray, t, U', L, hT, X', hL, e1, e2, hq, st⟩
  · dsimp only [Pt.U, Pt.locs, Pt.cells, Pt.slots] at X' e1 e2 h1 h2 h3 st hcl
    subst h1; subst h2; subst h3
    exact Or.inr ⟨q, (T.setVm vm₁).calling g' mk (Value.ref b :: As).toArray, t, U', L, E, ce, hT, X', hL, e1, e2, hq, hce, hcv, vx_cls hW₁ hcl, st⟩
theorem vx_runSX {hh : List (Nat × Nat × Nat × Nat)} (S : CallFix p m c cc nL s args Ts own) (hM : vx_Met l y ws rm Pc Qc XC mc ms free) (cw : vx_CSW R s args own index y bytes maxL ret hh ws rm mc ms n) (hp : PreS s H Pc As)
    (hg : g.method = m) (hn : As.length = n) (hsize : g.locals.size = nL) (hstack : g.stack = As.reverse ++ rest) (hW : 2 * g.monitorRoom + (rest.map fun v => v.category).sum ≤ 8) (hdg : decode cc g.pc = .ok (.invokestatic index, 3)) (hf : cells + mc ≤ R.cells ∧ slots + ms ≤ R.slots) :
    vx_Run p l e R s m args below meth c H locs cells slots mc ms g rest (Qc As.toArray) XC free := by
  obtain ⟨⟨hrc, hrs, hfr, hlo, hws, hcw⟩, hcode, hini, hy, hlen, hl, hstt⟩ := cw
  have hK : vx_Back l R p e below s args y 3 8 (PreOf R mc ms Pc) (PostOf Qc mc ms free) (vx_Post XC mc ms free) := vx_backW (hh := hh) (bytes := bytes) (maxL := maxL) (ret := ret) hM hp.1 hrc hrs hfr hlo hws hcw (fun a' U hW => word_at hW (Or.inl (by first | rfl | simp [Cond.onTables, Cond.keeps, Cond.steady])) hini)
  obtain ⟨hx, hb, hml, ho, -⟩ := S
  intro T hT X
  rcases vx_callSX X hx (hh := hh) (bytes := bytes) (maxL := maxL) (ret := ret) ho hl hstt hini hcode hy hK hg (hsize.trans hml.symm) (argsL := As) (rest := rest) (fun sig h => hn.trans (hlen sig h)) hstack hW (by rw [hb]; exact hdg)
    (fun vm₁ hW₁ => ⟨hf.1, hf.2, hp.2 (T.setVm vm₁) hT hW₁⟩) with ⟨v, vm₁, ⟨U', l2, c2, s2⟩, hW₁, X', ⟨g', mk, t, L, e1, e2, hq, h1, hL, h2, h3⟩, st⟩ | ⟨q, vm₁, ⟨U', l2, c2, s2⟩, hW₁, X', ⟨g', mk, t, L, E, ce, e1, e2, hq, hce, hcv, hcl, h1, hL, h2, h3⟩, st⟩
  · dsimp only [Pt.U, Pt.locs, Pt.cells, Pt.slots] at X' e1 e2 h1 h2 h3 st
    subst h1; subst h2; subst h3
    exact Or.inl ⟨v, (T.setVm vm₁).calling g' mk As.toArray, t, U', L, hT, X', hL, e1, e2, hq, st⟩
  · dsimp only [Pt.U, Pt.locs, Pt.cells, Pt.slots] at X' e1 e2 h1 h2 h3 st hcl
    subst h1; subst h2; subst h3
    exact Or.inr ⟨q, (T.setVm vm₁).calling g' mk As.toArray, t, U', L, E, ce, hT, X', hL, e1, e2, hq, hce, hcv, vx_cls hW₁ hcl, st⟩
end
end VXH
theorem vx_ofWH {l : Launch} {y : MethodName} {ws ws' : List Cond} {rm : Room} {Pc : Array Value → State → Prop} {Qc : Array Value → State → Outcome → State → Prop} {XC : String → State → State → Prop} {mc ms : Nat} {free : Addr → Prop} {cc : ByteArray} {maxL : Nat} {ret : Option FieldType} {hh : List (Nat × Nat × Nat × Nat)}
    (hy : plainName y.cls = true) (hw : ws = Cond.codeWith y cc maxL ret hh :: ws')
    (body : ∀ p e s m args below meth c s₁, BodyLoose p l y (headSpec ws rm) cc maxL ret e s m args below meth c s₁ → c.maxLocals = maxL → Pc args s →
      W p l e (headSpec ws rm).room s m args below meth c s.heap [] 0 0 (vx_MQ below Qc XC args s mc ms free) (entryFrame m args maxL)) : vx_Met l y ws rm Pc Qc XC mc ms free := by
  refine MetFree.of_bodyS (code := cc) (maxLocals := maxL) (ret := ret) hy ?_ ?_
  · intro args s m h hn
    obtain ⟨m9, meth, c, hn9, h1, h2, h3, h4, -, h5, h6, -⟩ := Cond.codeWith_spec (atoms_spec (ws := ws) h _ (by rw [hw]; exact List.mem_cons_self))
    cases hn.symm.trans hn9
    exact ⟨meth, c, h1, h2, h3, h4, h5, h6⟩
  · intro p e s m args below meth c s₁ B hml hP _
    have hh0 : s₁.heap = s.heap := by rw [B.state]; rfl
    obtain ⟨t, a1, o, b1, b2, b3⟩ := body p e s m args below meth c s₁ B hml hP s₁ hh0 (Stand.of_body B)
    exact ⟨t, o, a1, b1, b2, b3⟩
/-! ===== END ===== -/
end
section
/-! FP: products of positive doubles of bounded exponent: no NaN, positive, exponents add up -/
/-- the bits of a normal double of sign s with leading exponent L -/
def fp_S (x : UInt64) (s : Bool) (L : Int) : Prop := ∃ (c : Nat) (q : Int), FP.Core.decode FP.Core.b64 x.toNat = .fin s c q ∧ 4503599627370496 ≤ c ∧ c < 9007199254740992 ∧ q + 52 = L
abbrev fp_E (x : UInt64) (L : Int) : Prop := fp_S x false L
theorem fp_qmin : FP.Core.b64.qmin = -1074 := by decide
theorem fp_qmax : FP.Core.b64.qmax = 971 := by decide
theorem fp_tails : FP.Core.b64.tails = 4503599627370496 := by decide
theorem fp_exps : FP.Core.b64.exps = 2048 := by decide
theorem fp_p : FP.Core.b64.p = 53 := by decide
theorem fp_dec (n : Nat) : FP.Core.decode FP.Core.b64 n = if n / 4503599627370496 % 2048 = 2047 then (if n % 4503599627370496 = 0 then .inf (n / 4503599627370496 / 2048 % 2 == 1) else .nan) else if n / 4503599627370496 % 2048 = 0 then .fin (n / 4503599627370496 / 2048 % 2 == 1) (n % 4503599627370496) (-1074) else .fin (n / 4503599627370496 / 2048 % 2 == 1) (4503599627370496 + n % 4503599627370496) (-1074 + (((n / 4503599627370496 % 2048 : Nat) : Int) - 1)) := by
  unfold FP.Core.decode FP.Core.fieldE FP.Core.fieldT FP.Core.fieldS
  rw [fp_qmin, fp_tails, fp_exps]
theorem fp_enc {s : Bool} {c : Nat} {q : Int} (h1 : 4503599627370496 ≤ c) (h2 : c < 9007199254740992) (h3 : -1074 ≤ q) (h4 : q ≤ 971) : FP.Core.encode FP.Core.b64 (.fin s c q) < 18446744073709551616 ∧ FP.Core.decode FP.Core.b64 (FP.Core.encode FP.Core.b64 (.fin s c q)) = .fin s c q := by
  have e0 : FP.Core.encode FP.Core.b64 (.fin s c q) = (s.toNat * 2048 + ((q + 1074).toNat + 1)) * 4503599627370496 + (c - 4503599627370496) := by
    unfold FP.Core.encode FP.Core.assemble
    dsimp only
    rw [fp_qmin, fp_tails, fp_exps, if_neg (by omega)]
    rw [show q - -1074 = q + 1074 by omega]
  rw [e0, fp_dec]
  have hs : s.toNat = 0 ∨ s.toNat = 1 := by cases s <;> simp
  have hE : (q + 1074).toNat + 1 ≤ 2046 := by omega
  have hq : (((q + 1074).toNat : Nat) : Int) = q + 1074 := by omega
  generalize hEe : (q + 1074).toNat + 1 = E at hE ⊢
  generalize hTe : c - 4503599627370496 = T
  have hT : T < 4503599627370496 := by omega
  have d1 : ((s.toNat * 2048 + E) * 4503599627370496 + T) / 4503599627370496 = s.toNat * 2048 + E := by omega
  have d2 : ((s.toNat * 2048 + E) * 4503599627370496 + T) % 4503599627370496 = T := by omega
  rw [d1, d2]
  have d3 : (s.toNat * 2048 + E) % 2048 = E := by rw [Nat.mul_comm, Nat.mul_add_mod]; exact Nat.mod_eq_of_lt (by omega)
  have d4 : (s.toNat * 2048 + E) / 2048 = s.toNat := by rw [Nat.mul_comm, Nat.mul_add_div (by decide), Nat.div_eq_of_lt (by omega), Nat.add_zero]
  rw [d3, d4, if_neg (by omega), if_neg (by omega)]
  refine ⟨by omega, ?_⟩
  have d5 : (s.toNat % 2 == 1) = s := by cases s <;> rfl
  have d6 : 4503599627370496 + T = c := by omega
  have d7 : (-1074 : Int) + ((E : Int) - 1) = q := by omega
  rw [d5, d6, d7]
theorem fp_near (num D : Nat) : num / D ≤ FP.Core.nearest num D ∧ FP.Core.nearest num D ≤ num / D + 1 := by
  unfold FP.Core.nearest
  split
  · omega
  · split
    · omega
    · omega
theorem fp_lead {num : Nat} (h : num ≠ 0) : FP.Core.leading num 1 = (num.log2 : Int) := by
  unfold FP.Core.leading
  have h1 : Nat.log2 1 = 0 := by decide
  rw [h1]
  have h2 : 2 ^ num.log2 ≤ num := (Nat.le_log2 h).mp (Nat.le_refl _)
  have e1 : ((num.log2 : Int) - ((0 : Nat) : Int)).toNat = num.log2 := by omega
  have e2 : (-((num.log2 : Int) - ((0 : Nat) : Int))).toNat = 0 := by omega
  dsimp only
  rw [e1, e2, if_pos (by simpa using h2)]
  omega
theorem fp_round {s : Bool} {num : Nat} {e : Int} (h : num ≠ 0) (h1 : -1022 ≤ (num.log2 : Int) + e) (h2 : (num.log2 : Int) + e ≤ 1022) : ∃ (c : Nat) (Q : Int), FP.Core.roundRatio FP.Core.b64 s num 1 e = .fin s c Q ∧ 4503599627370496 ≤ c ∧ c < 9007199254740992 ∧ (num.log2 : Int) + e ≤ Q + 52 ∧ Q + 52 ≤ (num.log2 : Int) + e + 1 := by
  have hlo : 2 ^ num.log2 ≤ num := (Nat.le_log2 h).mp (Nat.le_refl _)
  have hhi : num < 2 ^ (num.log2 + 1) := (Nat.log2_lt h).mp (Nat.lt_succ_self _)
  have hq : FP.Core.quantum FP.Core.b64 num 1 e = (num.log2 : Int) + e - 52 := by
    unfold FP.Core.quantum
    rw [fp_qmin, fp_lead h, fp_p]
    omega
  have key : ∃ c0 : Nat, FP.Core.nearest (FP.Core.unitsNum num e ((num.log2 : Int) + e - 52)) (FP.Core.unitsDen 1 e ((num.log2 : Int) + e - 52)) = c0 ∧ 4503599627370496 ≤ c0 ∧ c0 ≤ 9007199254740992 := by
    refine ⟨_, rfl, ?_⟩
    unfold FP.Core.unitsNum FP.Core.unitsDen
    generalize hk : num.log2 = k at *
    by_cases hk52 : 52 ≤ k
    · have a1 : (e - ((k : Int) + e - 52)).toNat = 0 := by omega
      have a2 : ((k : Int) + e - 52 - e).toNat = k - 52 := by omega
      rw [a1, a2]
      have n1 := fp_near (num * 2 ^ 0) (1 * 2 ^ (k - 52))
      have pD : 0 < 2 ^ (k - 52) := Nat.pow_pos (by decide)
      have e1 : 2 ^ k = 4503599627370496 * 2 ^ (k - 52) := by
        have : k = 52 + (k - 52) := by omega
        calc 2 ^ k = 2 ^ (52 + (k - 52)) := by rw [← this]
          _ = 2 ^ 52 * 2 ^ (k - 52) := Nat.pow_add 2 52 (k - 52)
          _ = 4503599627370496 * 2 ^ (k - 52) := by rw [show (2 : Nat) ^ 52 = 4503599627370496 by decide]
      have e2 : 2 ^ (k + 1) = 9007199254740992 * 2 ^ (k - 52) := by rw [Nat.pow_succ, e1]; omega
      rw [Nat.pow_zero, Nat.mul_one, Nat.one_mul] at n1 ⊢
      have b1 : 4503599627370496 ≤ num / 2 ^ (k - 52) := (Nat.le_div_iff_mul_le pD).mpr (by rw [← e1]; exact hlo)
      have b2 : num / 2 ^ (k - 52) < 9007199254740992 := (Nat.div_lt_iff_lt_mul pD).mpr (by rw [← e2]; exact hhi)
      omega
    · have a1 : (e - ((k : Int) + e - 52)).toNat = 52 - k := by omega
      have a2 : ((k : Int) + e - 52 - e).toNat = 0 := by omega
      rw [a1, a2]
      have n1 := fp_near (num * 2 ^ (52 - k)) (1 * 2 ^ 0)
      rw [Nat.pow_zero, Nat.mul_one, Nat.div_one] at n1
      rw [Nat.pow_zero, Nat.mul_one]
      have pD : 0 < 2 ^ (52 - k) := Nat.pow_pos (by decide)
      have e1 : 2 ^ k * 2 ^ (52 - k) = 4503599627370496 := by
        rw [← Nat.pow_add, show k + (52 - k) = 52 by omega]
      have b1 : 4503599627370496 ≤ num * 2 ^ (52 - k) := by rw [← e1]; exact Nat.mul_le_mul_right _ hlo
      have b2 : num * 2 ^ (52 - k) < 9007199254740992 := by
        have : num * 2 ^ (52 - k) < 2 ^ (k + 1) * 2 ^ (52 - k) := Nat.mul_lt_mul_of_pos_right hhi pD
        rw [Nat.pow_succ, Nat.mul_right_comm, e1] at this
        omega
      omega
  obtain ⟨c0, hc0, g1, g2⟩ := key
  unfold FP.Core.roundRatio FP.Core.roundAt FP.Core.settle FP.Core.bound
  rw [if_neg h, hq, hc0, fp_p, fp_qmax, fp_tails, show (2 : Nat) ^ 53 = 9007199254740992 by decide]
  by_cases hc : c0 < 9007199254740992
  · rw [if_pos hc, if_pos (by omega)]
    exact ⟨c0, _, rfl, g1, hc, by omega, by omega⟩
  · rw [if_neg hc, if_pos (by omega)]
    exact ⟨4503599627370496, _, rfl, by omega, by omega, by omega, by omega⟩
theorem fp_of {d : FP.Core.Datum} {s : Bool} {c : Nat} {Q : Int} (hd : d = .fin s c Q) (h1 : 4503599627370496 ≤ c) (h2 : c < 9007199254740992) (h3 : -1074 ≤ Q) (h4 : Q ≤ 971) : fp_S (UInt64.ofNat (FP.Core.encode FP.Core.b64 d)) s (Q + 52) := by
  subst hd
  obtain ⟨a1, a2⟩ := fp_enc (s := s) h1 h2 h3 h4
  refine ⟨c, Q, ?_, h1, h2, rfl⟩
  rw [UInt64.toNat_ofNat', Nat.mod_eq_of_lt a1]
  exact a2
theorem fp_mulS {x y : UInt64} {s t : Bool} {a b : Int} (hx : fp_S x s a) (hy : fp_S y t b) (h1 : -1022 ≤ a + b) (h2 : a + b ≤ 1020) : ∃ L : Int, fp_S (FP.dmul x y) (s != t) L ∧ a + b ≤ L ∧ L ≤ a + b + 2 := by
  obtain ⟨c, q, hc, c1, c2, cq⟩ := hx
  obtain ⟨d, r, hd, d1, d2, dr⟩ := hy
  have m1 : 4503599627370496 * 4503599627370496 ≤ c * d := Nat.mul_le_mul c1 d1
  have m2 : c * d ≤ 9007199254740991 * 9007199254740991 := Nat.mul_le_mul (by omega) (by omega)
  have hn : c * d ≠ 0 := by omega
  have l1 : 104 ≤ (c * d).log2 := (Nat.le_log2 hn).mpr (by omega)
  have l2 : (c * d).log2 < 106 := (Nat.log2_lt hn).mpr (by omega)
  obtain ⟨c', Q, e1, g1, g2, g3, g4⟩ := fp_round (s := s != t) (e := q + r) hn (by omega) (by omega)
  refine ⟨Q + 52, ?_, by omega, by omega⟩
  show fp_S (UInt64.ofNat (FP.Core.mul FP.Core.b64 x.toNat y.toNat)) (s != t) (Q + 52)
  unfold FP.Core.mul
  rw [hc, hd]
  exact fp_of e1 g1 g2 (by omega) (by omega)
theorem fp_mul {x y : UInt64} {a b : Int} (hx : fp_E x a) (hy : fp_E y b) (h1 : -1022 ≤ a + b) (h2 : a + b ≤ 1020) : ∃ L : Int, fp_E (FP.dmul x y) L ∧ a + b ≤ L ∧ L ≤ a + b + 2 := fp_mulS hx hy h1 h2
theorem fp_m64 (a : UInt64) : vf_n64 a ↔ a.toNat % 9223372036854775808 ≤ 9218868437227405312 := by
  unfold vf_n64
  rw [UInt64.le_iff_toNat_le, UInt64.toNat_and]
  have h1 : (0x7fffffffffffffff : UInt64).toNat = 2 ^ 63 - 1 := by decide
  have h2 : (0x7ff0000000000000 : UInt64).toNat = 9218868437227405312 := by decide
  rw [h1, h2, Nat.and_two_pow_sub_one_eq_mod]
theorem fp_finN {x : UInt64} {s : Bool} {c : Nat} {q : Int} (h : FP.Core.decode FP.Core.b64 x.toNat = .fin s c q) : vf_n64 x := by
  rw [fp_m64]
  rw [fp_dec] at h
  by_cases h1 : x.toNat / 4503599627370496 % 2048 = 2047
  · rw [if_pos h1] at h
    split at h <;> cases h
  · omega
theorem fp_S.n {x : UInt64} {s : Bool} {L : Int} (h : fp_S x s L) : vf_n64 x := by
  obtain ⟨c, q, h, -⟩ := h
  exact fp_finN h
theorem fp_cmpI (a b : Int) : compare a b = if a < b then .lt else if a = b then .eq else .gt := rfl
theorem fp_pos {x : UInt64} {L : Int} (h : fp_E x L) : FP.dcmp x 0 = some .gt := by
  obtain ⟨c, q, h, h1, h2, h3⟩ := h
  show FP.Core.order (FP.Core.decode FP.Core.b64 x.toNat) (FP.Core.decode FP.Core.b64 (0 : UInt64).toNat) = some .gt
  have h0 : FP.Core.decode FP.Core.b64 (0 : UInt64).toNat = .fin false 0 (-1074) := by decide
  rw [h, h0]
  unfold FP.Core.order FP.Core.signed FP.Core.inUnits
  dsimp only
  rw [fp_cmpI]
  have hp : 0 < c * 2 ^ (q - min q (-1074)).toNat := Nat.mul_pos (by omega) (Nat.pow_pos (by decide))
  simp only [Bool.false_eq_true, if_false]
  rw [if_neg (by omega), if_neg (by omega)]
/-- two data compared: the same bits of a number are equal -/
theorem fp_self {x : UInt64} {L : Int} (h : fp_E x L) : FP.dcmp x x = some .eq := by
  obtain ⟨c, q, h, h1, h2, h3⟩ := h
  show FP.Core.order (FP.Core.decode FP.Core.b64 x.toNat) (FP.Core.decode FP.Core.b64 x.toNat) = some .eq
  rw [h]
  unfold FP.Core.order
  dsimp only
  rw [fp_cmpI, if_neg (by omega), if_pos rfl]
theorem fp_c125 : FP.Core.decode FP.Core.b64 (4593671619917905920 : UInt64).toNat = .fin false 4503599627370496 (-55) := by decide
theorem fp_c8 : FP.Core.decode FP.Core.b64 (4620693217682128896 : UInt64).toNat = .fin false 4503599627370496 (-49) := by decide
theorem fp_p2 {k : Nat} (h : 1 ≤ k) : 2 ≤ 2 ^ k := by
  calc 2 = 2 ^ 1 := by decide
    _ ≤ 2 ^ k := Nat.pow_le_pow_right (by decide) h
/-- a weight in range: not below 0.125, not above 8.0 -/
theorem fp_weight {w : UInt64} (h1 : FP.dcmp w 4593671619917905920 = some .gt ∨ FP.dcmp w 4593671619917905920 = some .eq) (h2 : FP.dcmp w 4620693217682128896 = some .lt ∨ FP.dcmp w 4620693217682128896 = some .eq) : ∃ L : Int, fp_E w L ∧ -3 ≤ L ∧ L ≤ 3 := by
  change FP.Core.order (FP.Core.decode FP.Core.b64 w.toNat) (FP.Core.decode FP.Core.b64 (4593671619917905920 : UInt64).toNat) = some .gt ∨ FP.Core.order (FP.Core.decode FP.Core.b64 w.toNat) (FP.Core.decode FP.Core.b64 (4593671619917905920 : UInt64).toNat) = some .eq at h1
  change FP.Core.order (FP.Core.decode FP.Core.b64 w.toNat) (FP.Core.decode FP.Core.b64 (4620693217682128896 : UInt64).toNat) = some .lt ∨ FP.Core.order (FP.Core.decode FP.Core.b64 w.toNat) (FP.Core.decode FP.Core.b64 (4620693217682128896 : UInt64).toNat) = some .eq at h2
  rw [fp_c125] at h1
  rw [fp_c8] at h2
  cases hd : FP.Core.decode FP.Core.b64 w.toNat with
  | nan =>
    rw [hd] at h1
    rcases h1 with h1 | h1 <;> cases h1
  | inf s =>
    rw [hd] at h1 h2
    cases s
    · exfalso
      rcases h2 with h2 | h2 <;> revert h2 <;> decide
    · exfalso
      rcases h1 with h1 | h1 <;> revert h1 <;> decide
  | fin s c q =>
    rw [hd] at h1 h2
    have hform : (c < 4503599627370496 ∧ q = -1074) ∨ (4503599627370496 ≤ c ∧ c < 9007199254740992) := by
      rw [fp_dec] at hd
      split at hd
      · split at hd <;> cases hd
      · split at hd
        · injection hd with e1 e2 e3
          left
          exact ⟨by omega, e3.symm⟩
        · injection hd with e1 e2 e3
          right
          omega
    unfold FP.Core.order FP.Core.signed FP.Core.inUnits at h1 h2
    dsimp only at h1 h2
    rw [fp_cmpI] at h1 h2
    simp only [Bool.false_eq_true, if_false] at h1 h2
    have hge : ((4503599627370496 * 2 ^ (-55 - min q (-55)).toNat : Nat) : Int) ≤ (if s = true then -((c * 2 ^ (q - min q (-55)).toNat : Nat) : Int) else ((c * 2 ^ (q - min q (-55)).toNat : Nat) : Int)) := by
      by_cases hz : (if s = true then -((c * 2 ^ (q - min q (-55)).toNat : Nat) : Int) else ((c * 2 ^ (q - min q (-55)).toNat : Nat) : Int)) < ((4503599627370496 * 2 ^ (-55 - min q (-55)).toNat : Nat) : Int)
      · rw [if_pos hz] at h1
        rcases h1 with h1 | h1 <;> cases h1
      · exact Int.not_lt.mp hz
    have hle : (if s = true then -((c * 2 ^ (q - min q (-49)).toNat : Nat) : Int) else ((c * 2 ^ (q - min q (-49)).toNat : Nat) : Int)) ≤ ((4503599627370496 * 2 ^ (-49 - min q (-49)).toNat : Nat) : Int) := by
      by_cases hz : ((4503599627370496 * 2 ^ (-49 - min q (-49)).toNat : Nat) : Int) < (if s = true then -((c * 2 ^ (q - min q (-49)).toNat : Nat) : Int) else ((c * 2 ^ (q - min q (-49)).toNat : Nat) : Int))
      · rw [if_neg (by omega), if_neg (by omega)] at h2
        rcases h2 with h2 | h2 <;> cases h2
      · exact Int.not_lt.mp hz
    have p1 : 0 < 2 ^ (-55 - min q (-55)).toNat := Nat.pow_pos (by decide)
    cases s with
    | true =>
      exfalso
      simp only [if_true] at hge
      omega
    | false =>
      simp only [Bool.false_eq_true, if_false] at hge hle
      have hge : 4503599627370496 * 2 ^ (-55 - min q (-55)).toNat ≤ c * 2 ^ (q - min q (-55)).toNat := by omega
      have hle : c * 2 ^ (q - min q (-49)).toNat ≤ 4503599627370496 * 2 ^ (-49 - min q (-49)).toNat := by omega
      have hq1 : -55 ≤ q := by
        by_cases hz : q < -55
        · exfalso
          have e1 : (q - min q (-55)).toNat = 0 := by omega
          rw [e1, Nat.pow_zero, Nat.mul_one] at hge
          have e2 : 2 ≤ 2 ^ (-55 - min q (-55)).toNat := fp_p2 (by omega)
          have e3 : 4503599627370496 * 2 ≤ 4503599627370496 * 2 ^ (-55 - min q (-55)).toNat := Nat.mul_le_mul_left _ e2
          omega
        · exact Int.not_lt.mp hz
      have hc : 4503599627370496 ≤ c ∧ c < 9007199254740992 := by omega
      have hq2 : q ≤ -49 := by
        by_cases hz : -49 < q
        · exfalso
          have e1 : (-49 - min q (-49)).toNat = 0 := by omega
          rw [e1, Nat.pow_zero, Nat.mul_one] at hle
          have e2 : 2 ≤ 2 ^ (q - min q (-49)).toNat := fp_p2 (by omega)
          have e3 : c * 2 ≤ c * 2 ^ (q - min q (-49)).toNat := Nat.mul_le_mul_left _ e2
          omega
        · exact Int.not_lt.mp hz
      exact ⟨q + 52, ⟨c, q, hd, hc.1, hc.2, rfl⟩, by omega, by omega⟩
/-- an int as a double is no NaN, and neither is its product with 0.125 -/
theorem fp_int (v : Int32) : ∃ (s : Bool) (c : Nat) (q : Int), FP.Core.decode FP.Core.b64 (FP.i2d v).toNat = .fin s c q ∧ (c = 0 ∨ ∃ L : Int, fp_S (FP.i2d v) s L ∧ 0 ≤ L ∧ L ≤ 40) := by
  by_cases hv : v.toInt = 0
  · refine ⟨false, 0, -1074, ?_, Or.inl rfl⟩
    show FP.Core.decode FP.Core.b64 (UInt64.ofNat (FP.Core.fromInt FP.Core.b64 v.toInt)).toNat = _
    rw [hv]
    decide
  · have hn : v.toInt.natAbs ≠ 0 := by omega
    have hb1 := Int32.toInt_lt v
    have hb2 := Int32.le_toInt v
    have l1 : v.toInt.natAbs.log2 < 33 := (Nat.log2_lt hn).mpr (by omega)
    obtain ⟨c, Q, e1, g1, g2, g3, g4⟩ := fp_round (s := decide (v.toInt < 0)) (e := 0) hn (by omega) (by omega)
    have hS : fp_S (FP.i2d v) (decide (v.toInt < 0)) (Q + 52) := by
      show fp_S (UInt64.ofNat (FP.Core.fromInt FP.Core.b64 v.toInt)) _ _
      exact fp_of (show FP.Core.round FP.Core.b64 (FP.Core.ofInt v.toInt) = _ from e1) g1 g2 (by omega) (by omega)
    obtain ⟨c', q', h', h1', h2', h3'⟩ := id hS
    exact ⟨_, c', q', h', Or.inr ⟨_, hS, by omega, by omega⟩⟩
theorem fp_in (v : Int32) : vf_n64 (FP.i2d v) := by
  obtain ⟨s, c, q, h, -⟩ := fp_int v
  exact fp_finN h
theorem fp_iw (v : Int32) : vf_n64 (FP.dmul (FP.i2d v) 4593671619917905920) := by
  obtain ⟨s, c, q, h, h0⟩ := fp_int v
  rcases h0 with rfl | ⟨L, hS, h1, h2⟩
  · have e1 : FP.dmul (FP.i2d v) 4593671619917905920 = UInt64.ofNat (FP.Core.encode FP.Core.b64 (.fin (s != false) 0 (-1074))) := by
      show UInt64.ofNat (FP.Core.encode FP.Core.b64 (FP.Core.round FP.Core.b64 (FP.Core.exactProduct (FP.Core.decode FP.Core.b64 (FP.i2d v).toNat) (FP.Core.decode FP.Core.b64 (4593671619917905920 : UInt64).toNat)))) = _
      rw [h, fp_c125]
      rfl
    rw [e1]
    cases s <;> (rw [fp_m64]; decide)
  · obtain ⟨L2, g, -, -⟩ := fp_mulS hS (show fp_S 4593671619917905920 false (-3) from ⟨_, _, fp_c125, by decide, by decide, by decide⟩) (by omega) (by omega)
    exact g.n
end
section
/-! DIVISIONS of a span into n pieces: the list of the pieces' ends, in the order in which both programs step -/
def dv : Nat → Nat → Nat → List (List Nat)
  | 0, _, _ => []
  | n + 1, i, j => if n = 0 then (if i < j then [[j]] else []) else (List.range (j - i)).flatMap fun d => (dv n (i + 1 + d) j).map (List.cons (i + 1 + d))
/-- the next division: the last end that can move does, those behind follow at once -/
def nxk (n j : Nat) (e : Nat → Nat) : Nat → Option (Nat → Nat)
  | 0 => none
  | k + 1 => if e k + (n - 1 - k) < j then some (fun x => if x < k then e x else if x + 1 < n then e k + 1 + (x - k) else e x) else nxk n j e k
def nx (n j : Nat) (e : Nat → Nat) : Option (Nat → Nat) := nxk n j e (n - 1)
def lgd (l : List Nat) : Nat → Nat := fun k => l.getD k 0
def nxL (n j : Nat) (l : List Nat) : Option (List Nat) := (nx n j (lgd l)).map (fun e => (List.range n).map e)
def dvchk (n j : Nat) : List (List Nat) → Bool
  | [] => true
  | [l] => (nxL n j l).isNone
  | l :: l' :: r => (nxL n j l == some l') && dvchk n j (l' :: r)
/-- where the k-th piece begins -/
def bg (i : Nat) (l : List Nat) (k : Nat) : Nat := if k = 0 then i else lgd l (k - 1)
def dvok (n i j : Nat) (l : List Nat) : Bool := l.length == n && (List.range n).all (fun k => decide (bg i l k < lgd l k)) && (n == 0 || lgd l (n - 1) == j)
set_option maxRecDepth 100000 in
theorem dv_chk : ∀ n, n < 5 → ∀ j, j < 15 → ∀ i, i < 15 → dvchk n j (dv n i j) = true := by decide +kernel
set_option maxRecDepth 100000 in
theorem dv_ok0 : ∀ n, n < 5 → ∀ j, j < 15 → ∀ i, i < 15 → (dv n i j).all (dvok n i j) = true := by decide +kernel
set_option maxRecDepth 100000 in
theorem dv_len : ∀ n, n < 5 → ∀ j, j < 15 → ∀ i, i < 15 → (dv n i j).length ≤ 286 := by decide +kernel
def dvf (n i j : Nat) : Bool := if 1 ≤ n ∧ i + n ≤ j then (dv n i j)[0]? == some ((List.range n).map fun k => if k + 1 = n then j else i + k + 1) else true
set_option maxRecDepth 100000 in
theorem dv_first0 : ∀ n, n < 5 → ∀ j, j < 15 → ∀ i, i < 15 → dvf n i j = true := by decide +kernel
theorem dv_first {n i j : Nat} (hn : n < 5) (hj : j < 15) (hi : i < 15) (h1 : 1 ≤ n) (h2 : i + n ≤ j) : (dv n i j)[0]? = some ((List.range n).map fun k => if k + 1 = n then j else i + k + 1) := by
  have h := dv_first0 n hn j hj i hi
  unfold dvf at h
  rw [if_pos ⟨h1, h2⟩] at h
  exact eq_of_beq h
def dvn (n i j : Nat) : Bool := if i + n ≤ j then true else (dv n i j).isEmpty
set_option maxRecDepth 100000 in
theorem dv_none0 : ∀ n, n < 5 → ∀ j, j < 15 → ∀ i, i < 15 → dvn n i j = true := by decide +kernel
theorem dv_none {n i j : Nat} (hn : n < 5) (hj : j < 15) (hi : i < 15) (h : ¬ i + n ≤ j) : dv n i j = [] := by
  have h1 := dv_none0 n hn j hj i hi
  unfold dvn at h1
  rw [if_neg h] at h1
  exact List.isEmpty_iff.mp h1
theorem dvchk_get {n j : Nat} : ∀ {L : List (List Nat)}, dvchk n j L = true → ∀ {t : Nat} {l : List Nat}, L[t]? = some l → nxL n j l = L[t + 1]?
  | [], _, t, l, h => by simp at h
  | [a], hc, 0, l, h => by
    simp at h
    subst h
    simp [dvchk] at hc
    simp [hc]
  | [a], hc, t + 1, l, h => by simp at h
  | a :: b :: r, hc, 0, l, h => by
    simp at h
    subst h
    simp [dvchk] at hc
    simp [hc.1]
  | a :: b :: r, hc, t + 1, l, h => by
    simp [dvchk] at hc
    have := dvchk_get (L := b :: r) hc.2 (t := t) (l := l) (by simpa using h)
    simpa using this
theorem dv_next {n i j t : Nat} {l : List Nat} (hn : n < 5) (hj : j < 15) (hi : i < 15) (h : (dv n i j)[t]? = some l) : nxL n j l = (dv n i j)[t + 1]? := dvchk_get (dv_chk n hn j hj i hi) h
theorem dv_ok {n i j t : Nat} {l : List Nat} (hn : n < 5) (hj : j < 15) (hi : i < 15) (h : (dv n i j)[t]? = some l) : l.length = n ∧ (∀ k, k < n → bg i l k < lgd l k) ∧ (1 ≤ n → lgd l (n - 1) = j) := by
  have h1 := List.all_eq_true.mp (dv_ok0 n hn j hj i hi) l (List.mem_of_getElem? h)
  unfold dvok at h1
  simp only [Bool.and_eq_true, beq_iff_eq, List.all_eq_true, List.mem_range, decide_eq_true_eq, Bool.or_eq_true] at h1
  refine ⟨h1.1.1, h1.1.2, fun h2 => ?_⟩
  rcases h1.2 with h3 | h3
  · omega
  · exact h3
theorem dv_mono {n i j t : Nat} {l : List Nat} (hn : n < 5) (hj : j < 15) (hi : i < 15) (h : (dv n i j)[t]? = some l) : ∀ k, k < n → i + k < lgd l k ∧ lgd l k + (n - 1 - k) ≤ j := by
  obtain ⟨h1, h2, h3⟩ := dv_ok hn hj hi h
  have up : ∀ k, k < n → i + k < lgd l k := by
    intro k
    induction k with
    | zero => intro hk; have := h2 0 hk; simpa [bg] using this
    | succ k ih =>
      intro hk
      have a := ih (by omega)
      have b := h2 (k + 1) hk
      simp only [bg, Nat.add_sub_cancel] at b
      rw [if_neg (by omega)] at b
      omega
  have dn : ∀ d k, k + d + 1 = n → lgd l k + d ≤ j := by
    intro d
    induction d with
    | zero =>
      intro k hk
      have := h3 (by omega)
      rw [show n - 1 = k by omega] at this
      omega
    | succ d ih =>
      intro k hk
      have a := ih (k + 1) (by omega)
      have b := h2 (k + 1) (by omega)
      simp only [bg, Nat.add_sub_cancel] at b
      rw [if_neg (by omega)] at b
      omega
  intro k hk
  exact ⟨up k hk, by have := dn (n - 1 - k) k (by omega); omega⟩
end
section
/-! THE MATHEMATICS: a grammar, what a rule has over a span, and that the equations have one solution -/
abbrev GT : Type := Nat × (Nat → Nat) × (Nat → Nat) × (Nat → Nat) × (Nat → Nat → Nat) × (Nat → UInt64) × (Nat → Nat → Bool) × (Nat → Nat → Bool)
def gR (g : GT) : Nat := g.1
def gl (g : GT) : Nat → Nat := g.2.1
def gz (g : GT) : Nat → Nat := g.2.2.1
def gm (g : GT) : Nat → Nat := g.2.2.2.1
def gs (g : GT) : Nat → Nat → Nat := g.2.2.2.2.1
def gw (g : GT) : Nat → UInt64 := g.2.2.2.2.2.1
def gb (g : GT) : Nat → Nat → Bool := g.2.2.2.2.2.2.1
def gf (g : GT) : Nat → Nat → Bool := g.2.2.2.2.2.2.2
/-- the nonterminal that a character names -/
def nt (c : Nat) : Option Nat := if 65 ≤ c ∧ c ≤ 70 then some (c - 65) else none
def stands (c x : Nat) : Bool := if c = 35 then decide (48 ≤ x ∧ x ≤ 57) else if c = 64 then decide (97 ≤ x ∧ x ≤ 122) else decide (c = x)
/-- may rule s stand under r as its k-th symbol -/
def alw (g : GT) (r k s : Nat) : Bool := !(gb g r s) && !(decide (r = s) && (decide (gm g r = 2 ∧ k + 1 = gz g r) || decide (gm g r = 3 ∧ k = 0)))
def MX : Nat := 1000000000
def dgt (x y : UInt64) : Bool := match FP.dcmp x y with
  | some .gt => true
  | _ => false
def inN (g : GT) (n : Nat) (sel : Nat → Bool) (s : Nat) : Bool := decide (gl g s = n) && decide (gm g s ≠ 1) && sel s
def cn (g : GT) (n : Nat) (sel : Nat → Bool) (w : Nat → Nat) : Nat → Nat
  | 0 => 0
  | s + 1 => if inN g n sel s = true then min MX (cn g n sel w s + w s) else cn g n sel w s
def tp (g : GT) (n : Nat) (sel : Nat → Bool) (w : Nat → Nat) (h : Nat → UInt64) : Nat → Option Nat
  | 0 => none
  | s + 1 => if inN g n sel s = true ∧ w s ≠ 0 then (match tp g n sel w h s with
    | none => some s
    | some b => if dgt (h s) (h b) = true then some s else some b) else tp g n sel w h s
/-- no rejecting rule of n has one -/
def nrej (g : GT) (n : Nat) (w : Nat → Nat) : Nat → Bool
  | 0 => true
  | s + 1 => nrej g n w s && !(decide (gl g s = n ∧ gm g s = 1 ∧ w s ≠ 0))
def gd (g : GT) (N : Nat) (ch : Nat → Nat) (n j : Nat) (w : Nat → Nat) : Bool := nrej g n w (gR g) && (decide (j = N) || !(gf g n (ch j)))
/-- how many the k-th symbol of r has from a to b -/
def syv (g : GT) (N : Nat) (ch : Nat → Nat) (w : Nat → Nat → Nat → Nat) (r k a b : Nat) : Nat := match nt (gs g r k) with
  | none => if b = a + 1 ∧ stands (gs g r k) (ch a) = true then 1 else 0
  | some n => if gd g N ch n b (fun s => w s a b) = true then cn g n (alw g r k) (fun s => w s a b) (gR g) else 0
/-- the rule by which it is derived there at its heaviest -/
def tpv (g : GT) (w : Nat → Nat → Nat → Nat) (h : Nat → Nat → Nat → UInt64) (r k a b : Nat) : Option Nat := match nt (gs g r k) with
  | none => none
  | some n => tp g n (alw g r k) (fun s => w s a b) (fun s => h s a b) (gR g)
def wtv (g : GT) (w : Nat → Nat → Nat → Nat) (h : Nat → Nat → Nat → UInt64) (r k a b : Nat) : Option UInt64 := (tpv g w h r k a b).map (fun s => h s a b)
/-- the product of the first k pieces' numbers -/
def pw (sym : Nat → Nat → Nat → Nat) (i : Nat) (l : List Nat) : Nat → Nat
  | 0 => 1
  | k + 1 => min MX (pw sym i l k * sym k (bg i l k) (lgd l k))
def fw (w0 : UInt64) (f : Nat → Nat → Nat → Option UInt64) (i : Nat) (l : List Nat) : Nat → UInt64
  | 0 => w0
  | k + 1 => match f k (bg i l k) (lgd l k) with
    | none => fw w0 f i l k
    | some x => FP.dmul (fw w0 f i l k) x
def aw (sym : Nat → Nat → Nat → Nat) (n i : Nat) (L : List (List Nat)) : Nat → Nat
  | 0 => 0
  | t + 1 => min MX (aw sym n i L t + pw sym i (L.getD t []) n)
def bs (sym : Nat → Nat → Nat → Nat) (fwt : List Nat → UInt64) (n i : Nat) (L : List (List Nat)) : Nat → Option Nat
  | 0 => none
  | t + 1 => if pw sym i (L.getD t []) n = 0 then bs sym fwt n i L t else (match bs sym fwt n i L t with
    | none => some t
    | some b => if dgt (fwt (L.getD t [])) (fwt (L.getD b [])) = true then some t else some b)
def FW (g : GT) (w : Nat → Nat → Nat → Nat) (h : Nat → Nat → Nat → UInt64) (r i : Nat) (l : List Nat) : UInt64 := fw (gw g r) (wtv g w h r) i l (gz g r)
def WAYS (g : GT) (N : Nat) (ch : Nat → Nat) (w : Nat → Nat → Nat → Nat) (r i j : Nat) : Nat := aw (syv g N ch w r) (gz g r) i (dv (gz g r) i j) (dv (gz g r) i j).length
def BEST (g : GT) (N : Nat) (ch : Nat → Nat) (w : Nat → Nat → Nat → Nat) (h : Nat → Nat → Nat → UInt64) (r i j : Nat) : Option Nat := bs (syv g N ch w r) (FW g w h r i) (gz g r) i (dv (gz g r) i j) (dv (gz g r) i j).length
def HEAVY (g : GT) (N : Nat) (ch : Nat → Nat) (w : Nat → Nat → Nat → Nat) (h : Nat → Nat → Nat → UInt64) (r i j : Nat) : UInt64 := match BEST g N ch w h r i j with
  | none => 0
  | some b => FW g w h r i ((dv (gz g r) i j).getD b [])
def Sol (g : GT) (N : Nat) (ch : Nat → Nat) (w : Nat → Nat → Nat → Nat) (h : Nat → Nat → Nat → UInt64) : Prop := ∀ r, r < gR g → ∀ i j, i < j → j ≤ N → w r i j = WAYS g N ch w r i j ∧ h r i j = HEAVY g N ch w h r i j
/-- the heights of the nonterminals: chains lead down -/
def Hts (g : GT) (ht : Nat → Nat) : Prop := (∀ n, ht n ≤ 5) ∧ ∀ r, r < gR g → gz g r = 1 → ∀ c, nt (gs g r 0) = some c → ht c < ht (gl g r)
def GOk (g : GT) : Prop := gR g ≤ 16 ∧ ∀ r, r < gR g → gl g r < 6 ∧ 1 ≤ gz g r ∧ gz g r ≤ 4 ∧ gm g r ≤ 3 ∧ (∃ L : Int, fp_E (gw g r) L ∧ -3 ≤ L ∧ L ≤ 3) ∧ ∀ k, k < gz g r → 33 ≤ gs g r k ∧ gs g r k ≤ 126
-- congruences
theorem cn_congr {g : GT} {n : Nat} {sel : Nat → Bool} {w w' : Nat → Nat} : ∀ m, (∀ s, s < m → gl g s = n → w s = w' s) → cn g n sel w m = cn g n sel w' m
  | 0, _ => rfl
  | m + 1, h => by
    have ih := cn_congr (sel := sel) m (fun s hs => h s (by omega))
    simp only [cn]
    by_cases hc : inN g n sel m = true
    · rw [if_pos hc, if_pos hc, ih, h m (by omega) (by simp only [inN, Bool.and_eq_true, decide_eq_true_eq] at hc; exact hc.1.1)]
    · rw [if_neg hc, if_neg hc, ih]
theorem tp_congr {g : GT} {n : Nat} {sel : Nat → Bool} {w w' : Nat → Nat} {h h' : Nat → UInt64} : ∀ m, (∀ s, s < m → gl g s = n → w s = w' s ∧ h s = h' s) → tp g n sel w h m = tp g n sel w' h' m ∧ ∀ b, tp g n sel w h m = some b → b < m ∧ gl g b = n ∧ w b ≠ 0
  | 0, _ => ⟨rfl, fun b hb => by cases hb⟩
  | m + 1, hh => by
    obtain ⟨ih, ib⟩ := tp_congr (sel := sel) m (fun s hs => hh s (by omega))
    simp only [tp]
    by_cases hc : inN g n sel m = true ∧ w m ≠ 0
    · have hn : gl g m = n := by
        have := hc.1
        simp only [inN, Bool.and_eq_true, decide_eq_true_eq] at this
        exact this.1.1
      obtain ⟨e1, e2⟩ := hh m (by omega) hn
      rw [if_pos hc, if_pos (by rw [← e1]; exact hc), ← ih]
      cases ht : tp g n sel w h m with
      | none => exact ⟨rfl, fun b hb => by cases hb; exact ⟨by omega, hn, hc.2⟩⟩
      | some b0 =>
        obtain ⟨q1, q2, q3⟩ := ib b0 ht
        dsimp only
        rw [← e2, ← (hh b0 (by omega) q2).2]
        refine ⟨rfl, fun b hb => ?_⟩
        split at hb
        · cases hb; exact ⟨by omega, hn, hc.2⟩
        · cases hb; exact ⟨by omega, q2, q3⟩
    · rw [if_neg hc]
      refine ⟨?_, fun b hb => ?_⟩
      · by_cases hn : gl g m = n
        · rw [if_neg (by rw [← (hh m (by omega) hn).1]; exact hc), ih]
        · rw [if_neg (fun q => hn (by have := q.1; simp only [inN, Bool.and_eq_true, decide_eq_true_eq] at this; exact this.1.1)), ih]
      · obtain ⟨q1, q2, q3⟩ := ib b hb
        exact ⟨by omega, q2, q3⟩
theorem tp_some {g : GT} {n : Nat} {sel : Nat → Bool} {w : Nat → Nat} {h : Nat → UInt64} {m b : Nat} (hb : tp g n sel w h m = some b) : b < m ∧ gl g b = n ∧ w b ≠ 0 := (tp_congr (w := w) (w' := w) (h := h) (h' := h) m (fun _ _ _ => ⟨rfl, rfl⟩)).2 b hb
theorem tp_none {g : GT} {n : Nat} {sel : Nat → Bool} {w : Nat → Nat} {h : Nat → UInt64} : ∀ m, tp g n sel w h m = none → cn g n sel w m = 0
  | 0, _ => rfl
  | m + 1, hz => by
    simp only [tp] at hz
    simp only [cn]
    by_cases hc : inN g n sel m = true ∧ w m ≠ 0
    · rw [if_pos hc] at hz
      split at hz
      · cases hz
      · split at hz <;> cases hz
    · rw [if_neg hc] at hz
      have ih := tp_none m hz
      by_cases hi : inN g n sel m = true
      · rw [if_pos hi, ih]
        have : w m = 0 := by
          rcases Nat.eq_zero_or_pos (w m) with q | q
          · exact q
          · exact absurd ⟨hi, by omega⟩ hc
        rw [this]
        rfl
      · rw [if_neg hi, ih]
theorem nrej_congr {g : GT} {n : Nat} {w w' : Nat → Nat} : ∀ m, (∀ s, s < m → gl g s = n → w s = w' s) → nrej g n w m = nrej g n w' m
  | 0, _ => rfl
  | m + 1, h => by
    simp only [nrej]
    rw [nrej_congr m (fun s hs => h s (by omega))]
    by_cases hn : gl g m = n
    · rw [h m (by omega) hn]
    · have e1 : decide (gl g m = n ∧ gm g m = 1 ∧ w m ≠ 0) = false := by simp [hn]
      have e2 : decide (gl g m = n ∧ gm g m = 1 ∧ w' m ≠ 0) = false := by simp [hn]
      rw [e1, e2]
theorem gd_congr {g : GT} {N : Nat} {ch : Nat → Nat} {n j : Nat} {w w' : Nat → Nat} (h : ∀ s, s < gR g → gl g s = n → w s = w' s) : gd g N ch n j w = gd g N ch n j w' := by
  unfold gd
  rw [nrej_congr _ h]
theorem syv_congr {g : GT} {N : Nat} {ch : Nat → Nat} {w w' : Nat → Nat → Nat → Nat} {r k a b : Nat} (h : ∀ n, nt (gs g r k) = some n → ∀ s, s < gR g → gl g s = n → w s a b = w' s a b) : syv g N ch w r k a b = syv g N ch w' r k a b := by
  unfold syv
  cases hn : nt (gs g r k) with
  | none => rfl
  | some n =>
    dsimp only
    rw [gd_congr (h n hn), cn_congr _ (h n hn)]
theorem wtv_congr {g : GT} {w w' : Nat → Nat → Nat → Nat} {h h' : Nat → Nat → Nat → UInt64} {r k a b : Nat} (hh : ∀ n, nt (gs g r k) = some n → ∀ s, s < gR g → gl g s = n → w s a b = w' s a b ∧ h s a b = h' s a b) : wtv g w h r k a b = wtv g w' h' r k a b ∧ tpv g w h r k a b = tpv g w' h' r k a b := by
  unfold wtv tpv
  cases hn : nt (gs g r k) with
  | none => exact ⟨rfl, rfl⟩
  | some n =>
    dsimp only
    obtain ⟨e, eb⟩ := tp_congr (sel := alw g r k) (w := fun s => w s a b) (w' := fun s => w' s a b) (h := fun s => h s a b) (h' := fun s => h' s a b) (gR g) (fun s hs hg => hh n hn s hs hg)
    rw [← e]
    refine ⟨?_, rfl⟩
    cases ht : tp g n (alw g r k) (fun s => w s a b) (fun s => h s a b) (gR g) with
    | none => rfl
    | some s0 =>
      obtain ⟨q1, q2, -⟩ := eb s0 ht
      show some (h s0 a b) = some (h' s0 a b)
      rw [(hh n hn s0 q1 q2).2]
theorem pw_congr {sym sym' : Nat → Nat → Nat → Nat} {i : Nat} {l : List Nat} : ∀ m, (∀ k, k < m → sym k (bg i l k) (lgd l k) = sym' k (bg i l k) (lgd l k)) → pw sym i l m = pw sym' i l m
  | 0, _ => rfl
  | m + 1, h => by
    simp only [pw]
    rw [pw_congr m (fun k hk => h k (by omega)), h m (by omega)]
theorem fw_congr {w0 : UInt64} {f f' : Nat → Nat → Nat → Option UInt64} {i : Nat} {l : List Nat} : ∀ m, (∀ k, k < m → f k (bg i l k) (lgd l k) = f' k (bg i l k) (lgd l k)) → fw w0 f i l m = fw w0 f' i l m
  | 0, _ => rfl
  | m + 1, h => by
    simp only [fw]
    rw [fw_congr m (fun k hk => h k (by omega)), h m (by omega)]
theorem aw_congr {sym sym' : Nat → Nat → Nat → Nat} {n i : Nat} {L : List (List Nat)} : ∀ m, (∀ t, t < m → pw sym i (L.getD t []) n = pw sym' i (L.getD t []) n) → aw sym n i L m = aw sym' n i L m
  | 0, _ => rfl
  | m + 1, h => by
    simp only [aw]
    rw [aw_congr m (fun t ht => h t (by omega)), h m (by omega)]
theorem bs_lt {sym : Nat → Nat → Nat → Nat} {fwt : List Nat → UInt64} {n i : Nat} {L : List (List Nat)} : ∀ m b, bs sym fwt n i L m = some b → b < m ∧ pw sym i (L.getD b []) n ≠ 0
  | 0, b, h => by cases h
  | m + 1, b, h => by
    simp only [bs] at h
    split at h
    · have := bs_lt m b h
      exact ⟨by omega, this.2⟩
    · rename_i hp
      split at h
      · cases h; exact ⟨by omega, hp⟩
      · rename_i b0 hb0
        have := bs_lt m b0 hb0
        split at h
        · cases h; exact ⟨by omega, hp⟩
        · cases h; exact ⟨by omega, this.2⟩
theorem bs_congr {sym sym' : Nat → Nat → Nat → Nat} {fwt fwt' : List Nat → UInt64} {n i : Nat} {L : List (List Nat)} : ∀ m, (∀ t, t < m → pw sym i (L.getD t []) n = pw sym' i (L.getD t []) n ∧ (pw sym i (L.getD t []) n ≠ 0 → fwt (L.getD t []) = fwt' (L.getD t []))) → bs sym fwt n i L m = bs sym' fwt' n i L m
  | 0, _ => rfl
  | m + 1, h => by
    have ih := bs_congr m (fun t ht => h t (by omega))
    obtain ⟨e1, e2⟩ := h m (by omega)
    simp only [bs]
    by_cases hp : pw sym i (L.getD m []) n = 0
    · rw [if_pos hp, if_pos (by rw [← e1]; exact hp), ih]
    · rw [if_neg hp, if_neg (by rw [← e1]; exact hp), ih, ← e2 hp]
      cases hb : bs sym' fwt' n i L m with
      | none => rfl
      | some b =>
        have q := bs_lt m b (ih.trans hb)
        dsimp only
        rw [(h b (by omega)).2 q.2]
theorem bs_none {sym : Nat → Nat → Nat → Nat} {fwt : List Nat → UInt64} {n i : Nat} {L : List (List Nat)} : ∀ m, bs sym fwt n i L m = none ↔ aw sym n i L m = 0
  | 0 => by simp [bs, aw]
  | m + 1 => by
    have ih := bs_none (sym := sym) (fwt := fwt) (n := n) (i := i) (L := L) m
    simp only [bs, aw]
    by_cases hp : pw sym i (L.getD m []) n = 0
    · rw [if_pos hp, hp, Nat.add_zero, ih]
      constructor
      · intro h; rw [h]; rfl
      · intro h; simp only [MX] at h; omega
    · rw [if_neg hp]
      constructor
      · intro h
        split at h
        · cases h
        · split at h <;> cases h
      · intro h; simp only [MX] at h; omega
theorem gt_of {L : List (List Nat)} {t : Nat} (h : t < L.length) : L[t]? = some (L.getD t []) := by
  simp [List.getD, List.getElem?_eq_getElem h]
theorem piece {n i j t k : Nat} (hn : n < 5) (hj : j < 15) (hi : i < 15) (ht : t < (dv n i j).length) (hk : k < n) : i ≤ bg i ((dv n i j).getD t []) k ∧ bg i ((dv n i j).getD t []) k < lgd ((dv n i j).getD t []) k ∧ lgd ((dv n i j).getD t []) k ≤ j ∧ (lgd ((dv n i j).getD t []) k - bg i ((dv n i j).getD t []) k < j - i ∨ (n = 1 ∧ bg i ((dv n i j).getD t []) k = i ∧ lgd ((dv n i j).getD t []) k = j)) := by
  have h := gt_of ht
  generalize (dv n i j).getD t [] = l at h ⊢
  obtain ⟨h1, h2, h3⟩ := dv_ok hn hj hi h
  have h4 := dv_mono hn hj hi h
  have a := h2 k hk
  have b := h4 k hk
  have e : i + k ≤ bg i l k := by
    unfold bg
    split
    · omega
    · have := (h4 (k - 1) (by omega)).1
      omega
  refine ⟨by omega, a, by omega, ?_⟩
  by_cases hn1 : n = 1
  · right
    subst hn1
    have hk0 : k = 0 := by omega
    subst hk0
    exact ⟨rfl, rfl, h3 (by omega)⟩
  · left
    omega
/-- two charts agree on what rule r needs over the span from i to j -/
def Agr (g : GT) (w w' : Nat → Nat → Nat → Nat) (h h' : Nat → Nat → Nat → UInt64) (r i j : Nat) : Prop := ∀ k, k < gz g r → ∀ a b, i ≤ a → a < b → b ≤ j → (b - a < j - i ∨ (gz g r = 1 ∧ a = i ∧ b = j)) → ∀ c, nt (gs g r k) = some c → ∀ s, s < gR g → gl g s = c → w s a b = w' s a b ∧ h s a b = h' s a b
theorem eqs_congr {g : GT} {N : Nat} {ch : Nat → Nat} {w w' : Nat → Nat → Nat → Nat} {h h' : Nat → Nat → Nat → UInt64} {r i j : Nat} (hz : gz g r < 5) (hj : j < 15) (hi : i < 15) (A : Agr g w w' h h' r i j) : WAYS g N ch w r i j = WAYS g N ch w' r i j ∧ BEST g N ch w h r i j = BEST g N ch w' h' r i j ∧ HEAVY g N ch w h r i j = HEAVY g N ch w' h' r i j := by
  have hp : ∀ t, t < (dv (gz g r) i j).length → pw (syv g N ch w r) i ((dv (gz g r) i j).getD t []) (gz g r) = pw (syv g N ch w' r) i ((dv (gz g r) i j).getD t []) (gz g r) := by
    intro t ht
    refine pw_congr _ (fun k hk => ?_)
    obtain ⟨p1, p2, p3, p4⟩ := piece hz hj hi ht hk
    exact syv_congr (fun n hn s hs hg => (A k hk _ _ p1 p2 p3 p4 n hn s hs hg).1)
  have hf : ∀ t, t < (dv (gz g r) i j).length → FW g w h r i ((dv (gz g r) i j).getD t []) = FW g w' h' r i ((dv (gz g r) i j).getD t []) := by
    intro t ht
    refine fw_congr _ (fun k hk => ?_)
    obtain ⟨p1, p2, p3, p4⟩ := piece hz hj hi ht hk
    exact (wtv_congr (fun n hn s hs hg => A k hk _ _ p1 p2 p3 p4 n hn s hs hg)).1
  have e1 : WAYS g N ch w r i j = WAYS g N ch w' r i j := aw_congr _ hp
  have e2 : BEST g N ch w h r i j = BEST g N ch w' h' r i j := bs_congr _ (fun t ht => ⟨hp t ht, fun _ => hf t ht⟩)
  refine ⟨e1, e2, ?_⟩
  unfold HEAVY
  rw [← e2]
  cases hb : BEST g N ch w h r i j with
  | none => rfl
  | some b => exact hf b (bs_lt _ b hb).1
/-- the solution: what is over a span rests on shorter spans, and over the same one on lower nonterminals -/
def val (g : GT) (N : Nat) (ch : Nat → Nat) : Nat → Nat → Nat → Nat → Nat × UInt64
  | 0 => fun _ _ _ => (0, 0)
  | f + 1 => fun r i j => (WAYS g N ch (fun r i j => (val g N ch f r i j).1) r i j, HEAVY g N ch (fun r i j => (val g N ch f r i j).1) (fun r i j => (val g N ch f r i j).2) r i j)
def sW (g : GT) (N : Nat) (ch : Nat → Nat) (r i j : Nat) : Nat := (val g N ch 100 r i j).1
def sH (g : GT) (N : Nat) (ch : Nat → Nat) (r i j : Nat) : UInt64 := (val g N ch 100 r i j).2
theorem val_stable {g : GT} {N : Nat} {ch : Nat → Nat} {ht : Nat → Nat} (G : GOk g) (T : Hts g ht) : ∀ f r i j, r < gR g → i < j → j < 15 → 6 * (j - i - 1) + ht (gl g r) + 1 ≤ f → val g N ch f r i j = val g N ch (f + 1) r i j := by
  intro f
  induction f with
  | zero => intro r i j _ _ _ h; omega
  | succ f ih =>
    intro r i j hr hij hj hf
    have hz := G.2 r hr
    have A : Agr g (fun r i j => (val g N ch f r i j).1) (fun r i j => (val g N ch (f + 1) r i j).1) (fun r i j => (val g N ch f r i j).2) (fun r i j => (val g N ch (f + 1) r i j).2) r i j := by
      intro k hk a b h1 h2 h3 h4 c hc s hs hgs
      have e : val g N ch f s a b = val g N ch (f + 1) s a b := by
        refine ih s a b hs h2 (by omega) ?_
        have t1 := T.1 (gl g s)
        rcases h4 with h4 | ⟨h4, h5, h6⟩
        · omega
        · have hk0 : k = 0 := by omega
          subst hk0
          have := T.2 r hr h4 c hc
          rw [hgs]
          subst h5; subst h6
          omega
      dsimp only
      rw [e]
      exact ⟨rfl, rfl⟩
    obtain ⟨e1, -, e3⟩ := eqs_congr (N := N) (ch := ch) (by omega) hj (by omega) A
    show (_, _) = (_, _)
    rw [e1, e3]
theorem sol_ok {g : GT} {N : Nat} {ch : Nat → Nat} {ht : Nat → Nat} (G : GOk g) (T : Hts g ht) {r i j : Nat} (hr : r < gR g) (hij : i < j) (hj : j < 15) : sW g N ch r i j = WAYS g N ch (sW g N ch) r i j ∧ sH g N ch r i j = HEAVY g N ch (sW g N ch) (sH g N ch) r i j := by
  have h := val_stable (N := N) (ch := ch) G T 100 r i j hr hij hj (by have := T.1 (gl g r); omega)
  unfold sW sH
  constructor
  · exact congrArg Prod.fst h
  · exact congrArg Prod.snd h
/-! WEIGHTS: positive, of bounded exponent -/
/-- how many nodes a tree of rule r over a span can have at most -/
def phi (g : GT) (ht : Nat → Nat) (r i j : Nat) : Nat := 12 * (j - i) - 11 + ht (gl g r)
def fpb (x : UInt64) (m : Nat) : Prop := ∃ L : Int, fp_E x L ∧ 2 - 5 * (m : Int) ≤ L ∧ L ≤ 5 * (m : Int) - 2
/-- what is there is positive, of bounded exponent -/
def Pos (g : GT) (ht : Nat → Nat) (w : Nat → Nat → Nat → Nat) (h : Nat → Nat → Nat → UInt64) (r i j : Nat) : Prop := w r i j ≠ 0 → fpb (h r i j) (phi g ht r i j)
/-- the sum of what the first k pieces can have -/
def psum (f : Nat → Nat → Nat → Nat) (i : Nat) (l : List Nat) : Nat → Nat
  | 0 => 0
  | k + 1 => psum f i l k + f k (bg i l k) (lgd l k)
theorem fw_pos {w0 : UInt64} {f : Nat → Nat → Nat → Option UInt64} {ph : Nat → Nat → Nat → Nat} {i : Nat} {l : List Nat} (h0 : ∃ L : Int, fp_E w0 L ∧ -3 ≤ L ∧ L ≤ 3) : ∀ m, (∀ k, k < m → (∀ x, f k (bg i l k) (lgd l k) = some x → fpb x (ph k (bg i l k) (lgd l k)))) → psum ph i l m ≤ 163 → ∃ L : Int, fp_E (fw w0 f i l m) L ∧ -3 - 5 * (psum ph i l m : Int) ≤ L ∧ L ≤ 3 + 5 * (psum ph i l m : Int)
  | 0, _, _ => by
    obtain ⟨L, h1, h2, h3⟩ := h0
    exact ⟨L, h1, by simp only [psum]; omega, by simp only [psum]; omega⟩
  | m + 1, hf, hs => by
    simp only [psum] at hs ⊢
    obtain ⟨L, h1, h2, h3⟩ := fw_pos h0 m (fun k hk => hf k (by omega)) (by omega)
    simp only [fw]
    cases hx : f m (bg i l m) (lgd l m) with
    | none => exact ⟨L, h1, by omega, by omega⟩
    | some x =>
      obtain ⟨L2, g1, g2, g3⟩ := hf m (by omega) x hx
      obtain ⟨L3, k1, k2, k3⟩ := fp_mul h1 g1 (by omega) (by omega)
      exact ⟨L3, k1, by omega, by omega⟩
theorem psum_le {f : Nat → Nat → Nat → Nat} {i : Nat} {l : List Nat} (hb : ∀ k, bg i l (k + 1) = lgd l k) : ∀ m, (∀ k, k < m + 1 → i ≤ bg i l k ∧ bg i l k < lgd l k ∧ f k (bg i l k) (lgd l k) + 6 ≤ 12 * (lgd l k - bg i l k)) → psum f i l (m + 1) + 6 * (m + 1) ≤ 12 * (lgd l m - i)
  | 0, h => by
    have h0 := h 0 (by omega)
    simp only [psum]
    simp only [bg, if_true] at h0 ⊢
    omega
  | m + 1, h => by
    have ih := psum_le hb m (fun k hk => h k (by omega))
    have h1 := h (m + 1) (by omega)
    have h2 := h m (by omega)
    rw [psum]
    rw [hb m] at h1 ⊢
    omega
theorem bg_succ (i : Nat) (l : List Nat) (k : Nat) : bg i l (k + 1) = lgd l k := by
  unfold bg
  rw [if_neg (by omega), Nat.add_sub_cancel]
/-- what a piece can have: a nonterminal's nodes -/
def ppc (g : GT) (ht : Nat → Nat) (r k a b : Nat) : Nat := match nt (gs g r k) with
  | none => 0
  | some c => 12 * (b - a) - 11 + ht c
/-- the charts' values are positive where rule r needs them over the span from i to j -/
def PosA (g : GT) (ht : Nat → Nat) (w : Nat → Nat → Nat → Nat) (h : Nat → Nat → Nat → UInt64) (r i j : Nat) : Prop := ∀ k, k < gz g r → ∀ a b, i ≤ a → a < b → b ≤ j → (b - a < j - i ∨ (gz g r = 1 ∧ a = i ∧ b = j)) → ∀ c, nt (gs g r k) = some c → ∀ s, s < gR g → gl g s = c → Pos g ht w h s a b
theorem psum_phi {g : GT} {ht : Nat → Nat} (G : GOk g) (T : Hts g ht) {r i j t : Nat} (hr : r < gR g) (hij : i < j) (hj : j < 15) (htt : t < (dv (gz g r) i j).length) : psum (ppc g ht r) i ((dv (gz g r) i j).getD t []) (gz g r) + 1 ≤ phi g ht r i j := by
  obtain ⟨g1, g2, g3, -⟩ := G.2 r hr
  have hpc := fun k (hk : k < gz g r) => piece (by omega) hj (by omega) htt hk
  have hok := dv_ok (by omega) hj (by omega) (gt_of htt)
  generalize (dv (gz g r) i j).getD t [] = l at hpc hok ⊢
  unfold phi
  by_cases h1 : gz g r = 1
  · rw [h1]
    obtain ⟨p1, p2, p3, p4⟩ := hpc 0 (by omega)
    simp only [psum, ppc, Nat.zero_add]
    have hl : lgd l 0 = j := by
      have := hok.2.2 (by omega)
      rw [h1] at this
      exact this
    have hb : bg i l 0 = i := rfl
    cases hc : nt (gs g r 0) with
    | none => dsimp only; omega
    | some c =>
      have := T.2 r hr h1 c hc
      dsimp only
      rw [hl, hb]
      omega
  · have hm : gz g r = (gz g r - 1) + 1 := by omega
    have := psum_le (f := ppc g ht r) (bg_succ i l) (gz g r - 1) (fun k hk => by
      obtain ⟨p1, p2, p3, p4⟩ := hpc k (by omega)
      refine ⟨p1, p2, ?_⟩
      unfold ppc
      split
      · omega
      · rename_i c hc
        have := T.1 c
        omega)
    rw [← hm] at this
    have hl := hok.2.2 (by omega)
    rw [hl] at this
    omega
theorem FW_pos {g : GT} {ht : Nat → Nat} (G : GOk g) (T : Hts g ht) {w : Nat → Nat → Nat → Nat} {h : Nat → Nat → Nat → UInt64} {r i j t : Nat} (hr : r < gR g) (hij : i < j) (hj : j < 15) (htt : t < (dv (gz g r) i j).length) (P : PosA g ht w h r i j) : fpb (FW g w h r i ((dv (gz g r) i j).getD t [])) (phi g ht r i j) ∧ ∀ m, m ≤ gz g r → ∃ L : Int, fp_E (fw (gw g r) (wtv g w h r) i ((dv (gz g r) i j).getD t []) m) L ∧ -900 ≤ L ∧ L ≤ 900 := by
  obtain ⟨g1, g2, g3, g4, g5, g6⟩ := G.2 r hr
  have hs := psum_phi G T hr hij hj htt
  have hph : phi g ht r i j ≤ 162 := by
    unfold phi
    have := T.1 (gl g r)
    omega
  have hf : ∀ k, k < gz g r → ∀ x, wtv g w h r k (bg i ((dv (gz g r) i j).getD t []) k) (lgd ((dv (gz g r) i j).getD t []) k) = some x → fpb x (ppc g ht r k (bg i ((dv (gz g r) i j).getD t []) k) (lgd ((dv (gz g r) i j).getD t []) k)) := by
    intro k hk x hx
    obtain ⟨p1, p2, p3, p4⟩ := piece (by omega) hj (by omega) htt hk
    unfold wtv tpv at hx
    unfold ppc
    cases hc : nt (gs g r k) with
    | none => rw [hc] at hx; cases hx
    | some c =>
      rw [hc] at hx
      dsimp only at hx ⊢
      cases hq : tp g c (alw g r k) (fun s => w s (bg i ((dv (gz g r) i j).getD t []) k) (lgd ((dv (gz g r) i j).getD t []) k)) (fun s => h s (bg i ((dv (gz g r) i j).getD t []) k) (lgd ((dv (gz g r) i j).getD t []) k)) (gR g) with
      | none => rw [hq] at hx; cases hx
      | some s =>
        rw [hq] at hx
        cases hx
        obtain ⟨q1, q2, q3⟩ := tp_some hq
        have := P k hk _ _ p1 p2 p3 p4 c hc s q1 q2 q3
        unfold phi at this
        rw [q2] at this
        exact this
  have mono : ∀ m d, psum (ppc g ht r) i ((dv (gz g r) i j).getD t []) m ≤ psum (ppc g ht r) i ((dv (gz g r) i j).getD t []) (m + d) := by
    intro m d
    induction d with
    | zero => exact Nat.le_refl _
    | succ d ih => exact Nat.le_trans ih (by rw [← Nat.add_assoc, psum]; omega)
  refine ⟨?_, fun m hm => ?_⟩
  · obtain ⟨L, e1, e2, e3⟩ := fw_pos (ph := ppc g ht r) g5 (gz g r) hf (by omega)
    exact ⟨L, e1, by omega, by omega⟩
  · have := mono m (gz g r - m)
    rw [show m + (gz g r - m) = gz g r by omega] at this
    obtain ⟨L, e1, e2, e3⟩ := fw_pos (ph := ppc g ht r) g5 m (fun k hk => hf k (by omega)) (by omega)
    exact ⟨L, e1, by omega, by omega⟩
theorem HEAVY_pos {g : GT} {ht : Nat → Nat} (G : GOk g) (T : Hts g ht) {N : Nat} {ch : Nat → Nat} {w : Nat → Nat → Nat → Nat} {h : Nat → Nat → Nat → UInt64} {r i j : Nat} (hr : r < gR g) (hij : i < j) (hj : j < 15) (P : PosA g ht w h r i j) (hw : WAYS g N ch w r i j ≠ 0) : fpb (HEAVY g N ch w h r i j) (phi g ht r i j) := by
  unfold HEAVY
  cases hb : BEST g N ch w h r i j with
  | none => exact absurd ((bs_none _).mp hb) hw
  | some b => exact (FW_pos G T hr hij hj (bs_lt _ b hb).1 P).1
theorem fpb_gt {x : UInt64} {m : Nat} (h : fpb x m) : dgt x 0 = true := by
  obtain ⟨L, h1, -⟩ := h
  unfold dgt
  rw [fp_pos h1]
theorem sol_pos {g : GT} {N : Nat} {ch : Nat → Nat} {ht : Nat → Nat} (G : GOk g) (T : Hts g ht) : ∀ d t, ∀ r, r < gR g → ∀ i j, i < j → j < 15 → j - i < d ∨ (j - i = d ∧ ht (gl g r) < t) → Pos g ht (sW g N ch) (sH g N ch) r i j := by
  intro d
  induction d with
  | zero =>
    intro t r hr i j hij hjN hh
    omega
  | succ d ihd =>
    intro t
    induction t with
    | zero =>
      intro r hr i j hij hj hh
      rcases hh with hh | hh
      · rcases Nat.lt_or_ge (j - i) d with q | q
        · exact ihd 0 r hr i j hij hj (Or.inl q)
        · exact ihd 6 r hr i j hij hj (Or.inr ⟨by omega, by have := T.1 (gl g r); omega⟩)
      · omega
    | succ t iht =>
      intro r hr i j hij hj hh
      rcases hh with hh | ⟨hd, htt⟩
      · exact iht r hr i j hij hj (Or.inl hh)
      · intro hw
        obtain ⟨e1, e2⟩ := sol_ok (N := N) (ch := ch) G T hr hij hj
        rw [e2]
        refine HEAVY_pos G T hr hij hj ?_ (by rw [← e1]; exact hw)
        intro k hk a b h1 h2 h3 h4 c hc s hs hgs
        rcases h4 with h4 | ⟨h4, h5, h6⟩
        · exact iht s hs a b h2 (by omega) (Or.inl (by omega))
        · have hk0 : k = 0 := by omega
          subst hk0
          have := T.2 r hr h4 c hc
          subst h5; subst h6
          exact iht s hs a b h2 (by omega) (Or.inr ⟨hd, by rw [hgs]; omega⟩)
theorem sol_posA {g : GT} {N : Nat} {ch : Nat → Nat} {ht : Nat → Nat} (G : GOk g) (T : Hts g ht) {r i j : Nat} (hr : r < gR g) (hij : i < j) (hj : j < 15) : Pos g ht (sW g N ch) (sH g N ch) r i j := sol_pos G T (j - i) 6 r hr i j hij hj (Or.inr ⟨rfl, by have := T.1 (gl g r); omega⟩)
end
section
/-! CHAINS: what is reached by them, as masks; heights out of it -/
/-- the nonterminal that a chain leads to -/
def chn (g : GT) (r : Nat) : Option Nat := if gz g r = 1 then nt (gs g r 0) else none
def clR (g : GT) : Nat → Nat → Nat
  | 0, s => s
  | r + 1, s => match chn g r with
    | none => clR g r s
    | some c => if (clR g r s).testBit (gl g r) = true then clR g r s ||| 2 ^ c else clR g r s
def clo (g : GT) : Nat → Nat → Nat
  | 0, s => s
  | t + 1, s => clR g (gR g) (clo g t s)
def rch (g : GT) (x : Nat) : Nat := clo g 6 (2 ^ x)
theorem nt_lt {c n : Nat} (h : nt c = some n) : n < 6 := by
  unfold nt at h
  split at h
  · cases h; omega
  · cases h
theorem chn_lt {g : GT} {r c : Nat} (h : chn g r = some c) : c < 6 := by
  unfold chn at h
  split at h
  · exact nt_lt h
  · cases h
theorem tb_or (a c k : Nat) : (a ||| 2 ^ c).testBit k = (a.testBit k || decide (c = k)) := by
  rw [Nat.testBit_or, Nat.testBit_two_pow]
theorem clR_up {g : GT} {s k : Nat} (h : s.testBit k = true) : ∀ m, (clR g m s).testBit k = true
  | 0 => h
  | m + 1 => by
    have ih := clR_up (g := g) h m
    simp only [clR]
    split
    · exact ih
    · split
      · rw [tb_or, ih]; rfl
      · exact ih
/-- a set that is closed under the first m chains holds all that they reach -/
theorem clR_in {g : GT} {Z : Nat → Prop} {s : Nat} (h : ∀ k, s.testBit k = true → Z k) : ∀ m, (∀ r, r < m → ∀ c, chn g r = some c → Z (gl g r) → Z c) → ∀ k, (clR g m s).testBit k = true → Z k
  | 0, _ => h
  | m + 1, hz => by
    have ih := clR_in h m (fun r hr => hz r (by omega))
    intro k hk
    simp only [clR] at hk
    split at hk
    · exact ih k hk
    · rename_i c hc
      split at hk
      · rename_i hb
        rw [tb_or] at hk
        rcases Bool.or_eq_true _ _ |>.mp hk with q | q
        · exact ih k q
        · have : c = k := by simpa using q
          subst this
          exact hz m (by omega) c hc (ih _ hb)
      · exact ih k hk
theorem clo_in {g : GT} {Z : Nat → Prop} {s : Nat} (h : ∀ k, s.testBit k = true → Z k) (hz : ∀ r, r < gR g → ∀ c, chn g r = some c → Z (gl g r) → Z c) : ∀ t k, (clo g t s).testBit k = true → Z k
  | 0 => h
  | t + 1 => clR_in (clo_in h hz t) _ hz
theorem rch_in {g : GT} {Z : Nat → Prop} {x : Nat} (h : Z x) (hz : ∀ r, r < gR g → ∀ c, chn g r = some c → Z (gl g r) → Z c) : ∀ k, (rch g x).testBit k = true → Z k := clo_in (fun k hk => by
  rw [Nat.testBit_two_pow] at hk
  have : x = k := by simpa using hk
  rw [← this]; exact h) hz 6
/-- how many of the six are in a set -/
def pop (f : Nat → Bool) : Nat → Nat
  | 0 => 0
  | k + 1 => pop f k + (if f k = true then 1 else 0)
theorem pop_le (f : Nat → Bool) : ∀ k, pop f k ≤ k
  | 0 => Nat.le_refl _
  | k + 1 => by
    have := pop_le f k
    simp only [pop]
    split <;> omega
theorem pop_mono {f f' : Nat → Bool} : ∀ m, (∀ k, k < m → f k = true → f' k = true) → pop f m ≤ pop f' m ∧ (∀ x, x < m → f x = false → f' x = true → pop f m < pop f' m)
  | 0, _ => ⟨Nat.le_refl _, fun x hx => by omega⟩
  | m + 1, h => by
    obtain ⟨i1, i2⟩ := pop_mono m (fun k hk => h k (by omega))
    have hm := h m (by omega)
    simp only [pop]
    constructor
    · split <;> rename_i q
      · rw [if_pos (hm q)]; omega
      · split <;> omega
    · intro x hx h1 h2
      by_cases hxm : x = m
      · subst hxm
        rw [h1, h2]
        simp
        omega
      · have := i2 x (by omega) h1 h2
        split <;> rename_i q
        · rw [if_pos (hm q)]; omega
        · split <;> omega
theorem pop_full {f : Nat → Bool} : ∀ m, pop f m = m → ∀ k, k < m → f k = true
  | 0, _, k, hk => by omega
  | m + 1, h, k, hk => by
    simp only [pop] at h
    have := pop_le f m
    by_cases hf : f m = true
    · rw [if_pos hf] at h
      by_cases hkm : k = m
      · rw [hkm]; exact hf
      · exact pop_full m (by omega) k (by omega)
    · rw [if_neg hf] at h
      omega
/-- a round that changes nothing leaves a closed set -/
theorem clR_fix {g : GT} {s : Nat} : ∀ m, (∀ k, (clR g m s).testBit k = s.testBit k) → ∀ r, r < m → ∀ c, chn g r = some c → s.testBit (gl g r) = true → s.testBit c = true
  | 0, _, r, hr => by omega
  | m + 1, h, r, hr => by
    intro c hc hb
    have hsub : ∀ k, (clR g m s).testBit k = s.testBit k := by
      intro k
      cases q : s.testBit k with
      | true => exact clR_up q m
      | false =>
        have h1 := h k
        rw [q] at h1
        simp only [clR] at h1
        split at h1
        · exact h1
        · split at h1
          · rw [tb_or] at h1
            exact (Bool.or_eq_false_iff.mp h1).1
          · exact h1
    by_cases hrm : r = m
    · subst hrm
      have h1 := h c
      simp only [clR, hc] at h1
      rw [if_pos (by rw [hsub]; exact hb), tb_or] at h1
      rw [← h1]
      simp
    · exact clR_fix m hsub r (by omega) c hc hb
def six (s : Nat) : Prop := ∀ k, s.testBit k = true → k < 6
theorem clR_six {g : GT} {s : Nat} (h : six s) (m : Nat) : six (clR g m s) := clR_in (Z := fun k => k < 6) h m (fun _ _ _ hc _ => chn_lt hc)
theorem clo_six {g : GT} {s : Nat} (h : six s) : ∀ t, six (clo g t s)
  | 0 => h
  | t + 1 => clR_six (clo_six h t) _
/-- after t rounds it is closed, or has more than t -/
theorem clo_grow {g : GT} {s : Nat} (h : six s) (h1 : 1 ≤ pop s.testBit 6) : ∀ t, (∀ k, (clR g (gR g) (clo g t s)).testBit k = (clo g t s).testBit k) ∨ t + 1 ≤ pop (clo g t s).testBit 6
  | 0 => Or.inr h1
  | t + 1 => by
    by_cases hfix : ∀ k, (clR g (gR g) (clo g t s)).testBit k = (clo g t s).testBit k
    · left
      have he : clR g (gR g) (clo g t s) = clo g t s := Nat.eq_of_testBit_eq hfix
      intro k
      show (clR g (gR g) (clR g (gR g) (clo g t s))).testBit k = (clR g (gR g) (clo g t s)).testBit k
      rw [he, he]
    · right
      rcases clo_grow h h1 t with q | q
      · exact absurd q hfix
      · have hx : ∃ k, (clo g t s).testBit k = false ∧ (clR g (gR g) (clo g t s)).testBit k = true := by
          rcases Classical.not_forall.mp hfix with ⟨k, hk⟩
          refine ⟨k, ?_⟩
          cases a : (clo g t s).testBit k with
          | true => exact absurd ((clR_up a _).trans a.symm) hk
          | false =>
            refine ⟨rfl, ?_⟩
            cases b : (clR g (gR g) (clo g t s)).testBit k with
            | true => rfl
            | false => exact absurd (b.trans a.symm) hk
        obtain ⟨k, k1, k2⟩ := hx
        have hk6 : k < 6 := clR_six (clo_six h t) _ k k2
        have := (pop_mono (f := (clo g t s).testBit) (f' := (clR g (gR g) (clo g t s)).testBit) 6 (fun k _ hk => clR_up hk _)).2 k hk6 k1 k2
        show t + 1 + 1 ≤ pop (clR g (gR g) (clo g t s)).testBit 6
        omega
theorem six_pow {x : Nat} (h : x < 6) : six (2 ^ x) := fun k hk => by
  rw [Nat.testBit_two_pow] at hk
  have : x = k := by simpa using hk
  omega
theorem pop_pow {x : Nat} (h : x < 6) : 1 ≤ pop (2 ^ x).testBit 6 := by
  have := (pop_mono (f := fun _ => false) (f' := (2 ^ x).testBit) 6 (fun k _ hk => by cases hk)).2 x h rfl (by rw [Nat.testBit_two_pow]; simp)
  omega
theorem rch_self (g : GT) (x : Nat) : (rch g x).testBit x = true := by
  have h : ∀ t, (clo g t (2 ^ x)).testBit x = true := by
    intro t
    induction t with
    | zero => show (2 ^ x).testBit x = true; rw [Nat.testBit_two_pow]; simp
    | succ t ih => exact clR_up ih _
  exact h 6
theorem rch_closed {g : GT} {x : Nat} (h : x < 6) : ∀ r, r < gR g → ∀ c, chn g r = some c → (rch g x).testBit (gl g r) = true → (rch g x).testBit c = true := by
  rcases clo_grow (g := g) (six_pow h) (pop_pow h) 6 with q | q
  · exact clR_fix _ q
  · have := pop_le (clo g 6 (2 ^ x)).testBit 6
    omega
theorem rch_six {g : GT} {x : Nat} (h : x < 6) : six (rch g x) := clo_six (six_pow h) 6
theorem rch_trans {g : GT} {x y : Nat} (hx : x < 6) (h : (rch g x).testBit y = true) : ∀ k, (rch g y).testBit k = true → (rch g x).testBit k = true := rch_in (Z := fun k => (rch g x).testBit k = true) h (rch_closed hx)
/-- no chains lead round -/
def Acy (g : GT) : Prop := ∀ r, r < gR g → ∀ c, chn g r = some c → (rch g c).testBit (gl g r) = false
def hgt (g : GT) (x : Nat) : Nat := if x < 6 then pop (rch g x).testBit 6 - 1 else 0
theorem hgt_lt {g : GT} {x y : Nat} (hx : x < 6) (h : (rch g x).testBit y = true) (hn : (rch g y).testBit x = false) : hgt g y < hgt g x := by
  have hy : y < 6 := rch_six hx y h
  have h1 := (pop_mono (f := (rch g y).testBit) (f' := (rch g x).testBit) 6 (fun k _ hk => rch_trans hx h k hk)).2 x hx hn (rch_self g x)
  have h2 := (pop_mono (f := fun _ => false) (f' := (rch g y).testBit) 6 (fun k _ hk => by cases hk)).2 y hy rfl (rch_self g y)
  unfold hgt
  rw [if_pos hx, if_pos hy]
  omega
theorem hts_of {g : GT} (G : GOk g) (A : Acy g) : Hts g (hgt g) := by
  refine ⟨fun n => ?_, fun r hr hz c hc => ?_⟩
  · unfold hgt
    split
    · have := pop_le (rch g n).testBit 6
      omega
    · omega
  · have hch : chn g r = some c := by unfold chn; rw [if_pos hz]; exact hc
    have hl := (G.2 r hr).1
    exact hgt_lt hl (rch_closed hl r hr c hch (rch_self g _)) (A r hr c hch)
/-- all that is reached from x, but x, is lower -/
theorem rch_low {g : GT} (A : Acy g) {x y : Nat} (hx : x < 6) (h : (rch g x).testBit y = true) (hne : y ≠ x) : hgt g y < hgt g x := by
  refine hgt_lt hx h ?_
  cases q : (rch g y).testBit x with
  | false => rfl
  | true =>
    exfalso
    -- out of x a chain leads to some c from which y is reached, hence x again
    have hy : y < 6 := rch_six hx y h
    have : ∀ k, (rch g x).testBit k = true → k = x ∨ ∃ r, r < gR g ∧ gl g r = x ∧ ∃ c, chn g r = some c ∧ (rch g c).testBit k = true := by
      refine rch_in (Z := fun k => k = x ∨ ∃ r, r < gR g ∧ gl g r = x ∧ ∃ c, chn g r = some c ∧ (rch g c).testBit k = true) (Or.inl rfl) ?_
      intro r hr c hc hz
      rcases hz with hz | ⟨r0, h0, h1, c0, h2, h3⟩
      · exact Or.inr ⟨r, hr, hz, c, hc, rch_self g c⟩
      · exact Or.inr ⟨r0, h0, h1, c0, h2, rch_closed (chn_lt h2) r hr c hc h3⟩
    rcases this y h with e | ⟨r, hr, h1, c, hc, h3⟩
    · exact hne e
    · have h4 := rch_trans (chn_lt hc) h3 x q
      have h5 := A r hr c hc
      rw [h1] at h5
      rw [h5] at h4
      cases h4
theorem acy_sub {g g' : GT} (hR : gR g' ≤ gR g) (hs : ∀ r, r < gR g' → gl g' r = gl g r ∧ chn g' r = chn g r) (A : Acy g) : Acy g' := by
  intro r hr c hc
  obtain ⟨e1, e2⟩ := hs r hr
  have h := A r (by omega) c (by rw [← e2]; exact hc)
  rw [e1]
  cases q : (rch g' c).testBit (gl g r) with
  | false => rfl
  | true =>
    have := rch_in (g := g') (Z := fun k => (rch g c).testBit k = true) (rch_self g c) (fun r' hr' c' hc' hz => by
      obtain ⟨f1, f2⟩ := hs r' hr'
      exact rch_closed (chn_lt hc) r' (by omega) c' (by rw [← f2]; exact hc') (by rw [← f1]; exact hz)) _ q
    rw [this] at h
    cases h
theorem acy_add {g g' : GT} (hR : gR g' = gR g + 1) (hs : ∀ r, r < gR g → gl g' r = gl g r ∧ chn g' r = chn g r) (hn : ∀ c, chn g' (gR g) = some c → (rch g c).testBit (gl g' (gR g)) = false) (hl : gl g' (gR g) < 6) (A : Acy g) : Acy g' := by
  have key : ∀ c, c < 6 → ∀ k, (rch g' c).testBit k = true → (rch g c).testBit k = true ∨ ((rch g c).testBit (gl g' (gR g)) = true ∧ ∃ b, chn g' (gR g) = some b ∧ (rch g b).testBit k = true) := by
    intro c hc6
    refine rch_in (g := g') (Z := fun k => (rch g c).testBit k = true ∨ ((rch g c).testBit (gl g' (gR g)) = true ∧ ∃ b, chn g' (gR g) = some b ∧ (rch g b).testBit k = true)) (Or.inl (rch_self g c)) ?_
    intro r hr c' hc' hz
    by_cases hrR : r = gR g
    · subst hrR
      rcases hz with hz | ⟨hz, b, hb, hk⟩
      · exact Or.inr ⟨hz, c', hc', rch_self g c'⟩
      · exact Or.inr ⟨hz, c', hc', rch_self g c'⟩
    · obtain ⟨f1, f2⟩ := hs r (by omega)
      rw [f1] at hz
      rw [f2] at hc'
      rcases hz with hz | ⟨hz, b, hb, hk⟩
      · exact Or.inl (rch_closed hc6 r (by omega) c' hc' hz)
      · exact Or.inr ⟨hz, b, hb, rch_closed (chn_lt hb) r (by omega) c' hc' hk⟩
  intro r hr c hc
  have hc6 := chn_lt hc
  cases q : (rch g' c).testBit (gl g' r) with
  | false => rfl
  | true =>
    exfalso
    have h := key c hc6 _ q
    by_cases hrR : r = gR g
    · subst hrR
      have h0 := hn c hc
      rcases h with h | ⟨h, -⟩ <;> (rw [h] at h0; cases h0)
    · obtain ⟨f1, f2⟩ := hs r (by omega)
      rw [f1] at h
      rw [f2] at hc
      have h0 := A r (by omega) c hc
      rcases h with h | ⟨h, b, hb, hk⟩
      · rw [h] at h0; cases h0
      · have h1 := hn b hb
        have h2 : (rch g b).testBit c = true := rch_closed (chn_lt hb) r (by omega) c hc hk
        have h3 := rch_trans (chn_lt hb) h2 _ h
        rw [h3] at h1
        cases h1
end
section
/-! THE TREE: both programs keep a list of what is still to do; its head comes out, its children go in its place -/
abbrev Nd : Type := Nat × Nat × Nat
/-- the nodes right below, of the first k symbols -/
def kidsK (g : GT) (w : Nat → Nat → Nat → Nat) (h : Nat → Nat → Nat → UInt64) (r i : Nat) (l : List Nat) : Nat → List Nd
  | 0 => []
  | k + 1 => kidsK g w h r i l k ++ (match tpv g w h r k (bg i l k) (lgd l k) with
    | none => []
    | some s => [(s, bg i l k, lgd l k)])
def kids (g : GT) (N : Nat) (ch : Nat → Nat) (e : Nd) : List Nd := match BEST g N ch (sW g N ch) (sH g N ch) e.1 e.2.1 e.2.2 with
  | none => []
  | some b => kidsK g (sW g N ch) (sH g N ch) e.1 e.2.1 ((dv (gz g e.1) e.2.1 e.2.2).getD b []) (gz g e.1)
def tst (kd : Nd → List Nd) (root : Nd) : Nat → List Nd × List Nd
  | 0 => ([], [root])
  | x + 1 => match (tst kd root x).2 with
    | [] => tst kd root x
    | e :: t => ((tst kd root x).1 ++ [e], kd e ++ t)
def Vd (g : GT) (N : Nat) (ch : Nat → Nat) (e : Nd) : Prop := e.1 < gR g ∧ e.2.1 < e.2.2 ∧ e.2.2 ≤ N ∧ sW g N ch e.1 e.2.1 e.2.2 ≠ 0
def phs (g : GT) (ht : Nat → Nat) : List Nd → Nat
  | [] => 0
  | e :: t => phi g ht e.1 e.2.1 e.2.2 + phs g ht t
theorem phs_app (g : GT) (ht : Nat → Nat) : ∀ a b, phs g ht (a ++ b) = phs g ht a + phs g ht b
  | [], b => by simp [phs]
  | e :: t, b => by
    simp only [List.cons_append, phs]
    rw [phs_app g ht t b]
    omega
theorem syv_tp {g : GT} {N : Nat} {ch : Nat → Nat} {w : Nat → Nat → Nat → Nat} {h : Nat → Nat → Nat → UInt64} {r k a b c : Nat} (hc : nt (gs g r k) = some c) (hs : syv g N ch w r k a b ≠ 0) : gd g N ch c b (fun s => w s a b) = true ∧ ∃ s, tpv g w h r k a b = some s ∧ s < gR g ∧ gl g s = c ∧ w s a b ≠ 0 := by
  unfold syv at hs
  rw [hc] at hs
  dsimp only at hs
  split at hs
  · rename_i hg
    refine ⟨hg, ?_⟩
    unfold tpv
    rw [hc]
    dsimp only
    cases ht : tp g c (alw g r k) (fun s => w s a b) (fun s => h s a b) (gR g) with
    | none => exact absurd (tp_none _ ht) hs
    | some s => exact ⟨s, rfl, tp_some ht⟩
  · exact absurd rfl hs
theorem pw_zero {sym : Nat → Nat → Nat → Nat} {i : Nat} {l : List Nat} : ∀ m, pw sym i l m ≠ 0 → ∀ k, k < m → sym k (bg i l k) (lgd l k) ≠ 0
  | 0, _, k, hk => by omega
  | m + 1, h, k, hk => by
    simp only [pw] at h
    by_cases hkm : k = m
    · subst hkm
      intro q
      rw [q, Nat.mul_zero] at h
      exact h rfl
    · refine pw_zero m (fun q => ?_) k (by omega)
      rw [q, Nat.zero_mul] at h
      exact h rfl
/-- what the children are: valid, apart, in order, and they have less in all -/
def KOk (g : GT) (N : Nat) (ch : Nat → Nat) (e : Nd) (L : List Nd) : Prop := (∀ x ∈ L, Vd g N ch x ∧ e.2.1 ≤ x.2.1 ∧ x.2.2 ≤ e.2.2) ∧ L.Pairwise (fun a b => a.2.2 ≤ b.2.1)
theorem kidsK_ok {g : GT} {N : Nat} {ch : Nat → Nat} {ht : Nat → Nat} (G : GOk g) (T : Hts g ht) (hN : N < 15) {r i j t : Nat} (hr : r < gR g) (hij : i < j) (hj : j ≤ N) (htt : t < (dv (gz g r) i j).length) (hp : pw (syv g N ch (sW g N ch) r) i ((dv (gz g r) i j).getD t []) (gz g r) ≠ 0) : ∀ m, m ≤ gz g r →
    (∀ x ∈ kidsK g (sW g N ch) (sH g N ch) r i ((dv (gz g r) i j).getD t []) m, Vd g N ch x ∧ i ≤ x.2.1 ∧ x.2.2 ≤ bg i ((dv (gz g r) i j).getD t []) m) ∧ (kidsK g (sW g N ch) (sH g N ch) r i ((dv (gz g r) i j).getD t []) m).Pairwise (fun a b => a.2.2 ≤ b.2.1) ∧ phs g ht (kidsK g (sW g N ch) (sH g N ch) r i ((dv (gz g r) i j).getD t []) m) = psum (ppc g ht r) i ((dv (gz g r) i j).getD t []) m
  | 0, _ => ⟨fun x hx => (nomatch hx), List.Pairwise.nil, rfl⟩
  | m + 1, hm => by
    obtain ⟨h1, h2, h3⟩ := kidsK_ok G T hN hr hij hj htt hp m (by omega)
    have hz := G.2 r hr
    obtain ⟨p1, p2, p3, p4⟩ := piece (by omega) (by omega) (by omega) htt (show m < gz g r by omega)
    have hs := pw_zero _ hp m (by omega)
    generalize (dv (gz g r) i j).getD t [] = l at *
    simp only [kidsK, psum]
    rw [bg_succ]
    cases hc : nt (gs g r m) with
    | none =>
      have e1 : tpv g (sW g N ch) (sH g N ch) r m (bg i l m) (lgd l m) = none := by unfold tpv; rw [hc]
      have e2 : ppc g ht r m (bg i l m) (lgd l m) = 0 := by unfold ppc; rw [hc]
      rw [e1, e2]
      dsimp only
      rw [List.append_nil]
      exact ⟨fun x hx => ⟨(h1 x hx).1, (h1 x hx).2.1, Nat.le_trans (h1 x hx).2.2 (by omega)⟩, h2, h3⟩
    | some c =>
      obtain ⟨-, s, e1, s1, s2, s3⟩ := syv_tp (h := sH g N ch) hc hs
      have e2 : ppc g ht r m (bg i l m) (lgd l m) = 12 * (lgd l m - bg i l m) - 11 + ht c := by unfold ppc; rw [hc]
      rw [e1, e2]
      dsimp only
      refine ⟨fun x hx => ?_, ?_, ?_⟩
      · rcases List.mem_append.mp hx with q | q
        · exact ⟨(h1 x q).1, (h1 x q).2.1, Nat.le_trans (h1 x q).2.2 (by omega)⟩
        · rw [List.mem_singleton.mp q]
          exact ⟨⟨s1, p2, Nat.le_trans p3 hj, s3⟩, p1, Nat.le_refl _⟩
      · refine List.pairwise_append.mpr ⟨h2, List.pairwise_singleton _ _, fun a ha b hb => ?_⟩
        rw [List.mem_singleton.mp hb]
        exact (h1 a ha).2.2
      · rw [phs_app, h3]
        simp only [phs, phi]
        rw [s2]
        omega
theorem kids_ok {g : GT} {N : Nat} {ch : Nat → Nat} {ht : Nat → Nat} (G : GOk g) (T : Hts g ht) (hN : N < 15) {e : Nd} (hv : Vd g N ch e) : KOk g N ch e (kids g N ch e) ∧ phs g ht (kids g N ch e) + 1 ≤ phi g ht e.1 e.2.1 e.2.2 ∧ ∃ b, BEST g N ch (sW g N ch) (sH g N ch) e.1 e.2.1 e.2.2 = some b ∧ b < (dv (gz g e.1) e.2.1 e.2.2).length ∧ pw (syv g N ch (sW g N ch) e.1) e.2.1 ((dv (gz g e.1) e.2.1 e.2.2).getD b []) (gz g e.1) ≠ 0 := by
  obtain ⟨r, i, j⟩ := e
  obtain ⟨hr, hij, hj, hw⟩ := hv
  dsimp only at hr hij hj hw ⊢
  obtain ⟨e1, e2⟩ := sol_ok (N := N) (ch := ch) G T hr hij (show j < 15 by omega)
  unfold kids
  dsimp only
  cases hb : BEST g N ch (sW g N ch) (sH g N ch) r i j with
  | none => exact absurd ((bs_none _).mp hb) (by rw [e1] at hw; exact hw)
  | some b =>
    obtain ⟨b1, b2⟩ := bs_lt _ b hb
    have hz := G.2 r hr
    obtain ⟨k1, k2, k3⟩ := kidsK_ok (ht := ht) G T hN hr hij hj b1 b2 (gz g r) (Nat.le_refl _)
    have hl : bg i ((dv (gz g r) i j).getD b []) (gz g r) = j := by
      have := (dv_ok (by omega) (by omega) (by omega) (gt_of b1)).2.2 (by omega)
      unfold bg
      rw [if_neg (by omega)]
      exact this
    rw [hl] at k1
    have hps := psum_phi G T hr hij (show j < 15 by omega) b1
    dsimp only
    exact ⟨⟨fun x hx => k1 x hx, k2⟩, by rw [k3]; exact hps, b, rfl, b1, b2⟩
def TI (g : GT) (N : Nat) (ch : Nat → Nat) (ht : Nat → Nat) (d t : List Nd) : Prop := (∀ e ∈ t, Vd g N ch e) ∧ (∀ e ∈ d, Vd g N ch e) ∧ d.length + phs g ht t ≤ 162 ∧ t.Pairwise (fun a b => a.2.2 ≤ b.2.1) ∧ d.Pairwise (fun a b => a.2.1 ≤ b.2.1) ∧ (∀ a ∈ d, ∀ b ∈ t, a.2.1 ≤ b.2.1) ∧ (∀ a ∈ d, ∀ b ∈ t, b.2.1 < a.2.2 → b.2.2 ≤ a.2.2)
theorem TI_step {g : GT} {N : Nat} {ch : Nat → Nat} {ht : Nat → Nat} (G : GOk g) (T : Hts g ht) (hN : N < 15) {d t : List Nd} {e : Nd} (h : TI g N ch ht d (e :: t)) : TI g N ch ht (d ++ [e]) (kids g N ch e ++ t) := by
  obtain ⟨h1, h2, h3, h4, h5, h6, h7⟩ := h
  have he := h1 e List.mem_cons_self
  obtain ⟨⟨k1, k2⟩, k3, -⟩ := kids_ok (ht := ht) G T hN he
  obtain ⟨h4a, h4b⟩ := List.pairwise_cons.mp h4
  have hee : e.2.1 < e.2.2 := he.2.1
  refine ⟨fun x hx => ?_, fun x hx => ?_, ?_, ?_, ?_, fun a ha b hb => ?_, fun a ha b hb hab => ?_⟩
  · rcases List.mem_append.mp hx with q | q
    · exact (k1 x q).1
    · exact h1 x (List.mem_cons_of_mem _ q)
  · rcases List.mem_append.mp hx with q | q
    · exact h2 x q
    · rw [List.mem_singleton.mp q]; exact he
  · rw [phs_app]
    simp only [phs] at h3
    simp only [List.length_append, List.length_singleton]
    omega
  · refine List.pairwise_append.mpr ⟨k2, h4b, fun a ha b hb => ?_⟩
    exact Nat.le_trans (k1 a ha).2.2 (h4a b hb)
  · refine List.pairwise_append.mpr ⟨h5, List.pairwise_singleton _ _, fun a ha b hb => ?_⟩
    rw [List.mem_singleton.mp hb]
    exact h6 a ha e List.mem_cons_self
  · rcases List.mem_append.mp ha with qa | qa
    · rcases List.mem_append.mp hb with qb | qb
      · exact Nat.le_trans (h6 a qa e List.mem_cons_self) (k1 b qb).2.1
      · exact h6 a qa b (List.mem_cons_of_mem _ qb)
    · rw [List.mem_singleton.mp qa]
      rcases List.mem_append.mp hb with qb | qb
      · exact (k1 b qb).2.1
      · have := h4a b qb
        omega
  · rcases List.mem_append.mp ha with qa | qa
    · rcases List.mem_append.mp hb with qb | qb
      · have := (k1 b qb).2
        exact Nat.le_trans this.2 (h7 a qa e List.mem_cons_self (by omega))
      · exact h7 a qa b (List.mem_cons_of_mem _ qb) hab
    · rw [List.mem_singleton.mp qa] at hab ⊢
      rcases List.mem_append.mp hb with qb | qb
      · exact (k1 b qb).2.2
      · have := h4a b qb
        omega
theorem TI_0 {g : GT} {N : Nat} {ch : Nat → Nat} {ht : Nat → Nat} (T : Hts g ht) (hN : N < 15) {e : Nd} (hv : Vd g N ch e) : TI g N ch ht [] [e] := by
  refine ⟨fun x hx => by rw [List.mem_singleton.mp hx]; exact hv, fun x hx => (nomatch hx), ?_, List.pairwise_singleton _ _, List.Pairwise.nil, fun a ha => (nomatch ha), fun a ha => (nomatch ha)⟩
  simp only [phs, phi, List.length_nil]
  have := T.1 (gl g e.1)
  have := hv.2.1
  have := hv.2.2.1
  omega
theorem TI_at {g : GT} {N : Nat} {ch : Nat → Nat} {ht : Nat → Nat} (G : GOk g) (T : Hts g ht) (hN : N < 15) {e : Nd} (hv : Vd g N ch e) : ∀ x, TI g N ch ht (tst (kids g N ch) e x).1 (tst (kids g N ch) e x).2
  | 0 => TI_0 T hN hv
  | x + 1 => by
    have ih := TI_at G T hN hv x
    simp only [tst]
    cases hq : (tst (kids g N ch) e x).2 with
    | nil => rw [hq] at ih; dsimp only; rw [hq]; exact ih
    | cons a t => rw [hq] at ih; exact TI_step G T hN ih
theorem tst_stop {kd : Nd → List Nd} {e : Nd} {x : Nat} (h : (tst kd e x).2 = []) : ∀ k, tst kd e (x + k) = tst kd e x
  | 0 => rfl
  | k + 1 => by
    have ih := tst_stop h k
    rw [← Nat.add_assoc]
    simp only [tst]
    rw [ih, h]
theorem tst_one {kd : Nd → List Nd} {e : Nd} {x y : Nat} (h : (tst kd e x).2 = []) (h' : (tst kd e y).2 = []) : (tst kd e x).1 = (tst kd e y).1 := by
  rcases Nat.le_total x y with q | q
  · have := tst_stop h (y - x)
    rw [show x + (y - x) = y by omega] at this
    rw [this]
  · have := tst_stop h' (x - y)
    rw [show y + (x - y) = x by omega] at this
    rw [this]
theorem tst_len {kd : Nd → List Nd} {e : Nd} : ∀ x, (tst kd e x).1.length ≤ x ∧ ((tst kd e x).2 ≠ [] → (tst kd e x).1.length = x)
  | 0 => ⟨Nat.le_refl _, fun _ => rfl⟩
  | x + 1 => by
    obtain ⟨i1, i2⟩ := tst_len (kd := kd) (e := e) x
    simp only [tst]
    cases hq : (tst kd e x).2 with
    | nil => dsimp only; rw [hq]; exact ⟨by omega, fun h => absurd rfl h⟩
    | cons a t =>
      dsimp only
      have := i2 (by rw [hq]; exact List.cons_ne_nil _ _)
      simp only [List.length_append, List.length_singleton]
      exact ⟨by omega, fun _ => by omega⟩
theorem phs_len {g : GT} {N : Nat} {ch : Nat → Nat} {ht : Nat → Nat} : ∀ t, (∀ e ∈ t, Vd g N ch e) → t.length ≤ phs g ht t
  | [], _ => Nat.le_refl _
  | e :: t, h => by
    have ih := phs_len (ht := ht) t (fun x hx => h x (List.mem_cons_of_mem _ hx))
    have := (h e List.mem_cons_self).2.1
    simp only [phs, phi, List.length_cons]
    omega
end
section
def LG : List Cond := lw_tbl.filter goodWord
theorem LG_in {w : Cond} (h : w ∈ lw_tbl) (hg : goodWord w = true) : w ∈ LG := List.mem_filter.mpr ⟨h, hg⟩
theorem LG_good {w : Cond} (h : w ∈ LG) : (w.onTables && w.keeps) = true ∨ ∃ ty, w = .arrayClass ty := good_of_word (List.mem_filter.mp h).2
theorem gi_self {cx : Cond} {cy : Cond} (h : cy ∈ LG) : GoodIn (cx :: LG) (cy :: LG) := fun w hw => (List.mem_cons.mp hw).elim (fun e => by rw [e]; exact ⟨List.mem_cons_of_mem _ h, LG_good h⟩) (fun h2 => ⟨List.mem_cons_of_mem _ h2, LG_good h2⟩)
theorem gi_V {cx cy : Cond} {own C : String} {idx : Nat} {y : MethodName} (h1 : Cond.methodLink own idx y ∈ LG) (h2 : Cond.instanceMethod y ∈ LG) (h3 : Cond.selects C y y ∈ LG) (h4 : Cond.initialized C ∈ LG) (h5 : cy ∈ LG) : GoodIn (cx :: LG) (wsV own idx C y (cy :: LG)) := by
  intro w hw
  rcases List.mem_append.mp hw with h | h
  · have hl : w ∈ LG := by
      simp only [List.mem_cons, List.not_mem_nil, or_false] at h
      rcases h with rfl | rfl | rfl | rfl
      · exact h1
      · exact h2
      · exact h3
      · exact h4
    exact ⟨List.mem_cons_of_mem _ hl, LG_good hl⟩
  · exact gi_self h5 w h
theorem gi_S {cx cy : Cond} {own : String} {idx : Nat} {y : MethodName} (h1 : Cond.methodLink own idx y ∈ LG) (h2 : Cond.static y ∈ LG) (h4 : Cond.initialized own ∈ LG) (h5 : cy ∈ LG) : GoodIn (cx :: LG) (wsS own idx y (cy :: LG)) := by
  intro w hw
  rcases List.mem_append.mp hw with h | h
  · have hl : w ∈ LG := by
      simp only [List.mem_cons, List.not_mem_nil, or_false] at h
      rcases h with rfl | rfl | rfl
      · exact h1
      · exact h2
      · exact h4
    exact ⟨List.mem_cons_of_mem _ hl, LG_good hl⟩
  · exact gi_self h5 w h
/-- the links of private members across the nest, which stay -/
def NWs : List (String × Nat × MethodName × String) := [("SpanParser", 11, ⟨"SpanParser$Text", "<init>", "()V"⟩, "SpanParser"), ("SpanParser", 18, ⟨"SpanParser$Grammar", "<init>", "()V"⟩, "SpanParser"), ("SpanParser", 25, ⟨"SpanParser$Chart", "<init>", "()V"⟩, "SpanParser"), ("SpanParser", 32, ⟨"SpanParser$Tree", "<init>", "()V"⟩, "SpanParser"), ("SpanParser$Grammar", 53, ⟨"SpanParser", "nonterminalNumber", "(I)I"⟩, "SpanParser"), ("SpanParser$Grammar", 59, ⟨"SpanParser", "contains", "(II)Z"⟩, "SpanParser"), ("SpanParser$Chart", 64, ⟨"SpanParser", "spanNumber", "(II)I"⟩, "SpanParser"), ("SpanParser$Chart", 140, ⟨"SpanParser", "contains", "(II)Z"⟩, "SpanParser"), ("SpanParser$Tree", 33, ⟨"SpanParser", "spanNumber", "(II)I"⟩, "SpanParser")]
def ENV (U : State) : Prop := ∀ q ∈ NWs, va_Nw (.methodLinkNest q.1 q.2.1 q.2.2.1 q.2.2.2) U
theorem ENV.warm {s U : State} (h : ENV s) (hW : s.WarmedH U.vm) : ENV U := fun q hq => va_Nw.warmM hW (h q hq)
theorem ENV.same {s U : State} (h : ENV s) (hv : s.vm = U.vm) : ENV U := fun q hq => va_Nw.same rfl hv (h q hq)
theorem ENV.at {U : State} (h : ENV U) (k : Nat) {q : String × Nat × MethodName × String} (hk : NWs[k]? = some q) : va_Nw (.methodLinkNest q.1 q.2.1 q.2.2.1 q.2.2.2) U := h q (List.mem_of_getElem? hk)
def RC : String := "SpanParser$Chart"
def TC : u_T := fun k => match k with
  | 0 => ("SpanParser$Chart", "ruleWays", "[I", true)
  | 1 => ("SpanParser$Chart", "ruleWeights", "[D", true)
  | 2 => ("SpanParser$Chart", "ruleDivisions", "[I", true)
  | 3 => ("SpanParser$Chart", "useWays", "[I", true)
  | 4 => ("SpanParser$Chart", "useRules", "[I", true)
  | 5 => ("SpanParser$Chart", "order", "[I", true)
  | _ => ("SpanParser$Chart", "ends", "[I", true)
def tyC : Nat → FieldType := fun k => match k with
  | 0 => .array .int
  | 1 => .array .double
  | 2 => .array .int
  | 3 => .array .int
  | 4 => .array .int
  | 5 => .array .int
  | _ => .array .int
theorem nmC : ∀ a, a < 7 → ∀ b, b < 7 → a ≠ b → (TC a).2.1 ≠ (TC b).2.1 := by decide +kernel
theorem tyC_ok : ∀ k, k < 7 → parseFieldDescriptor (TC k).2.2.1 = some (tyC k) := by decide +kernel
def RG : String := "SpanParser$Grammar"
def TG : u_T := fun k => match k with
  | 0 => ("SpanParser$Grammar", "lefts", "[I", true)
  | 1 => ("SpanParser$Grammar", "rightLengths", "[I", true)
  | 2 => ("SpanParser$Grammar", "rights", "[I", true)
  | 3 => ("SpanParser$Grammar", "weights", "[D", true)
  | 4 => ("SpanParser$Grammar", "marks", "[I", true)
  | 5 => ("SpanParser$Grammar", "barredUnder", "[I", true)
  | 6 => ("SpanParser$Grammar", "mayNotFollow", "[Z", true)
  | _ => ("SpanParser$Grammar", "size", "I", false)
def tyG : Nat → FieldType := fun k => match k with
  | 0 => .array .int
  | 1 => .array .int
  | 2 => .array .int
  | 3 => .array .double
  | 4 => .array .int
  | 5 => .array .int
  | 6 => .array .boolean
  | _ => .int
theorem nmG : ∀ a, a < 8 → ∀ b, b < 8 → a ≠ b → (TG a).2.1 ≠ (TG b).2.1 := by decide +kernel
theorem tyG_ok : ∀ k, k < 8 → parseFieldDescriptor (TG k).2.2.1 = some (tyG k) := by decide +kernel
def RT : String := "SpanParser$Text"
def TT : u_T := fun k => match k with
  | 0 => ("SpanParser$Text", "characters", "[I", true)
  | _ => ("SpanParser$Text", "length", "I", false)
def tyT : Nat → FieldType := fun k => match k with
  | 0 => .array .int
  | _ => .int
theorem nmT : ∀ a, a < 2 → ∀ b, b < 2 → a ≠ b → (TT a).2.1 ≠ (TT b).2.1 := by decide +kernel
theorem tyT_ok : ∀ k, k < 2 → parseFieldDescriptor (TT k).2.2.1 = some (tyT k) := by decide +kernel
def RE : String := "SpanParser$Tree"
def TE : u_T := fun k => match k with
  | 0 => ("SpanParser$Tree", "rules", "[I", true)
  | 1 => ("SpanParser$Tree", "begins", "[I", true)
  | 2 => ("SpanParser$Tree", "ends", "[I", true)
  | _ => ("SpanParser$Tree", "size", "I", false)
def tyE : Nat → FieldType := fun k => match k with
  | 0 => .array .int
  | 1 => .array .int
  | 2 => .array .int
  | _ => .int
theorem nmE : ∀ a, a < 4 → ∀ b, b < 4 → a ≠ b → (TE a).2.1 ≠ (TE b).2.1 := by decide +kernel
theorem tyE_ok : ∀ k, k < 4 → parseFieldDescriptor (TE k).2.2.1 = some (tyE k) := by decide +kernel
def RP : String := "SpanParser"
def TP : u_T := fun k => match k with
  | 0 => ("SpanParser", "text", "LSpanParser$Text;", true)
  | 1 => ("SpanParser", "grammar", "LSpanParser$Grammar;", true)
  | 2 => ("SpanParser", "chart", "LSpanParser$Chart;", true)
  | 3 => ("SpanParser", "tree", "LSpanParser$Tree;", true)
  | 4 => ("SpanParser", "misreadPlace", "I", false)
  | 5 => ("SpanParser", "inputLength", "I", false)
  | _ => ("SpanParser", "treeWeight", "D", false)
def tyP : Nat → FieldType := fun k => match k with
  | 0 => .object "SpanParser$Text"
  | 1 => .object "SpanParser$Grammar"
  | 2 => .object "SpanParser$Chart"
  | 3 => .object "SpanParser$Tree"
  | 4 => .int
  | 5 => .int
  | _ => .double
theorem nmP : ∀ a, a < 7 → ∀ b, b < 7 → a ≠ b → (TP a).2.1 ≠ (TP b).2.1 := by decide +kernel
theorem tyP_ok : ∀ k, k < 7 → parseFieldDescriptor (TP k).2.2.1 = some (tyP k) := by decide +kernel
def RM : String := "SpanParserModel"
def TM : u_T := fun k => match k with
  | 0 => ("SpanParserModel", "text", "[I", true)
  | 1 => ("SpanParserModel", "input", "[I", true)
  | 2 => ("SpanParserModel", "left", "[I", true)
  | 3 => ("SpanParserModel", "size", "[I", true)
  | 4 => ("SpanParserModel", "right", "[I", true)
  | 5 => ("SpanParserModel", "how", "[I", true)
  | 6 => ("SpanParserModel", "cut", "[I", true)
  | 7 => ("SpanParserModel", "best", "[I", true)
  | 8 => ("SpanParserModel", "weight", "[D", true)
  | 9 => ("SpanParserModel", "heavy", "[D", true)
  | 10 => ("SpanParserModel", "barred", "[Z", true)
  | 11 => ("SpanParserModel", "never", "[Z", true)
  | 12 => ("SpanParserModel", "good", "[Z", true)
  | 13 => ("SpanParserModel", "many", "[I", true)
  | 14 => ("SpanParserModel", "nodeRule", "[I", true)
  | 15 => ("SpanParserModel", "from", "[I", true)
  | 16 => ("SpanParserModel", "to", "[I", true)
  | 17 => ("SpanParserModel", "parent", "[I", true)
  | 18 => ("SpanParserModel", "below", "[I", true)
  | 19 => ("SpanParserModel", "pile", "[I", true)
  | 20 => ("SpanParserModel", "rules", "I", false)
  | 21 => ("SpanParserModel", "length", "I", false)
  | 22 => ("SpanParserModel", "place", "I", false)
  | 23 => ("SpanParserModel", "inputLength", "I", false)
  | 24 => ("SpanParserModel", "nodes", "I", false)
  | 25 => ("SpanParserModel", "thrown", "I", false)
  | 26 => ("SpanParserModel", "parsed", "Z", false)
  | 27 => ("SpanParserModel", "found", "Z", false)
  | _ => ("SpanParserModel", "total", "D", false)
def tyM : Nat → FieldType := fun k => match k with
  | 0 => .array .int
  | 1 => .array .int
  | 2 => .array .int
  | 3 => .array .int
  | 4 => .array .int
  | 5 => .array .int
  | 6 => .array .int
  | 7 => .array .int
  | 8 => .array .double
  | 9 => .array .double
  | 10 => .array .boolean
  | 11 => .array .boolean
  | 12 => .array .boolean
  | 13 => .array .int
  | 14 => .array .int
  | 15 => .array .int
  | 16 => .array .int
  | 17 => .array .int
  | 18 => .array .int
  | 19 => .array .int
  | 20 => .int
  | 21 => .int
  | 22 => .int
  | 23 => .int
  | 24 => .int
  | 25 => .int
  | 26 => .boolean
  | 27 => .boolean
  | _ => .double
theorem nmM : ∀ a, a < 29 → ∀ b, b < 29 → a ≠ b → (TM a).2.1 ≠ (TM b).2.1 := by decide +kernel
theorem tyM_ok : ∀ k, k < 29 → parseFieldDescriptor (TM k).2.2.1 = some (tyM k) := by decide +kernel
def RL : String := "SpanParserLaw"
abbrev cls6 : List vw_C := [(RC, TC, 7), (RG, TG, 8), (RT, TT, 2), (RE, TE, 4), (RP, TP, 7), (RM, TM, 29)]
def yC_init : MethodName := ⟨RC, "<init>", "()V"⟩
abbrev bC_init : ByteArray := prog_2_method_1_code
def yC_fill : MethodName := ⟨RC, "fill", "(LSpanParser$Grammar;LSpanParser$Text;)V"⟩
abbrev bC_fill : ByteArray := prog_2_method_2_code
def yC_fillSpan : MethodName := ⟨RC, "fillSpan", "(LSpanParser$Grammar;LSpanParser$Text;II)V"⟩
abbrev bC_fillSpan : ByteArray := prog_2_method_3_code
def yC_settleCharacters : MethodName := ⟨RC, "settleCharacters", "(LSpanParser$Grammar;LSpanParser$Text;II)V"⟩
abbrev bC_settleCharacters : ByteArray := prog_2_method_4_code
def yC_settleNonterminal : MethodName := ⟨RC, "settleNonterminal", "(LSpanParser$Grammar;IIZ)V"⟩
abbrev bC_settleNonterminal : ByteArray := prog_2_method_5_code
def yC_deriveRule : MethodName := ⟨RC, "deriveRule", "(LSpanParser$Grammar;III)V"⟩
abbrev bC_deriveRule : ByteArray := prog_2_method_6_code
def yC_firstDivision : MethodName := ⟨RC, "firstDivision", "(III)Z"⟩
abbrev bC_firstDivision : ByteArray := prog_2_method_7_code
def yC_nextDivision : MethodName := ⟨RC, "nextDivision", "(II)Z"⟩
abbrev bC_nextDivision : ByteArray := prog_2_method_8_code
def yC_divisionWays : MethodName := ⟨RC, "divisionWays", "(III)J"⟩
abbrev bC_divisionWays : ByteArray := prog_2_method_9_code
def yC_divisionWeight : MethodName := ⟨RC, "divisionWeight", "(DIII)D"⟩
abbrev bC_divisionWeight : ByteArray := prog_2_method_10_code
def yC_packedEnds : MethodName := ⟨RC, "packedEnds", "(I)I"⟩
abbrev bC_packedEnds : ByteArray := prog_2_method_11_code
def yC_waysOf : MethodName := ⟨RC, "waysOf", "(II)I"⟩
abbrev bC_waysOf : ByteArray := prog_2_method_12_code
def yC_heaviestWeight : MethodName := ⟨RC, "heaviestWeight", "(II)D"⟩
abbrev bC_heaviestWeight : ByteArray := prog_2_method_13_code
def yC_symbolEnd : MethodName := ⟨RC, "symbolEnd", "(III)I"⟩
abbrev bC_symbolEnd : ByteArray := prog_2_method_14_code
def yC_ruleBelow : MethodName := ⟨RC, "ruleBelow", "(III)I"⟩
abbrev bC_ruleBelow : ByteArray := prog_2_method_15_code
def yC_waysOfAny : MethodName := ⟨RC, "waysOfAny", "(II)I"⟩
abbrev bC_waysOfAny : ByteArray := prog_2_method_16_code
def yC_heaviestOf : MethodName := ⟨RC, "heaviestOf", "(II)I"⟩
abbrev bC_heaviestOf : ByteArray := prog_2_method_17_code
def yC_ruleIndex : MethodName := ⟨RC, "ruleIndex", "(II)I"⟩
abbrev bC_ruleIndex : ByteArray := prog_2_method_18_code
def yC_useIndex : MethodName := ⟨RC, "useIndex", "(III)I"⟩
abbrev bC_useIndex : ByteArray := prog_2_method_19_code
def yG_init : MethodName := ⟨RG, "<init>", "()V"⟩
abbrev bG_init : ByteArray := prog_3_method_1_code
def yG_wrongPlace : MethodName := ⟨RG, "wrongPlace", "(LSpanParser$Text;)I"⟩
abbrev bG_wrongPlace : ByteArray := prog_3_method_2_code
def yG_fits : MethodName := ⟨RG, "fits", "(II)Z"⟩
abbrev bG_fits : ByteArray := prog_3_method_3_code
def yG_size : MethodName := ⟨RG, "size", "()I"⟩
abbrev bG_size : ByteArray := prog_3_method_4_code
def yG_has : MethodName := ⟨RG, "has", "(I)Z"⟩
abbrev bG_has : ByteArray := prog_3_method_5_code
def yG_wouldLeadRound : MethodName := ⟨RG, "wouldLeadRound", "(LSpanParser$Text;)Z"⟩
abbrev bG_wouldLeadRound : ByteArray := prog_3_method_6_code
def yG_reachedByChains : MethodName := ⟨RG, "reachedByChains", "(I)I"⟩
abbrev bG_reachedByChains : ByteArray := prog_3_method_7_code
def yG_isChain : MethodName := ⟨RG, "isChain", "(I)Z"⟩
abbrev bG_isChain : ByteArray := prog_3_method_8_code
def yG_add : MethodName := ⟨RG, "add", "(LSpanParser$Text;D)V"⟩
abbrev bG_add : ByteArray := prog_3_method_9_code
def yG_removeLatest : MethodName := ⟨RG, "removeLatest", "()V"⟩
abbrev bG_removeLatest : ByteArray := prog_3_method_10_code
def yG_setMark : MethodName := ⟨RG, "setMark", "(II)V"⟩
abbrev bG_setMark : ByteArray := prog_3_method_11_code
def yG_setBarred : MethodName := ⟨RG, "setBarred", "(IIZ)V"⟩
abbrev bG_setBarred : ByteArray := prog_3_method_12_code
def yG_setMayFollow : MethodName := ⟨RG, "setMayFollow", "(IIZ)V"⟩
abbrev bG_setMayFollow : ByteArray := prog_3_method_13_code
def yG_mayFollow : MethodName := ⟨RG, "mayFollow", "(II)Z"⟩
abbrev bG_mayFollow : ByteArray := prog_3_method_14_code
def yG_left : MethodName := ⟨RG, "left", "(I)I"⟩
abbrev bG_left : ByteArray := prog_3_method_15_code
def yG_rightLength : MethodName := ⟨RG, "rightLength", "(I)I"⟩
abbrev bG_rightLength : ByteArray := prog_3_method_16_code
def yG_weightOf : MethodName := ⟨RG, "weightOf", "(I)D"⟩
abbrev bG_weightOf : ByteArray := prog_3_method_17_code
def yG_symbolNonterminal : MethodName := ⟨RG, "symbolNonterminal", "(II)I"⟩
abbrev bG_symbolNonterminal : ByteArray := prog_3_method_18_code
def yG_symbolStandsFor : MethodName := ⟨RG, "symbolStandsFor", "(III)Z"⟩
abbrev bG_symbolStandsFor : ByteArray := prog_3_method_19_code
def yG_rejectingRules : MethodName := ⟨RG, "rejectingRules", "(I)I"⟩
abbrev bG_rejectingRules : ByteArray := prog_3_method_20_code
def yG_derivingRules : MethodName := ⟨RG, "derivingRules", "(I)I"⟩
abbrev bG_derivingRules : ByteArray := prog_3_method_21_code
def yG_rulesOf : MethodName := ⟨RG, "rulesOf", "(IZ)I"⟩
abbrev bG_rulesOf : ByteArray := prog_3_method_22_code
def yG_allowedUnder : MethodName := ⟨RG, "allowedUnder", "(III)I"⟩
abbrev bG_allowedUnder : ByteArray := prog_3_method_23_code
def yG_orderByChains : MethodName := ⟨RG, "orderByChains", "([I)V"⟩
abbrev bG_orderByChains : ByteArray := prog_3_method_24_code
def yT_init : MethodName := ⟨RT, "<init>", "()V"⟩
abbrev bT_init : ByteArray := prog_4_method_1_code
def yT_length : MethodName := ⟨RT, "length", "()I"⟩
abbrev bT_length : ByteArray := prog_4_method_2_code
def yT_at : MethodName := ⟨RT, "at", "(I)I"⟩
abbrev bT_at : ByteArray := prog_4_method_3_code
def yT_append : MethodName := ⟨RT, "append", "(I)V"⟩
abbrev bT_append : ByteArray := prog_4_method_4_code
def yT_clear : MethodName := ⟨RT, "clear", "()V"⟩
abbrev bT_clear : ByteArray := prog_4_method_5_code
def yE_init : MethodName := ⟨RE, "<init>", "()V"⟩
abbrev bE_init : ByteArray := prog_5_method_1_code
def yE_clear : MethodName := ⟨RE, "clear", "()V"⟩
abbrev bE_clear : ByteArray := prog_5_method_2_code
def yE_grow : MethodName := ⟨RE, "grow", "(LSpanParser$Grammar;LSpanParser$Chart;II)V"⟩
abbrev bE_grow : ByteArray := prog_5_method_3_code
def yE_insertBelow : MethodName := ⟨RE, "insertBelow", "(LSpanParser$Grammar;LSpanParser$Chart;I)V"⟩
abbrev bE_insertBelow : ByteArray := prog_5_method_4_code
def yE_insert : MethodName := ⟨RE, "insert", "(IIII)V"⟩
abbrev bE_insert : ByteArray := prog_5_method_5_code
def yE_size : MethodName := ⟨RE, "size", "()I"⟩
abbrev bE_size : ByteArray := prog_5_method_6_code
def yE_ruleAt : MethodName := ⟨RE, "ruleAt", "(I)I"⟩
abbrev bE_ruleAt : ByteArray := prog_5_method_7_code
def yE_beginAt : MethodName := ⟨RE, "beginAt", "(I)I"⟩
abbrev bE_beginAt : ByteArray := prog_5_method_8_code
def yE_endAt : MethodName := ⟨RE, "endAt", "(I)I"⟩
abbrev bE_endAt : ByteArray := prog_5_method_9_code
def yE_nodesBelow : MethodName := ⟨RE, "nodesBelow", "(I)I"⟩
abbrev bE_nodesBelow : ByteArray := prog_5_method_10_code
def yP_init : MethodName := ⟨RP, "<init>", "()V"⟩
abbrev bP_init : ByteArray := prog_1_method_1_code
def yP_type : MethodName := ⟨RP, "type", "(J)I"⟩
abbrev bP_type : ByteArray := prog_1_method_2_code
def yP_rule : MethodName := ⟨RP, "rule", "(D)I"⟩
abbrev bP_rule : ByteArray := prog_1_method_3_code
def yP_mark : MethodName := ⟨RP, "mark", "(II)V"⟩
abbrev bP_mark : ByteArray := prog_1_method_4_code
def yP_bar : MethodName := ⟨RP, "bar", "(IIZ)V"⟩
abbrev bP_bar : ByteArray := prog_1_method_5_code
def yP_follow : MethodName := ⟨RP, "follow", "(IIZ)V"⟩
abbrev bP_follow : ByteArray := prog_1_method_6_code
def yP_undo : MethodName := ⟨RP, "undo", "()V"⟩
abbrev bP_undo : ByteArray := prog_1_method_7_code
def yP_parse : MethodName := ⟨RP, "parse", "(I)I"⟩
abbrev bP_parse : ByteArray := prog_1_method_8_code
def yP_weight : MethodName := ⟨RP, "weight", "()D"⟩
abbrev bP_weight : ByteArray := prog_1_method_9_code
def yP_node : MethodName := ⟨RP, "node", "(II)I"⟩
abbrev bP_node : ByteArray := prog_1_method_10_code
def yP_many : MethodName := ⟨RP, "many", "(III)I"⟩
abbrev bP_many : ByteArray := prog_1_method_11_code
def yP_count : MethodName := ⟨RP, "count", "(I)I"⟩
abbrev bP_count : ByteArray := prog_1_method_12_code
def yP_forgetInput : MethodName := ⟨RP, "forgetInput", "()V"⟩
abbrev bP_forgetInput : ByteArray := prog_1_method_13_code
def yP_byteAt : MethodName := ⟨RP, "byteAt", "(JI)I"⟩
abbrev bP_byteAt : ByteArray := prog_1_method_14_code
def yP_isCharacter : MethodName := ⟨RP, "isCharacter", "(I)Z"⟩
abbrev bP_isCharacter : ByteArray := prog_1_method_15_code
def yP_isNonterminalNumber : MethodName := ⟨RP, "isNonterminalNumber", "(I)Z"⟩
abbrev bP_isNonterminalNumber : ByteArray := prog_1_method_16_code
def yP_nonterminalNumber : MethodName := ⟨RP, "nonterminalNumber", "(I)I"⟩
abbrev bP_nonterminalNumber : ByteArray := prog_1_method_17_code
def yP_contains : MethodName := ⟨RP, "contains", "(II)Z"⟩
abbrev bP_contains : ByteArray := prog_1_method_18_code
def yP_spanNumber : MethodName := ⟨RP, "spanNumber", "(II)I"⟩
abbrev bP_spanNumber : ByteArray := prog_1_method_19_code
def yM_init : MethodName := ⟨RM, "<init>", "()V"⟩
abbrev bM_init : ByteArray := prog_7_method_1_code
def yM_thrown : MethodName := ⟨RM, "thrown", "()I"⟩
abbrev bM_thrown : ByteArray := prog_7_method_2_code
def yM_in : MethodName := ⟨RM, "in", "(III)Z"⟩
abbrev bM_in : ByteArray := prog_7_method_3_code
def yM_bad : MethodName := ⟨RM, "bad", "(Z)Z"⟩
abbrev bM_bad : ByteArray := prog_7_method_4_code
def yM_fail : MethodName := ⟨RM, "fail", "(I)I"⟩
abbrev bM_fail : ByteArray := prog_7_method_5_code
def yM_type : MethodName := ⟨RM, "type", "(J)I"⟩
abbrev bM_type : ByteArray := prog_7_method_6_code
def yM_change : MethodName := ⟨RM, "change", "()V"⟩
abbrev bM_change : ByteArray := prog_7_method_7_code
def yM_wrong : MethodName := ⟨RM, "wrong", "()I"⟩
abbrev bM_wrong : ByteArray := prog_7_method_8_code
def yM_isChain : MethodName := ⟨RM, "isChain", "(I)Z"⟩
abbrev bM_isChain : ByteArray := prog_7_method_9_code
def yM_leads : MethodName := ⟨RM, "leads", "(II)Z"⟩
abbrev bM_leads : ByteArray := prog_7_method_10_code
def yM_rule : MethodName := ⟨RM, "rule", "(D)I"⟩
abbrev bM_rule : ByteArray := prog_7_method_11_code
def yM_isRule : MethodName := ⟨RM, "isRule", "(I)Z"⟩
abbrev bM_isRule : ByteArray := prog_7_method_12_code
def yM_mark : MethodName := ⟨RM, "mark", "(II)V"⟩
abbrev bM_mark : ByteArray := prog_7_method_13_code
def yM_bar : MethodName := ⟨RM, "bar", "(IIZ)V"⟩
abbrev bM_bar : ByteArray := prog_7_method_14_code
def yM_follow : MethodName := ⟨RM, "follow", "(IIZ)V"⟩
abbrev bM_follow : ByteArray := prog_7_method_15_code
def yM_undo : MethodName := ⟨RM, "undo", "()V"⟩
abbrev bM_undo : ByteArray := prog_7_method_16_code
def yM_span : MethodName := ⟨RM, "span", "(II)I"⟩
abbrev bM_span : ByteArray := prog_7_method_17_code
def yM_allowed : MethodName := ⟨RM, "allowed", "(III)Z"⟩
abbrev bM_allowed : ByteArray := prog_7_method_18_code
def yM_cutDown : MethodName := ⟨RM, "cutDown", "(J)I"⟩
abbrev bM_cutDown : ByteArray := prog_7_method_19_code
def yM_heaviest : MethodName := ⟨RM, "heaviest", "(IIIII)I"⟩
abbrev bM_heaviest : ByteArray := prog_7_method_20_code
def yM_count5 : MethodName := ⟨RM, "count", "(IIIII)I"⟩
abbrev bM_count5 : ByteArray := prog_7_method_21_code
def yM_stands : MethodName := ⟨RM, "stands", "(II)Z"⟩
abbrev bM_stands : ByteArray := prog_7_method_22_code
def yM_symbol : MethodName := ⟨RM, "symbol", "(IIII)I"⟩
abbrev bM_symbol : ByteArray := prog_7_method_23_code
def yM_next : MethodName := ⟨RM, "next", "(II)Z"⟩
abbrev bM_next : ByteArray := prog_7_method_24_code
def yM_divide : MethodName := ⟨RM, "divide", "(III)V"⟩
abbrev bM_divide : ByteArray := prog_7_method_25_code
def yM_weightOf : MethodName := ⟨RM, "weightOf", "(I)D"⟩
abbrev bM_weightOf : ByteArray := prog_7_method_26_code
def yM_isGood : MethodName := ⟨RM, "isGood", "(III)Z"⟩
abbrev bM_isGood : ByteArray := prog_7_method_27_code
def yM_fill : MethodName := ⟨RM, "fill", "(II)V"⟩
abbrev bM_fill : ByteArray := prog_7_method_28_code
def yM_parse : MethodName := ⟨RM, "parse", "(I)I"⟩
abbrev bM_parse : ByteArray := prog_7_method_29_code
def yM_put : MethodName := ⟨RM, "put", "(IIIII)I"⟩
abbrev bM_put : ByteArray := prog_7_method_30_code
def yM_grow : MethodName := ⟨RM, "grow", "(I)V"⟩
abbrev bM_grow : ByteArray := prog_7_method_31_code
def yM_weight : MethodName := ⟨RM, "weight", "()D"⟩
abbrev bM_weight : ByteArray := prog_7_method_32_code
def yM_node : MethodName := ⟨RM, "node", "(II)I"⟩
abbrev bM_node : ByteArray := prog_7_method_33_code
def yM_many : MethodName := ⟨RM, "many", "(III)I"⟩
abbrev bM_many : ByteArray := prog_7_method_34_code
def yM_count1 : MethodName := ⟨RM, "count", "(I)I"⟩
abbrev bM_count1 : ByteArray := prog_7_method_35_code
def yL_type : MethodName := ⟨RL, "type", "(LSpanParser;J[J)I"⟩
abbrev bL_type : ByteArray := method_3_code
def yL_rule : MethodName := ⟨RL, "rule", "(LSpanParser;D[J)I"⟩
abbrev bL_rule : ByteArray := method_4_code
def yL_mark : MethodName := ⟨RL, "mark", "(LSpanParser;II)I"⟩
abbrev bL_mark : ByteArray := method_5_code
def yL_bar : MethodName := ⟨RL, "bar", "(LSpanParser;IIZ)I"⟩
abbrev bL_bar : ByteArray := method_6_code
def yL_follow : MethodName := ⟨RL, "follow", "(LSpanParser;IIZ)I"⟩
abbrev bL_follow : ByteArray := method_7_code
def yL_undo : MethodName := ⟨RL, "undo", "(LSpanParser;)I"⟩
abbrev bL_undo : ByteArray := method_8_code
def yL_parse : MethodName := ⟨RL, "parse", "(LSpanParser;I[J)I"⟩
abbrev bL_parse : ByteArray := method_9_code
def yL_weight : MethodName := ⟨RL, "weight", "(LSpanParser;[D)I"⟩
abbrev bL_weight : ByteArray := method_10_code
def yL_node : MethodName := ⟨RL, "node", "(LSpanParser;II[J)I"⟩
abbrev bL_node : ByteArray := method_11_code
def yL_many : MethodName := ⟨RL, "many", "(LSpanParser;III[J)I"⟩
abbrev bL_many : ByteArray := method_12_code
def yL_law : MethodName := ⟨RL, "law", "([I)Z"⟩
abbrev bL_law : ByteArray := code
theorem wSel_G_reachedByChains : Cond.selects RG yG_reachedByChains yG_reachedByChains ∈ LG := LG_in (List.mem_of_getElem? (i := 1) (by decide +kernel)) (by decide +kernel)
theorem wSel_G_isChain : Cond.selects RG yG_isChain yG_isChain ∈ LG := LG_in (List.mem_of_getElem? (i := 2) (by decide +kernel)) (by decide +kernel)
theorem wSel_P_forgetInput : Cond.selects RP yP_forgetInput yP_forgetInput ∈ LG := LG_in (List.mem_of_getElem? (i := 3) (by decide +kernel)) (by decide +kernel)
theorem wSel_C_fillSpan : Cond.selects RC yC_fillSpan yC_fillSpan ∈ LG := LG_in (List.mem_of_getElem? (i := 4) (by decide +kernel)) (by decide +kernel)
theorem wSel_C_settleCharacters : Cond.selects RC yC_settleCharacters yC_settleCharacters ∈ LG := LG_in (List.mem_of_getElem? (i := 5) (by decide +kernel)) (by decide +kernel)
theorem wSel_C_deriveRule : Cond.selects RC yC_deriveRule yC_deriveRule ∈ LG := LG_in (List.mem_of_getElem? (i := 6) (by decide +kernel)) (by decide +kernel)
theorem wSel_C_firstDivision : Cond.selects RC yC_firstDivision yC_firstDivision ∈ LG := LG_in (List.mem_of_getElem? (i := 7) (by decide +kernel)) (by decide +kernel)
theorem wSel_C_divisionWays : Cond.selects RC yC_divisionWays yC_divisionWays ∈ LG := LG_in (List.mem_of_getElem? (i := 8) (by decide +kernel)) (by decide +kernel)
theorem wSel_C_divisionWeight : Cond.selects RC yC_divisionWeight yC_divisionWeight ∈ LG := LG_in (List.mem_of_getElem? (i := 9) (by decide +kernel)) (by decide +kernel)
theorem wSel_C_packedEnds : Cond.selects RC yC_packedEnds yC_packedEnds ∈ LG := LG_in (List.mem_of_getElem? (i := 10) (by decide +kernel)) (by decide +kernel)
theorem wSel_C_nextDivision : Cond.selects RC yC_nextDivision yC_nextDivision ∈ LG := LG_in (List.mem_of_getElem? (i := 11) (by decide +kernel)) (by decide +kernel)
theorem wSel_G_rulesOf : Cond.selects RG yG_rulesOf yG_rulesOf ∈ LG := LG_in (List.mem_of_getElem? (i := 12) (by decide +kernel)) (by decide +kernel)
theorem wSel_C_settleNonterminal : Cond.selects RC yC_settleNonterminal yC_settleNonterminal ∈ LG := LG_in (List.mem_of_getElem? (i := 13) (by decide +kernel)) (by decide +kernel)
theorem wSel_E_insert : Cond.selects RE yE_insert yE_insert ∈ LG := LG_in (List.mem_of_getElem? (i := 14) (by decide +kernel)) (by decide +kernel)
theorem wSel_E_insertBelow : Cond.selects RE yE_insertBelow yE_insertBelow ∈ LG := LG_in (List.mem_of_getElem? (i := 15) (by decide +kernel)) (by decide +kernel)
theorem wSel_M_bad : Cond.selects RM yM_bad yM_bad ∈ LG := LG_in (List.mem_of_getElem? (i := 16) (by decide +kernel)) (by decide +kernel)
theorem wSel_M_fail : Cond.selects RM yM_fail yM_fail ∈ LG := LG_in (List.mem_of_getElem? (i := 17) (by decide +kernel)) (by decide +kernel)
theorem wSel_M_wrong : Cond.selects RM yM_wrong yM_wrong ∈ LG := LG_in (List.mem_of_getElem? (i := 18) (by decide +kernel)) (by decide +kernel)
theorem wSel_M_leads : Cond.selects RM yM_leads yM_leads ∈ LG := LG_in (List.mem_of_getElem? (i := 19) (by decide +kernel)) (by decide +kernel)
theorem wSel_M_isChain : Cond.selects RM yM_isChain yM_isChain ∈ LG := LG_in (List.mem_of_getElem? (i := 20) (by decide +kernel)) (by decide +kernel)
theorem wSel_M_change : Cond.selects RM yM_change yM_change ∈ LG := LG_in (List.mem_of_getElem? (i := 21) (by decide +kernel)) (by decide +kernel)
theorem wSel_M_isRule : Cond.selects RM yM_isRule yM_isRule ∈ LG := LG_in (List.mem_of_getElem? (i := 22) (by decide +kernel)) (by decide +kernel)
theorem wSel_M_fill : Cond.selects RM yM_fill yM_fill ∈ LG := LG_in (List.mem_of_getElem? (i := 23) (by decide +kernel)) (by decide +kernel)
theorem wSel_M_divide : Cond.selects RM yM_divide yM_divide ∈ LG := LG_in (List.mem_of_getElem? (i := 24) (by decide +kernel)) (by decide +kernel)
theorem wSel_M_symbol : Cond.selects RM yM_symbol yM_symbol ∈ LG := LG_in (List.mem_of_getElem? (i := 25) (by decide +kernel)) (by decide +kernel)
theorem wSel_M_stands : Cond.selects RM yM_stands yM_stands ∈ LG := LG_in (List.mem_of_getElem? (i := 26) (by decide +kernel)) (by decide +kernel)
theorem wSel_M_count5 : Cond.selects RM yM_count5 yM_count5 ∈ LG := LG_in (List.mem_of_getElem? (i := 27) (by decide +kernel)) (by decide +kernel)
theorem wSel_M_allowed : Cond.selects RM yM_allowed yM_allowed ∈ LG := LG_in (List.mem_of_getElem? (i := 28) (by decide +kernel)) (by decide +kernel)
theorem wSel_M_weightOf : Cond.selects RM yM_weightOf yM_weightOf ∈ LG := LG_in (List.mem_of_getElem? (i := 29) (by decide +kernel)) (by decide +kernel)
theorem wSel_M_heaviest : Cond.selects RM yM_heaviest yM_heaviest ∈ LG := LG_in (List.mem_of_getElem? (i := 30) (by decide +kernel)) (by decide +kernel)
theorem wSel_M_next : Cond.selects RM yM_next yM_next ∈ LG := LG_in (List.mem_of_getElem? (i := 31) (by decide +kernel)) (by decide +kernel)
theorem wSel_M_isGood : Cond.selects RM yM_isGood yM_isGood ∈ LG := LG_in (List.mem_of_getElem? (i := 32) (by decide +kernel)) (by decide +kernel)
theorem wSel_M_grow : Cond.selects RM yM_grow yM_grow ∈ LG := LG_in (List.mem_of_getElem? (i := 33) (by decide +kernel)) (by decide +kernel)
theorem wSel_M_put : Cond.selects RM yM_put yM_put ∈ LG := LG_in (List.mem_of_getElem? (i := 34) (by decide +kernel)) (by decide +kernel)
theorem wIni_L : Cond.initialized RL ∈ LG := LG_in (List.mem_of_getElem? (i := 35) (by decide +kernel)) (by decide +kernel)
theorem wIni_P : Cond.initialized RP ∈ LG := LG_in (List.mem_of_getElem? (i := 36) (by decide +kernel)) (by decide +kernel)
theorem wIni_T : Cond.initialized RT ∈ LG := LG_in (List.mem_of_getElem? (i := 37) (by decide +kernel)) (by decide +kernel)
theorem wIni_G : Cond.initialized RG ∈ LG := LG_in (List.mem_of_getElem? (i := 38) (by decide +kernel)) (by decide +kernel)
theorem wIni_C : Cond.initialized RC ∈ LG := LG_in (List.mem_of_getElem? (i := 39) (by decide +kernel)) (by decide +kernel)
theorem wIni_E : Cond.initialized RE ∈ LG := LG_in (List.mem_of_getElem? (i := 40) (by decide +kernel)) (by decide +kernel)
theorem wIni_M : Cond.initialized RM ∈ LG := LG_in (List.mem_of_getElem? (i := 41) (by decide +kernel)) (by decide +kernel)
theorem wIni_Throwable : Cond.initialized "java/lang/Throwable" ∈ LG := LG_in (List.mem_of_getElem? (i := 42) (by decide +kernel)) (by decide +kernel)
theorem wIni_Exception : Cond.initialized "java/lang/Exception" ∈ LG := LG_in (List.mem_of_getElem? (i := 43) (by decide +kernel)) (by decide +kernel)
theorem wIni_RuntimeException : Cond.initialized "java/lang/RuntimeException" ∈ LG := LG_in (List.mem_of_getElem? (i := 44) (by decide +kernel)) (by decide +kernel)
theorem wIni_IllegalArgumentException : Cond.initialized "java/lang/IllegalArgumentException" ∈ LG := LG_in (List.mem_of_getElem? (i := 45) (by decide +kernel)) (by decide +kernel)
theorem wIni_IllegalStateException : Cond.initialized "java/lang/IllegalStateException" ∈ LG := LG_in (List.mem_of_getElem? (i := 46) (by decide +kernel)) (by decide +kernel)
theorem wIni_UnsupportedOperationException : Cond.initialized "java/lang/UnsupportedOperationException" ∈ LG := LG_in (List.mem_of_getElem? (i := 47) (by decide +kernel)) (by decide +kernel)
theorem wIni_NoSuchElementException : Cond.initialized "java/util/NoSuchElementException" ∈ LG := LG_in (List.mem_of_getElem? (i := 48) (by decide +kernel)) (by decide +kernel)
theorem wIni_Math : Cond.initialized "java/lang/Math" ∈ LG := LG_in (List.mem_of_getElem? (i := 49) (by decide +kernel)) (by decide +kernel)
theorem wIni_System : Cond.initialized "java/lang/System" ∈ LG := LG_in (List.mem_of_getElem? (i := 50) (by decide +kernel)) (by decide +kernel)
theorem wCl_L_8 : Cond.classLink RL 8 RP ∈ LG := LG_in (List.mem_of_getElem? (i := 51) (by decide +kernel)) (by decide +kernel)
theorem wIn_P : Cond.instantiable RP 7 ∈ LG := LG_in (List.mem_of_getElem? (i := 52) (by decide +kernel)) (by decide +kernel)
theorem wM_L_55 : Cond.methodLink RL 55 yP_init ∈ LG := LG_in (List.mem_of_getElem? (i := 53) (by decide +kernel)) (by decide +kernel)
theorem wI_P_init : Cond.instanceMethod yP_init ∈ LG := LG_in (List.mem_of_getElem? (i := 54) (by decide +kernel)) (by decide +kernel)
theorem wC_P_init : Cond.code yP_init bP_init 1 none ∈ LG := LG_in (List.mem_of_getElem? (i := 55) (by decide +kernel)) (by decide +kernel)
theorem wM_P_3 : Cond.methodLink RP 3 objectInit ∈ LG := LG_in (List.mem_of_getElem? (i := 56) (by decide +kernel)) (by decide +kernel)
theorem wCl_P_9 : Cond.classLink RP 9 RT ∈ LG := LG_in (List.mem_of_getElem? (i := 59) (by decide +kernel)) (by decide +kernel)
theorem wIn_T : Cond.instantiable RT 2 ∈ LG := LG_in (List.mem_of_getElem? (i := 60) (by decide +kernel)) (by decide +kernel)
theorem wI_T_init : Cond.instanceMethod yT_init ∈ LG := LG_in (List.mem_of_getElem? (i := 62) (by decide +kernel)) (by decide +kernel)
theorem wC_T_init : Cond.code yT_init bT_init 1 none ∈ LG := LG_in (List.mem_of_getElem? (i := 63) (by decide +kernel)) (by decide +kernel)
theorem wM_T_3 : Cond.methodLink RT 3 objectInit ∈ LG := LG_in (List.mem_of_getElem? (i := 64) (by decide +kernel)) (by decide +kernel)
theorem wF_T_9 : Cond.fieldLink RT 9 "SpanParser$Text" "characters" "[I" ∈ LG := LG_in (List.mem_of_getElem? (i := 65) (by decide +kernel)) (by decide +kernel)
theorem wF_T_15 : Cond.fieldLink RT 15 "SpanParser$Text" "length" "I" ∈ LG := LG_in (List.mem_of_getElem? (i := 66) (by decide +kernel)) (by decide +kernel)
theorem wArr_int : Cond.arrayClass .int ∈ LG := LG_in (List.mem_of_getElem? (i := 72) (by decide +kernel)) (by decide +kernel)
theorem wCl_P_16 : Cond.classLink RP 16 RG ∈ LG := LG_in (List.mem_of_getElem? (i := 73) (by decide +kernel)) (by decide +kernel)
theorem wIn_G : Cond.instantiable RG 8 ∈ LG := LG_in (List.mem_of_getElem? (i := 74) (by decide +kernel)) (by decide +kernel)
theorem wI_G_init : Cond.instanceMethod yG_init ∈ LG := LG_in (List.mem_of_getElem? (i := 76) (by decide +kernel)) (by decide +kernel)
theorem wC_G_init : Cond.code yG_init bG_init 1 none ∈ LG := LG_in (List.mem_of_getElem? (i := 77) (by decide +kernel)) (by decide +kernel)
theorem wM_G_3 : Cond.methodLink RG 3 objectInit ∈ LG := LG_in (List.mem_of_getElem? (i := 78) (by decide +kernel)) (by decide +kernel)
theorem wF_G_9 : Cond.fieldLink RG 9 "SpanParser$Grammar" "lefts" "[I" ∈ LG := LG_in (List.mem_of_getElem? (i := 79) (by decide +kernel)) (by decide +kernel)
theorem wF_G_15 : Cond.fieldLink RG 15 "SpanParser$Grammar" "rightLengths" "[I" ∈ LG := LG_in (List.mem_of_getElem? (i := 80) (by decide +kernel)) (by decide +kernel)
theorem wF_G_18 : Cond.fieldLink RG 18 "SpanParser$Grammar" "rights" "[I" ∈ LG := LG_in (List.mem_of_getElem? (i := 81) (by decide +kernel)) (by decide +kernel)
theorem wF_G_21 : Cond.fieldLink RG 21 "SpanParser$Grammar" "weights" "[D" ∈ LG := LG_in (List.mem_of_getElem? (i := 82) (by decide +kernel)) (by decide +kernel)
theorem wF_G_25 : Cond.fieldLink RG 25 "SpanParser$Grammar" "marks" "[I" ∈ LG := LG_in (List.mem_of_getElem? (i := 83) (by decide +kernel)) (by decide +kernel)
theorem wF_G_28 : Cond.fieldLink RG 28 "SpanParser$Grammar" "barredUnder" "[I" ∈ LG := LG_in (List.mem_of_getElem? (i := 84) (by decide +kernel)) (by decide +kernel)
theorem wF_G_31 : Cond.fieldLink RG 31 "SpanParser$Grammar" "mayNotFollow" "[Z" ∈ LG := LG_in (List.mem_of_getElem? (i := 85) (by decide +kernel)) (by decide +kernel)
theorem wF_G_35 : Cond.fieldLink RG 35 "SpanParser$Grammar" "size" "I" ∈ LG := LG_in (List.mem_of_getElem? (i := 86) (by decide +kernel)) (by decide +kernel)
theorem wArr_double : Cond.arrayClass .double ∈ LG := LG_in (List.mem_of_getElem? (i := 104) (by decide +kernel)) (by decide +kernel)
theorem wArr_boolean : Cond.arrayClass .boolean ∈ LG := LG_in (List.mem_of_getElem? (i := 105) (by decide +kernel)) (by decide +kernel)
theorem wCl_P_23 : Cond.classLink RP 23 RC ∈ LG := LG_in (List.mem_of_getElem? (i := 106) (by decide +kernel)) (by decide +kernel)
theorem wIn_C : Cond.instantiable RC 7 ∈ LG := LG_in (List.mem_of_getElem? (i := 107) (by decide +kernel)) (by decide +kernel)
theorem wI_C_init : Cond.instanceMethod yC_init ∈ LG := LG_in (List.mem_of_getElem? (i := 109) (by decide +kernel)) (by decide +kernel)
theorem wC_C_init : Cond.code yC_init bC_init 1 none ∈ LG := LG_in (List.mem_of_getElem? (i := 110) (by decide +kernel)) (by decide +kernel)
theorem wM_C_3 : Cond.methodLink RC 3 objectInit ∈ LG := LG_in (List.mem_of_getElem? (i := 111) (by decide +kernel)) (by decide +kernel)
theorem wF_C_9 : Cond.fieldLink RC 9 "SpanParser$Chart" "ruleWays" "[I" ∈ LG := LG_in (List.mem_of_getElem? (i := 112) (by decide +kernel)) (by decide +kernel)
theorem wF_C_15 : Cond.fieldLink RC 15 "SpanParser$Chart" "ruleWeights" "[D" ∈ LG := LG_in (List.mem_of_getElem? (i := 113) (by decide +kernel)) (by decide +kernel)
theorem wF_C_19 : Cond.fieldLink RC 19 "SpanParser$Chart" "ruleDivisions" "[I" ∈ LG := LG_in (List.mem_of_getElem? (i := 114) (by decide +kernel)) (by decide +kernel)
theorem wF_C_22 : Cond.fieldLink RC 22 "SpanParser$Chart" "useWays" "[I" ∈ LG := LG_in (List.mem_of_getElem? (i := 115) (by decide +kernel)) (by decide +kernel)
theorem wF_C_25 : Cond.fieldLink RC 25 "SpanParser$Chart" "useRules" "[I" ∈ LG := LG_in (List.mem_of_getElem? (i := 116) (by decide +kernel)) (by decide +kernel)
theorem wF_C_28 : Cond.fieldLink RC 28 "SpanParser$Chart" "order" "[I" ∈ LG := LG_in (List.mem_of_getElem? (i := 117) (by decide +kernel)) (by decide +kernel)
theorem wF_C_31 : Cond.fieldLink RC 31 "SpanParser$Chart" "ends" "[I" ∈ LG := LG_in (List.mem_of_getElem? (i := 118) (by decide +kernel)) (by decide +kernel)
theorem wCl_P_30 : Cond.classLink RP 30 RE ∈ LG := LG_in (List.mem_of_getElem? (i := 134) (by decide +kernel)) (by decide +kernel)
theorem wIn_E : Cond.instantiable RE 4 ∈ LG := LG_in (List.mem_of_getElem? (i := 135) (by decide +kernel)) (by decide +kernel)
theorem wI_E_init : Cond.instanceMethod yE_init ∈ LG := LG_in (List.mem_of_getElem? (i := 137) (by decide +kernel)) (by decide +kernel)
theorem wC_E_init : Cond.code yE_init bE_init 1 none ∈ LG := LG_in (List.mem_of_getElem? (i := 138) (by decide +kernel)) (by decide +kernel)
theorem wM_E_3 : Cond.methodLink RE 3 objectInit ∈ LG := LG_in (List.mem_of_getElem? (i := 139) (by decide +kernel)) (by decide +kernel)
theorem wF_E_9 : Cond.fieldLink RE 9 "SpanParser$Tree" "rules" "[I" ∈ LG := LG_in (List.mem_of_getElem? (i := 140) (by decide +kernel)) (by decide +kernel)
theorem wF_E_15 : Cond.fieldLink RE 15 "SpanParser$Tree" "begins" "[I" ∈ LG := LG_in (List.mem_of_getElem? (i := 141) (by decide +kernel)) (by decide +kernel)
theorem wF_E_18 : Cond.fieldLink RE 18 "SpanParser$Tree" "ends" "[I" ∈ LG := LG_in (List.mem_of_getElem? (i := 142) (by decide +kernel)) (by decide +kernel)
theorem wF_E_21 : Cond.fieldLink RE 21 "SpanParser$Tree" "size" "I" ∈ LG := LG_in (List.mem_of_getElem? (i := 143) (by decide +kernel)) (by decide +kernel)
theorem wF_P_12 : Cond.fieldLink RP 12 "SpanParser" "text" "LSpanParser$Text;" ∈ LG := LG_in (List.mem_of_getElem? (i := 153) (by decide +kernel)) (by decide +kernel)
theorem wF_P_19 : Cond.fieldLink RP 19 "SpanParser" "grammar" "LSpanParser$Grammar;" ∈ LG := LG_in (List.mem_of_getElem? (i := 154) (by decide +kernel)) (by decide +kernel)
theorem wF_P_26 : Cond.fieldLink RP 26 "SpanParser" "chart" "LSpanParser$Chart;" ∈ LG := LG_in (List.mem_of_getElem? (i := 155) (by decide +kernel)) (by decide +kernel)
theorem wF_P_33 : Cond.fieldLink RP 33 "SpanParser" "tree" "LSpanParser$Tree;" ∈ LG := LG_in (List.mem_of_getElem? (i := 156) (by decide +kernel)) (by decide +kernel)
theorem wF_P_37 : Cond.fieldLink RP 37 "SpanParser" "misreadPlace" "I" ∈ LG := LG_in (List.mem_of_getElem? (i := 157) (by decide +kernel)) (by decide +kernel)
theorem wF_P_41 : Cond.fieldLink RP 41 "SpanParser" "inputLength" "I" ∈ LG := LG_in (List.mem_of_getElem? (i := 158) (by decide +kernel)) (by decide +kernel)
theorem wF_P_44 : Cond.fieldLink RP 44 "SpanParser" "treeWeight" "D" ∈ LG := LG_in (List.mem_of_getElem? (i := 159) (by decide +kernel)) (by decide +kernel)
theorem wM_L_108 : Cond.methodLink RL 108 yP_count ∈ LG := LG_in (List.mem_of_getElem? (i := 175) (by decide +kernel)) (by decide +kernel)
theorem wI_P_count : Cond.instanceMethod yP_count ∈ LG := LG_in (List.mem_of_getElem? (i := 176) (by decide +kernel)) (by decide +kernel)
theorem wSel_P_count : Cond.selects RP yP_count yP_count ∈ LG := LG_in (List.mem_of_getElem? (i := 177) (by decide +kernel)) (by decide +kernel)
theorem wC_P_count : Cond.code yP_count bP_count 2 (some .int) ∈ LG := LG_in (List.mem_of_getElem? (i := 178) (by decide +kernel)) (by decide +kernel)
theorem wM_P_74 : Cond.methodLink RP 74 yG_size ∈ LG := LG_in (List.mem_of_getElem? (i := 179) (by decide +kernel)) (by decide +kernel)
theorem wI_G_size : Cond.instanceMethod yG_size ∈ LG := LG_in (List.mem_of_getElem? (i := 180) (by decide +kernel)) (by decide +kernel)
theorem wSel_G_size : Cond.selects RG yG_size yG_size ∈ LG := LG_in (List.mem_of_getElem? (i := 181) (by decide +kernel)) (by decide +kernel)
theorem wC_G_size : Cond.code yG_size bG_size 1 (some .int) ∈ LG := LG_in (List.mem_of_getElem? (i := 182) (by decide +kernel)) (by decide +kernel)
theorem wM_P_59 : Cond.methodLink RP 59 yT_length ∈ LG := LG_in (List.mem_of_getElem? (i := 183) (by decide +kernel)) (by decide +kernel)
theorem wI_T_length : Cond.instanceMethod yT_length ∈ LG := LG_in (List.mem_of_getElem? (i := 184) (by decide +kernel)) (by decide +kernel)
theorem wSel_T_length : Cond.selects RT yT_length yT_length ∈ LG := LG_in (List.mem_of_getElem? (i := 185) (by decide +kernel)) (by decide +kernel)
theorem wC_T_length : Cond.code yT_length bT_length 1 (some .int) ∈ LG := LG_in (List.mem_of_getElem? (i := 186) (by decide +kernel)) (by decide +kernel)
theorem wM_P_150 : Cond.methodLink RP 150 yE_size ∈ LG := LG_in (List.mem_of_getElem? (i := 187) (by decide +kernel)) (by decide +kernel)
theorem wI_E_size : Cond.instanceMethod yE_size ∈ LG := LG_in (List.mem_of_getElem? (i := 188) (by decide +kernel)) (by decide +kernel)
theorem wSel_E_size : Cond.selects RE yE_size yE_size ∈ LG := LG_in (List.mem_of_getElem? (i := 189) (by decide +kernel)) (by decide +kernel)
theorem wC_E_size : Cond.code yE_size bE_size 1 (some .int) ∈ LG := LG_in (List.mem_of_getElem? (i := 190) (by decide +kernel)) (by decide +kernel)
theorem wM_L_61 : Cond.methodLink RL 61 yL_type ∈ LG := LG_in (List.mem_of_getElem? (i := 191) (by decide +kernel)) (by decide +kernel)
theorem wSt_L_type : Cond.static yL_type ∈ LG := LG_in (List.mem_of_getElem? (i := 192) (by decide +kernel)) (by decide +kernel)
theorem wC_L_type : Cond.codeWith yL_type bL_type 5 (some .int) [(0, 9, 12, 13), (0, 9, 16, 15)] ∈ LG := LG_in (List.mem_of_getElem? (i := 193) (by decide +kernel)) (by decide +kernel)
theorem wCl_L_13 : Cond.classLink RL 13 "java/lang/IllegalArgumentException" ∈ LG := LG_in (List.mem_of_getElem? (i := 194) (by decide +kernel)) (by decide +kernel)
theorem wCl_L_15 : Cond.classLink RL 15 "java/lang/IllegalStateException" ∈ LG := LG_in (List.mem_of_getElem? (i := 195) (by decide +kernel)) (by decide +kernel)
theorem wM_L_7 : Cond.methodLink RL 7 yP_type ∈ LG := LG_in (List.mem_of_getElem? (i := 196) (by decide +kernel)) (by decide +kernel)
theorem wI_P_type : Cond.instanceMethod yP_type ∈ LG := LG_in (List.mem_of_getElem? (i := 197) (by decide +kernel)) (by decide +kernel)
theorem wSel_P_type : Cond.selects RP yP_type yP_type ∈ LG := LG_in (List.mem_of_getElem? (i := 198) (by decide +kernel)) (by decide +kernel)
theorem wC_P_type : Cond.code yP_type bP_type 6 (some .int) ∈ LG := LG_in (List.mem_of_getElem? (i := 199) (by decide +kernel)) (by decide +kernel)
theorem wM_P_48 : Cond.methodLink RP 48 yP_byteAt ∈ LG := LG_in (List.mem_of_getElem? (i := 200) (by decide +kernel)) (by decide +kernel)
theorem wSt_P_byteAt : Cond.static yP_byteAt ∈ LG := LG_in (List.mem_of_getElem? (i := 201) (by decide +kernel)) (by decide +kernel)
theorem wC_P_byteAt : Cond.code yP_byteAt bP_byteAt 3 (some .int) ∈ LG := LG_in (List.mem_of_getElem? (i := 202) (by decide +kernel)) (by decide +kernel)
theorem wM_P_52 : Cond.methodLink RP 52 yP_isCharacter ∈ LG := LG_in (List.mem_of_getElem? (i := 203) (by decide +kernel)) (by decide +kernel)
theorem wSt_P_isCharacter : Cond.static yP_isCharacter ∈ LG := LG_in (List.mem_of_getElem? (i := 204) (by decide +kernel)) (by decide +kernel)
theorem wC_P_isCharacter : Cond.code yP_isCharacter bP_isCharacter 1 (some .boolean) ∈ LG := LG_in (List.mem_of_getElem? (i := 205) (by decide +kernel)) (by decide +kernel)
theorem wCl_P_56 : Cond.classLink RP 56 "java/lang/IllegalArgumentException" ∈ LG := LG_in (List.mem_of_getElem? (i := 206) (by decide +kernel)) (by decide +kernel)
theorem wM_P_58 : Cond.methodLink RP 58 (⟨"java/lang/IllegalArgumentException", "<init>", "()V"⟩ : MethodName) ∈ LG := LG_in (List.mem_of_getElem? (i := 248) (by decide +kernel)) (by decide +kernel)
theorem wCl_P_63 : Cond.classLink RP 63 "java/lang/IllegalStateException" ∈ LG := LG_in (List.mem_of_getElem? (i := 270) (by decide +kernel)) (by decide +kernel)
theorem wM_P_65 : Cond.methodLink RP 65 (⟨"java/lang/IllegalStateException", "<init>", "()V"⟩ : MethodName) ∈ LG := LG_in (List.mem_of_getElem? (i := 279) (by decide +kernel)) (by decide +kernel)
theorem wM_P_66 : Cond.methodLink RP 66 yT_append ∈ LG := LG_in (List.mem_of_getElem? (i := 285) (by decide +kernel)) (by decide +kernel)
theorem wI_T_append : Cond.instanceMethod yT_append ∈ LG := LG_in (List.mem_of_getElem? (i := 286) (by decide +kernel)) (by decide +kernel)
theorem wSel_T_append : Cond.selects RT yT_append yT_append ∈ LG := LG_in (List.mem_of_getElem? (i := 287) (by decide +kernel)) (by decide +kernel)
theorem wC_T_append : Cond.code yT_append bT_append 2 none ∈ LG := LG_in (List.mem_of_getElem? (i := 288) (by decide +kernel)) (by decide +kernel)
theorem wM_L_73 : Cond.methodLink RL 73 yL_rule ∈ LG := LG_in (List.mem_of_getElem? (i := 289) (by decide +kernel)) (by decide +kernel)
theorem wSt_L_rule : Cond.static yL_rule ∈ LG := LG_in (List.mem_of_getElem? (i := 290) (by decide +kernel)) (by decide +kernel)
theorem wC_L_rule : Cond.codeWith yL_rule bL_rule 5 (some .int) [(0, 9, 12, 13), (0, 9, 16, 15), (0, 9, 20, 21)] ∈ LG := LG_in (List.mem_of_getElem? (i := 291) (by decide +kernel)) (by decide +kernel)
theorem wCl_L_21 : Cond.classLink RL 21 "java/lang/UnsupportedOperationException" ∈ LG := LG_in (List.mem_of_getElem? (i := 292) (by decide +kernel)) (by decide +kernel)
theorem wM_L_17 : Cond.methodLink RL 17 yP_rule ∈ LG := LG_in (List.mem_of_getElem? (i := 293) (by decide +kernel)) (by decide +kernel)
theorem wI_P_rule : Cond.instanceMethod yP_rule ∈ LG := LG_in (List.mem_of_getElem? (i := 294) (by decide +kernel)) (by decide +kernel)
theorem wSel_P_rule : Cond.selects RP yP_rule yP_rule ∈ LG := LG_in (List.mem_of_getElem? (i := 295) (by decide +kernel)) (by decide +kernel)
theorem wC_P_rule : Cond.code yP_rule bP_rule 4 (some .int) ∈ LG := LG_in (List.mem_of_getElem? (i := 296) (by decide +kernel)) (by decide +kernel)
theorem wK_P_70 : Cond.constantDouble RP 70 (4593671619917905920 : UInt64) ∈ LG := LG_in (List.mem_of_getElem? (i := 297) (by decide +kernel)) (by decide +kernel)
theorem wK_P_72 : Cond.constantDouble RP 72 (4620693217682128896 : UInt64) ∈ LG := LG_in (List.mem_of_getElem? (i := 298) (by decide +kernel)) (by decide +kernel)
theorem wM_P_77 : Cond.methodLink RP 77 yT_clear ∈ LG := LG_in (List.mem_of_getElem? (i := 299) (by decide +kernel)) (by decide +kernel)
theorem wI_T_clear : Cond.instanceMethod yT_clear ∈ LG := LG_in (List.mem_of_getElem? (i := 300) (by decide +kernel)) (by decide +kernel)
theorem wSel_T_clear : Cond.selects RT yT_clear yT_clear ∈ LG := LG_in (List.mem_of_getElem? (i := 301) (by decide +kernel)) (by decide +kernel)
theorem wC_T_clear : Cond.code yT_clear bT_clear 1 none ∈ LG := LG_in (List.mem_of_getElem? (i := 302) (by decide +kernel)) (by decide +kernel)
theorem wM_P_80 : Cond.methodLink RP 80 yG_wrongPlace ∈ LG := LG_in (List.mem_of_getElem? (i := 303) (by decide +kernel)) (by decide +kernel)
theorem wSt_G_wrongPlace : Cond.static yG_wrongPlace ∈ LG := LG_in (List.mem_of_getElem? (i := 304) (by decide +kernel)) (by decide +kernel)
theorem wC_G_wrongPlace : Cond.code yG_wrongPlace bG_wrongPlace 2 (some .int) ∈ LG := LG_in (List.mem_of_getElem? (i := 305) (by decide +kernel)) (by decide +kernel)
theorem wM_G_39 : Cond.methodLink RG 39 yT_length ∈ LG := LG_in (List.mem_of_getElem? (i := 306) (by decide +kernel)) (by decide +kernel)
theorem wM_G_45 : Cond.methodLink RG 45 yT_at ∈ LG := LG_in (List.mem_of_getElem? (i := 307) (by decide +kernel)) (by decide +kernel)
theorem wI_T_at : Cond.instanceMethod yT_at ∈ LG := LG_in (List.mem_of_getElem? (i := 308) (by decide +kernel)) (by decide +kernel)
theorem wSel_T_at : Cond.selects RT yT_at yT_at ∈ LG := LG_in (List.mem_of_getElem? (i := 309) (by decide +kernel)) (by decide +kernel)
theorem wC_T_at : Cond.code yT_at bT_at 2 (some .int) ∈ LG := LG_in (List.mem_of_getElem? (i := 310) (by decide +kernel)) (by decide +kernel)
theorem wM_G_49 : Cond.methodLink RG 49 yG_fits ∈ LG := LG_in (List.mem_of_getElem? (i := 311) (by decide +kernel)) (by decide +kernel)
theorem wSt_G_fits : Cond.static yG_fits ∈ LG := LG_in (List.mem_of_getElem? (i := 312) (by decide +kernel)) (by decide +kernel)
theorem wC_G_fits : Cond.code yG_fits bG_fits 2 (some .boolean) ∈ LG := LG_in (List.mem_of_getElem? (i := 313) (by decide +kernel)) (by decide +kernel)
theorem wSt_P_nonterminalNumber : Cond.static yP_nonterminalNumber ∈ LG := LG_in (List.mem_of_getElem? (i := 315) (by decide +kernel)) (by decide +kernel)
theorem wC_P_nonterminalNumber : Cond.code yP_nonterminalNumber bP_nonterminalNumber 1 (some .int) ∈ LG := LG_in (List.mem_of_getElem? (i := 316) (by decide +kernel)) (by decide +kernel)
theorem wM_P_84 : Cond.methodLink RP 84 yG_wouldLeadRound ∈ LG := LG_in (List.mem_of_getElem? (i := 317) (by decide +kernel)) (by decide +kernel)
theorem wI_G_wouldLeadRound : Cond.instanceMethod yG_wouldLeadRound ∈ LG := LG_in (List.mem_of_getElem? (i := 318) (by decide +kernel)) (by decide +kernel)
theorem wSel_G_wouldLeadRound : Cond.selects RG yG_wouldLeadRound yG_wouldLeadRound ∈ LG := LG_in (List.mem_of_getElem? (i := 319) (by decide +kernel)) (by decide +kernel)
theorem wC_G_wouldLeadRound : Cond.code yG_wouldLeadRound bG_wouldLeadRound 4 (some .boolean) ∈ LG := LG_in (List.mem_of_getElem? (i := 320) (by decide +kernel)) (by decide +kernel)
theorem wM_G_56 : Cond.methodLink RG 56 yG_reachedByChains ∈ LG := LG_in (List.mem_of_getElem? (i := 321) (by decide +kernel)) (by decide +kernel)
theorem wI_G_reachedByChains : Cond.instanceMethod yG_reachedByChains ∈ LG := LG_in (List.mem_of_getElem? (i := 323) (by decide +kernel)) (by decide +kernel)
theorem wC_G_reachedByChains : Cond.code yG_reachedByChains bG_reachedByChains 5 (some .int) ∈ LG := LG_in (List.mem_of_getElem? (i := 324) (by decide +kernel)) (by decide +kernel)
theorem wSt_P_contains : Cond.static yP_contains ∈ LG := LG_in (List.mem_of_getElem? (i := 326) (by decide +kernel)) (by decide +kernel)
theorem wC_P_contains : Cond.code yP_contains bP_contains 2 (some .boolean) ∈ LG := LG_in (List.mem_of_getElem? (i := 327) (by decide +kernel)) (by decide +kernel)
theorem wM_G_62 : Cond.methodLink RG 62 yG_isChain ∈ LG := LG_in (List.mem_of_getElem? (i := 328) (by decide +kernel)) (by decide +kernel)
theorem wI_G_isChain : Cond.instanceMethod yG_isChain ∈ LG := LG_in (List.mem_of_getElem? (i := 330) (by decide +kernel)) (by decide +kernel)
theorem wC_G_isChain : Cond.code yG_isChain bG_isChain 2 (some .boolean) ∈ LG := LG_in (List.mem_of_getElem? (i := 331) (by decide +kernel)) (by decide +kernel)
theorem wM_G_66 : Cond.methodLink RG 66 yG_symbolNonterminal ∈ LG := LG_in (List.mem_of_getElem? (i := 332) (by decide +kernel)) (by decide +kernel)
theorem wI_G_symbolNonterminal : Cond.instanceMethod yG_symbolNonterminal ∈ LG := LG_in (List.mem_of_getElem? (i := 333) (by decide +kernel)) (by decide +kernel)
theorem wSel_G_symbolNonterminal : Cond.selects RG yG_symbolNonterminal yG_symbolNonterminal ∈ LG := LG_in (List.mem_of_getElem? (i := 334) (by decide +kernel)) (by decide +kernel)
theorem wC_G_symbolNonterminal : Cond.code yG_symbolNonterminal bG_symbolNonterminal 3 (some .int) ∈ LG := LG_in (List.mem_of_getElem? (i := 335) (by decide +kernel)) (by decide +kernel)
theorem wCl_P_88 : Cond.classLink RP 88 "java/lang/UnsupportedOperationException" ∈ LG := LG_in (List.mem_of_getElem? (i := 336) (by decide +kernel)) (by decide +kernel)
theorem wM_P_90 : Cond.methodLink RP 90 (⟨"java/lang/UnsupportedOperationException", "<init>", "()V"⟩ : MethodName) ∈ LG := LG_in (List.mem_of_getElem? (i := 345) (by decide +kernel)) (by decide +kernel)
theorem wM_P_91 : Cond.methodLink RP 91 yG_add ∈ LG := LG_in (List.mem_of_getElem? (i := 351) (by decide +kernel)) (by decide +kernel)
theorem wI_G_add : Cond.instanceMethod yG_add ∈ LG := LG_in (List.mem_of_getElem? (i := 352) (by decide +kernel)) (by decide +kernel)
theorem wSel_G_add : Cond.selects RG yG_add yG_add ∈ LG := LG_in (List.mem_of_getElem? (i := 353) (by decide +kernel)) (by decide +kernel)
theorem wC_G_add : Cond.code yG_add bG_add 6 none ∈ LG := LG_in (List.mem_of_getElem? (i := 354) (by decide +kernel)) (by decide +kernel)
theorem wM_P_95 : Cond.methodLink RP 95 yP_forgetInput ∈ LG := LG_in (List.mem_of_getElem? (i := 355) (by decide +kernel)) (by decide +kernel)
theorem wI_P_forgetInput : Cond.instanceMethod yP_forgetInput ∈ LG := LG_in (List.mem_of_getElem? (i := 357) (by decide +kernel)) (by decide +kernel)
theorem wC_P_forgetInput : Cond.code yP_forgetInput bP_forgetInput 1 none ∈ LG := LG_in (List.mem_of_getElem? (i := 358) (by decide +kernel)) (by decide +kernel)
theorem wM_P_166 : Cond.methodLink RP 166 yE_clear ∈ LG := LG_in (List.mem_of_getElem? (i := 359) (by decide +kernel)) (by decide +kernel)
theorem wI_E_clear : Cond.instanceMethod yE_clear ∈ LG := LG_in (List.mem_of_getElem? (i := 360) (by decide +kernel)) (by decide +kernel)
theorem wSel_E_clear : Cond.selects RE yE_clear yE_clear ∈ LG := LG_in (List.mem_of_getElem? (i := 361) (by decide +kernel)) (by decide +kernel)
theorem wC_E_clear : Cond.code yE_clear bE_clear 1 none ∈ LG := LG_in (List.mem_of_getElem? (i := 362) (by decide +kernel)) (by decide +kernel)
theorem wM_L_77 : Cond.methodLink RL 77 yL_mark ∈ LG := LG_in (List.mem_of_getElem? (i := 363) (by decide +kernel)) (by decide +kernel)
theorem wSt_L_mark : Cond.static yL_mark ∈ LG := LG_in (List.mem_of_getElem? (i := 364) (by decide +kernel)) (by decide +kernel)
theorem wC_L_mark : Cond.codeWith yL_mark bL_mark 4 (some .int) [(0, 6, 9, 13)] ∈ LG := LG_in (List.mem_of_getElem? (i := 365) (by decide +kernel)) (by decide +kernel)
theorem wM_L_23 : Cond.methodLink RL 23 yP_mark ∈ LG := LG_in (List.mem_of_getElem? (i := 366) (by decide +kernel)) (by decide +kernel)
theorem wI_P_mark : Cond.instanceMethod yP_mark ∈ LG := LG_in (List.mem_of_getElem? (i := 367) (by decide +kernel)) (by decide +kernel)
theorem wSel_P_mark : Cond.selects RP yP_mark yP_mark ∈ LG := LG_in (List.mem_of_getElem? (i := 368) (by decide +kernel)) (by decide +kernel)
theorem wC_P_mark : Cond.code yP_mark bP_mark 3 none ∈ LG := LG_in (List.mem_of_getElem? (i := 369) (by decide +kernel)) (by decide +kernel)
theorem wM_P_98 : Cond.methodLink RP 98 yG_has ∈ LG := LG_in (List.mem_of_getElem? (i := 370) (by decide +kernel)) (by decide +kernel)
theorem wI_G_has : Cond.instanceMethod yG_has ∈ LG := LG_in (List.mem_of_getElem? (i := 371) (by decide +kernel)) (by decide +kernel)
theorem wSel_G_has : Cond.selects RG yG_has yG_has ∈ LG := LG_in (List.mem_of_getElem? (i := 372) (by decide +kernel)) (by decide +kernel)
theorem wC_G_has : Cond.code yG_has bG_has 2 (some .boolean) ∈ LG := LG_in (List.mem_of_getElem? (i := 373) (by decide +kernel)) (by decide +kernel)
theorem wM_P_101 : Cond.methodLink RP 101 yG_setMark ∈ LG := LG_in (List.mem_of_getElem? (i := 374) (by decide +kernel)) (by decide +kernel)
theorem wI_G_setMark : Cond.instanceMethod yG_setMark ∈ LG := LG_in (List.mem_of_getElem? (i := 375) (by decide +kernel)) (by decide +kernel)
theorem wSel_G_setMark : Cond.selects RG yG_setMark yG_setMark ∈ LG := LG_in (List.mem_of_getElem? (i := 376) (by decide +kernel)) (by decide +kernel)
theorem wC_G_setMark : Cond.code yG_setMark bG_setMark 3 none ∈ LG := LG_in (List.mem_of_getElem? (i := 377) (by decide +kernel)) (by decide +kernel)
theorem wM_L_81 : Cond.methodLink RL 81 yL_bar ∈ LG := LG_in (List.mem_of_getElem? (i := 378) (by decide +kernel)) (by decide +kernel)
theorem wSt_L_bar : Cond.static yL_bar ∈ LG := LG_in (List.mem_of_getElem? (i := 379) (by decide +kernel)) (by decide +kernel)
theorem wC_L_bar : Cond.codeWith yL_bar bL_bar 5 (some .int) [(0, 7, 10, 13)] ∈ LG := LG_in (List.mem_of_getElem? (i := 380) (by decide +kernel)) (by decide +kernel)
theorem wM_L_27 : Cond.methodLink RL 27 yP_bar ∈ LG := LG_in (List.mem_of_getElem? (i := 381) (by decide +kernel)) (by decide +kernel)
theorem wI_P_bar : Cond.instanceMethod yP_bar ∈ LG := LG_in (List.mem_of_getElem? (i := 382) (by decide +kernel)) (by decide +kernel)
theorem wSel_P_bar : Cond.selects RP yP_bar yP_bar ∈ LG := LG_in (List.mem_of_getElem? (i := 383) (by decide +kernel)) (by decide +kernel)
theorem wC_P_bar : Cond.code yP_bar bP_bar 4 none ∈ LG := LG_in (List.mem_of_getElem? (i := 384) (by decide +kernel)) (by decide +kernel)
theorem wM_P_105 : Cond.methodLink RP 105 yG_setBarred ∈ LG := LG_in (List.mem_of_getElem? (i := 385) (by decide +kernel)) (by decide +kernel)
theorem wI_G_setBarred : Cond.instanceMethod yG_setBarred ∈ LG := LG_in (List.mem_of_getElem? (i := 386) (by decide +kernel)) (by decide +kernel)
theorem wSel_G_setBarred : Cond.selects RG yG_setBarred yG_setBarred ∈ LG := LG_in (List.mem_of_getElem? (i := 387) (by decide +kernel)) (by decide +kernel)
theorem wC_G_setBarred : Cond.code yG_setBarred bG_setBarred 4 none ∈ LG := LG_in (List.mem_of_getElem? (i := 388) (by decide +kernel)) (by decide +kernel)
theorem wM_L_85 : Cond.methodLink RL 85 yL_follow ∈ LG := LG_in (List.mem_of_getElem? (i := 389) (by decide +kernel)) (by decide +kernel)
theorem wSt_L_follow : Cond.static yL_follow ∈ LG := LG_in (List.mem_of_getElem? (i := 390) (by decide +kernel)) (by decide +kernel)
theorem wC_L_follow : Cond.codeWith yL_follow bL_follow 5 (some .int) [(0, 7, 10, 13)] ∈ LG := LG_in (List.mem_of_getElem? (i := 391) (by decide +kernel)) (by decide +kernel)
theorem wM_L_31 : Cond.methodLink RL 31 yP_follow ∈ LG := LG_in (List.mem_of_getElem? (i := 392) (by decide +kernel)) (by decide +kernel)
theorem wI_P_follow : Cond.instanceMethod yP_follow ∈ LG := LG_in (List.mem_of_getElem? (i := 393) (by decide +kernel)) (by decide +kernel)
theorem wSel_P_follow : Cond.selects RP yP_follow yP_follow ∈ LG := LG_in (List.mem_of_getElem? (i := 394) (by decide +kernel)) (by decide +kernel)
theorem wC_P_follow : Cond.code yP_follow bP_follow 4 none ∈ LG := LG_in (List.mem_of_getElem? (i := 395) (by decide +kernel)) (by decide +kernel)
theorem wM_P_109 : Cond.methodLink RP 109 yP_isNonterminalNumber ∈ LG := LG_in (List.mem_of_getElem? (i := 396) (by decide +kernel)) (by decide +kernel)
theorem wSt_P_isNonterminalNumber : Cond.static yP_isNonterminalNumber ∈ LG := LG_in (List.mem_of_getElem? (i := 397) (by decide +kernel)) (by decide +kernel)
theorem wC_P_isNonterminalNumber : Cond.code yP_isNonterminalNumber bP_isNonterminalNumber 1 (some .boolean) ∈ LG := LG_in (List.mem_of_getElem? (i := 398) (by decide +kernel)) (by decide +kernel)
theorem wM_P_112 : Cond.methodLink RP 112 yG_setMayFollow ∈ LG := LG_in (List.mem_of_getElem? (i := 399) (by decide +kernel)) (by decide +kernel)
theorem wI_G_setMayFollow : Cond.instanceMethod yG_setMayFollow ∈ LG := LG_in (List.mem_of_getElem? (i := 400) (by decide +kernel)) (by decide +kernel)
theorem wSel_G_setMayFollow : Cond.selects RG yG_setMayFollow yG_setMayFollow ∈ LG := LG_in (List.mem_of_getElem? (i := 401) (by decide +kernel)) (by decide +kernel)
theorem wC_G_setMayFollow : Cond.code yG_setMayFollow bG_setMayFollow 4 none ∈ LG := LG_in (List.mem_of_getElem? (i := 402) (by decide +kernel)) (by decide +kernel)
theorem wM_L_88 : Cond.methodLink RL 88 yL_undo ∈ LG := LG_in (List.mem_of_getElem? (i := 403) (by decide +kernel)) (by decide +kernel)
theorem wSt_L_undo : Cond.static yL_undo ∈ LG := LG_in (List.mem_of_getElem? (i := 404) (by decide +kernel)) (by decide +kernel)
theorem wC_L_undo : Cond.codeWith yL_undo bL_undo 2 (some .int) [(0, 4, 7, 37)] ∈ LG := LG_in (List.mem_of_getElem? (i := 405) (by decide +kernel)) (by decide +kernel)
theorem wCl_L_37 : Cond.classLink RL 37 "java/util/NoSuchElementException" ∈ LG := LG_in (List.mem_of_getElem? (i := 406) (by decide +kernel)) (by decide +kernel)
theorem wM_L_34 : Cond.methodLink RL 34 yP_undo ∈ LG := LG_in (List.mem_of_getElem? (i := 407) (by decide +kernel)) (by decide +kernel)
theorem wI_P_undo : Cond.instanceMethod yP_undo ∈ LG := LG_in (List.mem_of_getElem? (i := 408) (by decide +kernel)) (by decide +kernel)
theorem wSel_P_undo : Cond.selects RP yP_undo yP_undo ∈ LG := LG_in (List.mem_of_getElem? (i := 409) (by decide +kernel)) (by decide +kernel)
theorem wC_P_undo : Cond.code yP_undo bP_undo 1 none ∈ LG := LG_in (List.mem_of_getElem? (i := 410) (by decide +kernel)) (by decide +kernel)
theorem wCl_P_115 : Cond.classLink RP 115 "java/util/NoSuchElementException" ∈ LG := LG_in (List.mem_of_getElem? (i := 411) (by decide +kernel)) (by decide +kernel)
theorem wM_P_117 : Cond.methodLink RP 117 (⟨"java/util/NoSuchElementException", "<init>", "()V"⟩ : MethodName) ∈ LG := LG_in (List.mem_of_getElem? (i := 420) (by decide +kernel)) (by decide +kernel)
theorem wM_P_118 : Cond.methodLink RP 118 yG_removeLatest ∈ LG := LG_in (List.mem_of_getElem? (i := 426) (by decide +kernel)) (by decide +kernel)
theorem wI_G_removeLatest : Cond.instanceMethod yG_removeLatest ∈ LG := LG_in (List.mem_of_getElem? (i := 427) (by decide +kernel)) (by decide +kernel)
theorem wSel_G_removeLatest : Cond.selects RG yG_removeLatest yG_removeLatest ∈ LG := LG_in (List.mem_of_getElem? (i := 428) (by decide +kernel)) (by decide +kernel)
theorem wC_G_removeLatest : Cond.code yG_removeLatest bG_removeLatest 2 none ∈ LG := LG_in (List.mem_of_getElem? (i := 429) (by decide +kernel)) (by decide +kernel)
theorem wM_G_70 : Cond.methodLink RG 70 yG_setBarred ∈ LG := LG_in (List.mem_of_getElem? (i := 430) (by decide +kernel)) (by decide +kernel)
theorem wM_L_92 : Cond.methodLink RL 92 yL_parse ∈ LG := LG_in (List.mem_of_getElem? (i := 431) (by decide +kernel)) (by decide +kernel)
theorem wSt_L_parse : Cond.static yL_parse ∈ LG := LG_in (List.mem_of_getElem? (i := 432) (by decide +kernel)) (by decide +kernel)
theorem wC_L_parse : Cond.codeWith yL_parse bL_parse 4 (some .int) [(0, 9, 12, 13), (0, 9, 15, 37)] ∈ LG := LG_in (List.mem_of_getElem? (i := 433) (by decide +kernel)) (by decide +kernel)
theorem wM_L_39 : Cond.methodLink RL 39 yP_parse ∈ LG := LG_in (List.mem_of_getElem? (i := 434) (by decide +kernel)) (by decide +kernel)
theorem wI_P_parse : Cond.instanceMethod yP_parse ∈ LG := LG_in (List.mem_of_getElem? (i := 435) (by decide +kernel)) (by decide +kernel)
theorem wSel_P_parse : Cond.selects RP yP_parse yP_parse ∈ LG := LG_in (List.mem_of_getElem? (i := 436) (by decide +kernel)) (by decide +kernel)
theorem wC_P_parse : Cond.code yP_parse bP_parse 7 (some .int) ∈ LG := LG_in (List.mem_of_getElem? (i := 437) (by decide +kernel)) (by decide +kernel)
theorem wM_P_121 : Cond.methodLink RP 121 yC_fill ∈ LG := LG_in (List.mem_of_getElem? (i := 438) (by decide +kernel)) (by decide +kernel)
theorem wI_C_fill : Cond.instanceMethod yC_fill ∈ LG := LG_in (List.mem_of_getElem? (i := 439) (by decide +kernel)) (by decide +kernel)
theorem wSel_C_fill : Cond.selects RC yC_fill yC_fill ∈ LG := LG_in (List.mem_of_getElem? (i := 440) (by decide +kernel)) (by decide +kernel)
theorem wC_C_fill : Cond.code yC_fill bC_fill 5 none ∈ LG := LG_in (List.mem_of_getElem? (i := 441) (by decide +kernel)) (by decide +kernel)
theorem wM_C_34 : Cond.methodLink RC 34 yG_orderByChains ∈ LG := LG_in (List.mem_of_getElem? (i := 442) (by decide +kernel)) (by decide +kernel)
theorem wI_G_orderByChains : Cond.instanceMethod yG_orderByChains ∈ LG := LG_in (List.mem_of_getElem? (i := 443) (by decide +kernel)) (by decide +kernel)
theorem wSel_G_orderByChains : Cond.selects RG yG_orderByChains yG_orderByChains ∈ LG := LG_in (List.mem_of_getElem? (i := 444) (by decide +kernel)) (by decide +kernel)
theorem wC_G_orderByChains : Cond.code yG_orderByChains bG_orderByChains 7 none ∈ LG := LG_in (List.mem_of_getElem? (i := 445) (by decide +kernel)) (by decide +kernel)
theorem wM_C_40 : Cond.methodLink RC 40 yT_length ∈ LG := LG_in (List.mem_of_getElem? (i := 446) (by decide +kernel)) (by decide +kernel)
theorem wM_C_46 : Cond.methodLink RC 46 yC_fillSpan ∈ LG := LG_in (List.mem_of_getElem? (i := 447) (by decide +kernel)) (by decide +kernel)
theorem wI_C_fillSpan : Cond.instanceMethod yC_fillSpan ∈ LG := LG_in (List.mem_of_getElem? (i := 449) (by decide +kernel)) (by decide +kernel)
theorem wC_C_fillSpan : Cond.code yC_fillSpan bC_fillSpan 9 none ∈ LG := LG_in (List.mem_of_getElem? (i := 450) (by decide +kernel)) (by decide +kernel)
theorem wM_C_50 : Cond.methodLink RC 50 yC_settleCharacters ∈ LG := LG_in (List.mem_of_getElem? (i := 451) (by decide +kernel)) (by decide +kernel)
theorem wI_C_settleCharacters : Cond.instanceMethod yC_settleCharacters ∈ LG := LG_in (List.mem_of_getElem? (i := 453) (by decide +kernel)) (by decide +kernel)
theorem wC_C_settleCharacters : Cond.code yC_settleCharacters bC_settleCharacters 9 none ∈ LG := LG_in (List.mem_of_getElem? (i := 454) (by decide +kernel)) (by decide +kernel)
theorem wSt_P_spanNumber : Cond.static yP_spanNumber ∈ LG := LG_in (List.mem_of_getElem? (i := 456) (by decide +kernel)) (by decide +kernel)
theorem wC_P_spanNumber : Cond.code yP_spanNumber bP_spanNumber 2 (some .int) ∈ LG := LG_in (List.mem_of_getElem? (i := 457) (by decide +kernel)) (by decide +kernel)
theorem wM_C_53 : Cond.methodLink RC 53 yG_size ∈ LG := LG_in (List.mem_of_getElem? (i := 458) (by decide +kernel)) (by decide +kernel)
theorem wM_C_85 : Cond.methodLink RC 85 yG_rightLength ∈ LG := LG_in (List.mem_of_getElem? (i := 459) (by decide +kernel)) (by decide +kernel)
theorem wI_G_rightLength : Cond.instanceMethod yG_rightLength ∈ LG := LG_in (List.mem_of_getElem? (i := 460) (by decide +kernel)) (by decide +kernel)
theorem wSel_G_rightLength : Cond.selects RG yG_rightLength yG_rightLength ∈ LG := LG_in (List.mem_of_getElem? (i := 461) (by decide +kernel)) (by decide +kernel)
theorem wC_G_rightLength : Cond.code yG_rightLength bG_rightLength 2 (some .int) ∈ LG := LG_in (List.mem_of_getElem? (i := 462) (by decide +kernel)) (by decide +kernel)
theorem wM_C_88 : Cond.methodLink RC 88 yG_symbolNonterminal ∈ LG := LG_in (List.mem_of_getElem? (i := 463) (by decide +kernel)) (by decide +kernel)
theorem wM_C_74 : Cond.methodLink RC 74 yT_at ∈ LG := LG_in (List.mem_of_getElem? (i := 464) (by decide +kernel)) (by decide +kernel)
theorem wM_C_91 : Cond.methodLink RC 91 yG_symbolStandsFor ∈ LG := LG_in (List.mem_of_getElem? (i := 465) (by decide +kernel)) (by decide +kernel)
theorem wI_G_symbolStandsFor : Cond.instanceMethod yG_symbolStandsFor ∈ LG := LG_in (List.mem_of_getElem? (i := 466) (by decide +kernel)) (by decide +kernel)
theorem wSel_G_symbolStandsFor : Cond.selects RG yG_symbolStandsFor yG_symbolStandsFor ∈ LG := LG_in (List.mem_of_getElem? (i := 467) (by decide +kernel)) (by decide +kernel)
theorem wC_G_symbolStandsFor : Cond.code yG_symbolStandsFor bG_symbolStandsFor 5 (some .boolean) ∈ LG := LG_in (List.mem_of_getElem? (i := 468) (by decide +kernel)) (by decide +kernel)
theorem wM_C_95 : Cond.methodLink RC 95 yC_useIndex ∈ LG := LG_in (List.mem_of_getElem? (i := 469) (by decide +kernel)) (by decide +kernel)
theorem wSt_C_useIndex : Cond.static yC_useIndex ∈ LG := LG_in (List.mem_of_getElem? (i := 470) (by decide +kernel)) (by decide +kernel)
theorem wC_C_useIndex : Cond.code yC_useIndex bC_useIndex 3 (some .int) ∈ LG := LG_in (List.mem_of_getElem? (i := 471) (by decide +kernel)) (by decide +kernel)
theorem wM_C_56 : Cond.methodLink RC 56 yG_left ∈ LG := LG_in (List.mem_of_getElem? (i := 472) (by decide +kernel)) (by decide +kernel)
theorem wI_G_left : Cond.instanceMethod yG_left ∈ LG := LG_in (List.mem_of_getElem? (i := 473) (by decide +kernel)) (by decide +kernel)
theorem wSel_G_left : Cond.selects RG yG_left yG_left ∈ LG := LG_in (List.mem_of_getElem? (i := 474) (by decide +kernel)) (by decide +kernel)
theorem wC_G_left : Cond.code yG_left bG_left 2 (some .int) ∈ LG := LG_in (List.mem_of_getElem? (i := 475) (by decide +kernel)) (by decide +kernel)
theorem wM_C_60 : Cond.methodLink RC 60 yC_deriveRule ∈ LG := LG_in (List.mem_of_getElem? (i := 476) (by decide +kernel)) (by decide +kernel)
theorem wI_C_deriveRule : Cond.instanceMethod yC_deriveRule ∈ LG := LG_in (List.mem_of_getElem? (i := 478) (by decide +kernel)) (by decide +kernel)
theorem wC_C_deriveRule : Cond.code yC_deriveRule bC_deriveRule 17 none ∈ LG := LG_in (List.mem_of_getElem? (i := 479) (by decide +kernel)) (by decide +kernel)
theorem wM_C_108 : Cond.methodLink RC 108 yC_firstDivision ∈ LG := LG_in (List.mem_of_getElem? (i := 480) (by decide +kernel)) (by decide +kernel)
theorem wI_C_firstDivision : Cond.instanceMethod yC_firstDivision ∈ LG := LG_in (List.mem_of_getElem? (i := 482) (by decide +kernel)) (by decide +kernel)
theorem wC_C_firstDivision : Cond.code yC_firstDivision bC_firstDivision 5 (some .boolean) ∈ LG := LG_in (List.mem_of_getElem? (i := 483) (by decide +kernel)) (by decide +kernel)
theorem wM_C_111 : Cond.methodLink RC 111 yC_divisionWays ∈ LG := LG_in (List.mem_of_getElem? (i := 484) (by decide +kernel)) (by decide +kernel)
theorem wI_C_divisionWays : Cond.instanceMethod yC_divisionWays ∈ LG := LG_in (List.mem_of_getElem? (i := 486) (by decide +kernel)) (by decide +kernel)
theorem wC_C_divisionWays : Cond.code yC_divisionWays bC_divisionWays 8 (some .long) ∈ LG := LG_in (List.mem_of_getElem? (i := 487) (by decide +kernel)) (by decide +kernel)
theorem wK_C_115 : Cond.constantLong RC 115 (1000000000 : Int64) ∈ LG := LG_in (List.mem_of_getElem? (i := 488) (by decide +kernel)) (by decide +kernel)
theorem wM_C_117 : Cond.methodLink RC 117 (⟨"java/lang/Math", "min", "(JJ)J"⟩ : MethodName) ∈ LG := LG_in (List.mem_of_getElem? (i := 489) (by decide +kernel)) (by decide +kernel)
theorem wM_C_123 : Cond.methodLink RC 123 yG_weightOf ∈ LG := LG_in (List.mem_of_getElem? (i := 492) (by decide +kernel)) (by decide +kernel)
theorem wI_G_weightOf : Cond.instanceMethod yG_weightOf ∈ LG := LG_in (List.mem_of_getElem? (i := 493) (by decide +kernel)) (by decide +kernel)
theorem wSel_G_weightOf : Cond.selects RG yG_weightOf yG_weightOf ∈ LG := LG_in (List.mem_of_getElem? (i := 494) (by decide +kernel)) (by decide +kernel)
theorem wC_G_weightOf : Cond.code yG_weightOf bG_weightOf 2 (some .double) ∈ LG := LG_in (List.mem_of_getElem? (i := 495) (by decide +kernel)) (by decide +kernel)
theorem wM_C_127 : Cond.methodLink RC 127 yC_divisionWeight ∈ LG := LG_in (List.mem_of_getElem? (i := 496) (by decide +kernel)) (by decide +kernel)
theorem wI_C_divisionWeight : Cond.instanceMethod yC_divisionWeight ∈ LG := LG_in (List.mem_of_getElem? (i := 498) (by decide +kernel)) (by decide +kernel)
theorem wC_C_divisionWeight : Cond.code yC_divisionWeight bC_divisionWeight 12 (some .double) ∈ LG := LG_in (List.mem_of_getElem? (i := 499) (by decide +kernel)) (by decide +kernel)
theorem wM_C_137 : Cond.methodLink RC 137 yC_ruleIndex ∈ LG := LG_in (List.mem_of_getElem? (i := 500) (by decide +kernel)) (by decide +kernel)
theorem wSt_C_ruleIndex : Cond.static yC_ruleIndex ∈ LG := LG_in (List.mem_of_getElem? (i := 501) (by decide +kernel)) (by decide +kernel)
theorem wC_C_ruleIndex : Cond.code yC_ruleIndex bC_ruleIndex 2 (some .int) ∈ LG := LG_in (List.mem_of_getElem? (i := 502) (by decide +kernel)) (by decide +kernel)
theorem wM_C_131 : Cond.methodLink RC 131 yC_packedEnds ∈ LG := LG_in (List.mem_of_getElem? (i := 503) (by decide +kernel)) (by decide +kernel)
theorem wI_C_packedEnds : Cond.instanceMethod yC_packedEnds ∈ LG := LG_in (List.mem_of_getElem? (i := 505) (by decide +kernel)) (by decide +kernel)
theorem wC_C_packedEnds : Cond.code yC_packedEnds bC_packedEnds 4 (some .int) ∈ LG := LG_in (List.mem_of_getElem? (i := 506) (by decide +kernel)) (by decide +kernel)
theorem wM_C_134 : Cond.methodLink RC 134 yC_nextDivision ∈ LG := LG_in (List.mem_of_getElem? (i := 507) (by decide +kernel)) (by decide +kernel)
theorem wI_C_nextDivision : Cond.instanceMethod yC_nextDivision ∈ LG := LG_in (List.mem_of_getElem? (i := 509) (by decide +kernel)) (by decide +kernel)
theorem wC_C_nextDivision : Cond.code yC_nextDivision bC_nextDivision 6 (some .boolean) ∈ LG := LG_in (List.mem_of_getElem? (i := 510) (by decide +kernel)) (by decide +kernel)
theorem wM_C_68 : Cond.methodLink RC 68 yG_rejectingRules ∈ LG := LG_in (List.mem_of_getElem? (i := 511) (by decide +kernel)) (by decide +kernel)
theorem wI_G_rejectingRules : Cond.instanceMethod yG_rejectingRules ∈ LG := LG_in (List.mem_of_getElem? (i := 512) (by decide +kernel)) (by decide +kernel)
theorem wSel_G_rejectingRules : Cond.selects RG yG_rejectingRules yG_rejectingRules ∈ LG := LG_in (List.mem_of_getElem? (i := 513) (by decide +kernel)) (by decide +kernel)
theorem wC_G_rejectingRules : Cond.code yG_rejectingRules bG_rejectingRules 2 (some .int) ∈ LG := LG_in (List.mem_of_getElem? (i := 514) (by decide +kernel)) (by decide +kernel)
theorem wM_G_74 : Cond.methodLink RG 74 yG_rulesOf ∈ LG := LG_in (List.mem_of_getElem? (i := 515) (by decide +kernel)) (by decide +kernel)
theorem wI_G_rulesOf : Cond.instanceMethod yG_rulesOf ∈ LG := LG_in (List.mem_of_getElem? (i := 517) (by decide +kernel)) (by decide +kernel)
theorem wC_G_rulesOf : Cond.code yG_rulesOf bG_rulesOf 5 (some .int) ∈ LG := LG_in (List.mem_of_getElem? (i := 518) (by decide +kernel)) (by decide +kernel)
theorem wM_C_71 : Cond.methodLink RC 71 yC_waysOfAny ∈ LG := LG_in (List.mem_of_getElem? (i := 519) (by decide +kernel)) (by decide +kernel)
theorem wI_C_waysOfAny : Cond.instanceMethod yC_waysOfAny ∈ LG := LG_in (List.mem_of_getElem? (i := 520) (by decide +kernel)) (by decide +kernel)
theorem wSel_C_waysOfAny : Cond.selects RC yC_waysOfAny yC_waysOfAny ∈ LG := LG_in (List.mem_of_getElem? (i := 521) (by decide +kernel)) (by decide +kernel)
theorem wC_C_waysOfAny : Cond.code yC_waysOfAny bC_waysOfAny 6 (some .int) ∈ LG := LG_in (List.mem_of_getElem? (i := 522) (by decide +kernel)) (by decide +kernel)
theorem wM_C_77 : Cond.methodLink RC 77 yG_mayFollow ∈ LG := LG_in (List.mem_of_getElem? (i := 524) (by decide +kernel)) (by decide +kernel)
theorem wI_G_mayFollow : Cond.instanceMethod yG_mayFollow ∈ LG := LG_in (List.mem_of_getElem? (i := 525) (by decide +kernel)) (by decide +kernel)
theorem wSel_G_mayFollow : Cond.selects RG yG_mayFollow yG_mayFollow ∈ LG := LG_in (List.mem_of_getElem? (i := 526) (by decide +kernel)) (by decide +kernel)
theorem wC_G_mayFollow : Cond.code yG_mayFollow bG_mayFollow 3 (some .boolean) ∈ LG := LG_in (List.mem_of_getElem? (i := 527) (by decide +kernel)) (by decide +kernel)
theorem wM_C_81 : Cond.methodLink RC 81 yC_settleNonterminal ∈ LG := LG_in (List.mem_of_getElem? (i := 528) (by decide +kernel)) (by decide +kernel)
theorem wI_C_settleNonterminal : Cond.instanceMethod yC_settleNonterminal ∈ LG := LG_in (List.mem_of_getElem? (i := 530) (by decide +kernel)) (by decide +kernel)
theorem wC_C_settleNonterminal : Cond.code yC_settleNonterminal bC_settleNonterminal 9 none ∈ LG := LG_in (List.mem_of_getElem? (i := 531) (by decide +kernel)) (by decide +kernel)
theorem wM_C_99 : Cond.methodLink RC 99 yG_derivingRules ∈ LG := LG_in (List.mem_of_getElem? (i := 532) (by decide +kernel)) (by decide +kernel)
theorem wI_G_derivingRules : Cond.instanceMethod yG_derivingRules ∈ LG := LG_in (List.mem_of_getElem? (i := 533) (by decide +kernel)) (by decide +kernel)
theorem wSel_G_derivingRules : Cond.selects RG yG_derivingRules yG_derivingRules ∈ LG := LG_in (List.mem_of_getElem? (i := 534) (by decide +kernel)) (by decide +kernel)
theorem wC_G_derivingRules : Cond.code yG_derivingRules bG_derivingRules 2 (some .int) ∈ LG := LG_in (List.mem_of_getElem? (i := 535) (by decide +kernel)) (by decide +kernel)
theorem wM_C_102 : Cond.methodLink RC 102 yG_allowedUnder ∈ LG := LG_in (List.mem_of_getElem? (i := 536) (by decide +kernel)) (by decide +kernel)
theorem wI_G_allowedUnder : Cond.instanceMethod yG_allowedUnder ∈ LG := LG_in (List.mem_of_getElem? (i := 537) (by decide +kernel)) (by decide +kernel)
theorem wSel_G_allowedUnder : Cond.selects RG yG_allowedUnder yG_allowedUnder ∈ LG := LG_in (List.mem_of_getElem? (i := 538) (by decide +kernel)) (by decide +kernel)
theorem wC_G_allowedUnder : Cond.code yG_allowedUnder bG_allowedUnder 6 (some .int) ∈ LG := LG_in (List.mem_of_getElem? (i := 539) (by decide +kernel)) (by decide +kernel)
theorem wM_C_105 : Cond.methodLink RC 105 yC_heaviestOf ∈ LG := LG_in (List.mem_of_getElem? (i := 540) (by decide +kernel)) (by decide +kernel)
theorem wI_C_heaviestOf : Cond.instanceMethod yC_heaviestOf ∈ LG := LG_in (List.mem_of_getElem? (i := 541) (by decide +kernel)) (by decide +kernel)
theorem wSel_C_heaviestOf : Cond.selects RC yC_heaviestOf yC_heaviestOf ∈ LG := LG_in (List.mem_of_getElem? (i := 542) (by decide +kernel)) (by decide +kernel)
theorem wC_C_heaviestOf : Cond.code yC_heaviestOf bC_heaviestOf 7 (some .int) ∈ LG := LG_in (List.mem_of_getElem? (i := 543) (by decide +kernel)) (by decide +kernel)
theorem wM_P_125 : Cond.methodLink RP 125 yP_spanNumber ∈ LG := LG_in (List.mem_of_getElem? (i := 544) (by decide +kernel)) (by decide +kernel)
theorem wM_P_129 : Cond.methodLink RP 129 yG_rejectingRules ∈ LG := LG_in (List.mem_of_getElem? (i := 545) (by decide +kernel)) (by decide +kernel)
theorem wM_P_133 : Cond.methodLink RP 133 yC_waysOfAny ∈ LG := LG_in (List.mem_of_getElem? (i := 546) (by decide +kernel)) (by decide +kernel)
theorem wM_P_136 : Cond.methodLink RP 136 yG_derivingRules ∈ LG := LG_in (List.mem_of_getElem? (i := 547) (by decide +kernel)) (by decide +kernel)
theorem wM_P_139 : Cond.methodLink RP 139 yC_heaviestOf ∈ LG := LG_in (List.mem_of_getElem? (i := 548) (by decide +kernel)) (by decide +kernel)
theorem wM_P_142 : Cond.methodLink RP 142 yC_heaviestWeight ∈ LG := LG_in (List.mem_of_getElem? (i := 549) (by decide +kernel)) (by decide +kernel)
theorem wI_C_heaviestWeight : Cond.instanceMethod yC_heaviestWeight ∈ LG := LG_in (List.mem_of_getElem? (i := 550) (by decide +kernel)) (by decide +kernel)
theorem wSel_C_heaviestWeight : Cond.selects RC yC_heaviestWeight yC_heaviestWeight ∈ LG := LG_in (List.mem_of_getElem? (i := 551) (by decide +kernel)) (by decide +kernel)
theorem wC_C_heaviestWeight : Cond.code yC_heaviestWeight bC_heaviestWeight 3 (some .double) ∈ LG := LG_in (List.mem_of_getElem? (i := 552) (by decide +kernel)) (by decide +kernel)
theorem wM_P_146 : Cond.methodLink RP 146 yE_grow ∈ LG := LG_in (List.mem_of_getElem? (i := 553) (by decide +kernel)) (by decide +kernel)
theorem wI_E_grow : Cond.instanceMethod yE_grow ∈ LG := LG_in (List.mem_of_getElem? (i := 554) (by decide +kernel)) (by decide +kernel)
theorem wSel_E_grow : Cond.selects RE yE_grow yE_grow ∈ LG := LG_in (List.mem_of_getElem? (i := 555) (by decide +kernel)) (by decide +kernel)
theorem wC_E_grow : Cond.code yE_grow bE_grow 6 none ∈ LG := LG_in (List.mem_of_getElem? (i := 556) (by decide +kernel)) (by decide +kernel)
theorem wM_E_25 : Cond.methodLink RE 25 yE_insert ∈ LG := LG_in (List.mem_of_getElem? (i := 557) (by decide +kernel)) (by decide +kernel)
theorem wI_E_insert : Cond.instanceMethod yE_insert ∈ LG := LG_in (List.mem_of_getElem? (i := 559) (by decide +kernel)) (by decide +kernel)
theorem wC_E_insert : Cond.code yE_insert bE_insert 5 none ∈ LG := LG_in (List.mem_of_getElem? (i := 560) (by decide +kernel)) (by decide +kernel)
theorem wM_E_52 : Cond.methodLink RE 52 (⟨"java/lang/System", "arraycopy", "(Ljava/lang/Object;ILjava/lang/Object;II)V"⟩ : MethodName) ∈ LG := LG_in (List.mem_of_getElem? (i := 561) (by decide +kernel)) (by decide +kernel)
theorem wM_E_29 : Cond.methodLink RE 29 yE_insertBelow ∈ LG := LG_in (List.mem_of_getElem? (i := 564) (by decide +kernel)) (by decide +kernel)
theorem wI_E_insertBelow : Cond.instanceMethod yE_insertBelow ∈ LG := LG_in (List.mem_of_getElem? (i := 566) (by decide +kernel)) (by decide +kernel)
theorem wC_E_insertBelow : Cond.code yE_insertBelow bE_insertBelow 11 none ∈ LG := LG_in (List.mem_of_getElem? (i := 567) (by decide +kernel)) (by decide +kernel)
theorem wM_E_37 : Cond.methodLink RE 37 yG_rightLength ∈ LG := LG_in (List.mem_of_getElem? (i := 569) (by decide +kernel)) (by decide +kernel)
theorem wM_E_43 : Cond.methodLink RE 43 yC_symbolEnd ∈ LG := LG_in (List.mem_of_getElem? (i := 570) (by decide +kernel)) (by decide +kernel)
theorem wI_C_symbolEnd : Cond.instanceMethod yC_symbolEnd ∈ LG := LG_in (List.mem_of_getElem? (i := 571) (by decide +kernel)) (by decide +kernel)
theorem wSel_C_symbolEnd : Cond.selects RC yC_symbolEnd yC_symbolEnd ∈ LG := LG_in (List.mem_of_getElem? (i := 572) (by decide +kernel)) (by decide +kernel)
theorem wC_C_symbolEnd : Cond.code yC_symbolEnd bC_symbolEnd 4 (some .int) ∈ LG := LG_in (List.mem_of_getElem? (i := 573) (by decide +kernel)) (by decide +kernel)
theorem wM_E_49 : Cond.methodLink RE 49 yC_ruleBelow ∈ LG := LG_in (List.mem_of_getElem? (i := 574) (by decide +kernel)) (by decide +kernel)
theorem wI_C_ruleBelow : Cond.instanceMethod yC_ruleBelow ∈ LG := LG_in (List.mem_of_getElem? (i := 575) (by decide +kernel)) (by decide +kernel)
theorem wSel_C_ruleBelow : Cond.selects RC yC_ruleBelow yC_ruleBelow ∈ LG := LG_in (List.mem_of_getElem? (i := 576) (by decide +kernel)) (by decide +kernel)
theorem wC_C_ruleBelow : Cond.code yC_ruleBelow bC_ruleBelow 4 (some .int) ∈ LG := LG_in (List.mem_of_getElem? (i := 577) (by decide +kernel)) (by decide +kernel)
theorem wM_L_96 : Cond.methodLink RL 96 yL_weight ∈ LG := LG_in (List.mem_of_getElem? (i := 578) (by decide +kernel)) (by decide +kernel)
theorem wSt_L_weight : Cond.static yL_weight ∈ LG := LG_in (List.mem_of_getElem? (i := 579) (by decide +kernel)) (by decide +kernel)
theorem wC_L_weight : Cond.codeWith yL_weight bL_weight 3 (some .int) [(0, 7, 10, 37)] ∈ LG := LG_in (List.mem_of_getElem? (i := 580) (by decide +kernel)) (by decide +kernel)
theorem wM_L_43 : Cond.methodLink RL 43 yP_weight ∈ LG := LG_in (List.mem_of_getElem? (i := 581) (by decide +kernel)) (by decide +kernel)
theorem wI_P_weight : Cond.instanceMethod yP_weight ∈ LG := LG_in (List.mem_of_getElem? (i := 582) (by decide +kernel)) (by decide +kernel)
theorem wSel_P_weight : Cond.selects RP yP_weight yP_weight ∈ LG := LG_in (List.mem_of_getElem? (i := 583) (by decide +kernel)) (by decide +kernel)
theorem wC_P_weight : Cond.code yP_weight bP_weight 1 (some .double) ∈ LG := LG_in (List.mem_of_getElem? (i := 584) (by decide +kernel)) (by decide +kernel)
theorem wM_L_100 : Cond.methodLink RL 100 yL_node ∈ LG := LG_in (List.mem_of_getElem? (i := 585) (by decide +kernel)) (by decide +kernel)
theorem wSt_L_node : Cond.static yL_node ∈ LG := LG_in (List.mem_of_getElem? (i := 586) (by decide +kernel)) (by decide +kernel)
theorem wC_L_node : Cond.codeWith yL_node bL_node 5 (some .int) [(0, 10, 13, 13), (0, 10, 17, 37)] ∈ LG := LG_in (List.mem_of_getElem? (i := 587) (by decide +kernel)) (by decide +kernel)
theorem wM_L_47 : Cond.methodLink RL 47 yP_node ∈ LG := LG_in (List.mem_of_getElem? (i := 588) (by decide +kernel)) (by decide +kernel)
theorem wI_P_node : Cond.instanceMethod yP_node ∈ LG := LG_in (List.mem_of_getElem? (i := 589) (by decide +kernel)) (by decide +kernel)
theorem wSel_P_node : Cond.selects RP yP_node yP_node ∈ LG := LG_in (List.mem_of_getElem? (i := 590) (by decide +kernel)) (by decide +kernel)
theorem wC_P_node : Cond.code yP_node bP_node 3 (some .int) ∈ LG := LG_in (List.mem_of_getElem? (i := 591) (by decide +kernel)) (by decide +kernel)
theorem wM_P_151 : Cond.methodLink RP 151 yE_ruleAt ∈ LG := LG_in (List.mem_of_getElem? (i := 592) (by decide +kernel)) (by decide +kernel)
theorem wI_E_ruleAt : Cond.instanceMethod yE_ruleAt ∈ LG := LG_in (List.mem_of_getElem? (i := 593) (by decide +kernel)) (by decide +kernel)
theorem wSel_E_ruleAt : Cond.selects RE yE_ruleAt yE_ruleAt ∈ LG := LG_in (List.mem_of_getElem? (i := 594) (by decide +kernel)) (by decide +kernel)
theorem wC_E_ruleAt : Cond.code yE_ruleAt bE_ruleAt 2 (some .int) ∈ LG := LG_in (List.mem_of_getElem? (i := 595) (by decide +kernel)) (by decide +kernel)
theorem wM_P_154 : Cond.methodLink RP 154 yE_beginAt ∈ LG := LG_in (List.mem_of_getElem? (i := 596) (by decide +kernel)) (by decide +kernel)
theorem wI_E_beginAt : Cond.instanceMethod yE_beginAt ∈ LG := LG_in (List.mem_of_getElem? (i := 597) (by decide +kernel)) (by decide +kernel)
theorem wSel_E_beginAt : Cond.selects RE yE_beginAt yE_beginAt ∈ LG := LG_in (List.mem_of_getElem? (i := 598) (by decide +kernel)) (by decide +kernel)
theorem wC_E_beginAt : Cond.code yE_beginAt bE_beginAt 2 (some .int) ∈ LG := LG_in (List.mem_of_getElem? (i := 599) (by decide +kernel)) (by decide +kernel)
theorem wM_P_157 : Cond.methodLink RP 157 yE_endAt ∈ LG := LG_in (List.mem_of_getElem? (i := 600) (by decide +kernel)) (by decide +kernel)
theorem wI_E_endAt : Cond.instanceMethod yE_endAt ∈ LG := LG_in (List.mem_of_getElem? (i := 601) (by decide +kernel)) (by decide +kernel)
theorem wSel_E_endAt : Cond.selects RE yE_endAt yE_endAt ∈ LG := LG_in (List.mem_of_getElem? (i := 602) (by decide +kernel)) (by decide +kernel)
theorem wC_E_endAt : Cond.code yE_endAt bE_endAt 2 (some .int) ∈ LG := LG_in (List.mem_of_getElem? (i := 603) (by decide +kernel)) (by decide +kernel)
theorem wM_P_160 : Cond.methodLink RP 160 yE_nodesBelow ∈ LG := LG_in (List.mem_of_getElem? (i := 604) (by decide +kernel)) (by decide +kernel)
theorem wI_E_nodesBelow : Cond.instanceMethod yE_nodesBelow ∈ LG := LG_in (List.mem_of_getElem? (i := 605) (by decide +kernel)) (by decide +kernel)
theorem wSel_E_nodesBelow : Cond.selects RE yE_nodesBelow yE_nodesBelow ∈ LG := LG_in (List.mem_of_getElem? (i := 606) (by decide +kernel)) (by decide +kernel)
theorem wC_E_nodesBelow : Cond.code yE_nodesBelow bE_nodesBelow 3 (some .int) ∈ LG := LG_in (List.mem_of_getElem? (i := 607) (by decide +kernel)) (by decide +kernel)
theorem wM_L_104 : Cond.methodLink RL 104 yL_many ∈ LG := LG_in (List.mem_of_getElem? (i := 608) (by decide +kernel)) (by decide +kernel)
theorem wSt_L_many : Cond.static yL_many ∈ LG := LG_in (List.mem_of_getElem? (i := 609) (by decide +kernel)) (by decide +kernel)
theorem wC_L_many : Cond.codeWith yL_many bL_many 6 (some .int) [(0, 12, 15, 13), (0, 12, 19, 37)] ∈ LG := LG_in (List.mem_of_getElem? (i := 610) (by decide +kernel)) (by decide +kernel)
theorem wM_L_51 : Cond.methodLink RL 51 yP_many ∈ LG := LG_in (List.mem_of_getElem? (i := 611) (by decide +kernel)) (by decide +kernel)
theorem wI_P_many : Cond.instanceMethod yP_many ∈ LG := LG_in (List.mem_of_getElem? (i := 612) (by decide +kernel)) (by decide +kernel)
theorem wSel_P_many : Cond.selects RP yP_many yP_many ∈ LG := LG_in (List.mem_of_getElem? (i := 613) (by decide +kernel)) (by decide +kernel)
theorem wC_P_many : Cond.code yP_many bP_many 4 (some .int) ∈ LG := LG_in (List.mem_of_getElem? (i := 614) (by decide +kernel)) (by decide +kernel)
theorem wM_P_163 : Cond.methodLink RP 163 yC_waysOf ∈ LG := LG_in (List.mem_of_getElem? (i := 615) (by decide +kernel)) (by decide +kernel)
theorem wI_C_waysOf : Cond.instanceMethod yC_waysOf ∈ LG := LG_in (List.mem_of_getElem? (i := 616) (by decide +kernel)) (by decide +kernel)
theorem wSel_C_waysOf : Cond.selects RC yC_waysOf yC_waysOf ∈ LG := LG_in (List.mem_of_getElem? (i := 617) (by decide +kernel)) (by decide +kernel)
theorem wC_C_waysOf : Cond.code yC_waysOf bC_waysOf 3 (some .int) ∈ LG := LG_in (List.mem_of_getElem? (i := 618) (by decide +kernel)) (by decide +kernel)
theorem wCl_L_56 : Cond.classLink RL 56 RM ∈ LG := LG_in (List.mem_of_getElem? (i := 619) (by decide +kernel)) (by decide +kernel)
theorem wIn_M : Cond.instantiable RM 29 ∈ LG := LG_in (List.mem_of_getElem? (i := 620) (by decide +kernel)) (by decide +kernel)
theorem wM_L_58 : Cond.methodLink RL 58 yM_init ∈ LG := LG_in (List.mem_of_getElem? (i := 621) (by decide +kernel)) (by decide +kernel)
theorem wI_M_init : Cond.instanceMethod yM_init ∈ LG := LG_in (List.mem_of_getElem? (i := 622) (by decide +kernel)) (by decide +kernel)
theorem wC_M_init : Cond.code yM_init bM_init 1 none ∈ LG := LG_in (List.mem_of_getElem? (i := 623) (by decide +kernel)) (by decide +kernel)
theorem wM_M_1 : Cond.methodLink RM 1 objectInit ∈ LG := LG_in (List.mem_of_getElem? (i := 624) (by decide +kernel)) (by decide +kernel)
theorem wF_M_7 : Cond.fieldLink RM 7 "SpanParserModel" "text" "[I" ∈ LG := LG_in (List.mem_of_getElem? (i := 625) (by decide +kernel)) (by decide +kernel)
theorem wF_M_13 : Cond.fieldLink RM 13 "SpanParserModel" "input" "[I" ∈ LG := LG_in (List.mem_of_getElem? (i := 626) (by decide +kernel)) (by decide +kernel)
theorem wF_M_16 : Cond.fieldLink RM 16 "SpanParserModel" "left" "[I" ∈ LG := LG_in (List.mem_of_getElem? (i := 627) (by decide +kernel)) (by decide +kernel)
theorem wF_M_19 : Cond.fieldLink RM 19 "SpanParserModel" "size" "[I" ∈ LG := LG_in (List.mem_of_getElem? (i := 628) (by decide +kernel)) (by decide +kernel)
theorem wF_M_22 : Cond.fieldLink RM 22 "SpanParserModel" "right" "[I" ∈ LG := LG_in (List.mem_of_getElem? (i := 629) (by decide +kernel)) (by decide +kernel)
theorem wF_M_25 : Cond.fieldLink RM 25 "SpanParserModel" "how" "[I" ∈ LG := LG_in (List.mem_of_getElem? (i := 630) (by decide +kernel)) (by decide +kernel)
theorem wF_M_28 : Cond.fieldLink RM 28 "SpanParserModel" "cut" "[I" ∈ LG := LG_in (List.mem_of_getElem? (i := 631) (by decide +kernel)) (by decide +kernel)
theorem wF_M_31 : Cond.fieldLink RM 31 "SpanParserModel" "best" "[I" ∈ LG := LG_in (List.mem_of_getElem? (i := 632) (by decide +kernel)) (by decide +kernel)
theorem wF_M_34 : Cond.fieldLink RM 34 "SpanParserModel" "weight" "[D" ∈ LG := LG_in (List.mem_of_getElem? (i := 633) (by decide +kernel)) (by decide +kernel)
theorem wF_M_38 : Cond.fieldLink RM 38 "SpanParserModel" "heavy" "[D" ∈ LG := LG_in (List.mem_of_getElem? (i := 634) (by decide +kernel)) (by decide +kernel)
theorem wF_M_41 : Cond.fieldLink RM 41 "SpanParserModel" "barred" "[Z" ∈ LG := LG_in (List.mem_of_getElem? (i := 635) (by decide +kernel)) (by decide +kernel)
theorem wF_M_45 : Cond.fieldLink RM 45 "SpanParserModel" "never" "[Z" ∈ LG := LG_in (List.mem_of_getElem? (i := 636) (by decide +kernel)) (by decide +kernel)
theorem wF_M_48 : Cond.fieldLink RM 48 "SpanParserModel" "good" "[Z" ∈ LG := LG_in (List.mem_of_getElem? (i := 637) (by decide +kernel)) (by decide +kernel)
theorem wF_M_51 : Cond.fieldLink RM 51 "SpanParserModel" "many" "[I" ∈ LG := LG_in (List.mem_of_getElem? (i := 638) (by decide +kernel)) (by decide +kernel)
theorem wF_M_54 : Cond.fieldLink RM 54 "SpanParserModel" "nodeRule" "[I" ∈ LG := LG_in (List.mem_of_getElem? (i := 639) (by decide +kernel)) (by decide +kernel)
theorem wF_M_57 : Cond.fieldLink RM 57 "SpanParserModel" "from" "[I" ∈ LG := LG_in (List.mem_of_getElem? (i := 640) (by decide +kernel)) (by decide +kernel)
theorem wF_M_60 : Cond.fieldLink RM 60 "SpanParserModel" "to" "[I" ∈ LG := LG_in (List.mem_of_getElem? (i := 641) (by decide +kernel)) (by decide +kernel)
theorem wF_M_63 : Cond.fieldLink RM 63 "SpanParserModel" "parent" "[I" ∈ LG := LG_in (List.mem_of_getElem? (i := 642) (by decide +kernel)) (by decide +kernel)
theorem wF_M_66 : Cond.fieldLink RM 66 "SpanParserModel" "below" "[I" ∈ LG := LG_in (List.mem_of_getElem? (i := 643) (by decide +kernel)) (by decide +kernel)
theorem wF_M_69 : Cond.fieldLink RM 69 "SpanParserModel" "pile" "[I" ∈ LG := LG_in (List.mem_of_getElem? (i := 644) (by decide +kernel)) (by decide +kernel)
theorem wF_M_101 : Cond.fieldLink RM 101 "SpanParserModel" "rules" "I" ∈ LG := LG_in (List.mem_of_getElem? (i := 645) (by decide +kernel)) (by decide +kernel)
theorem wF_M_87 : Cond.fieldLink RM 87 "SpanParserModel" "length" "I" ∈ LG := LG_in (List.mem_of_getElem? (i := 646) (by decide +kernel)) (by decide +kernel)
theorem wF_M_72 : Cond.fieldLink RM 72 "SpanParserModel" "place" "I" ∈ LG := LG_in (List.mem_of_getElem? (i := 647) (by decide +kernel)) (by decide +kernel)
theorem wF_M_161 : Cond.fieldLink RM 161 "SpanParserModel" "inputLength" "I" ∈ LG := LG_in (List.mem_of_getElem? (i := 648) (by decide +kernel)) (by decide +kernel)
theorem wF_M_183 : Cond.fieldLink RM 183 "SpanParserModel" "nodes" "I" ∈ LG := LG_in (List.mem_of_getElem? (i := 649) (by decide +kernel)) (by decide +kernel)
theorem wF_M_76 : Cond.fieldLink RM 76 "SpanParserModel" "thrown" "I" ∈ LG := LG_in (List.mem_of_getElem? (i := 650) (by decide +kernel)) (by decide +kernel)
theorem wF_M_94 : Cond.fieldLink RM 94 "SpanParserModel" "parsed" "Z" ∈ LG := LG_in (List.mem_of_getElem? (i := 651) (by decide +kernel)) (by decide +kernel)
theorem wF_M_98 : Cond.fieldLink RM 98 "SpanParserModel" "found" "Z" ∈ LG := LG_in (List.mem_of_getElem? (i := 652) (by decide +kernel)) (by decide +kernel)
theorem wF_M_179 : Cond.fieldLink RM 179 "SpanParserModel" "total" "D" ∈ LG := LG_in (List.mem_of_getElem? (i := 653) (by decide +kernel)) (by decide +kernel)
theorem wM_L_67 : Cond.methodLink RL 67 yM_thrown ∈ LG := LG_in (List.mem_of_getElem? (i := 713) (by decide +kernel)) (by decide +kernel)
theorem wI_M_thrown : Cond.instanceMethod yM_thrown ∈ LG := LG_in (List.mem_of_getElem? (i := 714) (by decide +kernel)) (by decide +kernel)
theorem wSel_M_thrown : Cond.selects RM yM_thrown yM_thrown ∈ LG := LG_in (List.mem_of_getElem? (i := 715) (by decide +kernel)) (by decide +kernel)
theorem wC_M_thrown : Cond.code yM_thrown bM_thrown 1 (some .int) ∈ LG := LG_in (List.mem_of_getElem? (i := 716) (by decide +kernel)) (by decide +kernel)
theorem wM_L_66 : Cond.methodLink RL 66 yM_type ∈ LG := LG_in (List.mem_of_getElem? (i := 717) (by decide +kernel)) (by decide +kernel)
theorem wI_M_type : Cond.instanceMethod yM_type ∈ LG := LG_in (List.mem_of_getElem? (i := 718) (by decide +kernel)) (by decide +kernel)
theorem wSel_M_type : Cond.selects RM yM_type yM_type ∈ LG := LG_in (List.mem_of_getElem? (i := 719) (by decide +kernel)) (by decide +kernel)
theorem wC_M_type : Cond.code yM_type bM_type 7 (some .int) ∈ LG := LG_in (List.mem_of_getElem? (i := 720) (by decide +kernel)) (by decide +kernel)
theorem wM_M_79 : Cond.methodLink RM 79 yM_in ∈ LG := LG_in (List.mem_of_getElem? (i := 721) (by decide +kernel)) (by decide +kernel)
theorem wSt_M_in : Cond.static yM_in ∈ LG := LG_in (List.mem_of_getElem? (i := 722) (by decide +kernel)) (by decide +kernel)
theorem wC_M_in : Cond.code yM_in bM_in 3 (some .boolean) ∈ LG := LG_in (List.mem_of_getElem? (i := 723) (by decide +kernel)) (by decide +kernel)
theorem wM_M_83 : Cond.methodLink RM 83 yM_bad ∈ LG := LG_in (List.mem_of_getElem? (i := 724) (by decide +kernel)) (by decide +kernel)
theorem wI_M_bad : Cond.instanceMethod yM_bad ∈ LG := LG_in (List.mem_of_getElem? (i := 726) (by decide +kernel)) (by decide +kernel)
theorem wC_M_bad : Cond.code yM_bad bM_bad 2 (some .boolean) ∈ LG := LG_in (List.mem_of_getElem? (i := 727) (by decide +kernel)) (by decide +kernel)
theorem wM_M_90 : Cond.methodLink RM 90 yM_fail ∈ LG := LG_in (List.mem_of_getElem? (i := 728) (by decide +kernel)) (by decide +kernel)
theorem wI_M_fail : Cond.instanceMethod yM_fail ∈ LG := LG_in (List.mem_of_getElem? (i := 730) (by decide +kernel)) (by decide +kernel)
theorem wC_M_fail : Cond.code yM_fail bM_fail 2 (some .int) ∈ LG := LG_in (List.mem_of_getElem? (i := 731) (by decide +kernel)) (by decide +kernel)
theorem wM_L_76 : Cond.methodLink RL 76 yM_rule ∈ LG := LG_in (List.mem_of_getElem? (i := 732) (by decide +kernel)) (by decide +kernel)
theorem wI_M_rule : Cond.instanceMethod yM_rule ∈ LG := LG_in (List.mem_of_getElem? (i := 733) (by decide +kernel)) (by decide +kernel)
theorem wSel_M_rule : Cond.selects RM yM_rule yM_rule ∈ LG := LG_in (List.mem_of_getElem? (i := 734) (by decide +kernel)) (by decide +kernel)
theorem wC_M_rule : Cond.code yM_rule bM_rule 6 (some .int) ∈ LG := LG_in (List.mem_of_getElem? (i := 735) (by decide +kernel)) (by decide +kernel)
theorem wK_M_108 : Cond.constantDouble RM 108 (4593671619917905920 : UInt64) ∈ LG := LG_in (List.mem_of_getElem? (i := 736) (by decide +kernel)) (by decide +kernel)
theorem wK_M_110 : Cond.constantDouble RM 110 (4620693217682128896 : UInt64) ∈ LG := LG_in (List.mem_of_getElem? (i := 737) (by decide +kernel)) (by decide +kernel)
theorem wM_M_112 : Cond.methodLink RM 112 yM_wrong ∈ LG := LG_in (List.mem_of_getElem? (i := 738) (by decide +kernel)) (by decide +kernel)
theorem wI_M_wrong : Cond.instanceMethod yM_wrong ∈ LG := LG_in (List.mem_of_getElem? (i := 740) (by decide +kernel)) (by decide +kernel)
theorem wC_M_wrong : Cond.code yM_wrong bM_wrong 2 (some .int) ∈ LG := LG_in (List.mem_of_getElem? (i := 741) (by decide +kernel)) (by decide +kernel)
theorem wM_M_116 : Cond.methodLink RM 116 yM_leads ∈ LG := LG_in (List.mem_of_getElem? (i := 742) (by decide +kernel)) (by decide +kernel)
theorem wI_M_leads : Cond.instanceMethod yM_leads ∈ LG := LG_in (List.mem_of_getElem? (i := 744) (by decide +kernel)) (by decide +kernel)
theorem wC_M_leads : Cond.code yM_leads bM_leads 6 (some .boolean) ∈ LG := LG_in (List.mem_of_getElem? (i := 745) (by decide +kernel)) (by decide +kernel)
theorem wM_M_104 : Cond.methodLink RM 104 yM_isChain ∈ LG := LG_in (List.mem_of_getElem? (i := 746) (by decide +kernel)) (by decide +kernel)
theorem wI_M_isChain : Cond.instanceMethod yM_isChain ∈ LG := LG_in (List.mem_of_getElem? (i := 748) (by decide +kernel)) (by decide +kernel)
theorem wC_M_isChain : Cond.code yM_isChain bM_isChain 2 (some .boolean) ∈ LG := LG_in (List.mem_of_getElem? (i := 749) (by decide +kernel)) (by decide +kernel)
theorem wM_M_120 : Cond.methodLink RM 120 yM_change ∈ LG := LG_in (List.mem_of_getElem? (i := 750) (by decide +kernel)) (by decide +kernel)
theorem wI_M_change : Cond.instanceMethod yM_change ∈ LG := LG_in (List.mem_of_getElem? (i := 752) (by decide +kernel)) (by decide +kernel)
theorem wC_M_change : Cond.code yM_change bM_change 1 none ∈ LG := LG_in (List.mem_of_getElem? (i := 753) (by decide +kernel)) (by decide +kernel)
theorem wM_L_80 : Cond.methodLink RL 80 yM_mark ∈ LG := LG_in (List.mem_of_getElem? (i := 754) (by decide +kernel)) (by decide +kernel)
theorem wI_M_mark : Cond.instanceMethod yM_mark ∈ LG := LG_in (List.mem_of_getElem? (i := 755) (by decide +kernel)) (by decide +kernel)
theorem wSel_M_mark : Cond.selects RM yM_mark yM_mark ∈ LG := LG_in (List.mem_of_getElem? (i := 756) (by decide +kernel)) (by decide +kernel)
theorem wC_M_mark : Cond.code yM_mark bM_mark 3 none ∈ LG := LG_in (List.mem_of_getElem? (i := 757) (by decide +kernel)) (by decide +kernel)
theorem wM_M_123 : Cond.methodLink RM 123 yM_isRule ∈ LG := LG_in (List.mem_of_getElem? (i := 758) (by decide +kernel)) (by decide +kernel)
theorem wI_M_isRule : Cond.instanceMethod yM_isRule ∈ LG := LG_in (List.mem_of_getElem? (i := 760) (by decide +kernel)) (by decide +kernel)
theorem wC_M_isRule : Cond.code yM_isRule bM_isRule 2 (some .boolean) ∈ LG := LG_in (List.mem_of_getElem? (i := 761) (by decide +kernel)) (by decide +kernel)
theorem wM_L_84 : Cond.methodLink RL 84 yM_bar ∈ LG := LG_in (List.mem_of_getElem? (i := 762) (by decide +kernel)) (by decide +kernel)
theorem wI_M_bar : Cond.instanceMethod yM_bar ∈ LG := LG_in (List.mem_of_getElem? (i := 763) (by decide +kernel)) (by decide +kernel)
theorem wSel_M_bar : Cond.selects RM yM_bar yM_bar ∈ LG := LG_in (List.mem_of_getElem? (i := 764) (by decide +kernel)) (by decide +kernel)
theorem wC_M_bar : Cond.code yM_bar bM_bar 4 none ∈ LG := LG_in (List.mem_of_getElem? (i := 765) (by decide +kernel)) (by decide +kernel)
theorem wM_L_87 : Cond.methodLink RL 87 yM_follow ∈ LG := LG_in (List.mem_of_getElem? (i := 766) (by decide +kernel)) (by decide +kernel)
theorem wI_M_follow : Cond.instanceMethod yM_follow ∈ LG := LG_in (List.mem_of_getElem? (i := 767) (by decide +kernel)) (by decide +kernel)
theorem wSel_M_follow : Cond.selects RM yM_follow yM_follow ∈ LG := LG_in (List.mem_of_getElem? (i := 768) (by decide +kernel)) (by decide +kernel)
theorem wC_M_follow : Cond.code yM_follow bM_follow 4 none ∈ LG := LG_in (List.mem_of_getElem? (i := 769) (by decide +kernel)) (by decide +kernel)
theorem wM_L_91 : Cond.methodLink RL 91 yM_undo ∈ LG := LG_in (List.mem_of_getElem? (i := 770) (by decide +kernel)) (by decide +kernel)
theorem wI_M_undo : Cond.instanceMethod yM_undo ∈ LG := LG_in (List.mem_of_getElem? (i := 771) (by decide +kernel)) (by decide +kernel)
theorem wSel_M_undo : Cond.selects RM yM_undo yM_undo ∈ LG := LG_in (List.mem_of_getElem? (i := 772) (by decide +kernel)) (by decide +kernel)
theorem wC_M_undo : Cond.code yM_undo bM_undo 2 none ∈ LG := LG_in (List.mem_of_getElem? (i := 773) (by decide +kernel)) (by decide +kernel)
theorem wM_L_95 : Cond.methodLink RL 95 yM_parse ∈ LG := LG_in (List.mem_of_getElem? (i := 774) (by decide +kernel)) (by decide +kernel)
theorem wI_M_parse : Cond.instanceMethod yM_parse ∈ LG := LG_in (List.mem_of_getElem? (i := 775) (by decide +kernel)) (by decide +kernel)
theorem wSel_M_parse : Cond.selects RM yM_parse yM_parse ∈ LG := LG_in (List.mem_of_getElem? (i := 776) (by decide +kernel)) (by decide +kernel)
theorem wC_M_parse : Cond.code yM_parse bM_parse 4 (some .int) ∈ LG := LG_in (List.mem_of_getElem? (i := 777) (by decide +kernel)) (by decide +kernel)
theorem wM_M_171 : Cond.methodLink RM 171 yM_fill ∈ LG := LG_in (List.mem_of_getElem? (i := 778) (by decide +kernel)) (by decide +kernel)
theorem wI_M_fill : Cond.instanceMethod yM_fill ∈ LG := LG_in (List.mem_of_getElem? (i := 780) (by decide +kernel)) (by decide +kernel)
theorem wC_M_fill : Cond.code yM_fill bM_fill 5 none ∈ LG := LG_in (List.mem_of_getElem? (i := 781) (by decide +kernel)) (by decide +kernel)
theorem wM_M_129 : Cond.methodLink RM 129 yM_span ∈ LG := LG_in (List.mem_of_getElem? (i := 782) (by decide +kernel)) (by decide +kernel)
theorem wSt_M_span : Cond.static yM_span ∈ LG := LG_in (List.mem_of_getElem? (i := 783) (by decide +kernel)) (by decide +kernel)
theorem wC_M_span : Cond.code yM_span bM_span 2 (some .int) ∈ LG := LG_in (List.mem_of_getElem? (i := 784) (by decide +kernel)) (by decide +kernel)
theorem wM_M_164 : Cond.methodLink RM 164 yM_divide ∈ LG := LG_in (List.mem_of_getElem? (i := 785) (by decide +kernel)) (by decide +kernel)
theorem wI_M_divide : Cond.instanceMethod yM_divide ∈ LG := LG_in (List.mem_of_getElem? (i := 787) (by decide +kernel)) (by decide +kernel)
theorem wC_M_divide : Cond.code yM_divide bM_divide 16 none ∈ LG := LG_in (List.mem_of_getElem? (i := 788) (by decide +kernel)) (by decide +kernel)
theorem wM_M_147 : Cond.methodLink RM 147 yM_symbol ∈ LG := LG_in (List.mem_of_getElem? (i := 789) (by decide +kernel)) (by decide +kernel)
theorem wI_M_symbol : Cond.instanceMethod yM_symbol ∈ LG := LG_in (List.mem_of_getElem? (i := 791) (by decide +kernel)) (by decide +kernel)
theorem wC_M_symbol : Cond.code yM_symbol bM_symbol 6 (some .int) ∈ LG := LG_in (List.mem_of_getElem? (i := 792) (by decide +kernel)) (by decide +kernel)
theorem wM_M_140 : Cond.methodLink RM 140 yM_stands ∈ LG := LG_in (List.mem_of_getElem? (i := 793) (by decide +kernel)) (by decide +kernel)
theorem wI_M_stands : Cond.instanceMethod yM_stands ∈ LG := LG_in (List.mem_of_getElem? (i := 795) (by decide +kernel)) (by decide +kernel)
theorem wC_M_stands : Cond.code yM_stands bM_stands 3 (some .boolean) ∈ LG := LG_in (List.mem_of_getElem? (i := 796) (by decide +kernel)) (by decide +kernel)
theorem wM_M_143 : Cond.methodLink RM 143 yM_count5 ∈ LG := LG_in (List.mem_of_getElem? (i := 797) (by decide +kernel)) (by decide +kernel)
theorem wI_M_count5 : Cond.instanceMethod yM_count5 ∈ LG := LG_in (List.mem_of_getElem? (i := 799) (by decide +kernel)) (by decide +kernel)
theorem wC_M_count5 : Cond.code yM_count5 bM_count5 9 (some .int) ∈ LG := LG_in (List.mem_of_getElem? (i := 800) (by decide +kernel)) (by decide +kernel)
theorem wM_M_133 : Cond.methodLink RM 133 yM_allowed ∈ LG := LG_in (List.mem_of_getElem? (i := 801) (by decide +kernel)) (by decide +kernel)
theorem wI_M_allowed : Cond.instanceMethod yM_allowed ∈ LG := LG_in (List.mem_of_getElem? (i := 803) (by decide +kernel)) (by decide +kernel)
theorem wC_M_allowed : Cond.code yM_allowed bM_allowed 4 (some .boolean) ∈ LG := LG_in (List.mem_of_getElem? (i := 804) (by decide +kernel)) (by decide +kernel)
theorem wM_M_136 : Cond.methodLink RM 136 yM_cutDown ∈ LG := LG_in (List.mem_of_getElem? (i := 805) (by decide +kernel)) (by decide +kernel)
theorem wSt_M_cutDown : Cond.static yM_cutDown ∈ LG := LG_in (List.mem_of_getElem? (i := 806) (by decide +kernel)) (by decide +kernel)
theorem wC_M_cutDown : Cond.code yM_cutDown bM_cutDown 2 (some .int) ∈ LG := LG_in (List.mem_of_getElem? (i := 807) (by decide +kernel)) (by decide +kernel)
theorem wK_M_126 : Cond.constantLong RM 126 (1000000000 : Int64) ∈ LG := LG_in (List.mem_of_getElem? (i := 808) (by decide +kernel)) (by decide +kernel)
theorem wK_M_128 : Cond.constant RM 128 (1000000000 : Int32) ∈ LG := LG_in (List.mem_of_getElem? (i := 809) (by decide +kernel)) (by decide +kernel)
theorem wM_M_151 : Cond.methodLink RM 151 yM_weightOf ∈ LG := LG_in (List.mem_of_getElem? (i := 810) (by decide +kernel)) (by decide +kernel)
theorem wI_M_weightOf : Cond.instanceMethod yM_weightOf ∈ LG := LG_in (List.mem_of_getElem? (i := 812) (by decide +kernel)) (by decide +kernel)
theorem wC_M_weightOf : Cond.code yM_weightOf bM_weightOf 7 (some .double) ∈ LG := LG_in (List.mem_of_getElem? (i := 813) (by decide +kernel)) (by decide +kernel)
theorem wM_M_158 : Cond.methodLink RM 158 yM_heaviest ∈ LG := LG_in (List.mem_of_getElem? (i := 814) (by decide +kernel)) (by decide +kernel)
theorem wI_M_heaviest : Cond.instanceMethod yM_heaviest ∈ LG := LG_in (List.mem_of_getElem? (i := 816) (by decide +kernel)) (by decide +kernel)
theorem wC_M_heaviest : Cond.code yM_heaviest bM_heaviest 8 (some .int) ∈ LG := LG_in (List.mem_of_getElem? (i := 817) (by decide +kernel)) (by decide +kernel)
theorem wM_M_155 : Cond.methodLink RM 155 yM_next ∈ LG := LG_in (List.mem_of_getElem? (i := 818) (by decide +kernel)) (by decide +kernel)
theorem wI_M_next : Cond.instanceMethod yM_next ∈ LG := LG_in (List.mem_of_getElem? (i := 820) (by decide +kernel)) (by decide +kernel)
theorem wC_M_next : Cond.code yM_next bM_next 5 (some .boolean) ∈ LG := LG_in (List.mem_of_getElem? (i := 821) (by decide +kernel)) (by decide +kernel)
theorem wM_M_168 : Cond.methodLink RM 168 yM_isGood ∈ LG := LG_in (List.mem_of_getElem? (i := 822) (by decide +kernel)) (by decide +kernel)
theorem wI_M_isGood : Cond.instanceMethod yM_isGood ∈ LG := LG_in (List.mem_of_getElem? (i := 824) (by decide +kernel)) (by decide +kernel)
theorem wC_M_isGood : Cond.code yM_isGood bM_isGood 5 (some .boolean) ∈ LG := LG_in (List.mem_of_getElem? (i := 825) (by decide +kernel)) (by decide +kernel)
theorem wM_M_175 : Cond.methodLink RM 175 yM_grow ∈ LG := LG_in (List.mem_of_getElem? (i := 826) (by decide +kernel)) (by decide +kernel)
theorem wI_M_grow : Cond.instanceMethod yM_grow ∈ LG := LG_in (List.mem_of_getElem? (i := 828) (by decide +kernel)) (by decide +kernel)
theorem wC_M_grow : Cond.code yM_grow bM_grow 9 none ∈ LG := LG_in (List.mem_of_getElem? (i := 829) (by decide +kernel)) (by decide +kernel)
theorem wM_M_186 : Cond.methodLink RM 186 yM_put ∈ LG := LG_in (List.mem_of_getElem? (i := 830) (by decide +kernel)) (by decide +kernel)
theorem wI_M_put : Cond.instanceMethod yM_put ∈ LG := LG_in (List.mem_of_getElem? (i := 832) (by decide +kernel)) (by decide +kernel)
theorem wC_M_put : Cond.code yM_put bM_put 6 (some .int) ∈ LG := LG_in (List.mem_of_getElem? (i := 833) (by decide +kernel)) (by decide +kernel)
theorem wM_L_99 : Cond.methodLink RL 99 yM_weight ∈ LG := LG_in (List.mem_of_getElem? (i := 834) (by decide +kernel)) (by decide +kernel)
theorem wI_M_weight : Cond.instanceMethod yM_weight ∈ LG := LG_in (List.mem_of_getElem? (i := 835) (by decide +kernel)) (by decide +kernel)
theorem wSel_M_weight : Cond.selects RM yM_weight yM_weight ∈ LG := LG_in (List.mem_of_getElem? (i := 836) (by decide +kernel)) (by decide +kernel)
theorem wC_M_weight : Cond.code yM_weight bM_weight 1 (some .double) ∈ LG := LG_in (List.mem_of_getElem? (i := 837) (by decide +kernel)) (by decide +kernel)
theorem wM_L_103 : Cond.methodLink RL 103 yM_node ∈ LG := LG_in (List.mem_of_getElem? (i := 838) (by decide +kernel)) (by decide +kernel)
theorem wI_M_node : Cond.instanceMethod yM_node ∈ LG := LG_in (List.mem_of_getElem? (i := 839) (by decide +kernel)) (by decide +kernel)
theorem wSel_M_node : Cond.selects RM yM_node yM_node ∈ LG := LG_in (List.mem_of_getElem? (i := 840) (by decide +kernel)) (by decide +kernel)
theorem wC_M_node : Cond.code yM_node bM_node 3 (some .int) ∈ LG := LG_in (List.mem_of_getElem? (i := 841) (by decide +kernel)) (by decide +kernel)
theorem wM_L_107 : Cond.methodLink RL 107 yM_many ∈ LG := LG_in (List.mem_of_getElem? (i := 842) (by decide +kernel)) (by decide +kernel)
theorem wI_M_many : Cond.instanceMethod yM_many ∈ LG := LG_in (List.mem_of_getElem? (i := 843) (by decide +kernel)) (by decide +kernel)
theorem wSel_M_many : Cond.selects RM yM_many yM_many ∈ LG := LG_in (List.mem_of_getElem? (i := 844) (by decide +kernel)) (by decide +kernel)
theorem wC_M_many : Cond.code yM_many bM_many 4 (some .int) ∈ LG := LG_in (List.mem_of_getElem? (i := 845) (by decide +kernel)) (by decide +kernel)
theorem wM_L_111 : Cond.methodLink RL 111 yM_count1 ∈ LG := LG_in (List.mem_of_getElem? (i := 846) (by decide +kernel)) (by decide +kernel)
theorem wI_M_count1 : Cond.instanceMethod yM_count1 ∈ LG := LG_in (List.mem_of_getElem? (i := 847) (by decide +kernel)) (by decide +kernel)
theorem wSel_M_count1 : Cond.selects RM yM_count1 yM_count1 ∈ LG := LG_in (List.mem_of_getElem? (i := 848) (by decide +kernel)) (by decide +kernel)
theorem wC_M_count1 : Cond.code yM_count1 bM_count1 2 (some .int) ∈ LG := LG_in (List.mem_of_getElem? (i := 849) (by decide +kernel)) (by decide +kernel)
theorem wK_L_59 : Cond.constantLong RL 59 (4294967295 : Int64) ∈ LG := LG_in (List.mem_of_getElem? (i := 850) (by decide +kernel)) (by decide +kernel)
theorem wK_L_71 : Cond.constantDouble RL 71 (4593671619917905920 : UInt64) ∈ LG := LG_in (List.mem_of_getElem? (i := 851) (by decide +kernel)) (by decide +kernel)
theorem wArr_long : Cond.arrayClass .long ∈ LG := LG_in (List.mem_of_getElem? (i := 852) (by decide +kernel)) (by decide +kernel)
theorem inC : ∀ w ∈ u_ws RC TC 7, w ∈ LG := by
  have h : ∀ k, k < 7 → u_lay RC TC k ∈ LG := by
    intro k hk
    match k, hk with
    | 0, _ => exact LG_in (List.mem_of_getElem? (i := 119) (by decide +kernel)) (by decide +kernel)
    | 1, _ => exact LG_in (List.mem_of_getElem? (i := 121) (by decide +kernel)) (by decide +kernel)
    | 2, _ => exact LG_in (List.mem_of_getElem? (i := 123) (by decide +kernel)) (by decide +kernel)
    | 3, _ => exact LG_in (List.mem_of_getElem? (i := 125) (by decide +kernel)) (by decide +kernel)
    | 4, _ => exact LG_in (List.mem_of_getElem? (i := 127) (by decide +kernel)) (by decide +kernel)
    | 5, _ => exact LG_in (List.mem_of_getElem? (i := 129) (by decide +kernel)) (by decide +kernel)
    | 6, _ => exact LG_in (List.mem_of_getElem? (i := 131) (by decide +kernel)) (by decide +kernel)
    | k + 7, hk => exact absurd hk (by omega)
  intro w hw
  obtain ⟨k, hk, rfl⟩ := List.mem_map.mp hw
  exact h k (List.mem_range.mp hk)
theorem inG : ∀ w ∈ u_ws RG TG 8, w ∈ LG := by
  have h : ∀ k, k < 8 → u_lay RG TG k ∈ LG := by
    intro k hk
    match k, hk with
    | 0, _ => exact LG_in (List.mem_of_getElem? (i := 87) (by decide +kernel)) (by decide +kernel)
    | 1, _ => exact LG_in (List.mem_of_getElem? (i := 89) (by decide +kernel)) (by decide +kernel)
    | 2, _ => exact LG_in (List.mem_of_getElem? (i := 91) (by decide +kernel)) (by decide +kernel)
    | 3, _ => exact LG_in (List.mem_of_getElem? (i := 93) (by decide +kernel)) (by decide +kernel)
    | 4, _ => exact LG_in (List.mem_of_getElem? (i := 95) (by decide +kernel)) (by decide +kernel)
    | 5, _ => exact LG_in (List.mem_of_getElem? (i := 97) (by decide +kernel)) (by decide +kernel)
    | 6, _ => exact LG_in (List.mem_of_getElem? (i := 99) (by decide +kernel)) (by decide +kernel)
    | 7, _ => exact LG_in (List.mem_of_getElem? (i := 101) (by decide +kernel)) (by decide +kernel)
    | k + 8, hk => exact absurd hk (by omega)
  intro w hw
  obtain ⟨k, hk, rfl⟩ := List.mem_map.mp hw
  exact h k (List.mem_range.mp hk)
theorem inT : ∀ w ∈ u_ws RT TT 2, w ∈ LG := by
  have h : ∀ k, k < 2 → u_lay RT TT k ∈ LG := by
    intro k hk
    match k, hk with
    | 0, _ => exact LG_in (List.mem_of_getElem? (i := 67) (by decide +kernel)) (by decide +kernel)
    | 1, _ => exact LG_in (List.mem_of_getElem? (i := 69) (by decide +kernel)) (by decide +kernel)
    | k + 2, hk => exact absurd hk (by omega)
  intro w hw
  obtain ⟨k, hk, rfl⟩ := List.mem_map.mp hw
  exact h k (List.mem_range.mp hk)
theorem inE : ∀ w ∈ u_ws RE TE 4, w ∈ LG := by
  have h : ∀ k, k < 4 → u_lay RE TE k ∈ LG := by
    intro k hk
    match k, hk with
    | 0, _ => exact LG_in (List.mem_of_getElem? (i := 144) (by decide +kernel)) (by decide +kernel)
    | 1, _ => exact LG_in (List.mem_of_getElem? (i := 146) (by decide +kernel)) (by decide +kernel)
    | 2, _ => exact LG_in (List.mem_of_getElem? (i := 148) (by decide +kernel)) (by decide +kernel)
    | 3, _ => exact LG_in (List.mem_of_getElem? (i := 150) (by decide +kernel)) (by decide +kernel)
    | k + 4, hk => exact absurd hk (by omega)
  intro w hw
  obtain ⟨k, hk, rfl⟩ := List.mem_map.mp hw
  exact h k (List.mem_range.mp hk)
theorem inP : ∀ w ∈ u_ws RP TP 7, w ∈ LG := by
  have h : ∀ k, k < 7 → u_lay RP TP k ∈ LG := by
    intro k hk
    match k, hk with
    | 0, _ => exact LG_in (List.mem_of_getElem? (i := 160) (by decide +kernel)) (by decide +kernel)
    | 1, _ => exact LG_in (List.mem_of_getElem? (i := 162) (by decide +kernel)) (by decide +kernel)
    | 2, _ => exact LG_in (List.mem_of_getElem? (i := 164) (by decide +kernel)) (by decide +kernel)
    | 3, _ => exact LG_in (List.mem_of_getElem? (i := 166) (by decide +kernel)) (by decide +kernel)
    | 4, _ => exact LG_in (List.mem_of_getElem? (i := 168) (by decide +kernel)) (by decide +kernel)
    | 5, _ => exact LG_in (List.mem_of_getElem? (i := 170) (by decide +kernel)) (by decide +kernel)
    | 6, _ => exact LG_in (List.mem_of_getElem? (i := 172) (by decide +kernel)) (by decide +kernel)
    | k + 7, hk => exact absurd hk (by omega)
  intro w hw
  obtain ⟨k, hk, rfl⟩ := List.mem_map.mp hw
  exact h k (List.mem_range.mp hk)
theorem inM : ∀ w ∈ u_ws RM TM 29, w ∈ LG := by
  have h : ∀ k, k < 29 → u_lay RM TM k ∈ LG := by
    intro k hk
    match k, hk with
    | 0, _ => exact LG_in (List.mem_of_getElem? (i := 654) (by decide +kernel)) (by decide +kernel)
    | 1, _ => exact LG_in (List.mem_of_getElem? (i := 656) (by decide +kernel)) (by decide +kernel)
    | 2, _ => exact LG_in (List.mem_of_getElem? (i := 658) (by decide +kernel)) (by decide +kernel)
    | 3, _ => exact LG_in (List.mem_of_getElem? (i := 660) (by decide +kernel)) (by decide +kernel)
    | 4, _ => exact LG_in (List.mem_of_getElem? (i := 662) (by decide +kernel)) (by decide +kernel)
    | 5, _ => exact LG_in (List.mem_of_getElem? (i := 664) (by decide +kernel)) (by decide +kernel)
    | 6, _ => exact LG_in (List.mem_of_getElem? (i := 666) (by decide +kernel)) (by decide +kernel)
    | 7, _ => exact LG_in (List.mem_of_getElem? (i := 668) (by decide +kernel)) (by decide +kernel)
    | 8, _ => exact LG_in (List.mem_of_getElem? (i := 670) (by decide +kernel)) (by decide +kernel)
    | 9, _ => exact LG_in (List.mem_of_getElem? (i := 672) (by decide +kernel)) (by decide +kernel)
    | 10, _ => exact LG_in (List.mem_of_getElem? (i := 674) (by decide +kernel)) (by decide +kernel)
    | 11, _ => exact LG_in (List.mem_of_getElem? (i := 676) (by decide +kernel)) (by decide +kernel)
    | 12, _ => exact LG_in (List.mem_of_getElem? (i := 678) (by decide +kernel)) (by decide +kernel)
    | 13, _ => exact LG_in (List.mem_of_getElem? (i := 680) (by decide +kernel)) (by decide +kernel)
    | 14, _ => exact LG_in (List.mem_of_getElem? (i := 682) (by decide +kernel)) (by decide +kernel)
    | 15, _ => exact LG_in (List.mem_of_getElem? (i := 684) (by decide +kernel)) (by decide +kernel)
    | 16, _ => exact LG_in (List.mem_of_getElem? (i := 686) (by decide +kernel)) (by decide +kernel)
    | 17, _ => exact LG_in (List.mem_of_getElem? (i := 688) (by decide +kernel)) (by decide +kernel)
    | 18, _ => exact LG_in (List.mem_of_getElem? (i := 690) (by decide +kernel)) (by decide +kernel)
    | 19, _ => exact LG_in (List.mem_of_getElem? (i := 692) (by decide +kernel)) (by decide +kernel)
    | 20, _ => exact LG_in (List.mem_of_getElem? (i := 694) (by decide +kernel)) (by decide +kernel)
    | 21, _ => exact LG_in (List.mem_of_getElem? (i := 696) (by decide +kernel)) (by decide +kernel)
    | 22, _ => exact LG_in (List.mem_of_getElem? (i := 698) (by decide +kernel)) (by decide +kernel)
    | 23, _ => exact LG_in (List.mem_of_getElem? (i := 700) (by decide +kernel)) (by decide +kernel)
    | 24, _ => exact LG_in (List.mem_of_getElem? (i := 702) (by decide +kernel)) (by decide +kernel)
    | 25, _ => exact LG_in (List.mem_of_getElem? (i := 704) (by decide +kernel)) (by decide +kernel)
    | 26, _ => exact LG_in (List.mem_of_getElem? (i := 706) (by decide +kernel)) (by decide +kernel)
    | 27, _ => exact LG_in (List.mem_of_getElem? (i := 708) (by decide +kernel)) (by decide +kernel)
    | 28, _ => exact LG_in (List.mem_of_getElem? (i := 710) (by decide +kernel)) (by decide +kernel)
    | k + 29, hk => exact absurd hk (by omega)
  intro w hw
  obtain ⟨k, hk, rfl⟩ := List.mem_map.mp hw
  exact h k (List.mem_range.mp hk)
end
section
/-! THE JUDGEMENT: all that stays the same in a method's walk is one tuple K; ints are nI of natural numbers; locals are a list by slot -/
abbrev KX : Type := (Program × Launch × Env × Room × State) × (MethodId × Array Value × List Frame × Method × Code) × (va_G × (Nat → Prop) × Nat × (State → Prop)) × (Nat × Nat)
abbrev kp (K : KX) : Program := K.1.1
abbrev kl (K : KX) : Launch := K.1.2.1
abbrev ke (K : KX) : Env := K.1.2.2.1
abbrev kR (K : KX) : Room := K.1.2.2.2.1
abbrev ks (K : KX) : State := K.1.2.2.2.2
abbrev km (K : KX) : MethodId := K.2.1.1
abbrev ka (K : KX) : Array Value := K.2.1.2.1
abbrev kb (K : KX) : List Frame := K.2.1.2.2.1
abbrev kt (K : KX) : Method := K.2.1.2.2.2.1
abbrev kc (K : KX) : Code := K.2.1.2.2.2.2
abbrev kD (K : KX) : va_G := K.2.2.1.1
abbrev kA (K : KX) : Nat → Prop := K.2.2.1.2.1
abbrev kn (K : KX) : Nat := K.2.2.1.2.2.1
abbrev kQ (K : KX) : State → Prop := K.2.2.1.2.2.2
abbrev kce (K : KX) : Nat := K.2.2.2.1
abbrev ksl (K : KX) : Nat := K.2.2.2.2
/-- the locals that are known, with their slots -/
def lk : Nat → List (Option Value) → List (Nat × Value)
  | _, [] => []
  | i, none :: t => lk (i + 1) t
  | i, some v :: t => (i, v) :: lk (i + 1) t
theorem lk_get : ∀ (L : List (Option Value)) (o i : Nat) (v : Value), L[i]? = some (some v) → (o + i, v) ∈ lk o L
  | [], _, i, _, h => by simp at h
  | none :: t, o, 0, v, h => by simp at h
  | none :: t, o, i + 1, v, h => by
    have := lk_get t (o + 1) i v (by simpa using h)
    rw [show o + (i + 1) = o + 1 + i by omega]
    exact this
  | some x :: t, o, 0, v, h => by
    simp at h
    subst h
    exact List.mem_cons_self
  | some x :: t, o, i + 1, v, h => by
    have := lk_get t (o + 1) i v (by simpa using h)
    rw [show o + (i + 1) = o + 1 + i by omega]
    exact List.mem_cons_of_mem _ this
theorem lk_of : ∀ (L : List (Option Value)) (o j : Nat) (v : Value), (j, v) ∈ lk o L → o ≤ j ∧ L[j - o]? = some (some v)
  | [], _, _, _, h => by cases h
  | none :: t, o, j, v, h => by
    obtain ⟨h1, h2⟩ := lk_of t (o + 1) j v h
    refine ⟨by omega, ?_⟩
    rw [show j - o = (j - (o + 1)) + 1 by omega]
    exact h2
  | some x :: t, o, j, v, h => by
    rcases List.mem_cons.mp h with h | h
    · cases h
      exact ⟨Nat.le_refl _, by simp⟩
    · obtain ⟨h1, h2⟩ := lk_of t (o + 1) j v h
      refine ⟨by omega, ?_⟩
      rw [show j - o = (j - (o + 1)) + 1 by omega]
      exact h2
theorem lk_at {ls : Array Slot} {nL : Nat} {L : List (Option Value)} {i : Nat} {v : Value} (h : lv_has ls nL (lk 0 L)) (hi : L[i]? = some (some v)) : ls[i]? = some (.val v) := h.2.2 (i, v) (by have := lk_get L 0 i v hi; rwa [Nat.zero_add] at this)
/-- a slot that holds no long or double -/
def c1 : Option Value → Bool
  | none => true
  | some v => v.category == 1
def WA (K : KX) (ws : va_W) (L : List (Option Value)) (pc : Nat) (S : List Value) : Prop := ∀ (H : Heap) (locs : List Loc) (ls : Array Slot), va_P (kD K) cls6 ws H → va_D (kA K) ws → va_S (kA K) (ks K).heap H locs → lv_has ls (kn K) (lk 0 L) → W (kp K) (kl K) (ke K) (kR K) (ks K) (km K) (ka K) (kb K) (kt K) (kc K) H locs (kce K) (ksl K) (kQ K) (F0 (km K) pc ls S)
def CT (K : KX) (cc : ByteArray) (own : String) (tys : List (ClassId × FieldType)) (lv : Nat) : Prop := (kp K).tables.exec = Jvm.exec ∧ (kc K).code = cc ∧ (kc K).maxLocals = kn K ∧ (ks K).vm.findClass own = some (km K).cls ∧ (∀ w ∈ LG, w.before (ka K) (ks K) = true) ∧ va_K (kD K) cls6 tys (ks K) ∧ ENV (ks K) ∧ (∀ q, (ks K).heap.size ≤ q → kA K q) ∧ (kt K).locks = false ∧ (lv ≤ (kR K).frames ∧ 40 * lv ≤ (kR K).locals ∧ kce K ≤ (kR K).cells ∧ ksl K ≤ (kR K).slots)
section BASE
variable {K : KX} {cc : ByteArray} {own : String} {tys : List (ClassId × FieldType)} {ws : va_W} {L : List (Option Value)} {pc lv : Nat} {S : List Value}
theorem a_iload {i : Nat} {x : Int32} (C : CT K cc own tys lv) (d : decode cc pc = .ok (.iload i, 2)) (h : L[i]? = some (some (.int x))) (k : WA K ws L (pc + 2) (.int x :: S)) : WA K ws L pc S := fun H locs ls hP hD hS hl => lv_iload C.1 C.2.1 d (lk_at hl h) (k H locs ls hP hD hS hl)
theorem a_iloadn {j : Fin 4} {i : Nat} {x : Int32} (C : CT K cc own tys lv) (d : decode cc pc = .ok (.iload_n j, 1)) (hj : (j : Nat) = i) (h : L[i]? = some (some (.int x))) (k : WA K ws L (pc + 1) (.int x :: S)) : WA K ws L pc S := fun H locs ls hP hD hS hl => lv_iload_n C.1 C.2.1 d hj (lk_at hl h) (k H locs ls hP hD hS hl)
theorem a_lload {i : Nat} {x : Int64} (C : CT K cc own tys lv) (d : decode cc pc = .ok (.lload i, 2)) (h : L[i]? = some (some (.long x))) (k : WA K ws L (pc + 2) (.long x :: S)) : WA K ws L pc S := fun H locs ls hP hD hS hl => lv_lload C.1 C.2.1 d (lk_at hl h) (k H locs ls hP hD hS hl)
theorem a_lloadn {j : Fin 4} {i : Nat} {x : Int64} (C : CT K cc own tys lv) (d : decode cc pc = .ok (.lload_n j, 1)) (hj : (j : Nat) = i) (h : L[i]? = some (some (.long x))) (k : WA K ws L (pc + 1) (.long x :: S)) : WA K ws L pc S := fun H locs ls hP hD hS hl => lv_lload_n C.1 C.2.1 d hj (lk_at hl h) (k H locs ls hP hD hS hl)
theorem a_dload {i : Nat} {x : UInt64} (C : CT K cc own tys lv) (d : decode cc pc = .ok (.dload i, 2)) (h : L[i]? = some (some (.double x))) (k : WA K ws L (pc + 2) (.double x :: S)) : WA K ws L pc S := fun H locs ls hP hD hS hl => lv_dload C.1 C.2.1 d (lk_at hl h) (k H locs ls hP hD hS hl)
theorem a_dloadn {j : Fin 4} {i : Nat} {x : UInt64} (C : CT K cc own tys lv) (d : decode cc pc = .ok (.dload_n j, 1)) (hj : (j : Nat) = i) (h : L[i]? = some (some (.double x))) (k : WA K ws L (pc + 1) (.double x :: S)) : WA K ws L pc S := fun H locs ls hP hD hS hl => lv_dload_n C.1 C.2.1 d hj (lk_at hl h) (k H locs ls hP hD hS hl)
theorem a_aload {i : Nat} {x : Nat} (C : CT K cc own tys lv) (d : decode cc pc = .ok (.aload i, 2)) (h : L[i]? = some (some (.ref x))) (k : WA K ws L (pc + 2) (.ref x :: S)) : WA K ws L pc S := fun H locs ls hP hD hS hl => lv_aload C.1 C.2.1 d (lk_at hl h) (k H locs ls hP hD hS hl)
theorem a_aloadn {j : Fin 4} {i : Nat} {x : Nat} (C : CT K cc own tys lv) (d : decode cc pc = .ok (.aload_n j, 1)) (hj : (j : Nat) = i) (h : L[i]? = some (some (.ref x))) (k : WA K ws L (pc + 1) (.ref x :: S)) : WA K ws L pc S := fun H locs ls hP hD hS hl => lv_aload_n C.1 C.2.1 d hj (lk_at hl h) (k H locs ls hP hD hS hl)
theorem lk_st1 {L L' : List (Option Value)} {ls : Array Slot} {nL i : Nat} {v : Value} (h : lv_has ls nL ((i, v) :: (lk 0 L).filter (fun q => !(q.1 == i) && !(q.1 + 1 == i && q.2.category == 2)))) (hL : ∀ j w, L'[j]? = some (some w) → (j = i ∧ w = v) ∨ (j ≠ i ∧ L[j]? = some (some w) ∧ (j + 1 = i → w.category = 1))) : lv_has ls nL (lk 0 L') := by
  refine ⟨h.1, h.2.1, fun q hq => ?_⟩
  obtain ⟨j, w⟩ := q
  obtain ⟨-, h2⟩ := lk_of L' 0 j w hq
  rw [Nat.sub_zero] at h2
  rcases hL j w h2 with ⟨rfl, rfl⟩ | ⟨a, b, c⟩
  · exact h.2.2 _ List.mem_cons_self
  · refine h.2.2 (j, w) (List.mem_cons_of_mem _ (List.mem_filter.mpr ⟨?_, ?_⟩))
    · have := lk_get L 0 j w b
      rwa [Nat.zero_add] at this
    · simp only [Bool.and_eq_true, Bool.not_eq_true', beq_eq_false_iff_ne, ne_eq, Bool.and_eq_false_iff]
      refine ⟨a, ?_⟩
      by_cases e : j + 1 = i
      · right; rw [c e]; decide
      · left; exact e
theorem lk_st2 {L L' : List (Option Value)} {ls : Array Slot} {nL i : Nat} {v : Value} (h : lv_has ls nL ((i, v) :: (lk 0 L).filter (fun q => !(q.1 == i) && (!(q.1 == i + 1) && !(q.1 + 1 == i && q.2.category == 2))))) (hL : ∀ j w, L'[j]? = some (some w) → (j = i ∧ w = v) ∨ (j ≠ i ∧ j ≠ i + 1 ∧ L[j]? = some (some w) ∧ (j + 1 = i → w.category = 1))) : lv_has ls nL (lk 0 L') := by
  refine ⟨h.1, h.2.1, fun q hq => ?_⟩
  obtain ⟨j, w⟩ := q
  obtain ⟨-, h2⟩ := lk_of L' 0 j w hq
  rw [Nat.sub_zero] at h2
  rcases hL j w h2 with ⟨rfl, rfl⟩ | ⟨a, a2, b, c⟩
  · exact h.2.2 _ List.mem_cons_self
  · refine h.2.2 (j, w) (List.mem_cons_of_mem _ (List.mem_filter.mpr ⟨?_, ?_⟩))
    · have := lk_get L 0 j w b
      rwa [Nat.zero_add] at this
    · simp only [Bool.and_eq_true, Bool.not_eq_true', beq_eq_false_iff_ne, ne_eq, Bool.and_eq_false_iff]
      refine ⟨a, a2, ?_⟩
      by_cases e : j + 1 = i
      · right; rw [c e]; decide
      · left; exact e
theorem c1_cat {o : Option Value} {v : Value} (h : c1 o = true) (e : o = some v) : v.category = 1 := by
  subst e
  simpa [c1] using h
/-- one slot of a list replaced -/
theorem lset1 {L : List (Option Value)} {i : Nat} {v : Value} (hc : c1 (L.getD (i - 1) none) = true ∨ i = 0) : ∀ j w, (L.set i (some v))[j]? = some (some w) → (j = i ∧ w = v) ∨ (j ≠ i ∧ L[j]? = some (some w) ∧ (j + 1 = i → w.category = 1)) := by
  intro j w h
  by_cases e : i = j
  · subst e
    by_cases hl : i < L.length
    · rw [List.getElem?_set_self hl] at h
      left; exact ⟨rfl, by cases h; rfl⟩
    · rw [List.getElem?_eq_none (by simp; omega)] at h
      cases h
  · rw [List.getElem?_set_ne e] at h
    right
    refine ⟨fun q => e q.symm, h, fun q => ?_⟩
    rcases hc with hc | hc
    · refine c1_cat hc ?_
      rw [show i - 1 = j by omega]
      simp [List.getD, h]
    · omega
theorem lset2 {L : List (Option Value)} {i : Nat} {v : Value} (hc : c1 (L.getD (i - 1) none) = true ∨ i = 0) : ∀ j w, ((L.set i (some v)).set (i + 1) none)[j]? = some (some w) → (j = i ∧ w = v) ∨ (j ≠ i ∧ j ≠ i + 1 ∧ L[j]? = some (some w) ∧ (j + 1 = i → w.category = 1)) := by
  intro j w h
  by_cases e2 : i + 1 = j
  · subst e2
    by_cases hl : i + 1 < (L.set i (some v)).length
    · rw [List.getElem?_set_self hl] at h
      cases h
    · rw [List.getElem?_eq_none (by simp at hl ⊢; omega)] at h
      cases h
  · rw [List.getElem?_set_ne e2] at h
    rcases lset1 hc j w h with q | ⟨q1, q2, q3⟩
    · exact Or.inl q
    · exact Or.inr ⟨q1, fun q => e2 q.symm, q2, q3⟩
theorem a_ist {i : Nat} {x : Int32} {L' : List (Option Value)} (C : CT K cc own tys lv) (d : decode cc pc = .ok (.istore i, 2)) (hn : i < kn K) (hL : L.set i (some (.int x)) = L') (hc : c1 (L.getD (i - 1) none) = true ∨ i = 0) (k : WA K ws L' (pc + 2) S) : WA K ws L pc (.int x :: S) := fun H locs ls hP hD hS hl => lv_istore C.1 C.2.1 d hl hn rfl (fun ls' hl' => k H locs ls' hP hD hS (lk_st1 hl' (by rw [← hL]; exact lset1 hc)))
theorem a_istn {j : Fin 4} {i : Nat} {x : Int32} {L' : List (Option Value)} (C : CT K cc own tys lv) (d : decode cc pc = .ok (.istore_n j, 1)) (hj : (j : Nat) = i) (hn : i < kn K) (hL : L.set i (some (.int x)) = L') (hc : c1 (L.getD (i - 1) none) = true ∨ i = 0) (k : WA K ws L' (pc + 1) S) : WA K ws L pc (.int x :: S) := fun H locs ls hP hD hS hl => lv_istore_n C.1 C.2.1 d hj hl hn rfl (fun ls' hl' => k H locs ls' hP hD hS (lk_st1 hl' (by rw [← hL]; exact lset1 hc)))
theorem a_ast {i : Nat} {x : Nat} {L' : List (Option Value)} (C : CT K cc own tys lv) (d : decode cc pc = .ok (.astore i, 2)) (hn : i < kn K) (hL : L.set i (some (.ref x)) = L') (hc : c1 (L.getD (i - 1) none) = true ∨ i = 0) (k : WA K ws L' (pc + 2) S) : WA K ws L pc (.ref x :: S) := fun H locs ls hP hD hS hl => lv_astore C.1 C.2.1 d hl hn rfl (fun ls' hl' => k H locs ls' hP hD hS (lk_st1 hl' (by rw [← hL]; exact lset1 hc)))
theorem a_astn {j : Fin 4} {i : Nat} {x : Nat} {L' : List (Option Value)} (C : CT K cc own tys lv) (d : decode cc pc = .ok (.astore_n j, 1)) (hj : (j : Nat) = i) (hn : i < kn K) (hL : L.set i (some (.ref x)) = L') (hc : c1 (L.getD (i - 1) none) = true ∨ i = 0) (k : WA K ws L' (pc + 1) S) : WA K ws L pc (.ref x :: S) := fun H locs ls hP hD hS hl => lv_astore_n C.1 C.2.1 d hj hl hn rfl (fun ls' hl' => k H locs ls' hP hD hS (lk_st1 hl' (by rw [← hL]; exact lset1 hc)))
theorem a_lst {i : Nat} {x : Int64} {L' : List (Option Value)} (C : CT K cc own tys lv) (d : decode cc pc = .ok (.lstore i, 2)) (hn : i + 1 < kn K) (hL : (L.set i (some (.long x))).set (i + 1) none = L') (hc : c1 (L.getD (i - 1) none) = true ∨ i = 0) (k : WA K ws L' (pc + 2) S) : WA K ws L pc (.long x :: S) := fun H locs ls hP hD hS hl => lv_lstore C.1 C.2.1 d hl hn rfl (fun ls' hl' => k H locs ls' hP hD hS (lk_st2 hl' (by rw [← hL]; exact lset2 hc)))
theorem a_lstn {j : Fin 4} {i : Nat} {x : Int64} {L' : List (Option Value)} (C : CT K cc own tys lv) (d : decode cc pc = .ok (.lstore_n j, 1)) (hj : (j : Nat) = i) (hn : i + 1 < kn K) (hL : (L.set i (some (.long x))).set (i + 1) none = L') (hc : c1 (L.getD (i - 1) none) = true ∨ i = 0) (k : WA K ws L' (pc + 1) S) : WA K ws L pc (.long x :: S) := fun H locs ls hP hD hS hl => lv_lstore_n C.1 C.2.1 d hj hl hn rfl (fun ls' hl' => k H locs ls' hP hD hS (lk_st2 hl' (by rw [← hL]; exact lset2 hc)))
theorem a_dst {i : Nat} {x : UInt64} {L' : List (Option Value)} (C : CT K cc own tys lv) (d : decode cc pc = .ok (.dstore i, 2)) (hn : i + 1 < kn K) (hL : (L.set i (some (.double x))).set (i + 1) none = L') (hc : c1 (L.getD (i - 1) none) = true ∨ i = 0) (k : WA K ws L' (pc + 2) S) : WA K ws L pc (.double x :: S) := fun H locs ls hP hD hS hl => lv_dstore C.1 C.2.1 d hl hn rfl (fun ls' hl' => k H locs ls' hP hD hS (lk_st2 hl' (by rw [← hL]; exact lset2 hc)))
theorem a_dstn {j : Fin 4} {i : Nat} {x : UInt64} {L' : List (Option Value)} (C : CT K cc own tys lv) (d : decode cc pc = .ok (.dstore_n j, 1)) (hj : (j : Nat) = i) (hn : i + 1 < kn K) (hL : (L.set i (some (.double x))).set (i + 1) none = L') (hc : c1 (L.getD (i - 1) none) = true ∨ i = 0) (k : WA K ws L' (pc + 1) S) : WA K ws L pc (.double x :: S) := fun H locs ls hP hD hS hl => lv_dstore_n C.1 C.2.1 d hj hl hn rfl (fun ls' hl' => k H locs ls' hP hD hS (lk_st2 hl' (by rw [← hL]; exact lset2 hc)))
theorem a_iinc {i : Nat} {n : Int} {x v : Nat} {L' : List (Option Value)} (C : CT K cc own tys lv) (d : decode cc pc = .ok (.iinc i n, 3)) (h : L[i]? = some (some (.int (nI x)))) (hv : nI x + Int32.ofInt n = nI v) (hn : i < kn K) (hL : L.set i (some (.int (nI v))) = L') (hc : c1 (L.getD (i - 1) none) = true ∨ i = 0) (k : WA K ws L' (pc + 3) S) : WA K ws L pc S := fun H locs ls hP hD hS hl => by
  have hm : (i, Value.int (nI x)) ∈ lk 0 L := by have := lk_get L 0 i _ h; rwa [Nat.zero_add] at this
  obtain ⟨k0, hk0⟩ := List.getElem?_of_mem hm
  exact lv_iinc C.1 C.2.1 d hl hk0 hv hn rfl (fun ls' hl' => k H locs ls' hP hD hS (lk_st1 hl' (by rw [← hL]; exact lset1 hc)))
theorem inc_up {x c : Nat} {n : Int} (hn : Int32.ofInt n = nI c) : nI x + Int32.ofInt n = nI (x + c) := by rw [hn, nI_add]
theorem inc_dn {x c : Nat} {n : Int} (h : c ≤ x) (hn : Int32.ofInt n = - nI c) : nI x + Int32.ofInt n = nI (x - c) := by rw [hn, ← pk_sub h, Int32.sub_eq_add_neg]
-- constants
theorem a_iconst {n : Int} {v : Nat} (C : CT K cc own tys lv) (d : decode cc pc = .ok (.iconst n, 1)) (hv : Int32.ofInt n = nI v) (k : WA K ws L (pc + 1) (.int (nI v) :: S)) : WA K ws L pc S := fun H locs ls hP hD hS hl => lv_iconst C.1 C.2.1 d hv (k H locs ls hP hD hS hl)
theorem a_bipush {n : Int} {v : Nat} (C : CT K cc own tys lv) (d : decode cc pc = .ok (.bipush n, 2)) (hv : (Int8.ofInt n).toInt32 = nI v) (k : WA K ws L (pc + 2) (.int (nI v) :: S)) : WA K ws L pc S := fun H locs ls hP hD hS hl => lv_bipush C.1 C.2.1 d hv (k H locs ls hP hD hS hl)
theorem a_sipush {n : Int} {v : Nat} (C : CT K cc own tys lv) (d : decode cc pc = .ok (.sipush n, 3)) (hv : (Int16.ofInt n).toInt32 = nI v) (k : WA K ws L (pc + 3) (.int (nI v) :: S)) : WA K ws L pc S := fun H locs ls hP hD hS hl => lv_sipush C.1 C.2.1 d hv (k H locs ls hP hD hS hl)
theorem a_lconst {n : Fin 2} {v : Nat} (C : CT K cc own tys lv) (d : decode cc pc = .ok (.lconst n, 1)) (hv : (n : Nat) = v) (k : WA K ws L (pc + 1) (.long (lN v) :: S)) : WA K ws L pc S := fun H locs ls hP hD hS hl => lv_lconst C.1 C.2.1 d (by rw [hv]; rfl) (k H locs ls hP hD hS hl)
theorem a_ldc {index : Nat} {v : Int32} {n : Nat} (C : CT K cc own tys lv) (hw : Cond.constant own index v ∈ LG) (d : decode cc pc = .ok (.ldc index, 2)) (hv : v = nI n) (k : WA K ws L (pc + 2) (.int (nI n) :: S)) : WA K ws L pc S := fun H locs ls hP hD hS hl => lv_ldc C.1 C.2.1 C.2.2.2.1 (C.2.2.2.2.1 _ hw) d (by rw [hv]; exact k H locs ls hP hD hS hl)
theorem a_ldc2 {index : Nat} {v : Int64} {n : Nat} (C : CT K cc own tys lv) (hw : Cond.constantLong own index v ∈ LG) (d : decode cc pc = .ok (.ldc2_w index, 3)) (hv : v = lN n) (k : WA K ws L (pc + 3) (.long (lN n) :: S)) : WA K ws L pc S := fun H locs ls hP hD hS hl => lv_ldc2 C.1 C.2.1 C.2.2.2.1 (C.2.2.2.2.1 _ hw) d (by rw [hv]; exact k H locs ls hP hD hS hl)
theorem a_ldc2d {index : Nat} {v : UInt64} (C : CT K cc own tys lv) (hw : Cond.constantDouble own index v ∈ LG) (d : decode cc pc = .ok (.ldc2_w index, 3)) (k : WA K ws L (pc + 3) (.double v :: S)) : WA K ws L pc S := fun H locs ls hP hD hS hl => lv_ldc2d C.1 C.2.1 C.2.2.2.1 (C.2.2.2.2.1 _ hw) d (k H locs ls hP hD hS hl)
-- stack
theorem a_dup {va : Value} (C : CT K cc own tys lv) (d : decode cc pc = .ok (.dup, 1)) (h : va.category = 1) (k : WA K ws L (pc + 1) (va :: va :: S)) : WA K ws L pc (va :: S) := fun H locs ls hP hD hS hl => lv_dup C.1 C.2.1 d h (k H locs ls hP hD hS hl)
theorem a_dup2 {va vb : Value} (C : CT K cc own tys lv) (d : decode cc pc = .ok (.dup2, 1)) (h : va.category = 1) (h2 : vb.category = 1) (k : WA K ws L (pc + 1) (va :: vb :: va :: vb :: S)) : WA K ws L pc (va :: vb :: S) := fun H locs ls hP hD hS hl => lv_dup2_11 C.1 C.2.1 d h h2 (k H locs ls hP hD hS hl)
theorem a_goto {off : Int} {tgt : Nat} (C : CT K cc own tys lv) (d : decode cc pc = .ok (.goto off, 3)) (ht : (pc : Int) + off = (tgt : Int)) (k : WA K ws L tgt S) : WA K ws L pc S := fun H locs ls hP hD hS hl => lv_goto C.1 C.2.1 d ht (k H locs ls hP hD hS hl)
-- int arithmetic on natural numbers
theorem a_iadd {a b : Nat} (C : CT K cc own tys lv) (d : decode cc pc = .ok (.iadd, 1)) (k : WA K ws L (pc + 1) (.int (nI (a + b)) :: S)) : WA K ws L pc (.int (nI b) :: .int (nI a) :: S) := fun H locs ls hP hD hS hl => lv_iadd C.1 C.2.1 d (by rw [nI_add]; exact k H locs ls hP hD hS hl)
theorem a_isub {a b : Nat} (C : CT K cc own tys lv) (d : decode cc pc = .ok (.isub, 1)) (h : b ≤ a) (k : WA K ws L (pc + 1) (.int (nI (a - b)) :: S)) : WA K ws L pc (.int (nI b) :: .int (nI a) :: S) := fun H locs ls hP hD hS hl => lv_isub C.1 C.2.1 d (by rw [pk_sub h]; exact k H locs ls hP hD hS hl)
theorem nI_mod (a : Nat) : nI (a + 4294967296) = nI a := by
  show Int32.ofNat _ = Int32.ofNat _
  apply Int32.toBitVec_inj.mp
  show BitVec.ofNat 32 _ = BitVec.ofNat 32 _
  apply BitVec.eq_of_toNat_eq
  simp
theorem nI_wsub {a b : Nat} (h : b ≤ 4294967296) : nI a - nI b = nI (a + (4294967296 - b)) := by
  rw [← nI_mod a, pk_sub (by omega), show a + 4294967296 - b = a + (4294967296 - b) by omega]
theorem a_isubw {a b : Nat} (C : CT K cc own tys lv) (d : decode cc pc = .ok (.isub, 1)) (h : b ≤ 4294967296) (k : WA K ws L (pc + 1) (.int (nI (a + (4294967296 - b))) :: S)) : WA K ws L pc (.int (nI b) :: .int (nI a) :: S) := fun H locs ls hP hD hS hl => lv_isub C.1 C.2.1 d (by rw [nI_wsub h]; exact k H locs ls hP hD hS hl)
theorem a_imul {a b : Nat} (C : CT K cc own tys lv) (d : decode cc pc = .ok (.imul, 1)) (k : WA K ws L (pc + 1) (.int (nI (a * b)) :: S)) : WA K ws L pc (.int (nI b) :: .int (nI a) :: S) := fun H locs ls hP hD hS hl => lv_imul C.1 C.2.1 d (by rw [pk_mul]; exact k H locs ls hP hD hS hl)
theorem a_idiv {a b : Nat} (C : CT K cc own tys lv) (d : decode cc pc = .ok (.idiv, 1)) (h : a < 2147483648) (h0 : 0 < b) (h2 : b < 2147483648) (k : WA K ws L (pc + 1) (.int (nI (a / b)) :: S)) : WA K ws L pc (.int (nI b) :: .int (nI a) :: S) := fun H locs ls hP hD hS hl => lv_idiv C.1 C.2.1 d (nI_ne0 h0 h2) (by rw [pk_div h h0 h2]; exact k H locs ls hP hD hS hl)
theorem nI_bv (a : Nat) : (nI a).toBitVec = BitVec.ofNat 32 a := rfl
theorem nI_inj {x y : Int32} (h : x.toBitVec = y.toBitVec) : x = y := Int32.toBitVec_inj.mp h
theorem nI_and (a b : Nat) : nI a &&& nI b = nI (a &&& b) := nI_inj (by
  show (nI a).toBitVec &&& (nI b).toBitVec = _
  rw [nI_bv, nI_bv, nI_bv]
  apply BitVec.eq_of_getLsbD_eq
  intro i hi
  simp [hi])
theorem nI_or (a b : Nat) : nI a ||| nI b = nI (a ||| b) := nI_inj (by
  show (nI a).toBitVec ||| (nI b).toBitVec = _
  rw [nI_bv, nI_bv, nI_bv]
  apply BitVec.eq_of_getLsbD_eq
  intro i hi
  simp [hi])
theorem nI_xor (a b : Nat) : nI a ^^^ nI b = nI (a ^^^ b) := nI_inj (by
  show (nI a).toBitVec ^^^ (nI b).toBitVec = _
  rw [nI_bv, nI_bv, nI_bv]
  apply BitVec.eq_of_getLsbD_eq
  intro i hi
  simp [hi])
theorem a_iand {a b : Nat} (C : CT K cc own tys lv) (d : decode cc pc = .ok (.iand, 1)) (k : WA K ws L (pc + 1) (.int (nI (a &&& b)) :: S)) : WA K ws L pc (.int (nI b) :: .int (nI a) :: S) := fun H locs ls hP hD hS hl => lv_iand C.1 C.2.1 d (by rw [nI_and]; exact k H locs ls hP hD hS hl)
theorem a_ior {a b : Nat} (C : CT K cc own tys lv) (d : decode cc pc = .ok (.ior, 1)) (k : WA K ws L (pc + 1) (.int (nI (a ||| b)) :: S)) : WA K ws L pc (.int (nI b) :: .int (nI a) :: S) := fun H locs ls hP hD hS hl => lv_ior C.1 C.2.1 d (by rw [nI_or]; exact k H locs ls hP hD hS hl)
theorem a_ixor {a b : Nat} (C : CT K cc own tys lv) (d : decode cc pc = .ok (.ixor, 1)) (k : WA K ws L (pc + 1) (.int (nI (a ^^^ b)) :: S)) : WA K ws L pc (.int (nI b) :: .int (nI a) :: S) := fun H locs ls hP hD hS hl => lv_ixor C.1 C.2.1 d (by rw [nI_xor]; exact k H locs ls hP hD hS hl)
theorem sh_amt : ∀ b, b < 32 → ((nI b &&& 31).toBitVec.smod 32).toNat = b := by decide +kernel
theorem nI_tn (a : Nat) : (nI a).toBitVec.toNat = a % 4294967296 := by rw [nI_bv, BitVec.toNat_ofNat]
theorem nI_shl {a b : Nat} (h : b < 32) : nI a <<< (nI b &&& 31) = nI (a * 2 ^ b) := nI_inj (by
  apply BitVec.eq_of_toNat_eq
  rw [pk_shl (nI a) (nI b &&& 31) b (sh_amt b h), nI_tn, nI_tn]
  rw [Nat.mul_mod, Nat.mod_mod, ← Nat.mul_mod])
theorem a_ishl {a b : Nat} (C : CT K cc own tys lv) (d : decode cc pc = .ok (.ishl, 1)) (h : b < 32) (k : WA K ws L (pc + 1) (.int (nI (a * 2 ^ b)) :: S)) : WA K ws L pc (.int (nI b) :: .int (nI a) :: S) := fun H locs ls hP hD hS hl => lv_ishl C.1 C.2.1 d (by rw [nI_shl h]; exact k H locs ls hP hD hS hl)
theorem a_ishr {a b : Nat} (C : CT K cc own tys lv) (d : decode cc pc = .ok (.ishr, 1)) (h : b < 32) (ha : a < 2147483648) (k : WA K ws L (pc + 1) (.int (nI (a / 2 ^ b)) :: S)) : WA K ws L pc (.int (nI b) :: .int (nI a) :: S) := fun H locs ls hP hD hS hl => lv_ishr C.1 C.2.1 d (by rw [pk_shrN ha _ b (sh_amt b h)]; exact k H locs ls hP hD hS hl)
-- longs
theorem a_i2l {a : Nat} (C : CT K cc own tys lv) (d : decode cc pc = .ok (.i2l, 1)) (h : a < 2147483648) (k : WA K ws L (pc + 1) (.long (lN a) :: S)) : WA K ws L pc (.int (nI a) :: S) := fun H locs ls hP hD hS hl => lv_i2l C.1 C.2.1 d (nI_l h) (k H locs ls hP hD hS hl)
theorem a_l2i {a : Nat} (C : CT K cc own tys lv) (d : decode cc pc = .ok (.l2i, 1)) (k : WA K ws L (pc + 1) (.int (nI a) :: S)) : WA K ws L pc (.long (lN a) :: S) := fun H locs ls hP hD hS hl => lv_l2i C.1 C.2.1 d (lN_i a) (k H locs ls hP hD hS hl)
theorem a_ladd {a b : Nat} (C : CT K cc own tys lv) (d : decode cc pc = .ok (.ladd, 1)) (k : WA K ws L (pc + 1) (.long (lN (a + b)) :: S)) : WA K ws L pc (.long (lN b) :: .long (lN a) :: S) := fun H locs ls hP hD hS hl => lv_ladd C.1 C.2.1 d (by rw [lN_add]; exact k H locs ls hP hD hS hl)
theorem a_lmul {a b : Nat} (C : CT K cc own tys lv) (d : decode cc pc = .ok (.lmul, 1)) (k : WA K ws L (pc + 1) (.long (lN (a * b)) :: S)) : WA K ws L pc (.long (lN b) :: .long (lN a) :: S) := fun H locs ls hP hD hS hl => lv_lmul C.1 C.2.1 d (by rw [lN_mul]; exact k H locs ls hP hD hS hl)
theorem a_lcmp {a b : Nat} (C : CT K cc own tys lv) (d : decode cc pc = .ok (.lcmp, 1)) (ha : a < 9223372036854775808) (hb : b < 9223372036854775808) (k1 : a < b → WA K ws L (pc + 1) (.int (nI 4294967295) :: S)) (k2 : a = b → WA K ws L (pc + 1) (.int (nI 0) :: S)) (k3 : b < a → WA K ws L (pc + 1) (.int (nI 1) :: S)) : WA K ws L pc (.long (lN b) :: .long (lN a) :: S) := fun H locs ls hP hD hS hl => W.lcmp C.1 C.2.1 d (by
  rcases Nat.lt_trichotomy a b with h | h | h
  · have e : lg_cmp (lN a) (lN b) = nI 4294967295 := by
      have h1 : lN a < lN b := (pk_lLT ha hb).mpr h
      have h2 : ¬ lN b < lN a := fun q => by have := (pk_lLT hb ha).mp q; omega
      have h3 : ¬ lN a = lN b := fun q => by have := (pk_lEQ ha hb).mp q; omega
      have h4 : (-1 : Int32) = nI 4294967295 := by decide
      simp [lg_cmp, h1, h2, h3, ← h4]
    rw [e]; exact k1 h H locs ls hP hD hS hl
  · have e : lg_cmp (lN a) (lN b) = nI 0 := by
      subst h
      have h1 : ¬ lN a < lN a := fun q => by have := (pk_lLT ha ha).mp q; omega
      have h4 : (0 : Int32) = nI 0 := by decide
      simp [lg_cmp, h1, ← h4]
    rw [e]; exact k2 h H locs ls hP hD hS hl
  · have e : lg_cmp (lN a) (lN b) = nI 1 := by
      have h1 : lN b < lN a := (pk_lLT hb ha).mpr h
      have h2 : ¬ lN a < lN b := fun q => by have := (pk_lLT ha hb).mp q; omega
      have h3 : ¬ lN a = lN b := fun q => by have := (pk_lEQ ha hb).mp q; omega
      have h4 : (1 : Int32) = nI 1 := by decide
      simp [lg_cmp, h1, h2, h3, ← h4]
    rw [e]; exact k3 h H locs ls hP hD hS hl)
-- doubles
def nanv : CmpOp → Nat
  | .g => 1
  | .l => 4294967295
theorem a_dconst0 (C : CT K cc own tys lv) (d : decode cc pc = .ok (.dconst 0, 1)) (k : WA K ws L (pc + 1) (.double 0 :: S)) : WA K ws L pc S := fun H locs ls hP hD hS hl => lv_dconst0 C.1 C.2.1 d (k H locs ls hP hD hS hl)
theorem a_dmul {x y : UInt64} (C : CT K cc own tys lv) (d : decode cc pc = .ok (.dmul, 1)) (h : vf_n64 (FP.dmul x y)) (k : WA K ws L (pc + 1) (.double (FP.dmul x y) :: S)) : WA K ws L pc (.double y :: .double x :: S) := fun H locs ls hP hD hS hl => lv_dmul C.1 C.2.1 d h (k H locs ls hP hD hS hl)
theorem a_dcmp {x y : UInt64} {op : CmpOp} (C : CT K cc own tys lv) (d : decode cc pc = .ok (.dcmp op, 1)) (k1 : FP.dcmp x y = some .lt → WA K ws L (pc + 1) (.int (nI 4294967295) :: S)) (k2 : FP.dcmp x y = some .eq → WA K ws L (pc + 1) (.int (nI 0) :: S)) (k3 : FP.dcmp x y = some .gt → WA K ws L (pc + 1) (.int (nI 1) :: S)) (k4 : FP.dcmp x y = none → WA K ws L (pc + 1) (.int (nI (nanv op)) :: S)) : WA K ws L pc (.double y :: .double x :: S) := fun H locs ls hP hD hS hl => lv_dcmp C.1 C.2.1 d (by
  have m1 : (-1 : Int32) = nI 4294967295 := by decide
  have p1 : (1 : Int32) = nI 1 := by decide
  have z0 : (0 : Int32) = nI 0 := by decide
  cases hq : FP.dcmp x y with
  | none =>
    have e : Op.cmpValue none op = nI (nanv op) := by cases op <;> decide
    rw [e]; exact k4 hq H locs ls hP hD hS hl
  | some o =>
    cases o with
    | lt => have e : Op.cmpValue (some .lt) op = nI 4294967295 := by simp [Op.cmpValue, m1]
            rw [e]; exact k1 hq H locs ls hP hD hS hl
    | eq => have e : Op.cmpValue (some .eq) op = nI 0 := by simp [Op.cmpValue, z0]
            rw [e]; exact k2 hq H locs ls hP hD hS hl
    | gt => have e : Op.cmpValue (some .gt) op = nI 1 := by simp [Op.cmpValue, p1]
            rw [e]; exact k3 hq H locs ls hP hD hS hl)
-- branches on natural numbers
theorem nI_eq32 {a b : Nat} (ha : a < 4294967296) (hb : b < 4294967296) : nI a = nI b ↔ a = b := by
  constructor
  · intro h
    have := congrArg (fun x : Int32 => x.toBitVec.toNat) h
    simp only [nI_tn] at this
    omega
  · intro h; rw [h]
theorem nI_int {a : Nat} (ha : a < 4294967296) : (nI a).toInt = if a < 2147483648 then (a : Int) else (a : Int) - 4294967296 := by
  show (nI a).toBitVec.toInt = _
  rw [nI_bv, BitVec.toInt_ofNat']
  simp only [Int.bmod]
  omega
theorem nI_neg {a : Nat} (ha : a < 4294967296) : nI a < 0 ↔ 2147483648 ≤ a := by
  rw [Int32.lt_iff_toInt_lt, nI_int ha, show (0 : Int32).toInt = 0 by decide]
  split <;> omega
theorem nI_z : (0 : Int32) = nI 0 := by decide
theorem a_ifeq {a tgt : Nat} {off : Int} (C : CT K cc own tys lv) (d : decode cc pc = .ok (.ifCond .eq off, 3)) (ht : (pc : Int) + off = (tgt : Int)) (ha : a < 4294967296) (kt : a = 0 → WA K ws L tgt S) (kf : a ≠ 0 → WA K ws L (pc + 3) S) : WA K ws L pc (.int (nI a) :: S) := fun H locs ls hP hD hS hl => lv_if_eq C.1 C.2.1 d ht (fun h => kt ((nI_eq32 ha (by decide)).mp (h.trans nI_z)) H locs ls hP hD hS hl) (fun h => kf (fun q => h (by rw [q]; rfl)) H locs ls hP hD hS hl)
theorem a_ifne {a tgt : Nat} {off : Int} (C : CT K cc own tys lv) (d : decode cc pc = .ok (.ifCond .ne off, 3)) (ht : (pc : Int) + off = (tgt : Int)) (ha : a < 4294967296) (kt : a ≠ 0 → WA K ws L tgt S) (kf : a = 0 → WA K ws L (pc + 3) S) : WA K ws L pc (.int (nI a) :: S) := fun H locs ls hP hD hS hl => lv_if_ne C.1 C.2.1 d ht (fun h => kt (fun q => h (by rw [q]; rfl)) H locs ls hP hD hS hl) (fun h => kf ((nI_eq32 ha (by decide)).mp (h.trans nI_z)) H locs ls hP hD hS hl)
theorem a_iflt {a tgt : Nat} {off : Int} (C : CT K cc own tys lv) (d : decode cc pc = .ok (.ifCond .lt off, 3)) (ht : (pc : Int) + off = (tgt : Int)) (ha : a < 4294967296) (kt : 2147483648 ≤ a → WA K ws L tgt S) (kf : a < 2147483648 → WA K ws L (pc + 3) S) : WA K ws L pc (.int (nI a) :: S) := fun H locs ls hP hD hS hl => lv_if_lt C.1 C.2.1 d ht (fun h => kt ((nI_neg ha).mp h) H locs ls hP hD hS hl) (fun h => kf (Nat.lt_of_not_le (fun q => h ((nI_neg ha).mpr q))) H locs ls hP hD hS hl)
theorem a_ifge {a tgt : Nat} {off : Int} (C : CT K cc own tys lv) (d : decode cc pc = .ok (.ifCond .ge off, 3)) (ht : (pc : Int) + off = (tgt : Int)) (ha : a < 4294967296) (kt : a < 2147483648 → WA K ws L tgt S) (kf : 2147483648 ≤ a → WA K ws L (pc + 3) S) : WA K ws L pc (.int (nI a) :: S) := fun H locs ls hP hD hS hl => lv_if_ge C.1 C.2.1 d ht (fun h => kt (Nat.lt_of_not_le (fun q => absurd h (Int32.not_le.mpr ((nI_neg ha).mpr q)))) H locs ls hP hD hS hl) (fun h => kf ((nI_neg ha).mp (Int32.not_le.mp h)) H locs ls hP hD hS hl)
theorem nI_pz {a : Nat} (ha : a < 4294967296) : 0 < nI a ↔ 0 < a ∧ a < 2147483648 := by
  rw [Int32.lt_iff_toInt_lt, nI_int ha, show (0 : Int32).toInt = 0 by decide]
  split <;> omega
theorem a_ifgt {a tgt : Nat} {off : Int} (C : CT K cc own tys lv) (d : decode cc pc = .ok (.ifCond .gt off, 3)) (ht : (pc : Int) + off = (tgt : Int)) (ha : a < 4294967296) (kt : 0 < a → a < 2147483648 → WA K ws L tgt S) (kf : a = 0 ∨ 2147483648 ≤ a → WA K ws L (pc + 3) S) : WA K ws L pc (.int (nI a) :: S) := fun H locs ls hP hD hS hl => lv_if_gt C.1 C.2.1 d ht (fun h => kt ((nI_pz ha).mp h).1 ((nI_pz ha).mp h).2 H locs ls hP hD hS hl) (fun h => kf (by
  rcases Nat.eq_zero_or_pos a with q | q
  · exact Or.inl q
  · right
    rcases Nat.lt_or_ge a 2147483648 with q2 | q2
    · exact absurd ((nI_pz ha).mpr ⟨q, q2⟩) h
    · exact q2) H locs ls hP hD hS hl)
theorem a_ifle {a tgt : Nat} {off : Int} (C : CT K cc own tys lv) (d : decode cc pc = .ok (.ifCond .le off, 3)) (ht : (pc : Int) + off = (tgt : Int)) (ha : a < 4294967296) (kt : a = 0 ∨ 2147483648 ≤ a → WA K ws L tgt S) (kf : 0 < a → a < 2147483648 → WA K ws L (pc + 3) S) : WA K ws L pc (.int (nI a) :: S) := fun H locs ls hP hD hS hl => lv_if_le C.1 C.2.1 d ht (fun h => kt (by
  rcases Nat.eq_zero_or_pos a with q | q
  · exact Or.inl q
  · right
    rcases Nat.lt_or_ge a 2147483648 with q2 | q2
    · exact absurd h (Int32.not_le.mpr ((nI_pz ha).mpr ⟨q, q2⟩))
    · exact q2) H locs ls hP hD hS hl) (fun h => kf ((nI_pz ha).mp (Int32.not_le.mp h)).1 ((nI_pz ha).mp (Int32.not_le.mp h)).2 H locs ls hP hD hS hl)
theorem a_ceq {a b tgt : Nat} {off : Int} (C : CT K cc own tys lv) (d : decode cc pc = .ok (.if_icmp .eq off, 3)) (ht : (pc : Int) + off = (tgt : Int)) (ha : a < 4294967296) (hb : b < 4294967296) (kt : a = b → WA K ws L tgt S) (kf : a ≠ b → WA K ws L (pc + 3) S) : WA K ws L pc (.int (nI b) :: .int (nI a) :: S) := fun H locs ls hP hD hS hl => lv_icmp_eq C.1 C.2.1 d ht (fun h => kt ((nI_eq32 ha hb).mp h) H locs ls hP hD hS hl) (fun h => kf (fun q => h (by rw [q])) H locs ls hP hD hS hl)
theorem a_cne {a b tgt : Nat} {off : Int} (C : CT K cc own tys lv) (d : decode cc pc = .ok (.if_icmp .ne off, 3)) (ht : (pc : Int) + off = (tgt : Int)) (ha : a < 4294967296) (hb : b < 4294967296) (kt : a ≠ b → WA K ws L tgt S) (kf : a = b → WA K ws L (pc + 3) S) : WA K ws L pc (.int (nI b) :: .int (nI a) :: S) := fun H locs ls hP hD hS hl => lv_icmp_ne C.1 C.2.1 d ht (fun h => kt (fun q => h (by rw [q])) H locs ls hP hD hS hl) (fun h => kf ((nI_eq32 ha hb).mp h) H locs ls hP hD hS hl)
theorem a_cge {a b tgt : Nat} {off : Int} (C : CT K cc own tys lv) (d : decode cc pc = .ok (.if_icmp .ge off, 3)) (ht : (pc : Int) + off = (tgt : Int)) (ha : a < 2147483648) (hb : b < 2147483648) (kt : b ≤ a → WA K ws L tgt S) (kf : a < b → WA K ws L (pc + 3) S) : WA K ws L pc (.int (nI b) :: .int (nI a) :: S) := fun H locs ls hP hD hS hl => lv_icmp_ge C.1 C.2.1 d ht (fun h => kt ((nI_leI hb ha).mp h) H locs ls hP hD hS hl) (fun h => kf (Nat.lt_of_not_le (fun q => h ((nI_leI hb ha).mpr q))) H locs ls hP hD hS hl)
theorem a_clt {a b tgt : Nat} {off : Int} (C : CT K cc own tys lv) (d : decode cc pc = .ok (.if_icmp .lt off, 3)) (ht : (pc : Int) + off = (tgt : Int)) (ha : a < 2147483648) (hb : b < 2147483648) (kt : a < b → WA K ws L tgt S) (kf : b ≤ a → WA K ws L (pc + 3) S) : WA K ws L pc (.int (nI b) :: .int (nI a) :: S) := fun H locs ls hP hD hS hl => lv_icmp_lt C.1 C.2.1 d ht (fun h => kt ((nI_ltI ha hb).mp h) H locs ls hP hD hS hl) (fun h => kf (Nat.le_of_not_lt (fun q => h ((nI_ltI ha hb).mpr q))) H locs ls hP hD hS hl)
theorem a_cgt {a b tgt : Nat} {off : Int} (C : CT K cc own tys lv) (d : decode cc pc = .ok (.if_icmp .gt off, 3)) (ht : (pc : Int) + off = (tgt : Int)) (ha : a < 2147483648) (hb : b < 2147483648) (kt : b < a → WA K ws L tgt S) (kf : a ≤ b → WA K ws L (pc + 3) S) : WA K ws L pc (.int (nI b) :: .int (nI a) :: S) := fun H locs ls hP hD hS hl => lv_icmp_gt C.1 C.2.1 d ht (fun h => kt ((nI_ltI hb ha).mp h) H locs ls hP hD hS hl) (fun h => kf (Nat.le_of_not_lt (fun q => h ((nI_ltI hb ha).mpr q))) H locs ls hP hD hS hl)
theorem a_cle {a b tgt : Nat} {off : Int} (C : CT K cc own tys lv) (d : decode cc pc = .ok (.if_icmp .le off, 3)) (ht : (pc : Int) + off = (tgt : Int)) (ha : a < 2147483648) (hb : b < 2147483648) (kt : a ≤ b → WA K ws L tgt S) (kf : b < a → WA K ws L (pc + 3) S) : WA K ws L pc (.int (nI b) :: .int (nI a) :: S) := fun H locs ls hP hD hS hl => lv_icmp_le C.1 C.2.1 d ht (fun h => kt ((nI_leI ha hb).mp h) H locs ls hP hD hS hl) (fun h => kf (Nat.lt_of_not_le (fun q => h ((nI_leI ha hb).mpr q))) H locs ls hP hD hS hl)
end BASE
end
section
/-! MEMORY AND CALLS over WA -/
abbrev ST : Type := (Nat → Nat) × (Nat → Nat → Nat) × (Nat → Nat → UInt64) × UInt64
def nf (f : Nat → Nat) : Nat → Int32 := fun k => nI (f k)
theorem upd_nf (f : Nat → Nat) (k v : Nat) : upd (nf f) k (nI v) = nf (va_up f k v) := by
  funext j
  unfold nf upd va_up
  split <;> rfl
/-- a scalar, a place of an array, a place of a row of doubles, the double changed -/
def sS (x : ST) (k v : Nat) : ST := (va_up x.1 k v, x.2)
def sA (x : ST) (k i v : Nat) : ST := (x.1, va_up x.2.1 k (va_up (x.2.1 k) i v), x.2.2)
def sD (x : ST) (k i : Nat) (v : UInt64) : ST := (x.1, x.2.1, va_up x.2.2.1 k (va_up (x.2.2.1 k) i v), x.2.2.2)
def sT (x : ST) (v : UInt64) : ST := (x.1, x.2.1, x.2.2.1, v)
section MEM
variable {K : KX} {cc : ByteArray} {own : String} {tys : List (ClassId × FieldType)} {ws ws' : va_W} {L : List (Option Value)} {pc lv : Nat} {S : List Value} {a : Nat}
theorem a_get {ci N index q0 : Nat} {Cn : String} {T : u_T} {fs : List Value} {v : Value} (C : CT K cc own tys lv) (hin : ∀ w ∈ u_ws Cn T N, w ∈ LG) (hc : cls6[ci]? = some (Cn, T, N)) (j : Nat) (hj : j < N) (hw : Cond.fieldLink own index (T j).1 (T j).2.1 (T j).2.2.1 ∈ LG) (d : decode cc pc = .ok (.getfield index, 3)) (he : ws[q0]? = some (a, .inr (ci, fs))) (hv : fs[j]? = some v) (k : WA K ws L (pc + 3) (v :: S)) : WA K ws L pc (.ref a :: S) := fun H locs ls hP hD hS hl => va_get C.1 C.2.1 C.2.2.2.2.1 hin C.2.2.2.1 C.2.2.2.2.2.1 hP q0 he hc j hj (C.2.2.2.2.1 _ hw) (fun _ h9 => h9) hv d (k H locs ls hP hD hS hl)
theorem a_put {ci N index q0 : Nat} {Cn : String} {T : u_T} {fs : List Value} {v : Value} {ty0 : Nat → FieldType} {ty : FieldType} (C : CT K cc own tys lv) (hin : ∀ w ∈ u_ws Cn T N, w ∈ LG) (hty : ∀ k, k < N → parseFieldDescriptor (T k).2.2.1 = some (ty0 k)) (hnm : ∀ a, a < N → ∀ b, b < N → a ≠ b → (T a).2.1 ≠ (T b).2.1) (hc : cls6[ci]? = some (Cn, T, N)) (j : Nat) (hj : j < N) (hw : Cond.fieldLink own index (T j).1 (T j).2.1 (T j).2.2.1 ∈ LG) (hfin : (T j).2.2.2 = false) (hd : parseFieldDescriptor (T j).2.2.1 = some ty) (d : decode cc pc = .ok (.putfield index, 3)) (he : ws[q0]? = some (a, .inr (ci, fs))) (hl : j < fs.length) (hn : narrow ty v = v) (hfit : fits ty v = true) (hset : ws.set q0 (a, .inr (ci, fs.set j v)) = ws') (k : WA K ws' L (pc + 3) S) : WA K ws L pc (v :: .ref a :: S) := fun H locs ls hP hD hS hlv => va_put C.1 C.2.1 C.2.2.2.2.1 hin ty0 hty hnm C.2.2.2.1 C.2.2.2.2.2.1 hP hD hS q0 he hc j hj (C.2.2.2.2.1 _ hw) (fun _ h9 => h9) hfin hd hn hfit hl d (fun H1 locs1 hP1 hD1 hS1 => k H1 locs1 ls (hset ▸ hP1) (hset ▸ hD1) hS1 hlv)
theorem a_iald {q0 t0 n i : Nat} {cA : ClassId} {f : Nat → Nat} (C : CT K cc own tys lv) (d : decode cc pc = .ok (.iaload, 1)) (he : ws[q0]? = some (a, .inl (cA, n, .inl (nf f)))) (ht : tys[t0]? = some (cA, .int)) (hi : i < n) (hn : n < 2147483648) (k : WA K ws L (pc + 1) (.int (nI (f i)) :: S)) : WA K ws L pc (.int (nI i) :: .ref a :: S) := fun H locs ls hP hD hS hl => va_iald C.1 C.2.1 C.2.2.2.2.2.1 hP q0 t0 he ht (vp_in_nI hi hn) d (by rw [nI_clamp (show i < 2 ^ 31 by omega)]; exact k H locs ls hP hD hS hl)
theorem a_zald {q0 t0 n i : Nat} {cA : ClassId} {f : Nat → Nat} (C : CT K cc own tys lv) (d : decode cc pc = .ok (.baload, 1)) (he : ws[q0]? = some (a, .inl (cA, n, .inl (nf f)))) (ht : tys[t0]? = some (cA, .boolean)) (hi : i < n) (hn : n < 2147483648) (k : WA K ws L (pc + 1) (.int (nI (f i)) :: S)) : WA K ws L pc (.int (nI i) :: .ref a :: S) := fun H locs ls hP hD hS hl => va_zald C.1 C.2.1 C.2.2.2.2.2.1 hP q0 t0 he ht (vp_in_nI hi hn) d (by rw [nI_clamp (show i < 2 ^ 31 by omega)]; exact k H locs ls hP hD hS hl)
theorem a_dald {q0 t0 n i : Nat} {cA : ClassId} {f : Nat → UInt64} (C : CT K cc own tys lv) (d : decode cc pc = .ok (.daload, 1)) (he : ws[q0]? = some (a, .inl (cA, n, .inr (.inr (.inr (.inl f)))))) (ht : tys[t0]? = some (cA, .double)) (hi : i < n) (hn : n < 2147483648) (k : WA K ws L (pc + 1) (.double (f i) :: S)) : WA K ws L pc (.int (nI i) :: .ref a :: S) := fun H locs ls hP hD hS hl => va_dald C.1 C.2.1 C.2.2.2.2.2.1 hP q0 t0 he ht (vp_in_nI hi hn) d (by rw [nI_clamp (show i < 2 ^ 31 by omega)]; exact k H locs ls hP hD hS hl)
theorem a_iast {q0 t0 n i v : Nat} {cA : ClassId} {f : Nat → Nat} (C : CT K cc own tys lv) (d : decode cc pc = .ok (.iastore, 1)) (he : ws[q0]? = some (a, .inl (cA, n, .inl (nf f)))) (ht : tys[t0]? = some (cA, .int)) (hi : i < n) (hn : n < 2147483648) (hset : ws.set q0 (a, .inl (cA, n, .inl (nf (va_up f i v)))) = ws') (k : WA K ws' L (pc + 1) S) : WA K ws L pc (.int (nI v) :: .int (nI i) :: .ref a :: S) := fun H locs ls hP hD hS hl => va_iast C.1 C.2.1 C.2.2.2.2.2.1 hP hD hS q0 t0 he ht (vp_in_nI hi hn) d (fun H1 locs1 hP1 hD1 hS1 => by
  rw [nI_clamp (show i < 2 ^ 31 by omega), upd_nf, hset] at hP1 hD1
  exact k H1 locs1 ls hP1 hD1 hS1 hl)
theorem nar_z {v : Nat} (h : v ≤ 1) : vp_nar .boolean (nI v) = nI v := by
  rcases (show v = 0 ∨ v = 1 by omega) with rfl | rfl <;> decide
theorem a_zast {q0 t0 n i v : Nat} {cA : ClassId} {f : Nat → Nat} (C : CT K cc own tys lv) (d : decode cc pc = .ok (.bastore, 1)) (he : ws[q0]? = some (a, .inl (cA, n, .inl (nf f)))) (ht : tys[t0]? = some (cA, .boolean)) (hi : i < n) (hn : n < 2147483648) (hv : v ≤ 1) (hset : ws.set q0 (a, .inl (cA, n, .inl (nf (va_up f i v)))) = ws') (k : WA K ws' L (pc + 1) S) : WA K ws L pc (.int (nI v) :: .int (nI i) :: .ref a :: S) := fun H locs ls hP hD hS hl => va_zast C.1 C.2.1 C.2.2.2.2.2.1 hP hD hS q0 t0 he ht (vp_in_nI hi hn) d (fun H1 locs1 hP1 hD1 hS1 => by
  rw [nI_clamp (show i < 2 ^ 31 by omega), nar_z hv, upd_nf, hset] at hP1 hD1
  exact k H1 locs1 ls hP1 hD1 hS1 hl)
theorem vf_up {α : Type} (f : Nat → α) (k : Nat) (v : α) : vf_upd f k v = va_up f k v := rfl
theorem a_dast {q0 t0 n i : Nat} {v : UInt64} {cA : ClassId} {f : Nat → UInt64} (C : CT K cc own tys lv) (d : decode cc pc = .ok (.dastore, 1)) (he : ws[q0]? = some (a, .inl (cA, n, .inr (.inr (.inr (.inl f)))))) (ht : tys[t0]? = some (cA, .double)) (hi : i < n) (hn : n < 2147483648) (hset : ws.set q0 (a, .inl (cA, n, .inr (.inr (.inr (.inl (va_up f i v)))))) = ws') (k : WA K ws' L (pc + 1) S) : WA K ws L pc (.double v :: .int (nI i) :: .ref a :: S) := fun H locs ls hP hD hS hl => va_dast C.1 C.2.1 C.2.2.2.2.2.1 hP hD hS q0 t0 he ht (vp_in_nI hi hn) d (fun H1 locs1 hP1 hD1 hS1 => by
  rw [nI_clamp (show i < 2 ^ 31 by omega), vf_up, hset] at hP1 hD1
  exact k H1 locs1 ls hP1 hD1 hS1 hl)
theorem a_alen {q0 t0 n : Nat} {cA : ClassId} {f : Nat → Int32} {ty : FieldType} (C : CT K cc own tys lv) (d : decode cc pc = .ok (.arraylength, 1)) (he : ws[q0]? = some (a, .inl (cA, n, .inl f))) (ht : tys[t0]? = some (cA, ty)) (k : WA K ws L (pc + 1) (.int (nI n) :: S)) : WA K ws L pc (.ref a :: S) := fun H locs ls hP hD hS hl => va_alen C.1 C.2.1 C.2.2.2.2.2.1 hP q0 t0 he ht rfl d (k H locs ls hP hD hS hl)
end MEM
/-! CONTRACTS -/
def rmL (d : Nat) : Room := { frames := d, cells := 0, slots := 0, locals := 40 * d }
def PRE (D : va_G) (tys : List (ClassId × FieldType)) (wc : va_W) (sz : Nat) (U : State) : Prop := U.heap.size = sz ∧ va_P D cls6 wc U.heap ∧ va_K D cls6 tys U ∧ va_D (fun _ => True) wc ∧ ENV U
theorem PRE_blind {D : va_G} {tys : List (ClassId × FieldType)} {wc : va_W} {sz : Nat} {av : List Value} : FrameBlind (va_Pc av (PRE D tys wc sz)) := fun a U g mk q => by
  obtain ⟨q0, q1, qP, qK, qD, qE⟩ := q
  exact ⟨q0, q1, qP, va_K.moved (u := U) (U := U.calling g mk a) (Vm.Alike.refl U.vm) qK, qD, qE.same rfl⟩
/-- the world behind a call: the same cells -/
def AFT (D : va_G) (WW : ST → va_W) (A : Nat → Prop) : ST → State → Prop := fun u t => va_P D cls6 (WW u) t.heap ∧ va_D A (WW u)
def QI (D : va_G) (WW : ST → va_W) (post : Nat → ST → Prop) (A : Nat → Prop) : Array Value → State → Outcome → State → Prop := va_Qi (fun (r : Int32) (u : ST) => ∃ n, r = nI n ∧ n < 4294967296 ∧ post n u) (AFT D WW A) A
def CI (l : Launch) (D : va_G) (tys : List (ClassId × FieldType)) (WW : ST → va_W) (y : MethodName) (cy : ByteArray) (mL : Nat) (ret : Option FieldType) (lev : Nat) (av : List Value) (x : ST) (post : Nat → ST → Prop) : Prop := ∀ sz, Met l y (.code y cy mL ret :: LG) (rmL lev) (va_Pc av (PRE D tys (WW x) sz)) (QI D WW post (va_A (WW x) sz)) 0 0 (va_A (WW x) sz)
def QL (D : va_G) (WW : ST → va_W) (post : Nat → ST → Prop) (A : Nat → Prop) : Array Value → State → Outcome → State → Prop := va_Ql (fun (r : Int64) (u : ST) => ∃ n, r = lN n ∧ n < 9223372036854775808 ∧ post n u) (AFT D WW A) A
def CL (l : Launch) (D : va_G) (tys : List (ClassId × FieldType)) (WW : ST → va_W) (y : MethodName) (cy : ByteArray) (mL : Nat) (ret : Option FieldType) (lev : Nat) (av : List Value) (x : ST) (post : Nat → ST → Prop) : Prop := ∀ sz, Met l y (.code y cy mL ret :: LG) (rmL lev) (va_Pc av (PRE D tys (WW x) sz)) (QL D WW post (va_A (WW x) sz)) 0 0 (va_A (WW x) sz)
def QD (D : va_G) (WW : ST → va_W) (post : UInt64 → ST → Prop) (A : Nat → Prop) : Array Value → State → Outcome → State → Prop := va_Qd (fun (r : UInt64) (u : ST) => post r u) (AFT D WW A) A
def CD (l : Launch) (D : va_G) (tys : List (ClassId × FieldType)) (WW : ST → va_W) (y : MethodName) (cy : ByteArray) (mL : Nat) (ret : Option FieldType) (lev : Nat) (av : List Value) (x : ST) (post : UInt64 → ST → Prop) : Prop := ∀ sz, Met l y (.code y cy mL ret :: LG) (rmL lev) (va_Pc av (PRE D tys (WW x) sz)) (QD D WW post (va_A (WW x) sz)) 0 0 (va_A (WW x) sz)
def QV (D : va_G) (WW : ST → va_W) (post : ST → Prop) (A : Nat → Prop) : Array Value → State → Outcome → State → Prop := va_Qv post (AFT D WW A) A
def CV (l : Launch) (D : va_G) (tys : List (ClassId × FieldType)) (WW : ST → va_W) (y : MethodName) (cy : ByteArray) (mL : Nat) (ret : Option FieldType) (lev : Nat) (av : List Value) (x : ST) (post : ST → Prop) : Prop := ∀ sz, Met l y (.code y cy mL ret :: LG) (rmL lev) (va_Pc av (PRE D tys (WW x) sz)) (QV D WW post (va_A (WW x) sz)) 0 0 (va_A (WW x) sz)
section CALLS
variable {K : KX} {cc : ByteArray} {own : String} {tys : List (ClassId × FieldType)} {WW : ST → va_W} {x : ST} {L : List (Option Value)} {pc lv : Nat} {S st0 : List Value} {a : Array Value}
theorem fr_of (C : CT K cc own tys lv) {ws : va_W} {H : Heap} {locs : List Loc} (hD : va_D (kA K) ws) (hS : va_S (kA K) (ks K).heap H locs) : ∀ q, va_A ws H.size q → kA K q := by
  intro q h
  rcases h with ⟨k, e, h⟩ | h
  · exact hD.2 k (q, e) h
  · exact C.2.2.2.2.2.2.2.1 q (Nat.le_trans hS.1 h)
theorem k_I {post : Nat → ST → Prop} (C : CT K cc own tys lv) (hr : ∀ (H : Heap) (locs : List Loc) (ls : Array Slot), va_P (kD K) cls6 (WW x) H → va_D (kA K) (WW x) → va_S (kA K) (ks K).heap H locs → lv_has ls (kn K) (lk 0 L) → va_Run (kp K) (kl K) (ke K) (kR K) (ks K) (km K) (ka K) (kb K) (kt K) (kc K) H locs (kce K) (ksl K) 0 0 (F0 (km K) pc ls st0) S (QI (kD K) WW post (va_A (WW x) H.size) a) (va_A (WW x) H.size)) (kk : ∀ (n : Nat) (u : ST), n < 4294967296 → post n u → WA K (WW u) L (pc + 3) (.int (nI n) :: S)) : WA K (WW x) L pc st0 := by
  intro H locs ls hP hD hS hl
  have hF := fr_of C hD hS
  refine va_calli (hr H locs ls hP hD hS hl) hS (fun q _ h => hF q h) hF (fun r u t H1 locs1 ht hvm hw hB hz1 hk1 hS1 => ?_)
  obtain ⟨n, rfl, hn, hp⟩ := hw
  obtain ⟨hP1, hD1⟩ := hB
  rw [ht] at hP1
  exact kk n u hn hp H1 locs1 ls hP1 (hD1.weaken (fun _ _ _ h => hF _ h)) hS1 hl
theorem k_L {post : Nat → ST → Prop} (C : CT K cc own tys lv) (hr : ∀ (H : Heap) (locs : List Loc) (ls : Array Slot), va_P (kD K) cls6 (WW x) H → va_D (kA K) (WW x) → va_S (kA K) (ks K).heap H locs → lv_has ls (kn K) (lk 0 L) → va_Run (kp K) (kl K) (ke K) (kR K) (ks K) (km K) (ka K) (kb K) (kt K) (kc K) H locs (kce K) (ksl K) 0 0 (F0 (km K) pc ls st0) S (QL (kD K) WW post (va_A (WW x) H.size) a) (va_A (WW x) H.size)) (kk : ∀ (n : Nat) (u : ST), n < 9223372036854775808 → post n u → WA K (WW u) L (pc + 3) (.long (lN n) :: S)) : WA K (WW x) L pc st0 := by
  intro H locs ls hP hD hS hl
  have hF := fr_of C hD hS
  refine va_calll (hr H locs ls hP hD hS hl) hS (fun q _ h => hF q h) hF (fun r u t H1 locs1 ht hvm hw hB hz1 hk1 hS1 => ?_)
  obtain ⟨n, rfl, hn, hp⟩ := hw
  obtain ⟨hP1, hD1⟩ := hB
  rw [ht] at hP1
  exact kk n u hn hp H1 locs1 ls hP1 (hD1.weaken (fun _ _ _ h => hF _ h)) hS1 hl
theorem k_D {post : UInt64 → ST → Prop} (C : CT K cc own tys lv) (hr : ∀ (H : Heap) (locs : List Loc) (ls : Array Slot), va_P (kD K) cls6 (WW x) H → va_D (kA K) (WW x) → va_S (kA K) (ks K).heap H locs → lv_has ls (kn K) (lk 0 L) → va_Run (kp K) (kl K) (ke K) (kR K) (ks K) (km K) (ka K) (kb K) (kt K) (kc K) H locs (kce K) (ksl K) 0 0 (F0 (km K) pc ls st0) S (QD (kD K) WW post (va_A (WW x) H.size) a) (va_A (WW x) H.size)) (kk : ∀ (n : UInt64) (u : ST), post n u → WA K (WW u) L (pc + 3) (.double n :: S)) : WA K (WW x) L pc st0 := by
  intro H locs ls hP hD hS hl
  have hF := fr_of C hD hS
  refine va_calld (hr H locs ls hP hD hS hl) hS (fun q _ h => hF q h) hF (fun r u t H1 locs1 ht hvm hw hB hz1 hk1 hS1 => ?_)
  have hp := hw
  obtain ⟨hP1, hD1⟩ := hB
  rw [ht] at hP1
  exact kk r u hp H1 locs1 ls hP1 (hD1.weaken (fun _ _ _ h => hF _ h)) hS1 hl
theorem k_V {post : ST → Prop} (C : CT K cc own tys lv) (hr : ∀ (H : Heap) (locs : List Loc) (ls : Array Slot), va_P (kD K) cls6 (WW x) H → va_D (kA K) (WW x) → va_S (kA K) (ks K).heap H locs → lv_has ls (kn K) (lk 0 L) → va_Run (kp K) (kl K) (ke K) (kR K) (ks K) (km K) (ka K) (kb K) (kt K) (kc K) H locs (kce K) (ksl K) 0 0 (F0 (km K) pc ls st0) S (QV (kD K) WW post (va_A (WW x) H.size) a) (va_A (WW x) H.size)) (kk : ∀ u : ST, post u → WA K (WW u) L (pc + 3) S) : WA K (WW x) L pc st0 := by
  intro H locs ls hP hD hS hl
  have hF := fr_of C hD hS
  refine va_callv (hr H locs ls hP hD hS hl) hS (fun q _ h => hF q h) hF (fun u t H1 locs1 ht hvm hp hB hz1 hk1 hS1 => ?_)
  obtain ⟨hP1, hD1⟩ := hB
  rw [ht] at hP1
  exact kk u hp H1 locs1 ls hP1 (hD1.weaken (fun _ _ _ h => hF _ h)) hS1 hl
theorem pre_of (C : CT K cc own tys lv) {H : Heap} {U : State} {av : List Value} (hP : va_P (kD K) cls6 (WW x) H) (hD : va_D (kA K) (WW x)) (hU : U.heap = H) (hW : (ks K).WarmedH U.vm) : va_Pc av (PRE (kD K) tys (WW x) H.size) av.toArray U := ⟨rfl, by rw [hU], by rw [hU]; exact hP, va_K.moved hW.alike C.2.2.2.2.2.1, hD.weaken (fun _ _ _ _ => trivial), C.2.2.2.2.2.2.1.warm hW⟩
/-- how a call's words and room are had -/
theorem fix_of (C : CT K cc own tys lv) : CallFix (kp K) (km K) (kc K) cc (kn K) (ks K) (ka K) (Cond.tt :: LG) own := ⟨C.1, C.2.1, C.2.2.1, C.2.2.2.1, fun w h => (List.mem_cons.mp h).elim (fun e => by rw [e]; rfl) (C.2.2.2.2.1 w)⟩
theorem runV {y : MethodName} {cy : ByteArray} {mL lev index n : Nat} {ret : Option FieldType} {Cn : String} {b : Addr} {As : List Value} {Qc : Array Value → State → Outcome → State → Prop} {H : Heap} {locs : List Loc} {ls : Array Slot} (C : CT K cc own tys lv) (hM : Met (kl K) y (.code y cy mL ret :: LG) (rmL lev) (va_Pc (.ref b :: As) (PRE (kD K) tys (WW x) H.size)) Qc 0 0 (va_A (WW x) H.size))
    (h1 : Cond.methodLink own index y ∈ LG) (h2 : Cond.instanceMethod y ∈ LG) (h3 : Cond.selects Cn y y ∈ LG) (h4 : Cond.initialized Cn ∈ LG) (h5 : Cond.code y cy mL ret ∈ LG) (hd : y.cls = Cn ∧ y.cls ≠ "java/lang/invoke/MethodHandle" ∧ y.cls ≠ "java/lang/invoke/VarHandle" ∧ (parseMethodDescriptor y.desc).map (fun d => d.parameters.length) = some n) (hlev : lev < lv) (hmL : mL ≤ 21)
    {q0 ci : Nat} {fs : List Value} {T : u_T} {N : Nat} (hq : (WW x)[q0]? = some (b, .inr (ci, fs))) (hc : cls6[ci]? = some (Cn, T, N)) (hn : As.length = n) (hst : st0 = As.reverse ++ .ref b :: S) (hcat : (S.map fun v => v.category).sum ≤ 8) (d : decode cc pc = .ok (.invokevirtual index, 3))
    (hP : va_P (kD K) cls6 (WW x) H) (hD : va_D (kA K) (WW x)) (hl : lv_has ls (kn K) (lk 0 L)) : va_Run (kp K) (kl K) (ke K) (kR K) (ks K) (km K) (ka K) (kb K) (kt K) (kc K) H locs (kce K) (ksl K) 0 0 (F0 (km K) pc ls st0) S (Qc (.ref b :: As).toArray) (va_A (WW x) H.size) := by
  obtain ⟨r1, r2, r3, r4⟩ := C.2.2.2.2.2.2.2.2.2
  have hts := (fix_of C).2.2.2.2
  exact va_runV (fix_of C) hM (cwV n hts (gi_V h1 h2 h3 h4 h5) rfl rfl rfl hd ⟨show lev + 1 ≤ _ by omega, show 8 + (mL + 11) + 40 * lev ≤ _ by omega⟩) ⟨PRE_blind, va_recv C.2.2.2.2.2.1 hP hc hq, fun U hU hW => pre_of C hP hD hU hW⟩ rfl hn hl.1 hst (lv_room hcat) d ⟨r3, r4⟩
theorem runS {y : MethodName} {cy : ByteArray} {mL lev index n : Nat} {ret : Option FieldType} {As : List Value} {Qc : Array Value → State → Outcome → State → Prop} {H : Heap} {locs : List Loc} {ls : Array Slot} (C : CT K cc own tys lv) (hM : Met (kl K) y (.code y cy mL ret :: LG) (rmL lev) (va_Pc As (PRE (kD K) tys (WW x) H.size)) Qc 0 0 (va_A (WW x) H.size))
    (h1 : Cond.methodLink own index y ∈ LG) (h2 : Cond.static y ∈ LG) (h4 : Cond.initialized y.cls ∈ LG) (h5 : Cond.code y cy mL ret ∈ LG) (hd : y.cls ≠ "java/lang/invoke/MethodHandle" ∧ y.cls ≠ "java/lang/invoke/VarHandle" ∧ (parseMethodDescriptor y.desc).map (fun d => d.parameters.length) = some n) (hlev : lev < lv) (hmL : mL ≤ 21)
    (hn : As.length = n) (hst : st0 = As.reverse ++ S) (hcat : (S.map fun v => v.category).sum ≤ 8) (d : decode cc pc = .ok (.invokestatic index, 3))
    (hP : va_P (kD K) cls6 (WW x) H) (hD : va_D (kA K) (WW x)) (hl : lv_has ls (kn K) (lk 0 L)) : va_Run (kp K) (kl K) (ke K) (kR K) (ks K) (km K) (ka K) (kb K) (kt K) (kc K) H locs (kce K) (ksl K) 0 0 (F0 (km K) pc ls st0) S (Qc As.toArray) (va_A (WW x) H.size) := by
  obtain ⟨r1, r2, r3, r4⟩ := C.2.2.2.2.2.2.2.2.2
  have hts := (fix_of C).2.2.2.2
  have htg := C.2.2.2.2.1
  exact va_runS (fix_of C) hM ⟨callB_of n hts (gi_self h5) rfl rfl rfl (htg _ h4) (htg _ h1) hd ⟨show lev + 1 ≤ _ by omega, show 8 + (mL + 11) + 40 * lev ≤ _ by omega⟩, htg _ h2⟩ ⟨PRE_blind, fun U hU hW => pre_of C hP hD hU hW⟩ rfl hn hl.1 hst (lv_room hcat) d ⟨r3, r4⟩
theorem runSN {y : MethodName} {cy : ByteArray} {mL lev index n k0 : Nat} {host : String} {ret : Option FieldType} {As : List Value} {Qc : Array Value → State → Outcome → State → Prop} {H : Heap} {locs : List Loc} {ls : Array Slot} (C : CT K cc own tys lv) (hM : Met (kl K) y (.code y cy mL ret :: LG) (rmL lev) (va_Pc As (PRE (kD K) tys (WW x) H.size)) Qc 0 0 (va_A (WW x) H.size))
    (h1 : NWs[k0]? = some (own, index, y, host)) (h2 : Cond.static y ∈ LG) (h4 : Cond.initialized y.cls ∈ LG) (h5 : Cond.code y cy mL ret ∈ LG) (hd : y.cls ≠ "java/lang/invoke/MethodHandle" ∧ y.cls ≠ "java/lang/invoke/VarHandle" ∧ (parseMethodDescriptor y.desc).map (fun d => d.parameters.length) = some n) (hlev : lev < lv) (hmL : mL ≤ 21)
    (hn : As.length = n) (hst : st0 = As.reverse ++ S) (hcat : (S.map fun v => v.category).sum ≤ 8) (d : decode cc pc = .ok (.invokestatic index, 3))
    (hP : va_P (kD K) cls6 (WW x) H) (hD : va_D (kA K) (WW x)) (hl : lv_has ls (kn K) (lk 0 L)) : va_Run (kp K) (kl K) (ke K) (kR K) (ks K) (km K) (ka K) (kb K) (kt K) (kc K) H locs (kce K) (ksl K) 0 0 (F0 (km K) pc ls st0) S (Qc As.toArray) (va_A (WW x) H.size) := by
  obtain ⟨r1, r2, r3, r4⟩ := C.2.2.2.2.2.2.2.2.2
  have hts := (fix_of C).2.2.2.2
  have htg := C.2.2.2.2.1
  exact va_runSN (fix_of C) hM ⟨va_cnB n hts (gi_self h5) rfl rfl rfl (C.2.2.2.2.2.2.1.at k0 h1) (htg _ h4) hd ⟨show lev + 1 ≤ _ by omega, show 8 + (mL + 11) + 40 * lev ≤ _ by omega⟩, htg _ h2, trivial⟩ ⟨PRE_blind, fun U hU hW => pre_of C hP hD hU hW⟩ rfl hn hl.1 hst (lv_room hcat) d ⟨r3, r4⟩
theorem vI0 {y : MethodName} {cy : ByteArray} {mL lev index q0 ci N : Nat} {ret : Option FieldType} {Cn : String} {b : Addr} {post : Nat → ST → Prop} {fs : List Value} {T : u_T} (C : CT K cc own tys lv) (hM : CI (kl K) (kD K) tys WW y cy mL ret lev (.ref b :: []) x post) (h1 : Cond.methodLink own index y ∈ LG) (h2 : Cond.instanceMethod y ∈ LG) (h3 : Cond.selects Cn y y ∈ LG) (h4 : Cond.initialized Cn ∈ LG) (h5 : Cond.code y cy mL ret ∈ LG) (hd : y.cls = Cn ∧ y.cls ≠ "java/lang/invoke/MethodHandle" ∧ y.cls ≠ "java/lang/invoke/VarHandle" ∧ (parseMethodDescriptor y.desc).map (fun d => d.parameters.length) = some 0) (hlev : lev < lv) (hmL : mL ≤ 21) (hq : (WW x)[q0]? = some (b, .inr (ci, fs))) (hc : cls6[ci]? = some (Cn, T, N)) (hcat : (S.map fun v => v.category).sum ≤ 8) (d : decode cc pc = .ok (.invokevirtual index, 3)) (kk : ∀ (n : Nat) (u : ST), n < 4294967296 → post n u → WA K (WW u) L (pc + 3) (.int (nI n) :: S)) : WA K (WW x) L pc (.ref b :: S) := k_I C (a := (.ref b :: [] : List Value).toArray) (fun H locs ls hP hD hS hl => runV C (As := []) (hM H.size) h1 h2 h3 h4 h5 hd hlev hmL hq hc rfl rfl hcat d hP hD hl) kk
theorem sI0 {y : MethodName} {cy : ByteArray} {mL lev index : Nat} {ret : Option FieldType} {post : Nat → ST → Prop} (C : CT K cc own tys lv) (hM : CI (kl K) (kD K) tys WW y cy mL ret lev [] x post) (h1 : Cond.methodLink own index y ∈ LG) (h2 : Cond.static y ∈ LG) (h4 : Cond.initialized y.cls ∈ LG) (h5 : Cond.code y cy mL ret ∈ LG) (hd : y.cls ≠ "java/lang/invoke/MethodHandle" ∧ y.cls ≠ "java/lang/invoke/VarHandle" ∧ (parseMethodDescriptor y.desc).map (fun d => d.parameters.length) = some 0) (hlev : lev < lv) (hmL : mL ≤ 21) (hcat : (S.map fun v => v.category).sum ≤ 8) (d : decode cc pc = .ok (.invokestatic index, 3)) (kk : ∀ (n : Nat) (u : ST), n < 4294967296 → post n u → WA K (WW u) L (pc + 3) (.int (nI n) :: S)) : WA K (WW x) L pc (S) := k_I C (a := ([] : List Value).toArray) (fun H locs ls hP hD hS hl => runS C (As := []) (hM H.size) h1 h2 h4 h5 hd hlev hmL rfl rfl hcat d hP hD hl) kk
theorem vI1 {y : MethodName} {cy : ByteArray} {mL lev index q0 ci N : Nat} {ret : Option FieldType} {Cn : String} {b : Addr} {v0 : Value} {post : Nat → ST → Prop} {fs : List Value} {T : u_T} (C : CT K cc own tys lv) (hM : CI (kl K) (kD K) tys WW y cy mL ret lev (.ref b :: [v0]) x post) (h1 : Cond.methodLink own index y ∈ LG) (h2 : Cond.instanceMethod y ∈ LG) (h3 : Cond.selects Cn y y ∈ LG) (h4 : Cond.initialized Cn ∈ LG) (h5 : Cond.code y cy mL ret ∈ LG) (hd : y.cls = Cn ∧ y.cls ≠ "java/lang/invoke/MethodHandle" ∧ y.cls ≠ "java/lang/invoke/VarHandle" ∧ (parseMethodDescriptor y.desc).map (fun d => d.parameters.length) = some 1) (hlev : lev < lv) (hmL : mL ≤ 21) (hq : (WW x)[q0]? = some (b, .inr (ci, fs))) (hc : cls6[ci]? = some (Cn, T, N)) (hcat : (S.map fun v => v.category).sum ≤ 8) (d : decode cc pc = .ok (.invokevirtual index, 3)) (kk : ∀ (n : Nat) (u : ST), n < 4294967296 → post n u → WA K (WW u) L (pc + 3) (.int (nI n) :: S)) : WA K (WW x) L pc (v0 :: .ref b :: S) := k_I C (a := (.ref b :: [v0] : List Value).toArray) (fun H locs ls hP hD hS hl => runV C (As := [v0]) (hM H.size) h1 h2 h3 h4 h5 hd hlev hmL hq hc rfl rfl hcat d hP hD hl) kk
theorem sI1 {y : MethodName} {cy : ByteArray} {mL lev index : Nat} {ret : Option FieldType} {v0 : Value} {post : Nat → ST → Prop} (C : CT K cc own tys lv) (hM : CI (kl K) (kD K) tys WW y cy mL ret lev [v0] x post) (h1 : Cond.methodLink own index y ∈ LG) (h2 : Cond.static y ∈ LG) (h4 : Cond.initialized y.cls ∈ LG) (h5 : Cond.code y cy mL ret ∈ LG) (hd : y.cls ≠ "java/lang/invoke/MethodHandle" ∧ y.cls ≠ "java/lang/invoke/VarHandle" ∧ (parseMethodDescriptor y.desc).map (fun d => d.parameters.length) = some 1) (hlev : lev < lv) (hmL : mL ≤ 21) (hcat : (S.map fun v => v.category).sum ≤ 8) (d : decode cc pc = .ok (.invokestatic index, 3)) (kk : ∀ (n : Nat) (u : ST), n < 4294967296 → post n u → WA K (WW u) L (pc + 3) (.int (nI n) :: S)) : WA K (WW x) L pc (v0 :: S) := k_I C (a := ([v0] : List Value).toArray) (fun H locs ls hP hD hS hl => runS C (As := [v0]) (hM H.size) h1 h2 h4 h5 hd hlev hmL rfl rfl hcat d hP hD hl) kk
theorem tI1 {y : MethodName} {cy : ByteArray} {mL lev index k0 : Nat} {host : String} {ret : Option FieldType} {v0 : Value} {post : Nat → ST → Prop} (C : CT K cc own tys lv) (hM : CI (kl K) (kD K) tys WW y cy mL ret lev [v0] x post) (h1 : NWs[k0]? = some (own, index, y, host)) (h2 : Cond.static y ∈ LG) (h4 : Cond.initialized y.cls ∈ LG) (h5 : Cond.code y cy mL ret ∈ LG) (hd : y.cls ≠ "java/lang/invoke/MethodHandle" ∧ y.cls ≠ "java/lang/invoke/VarHandle" ∧ (parseMethodDescriptor y.desc).map (fun d => d.parameters.length) = some 1) (hlev : lev < lv) (hmL : mL ≤ 21) (hcat : (S.map fun v => v.category).sum ≤ 8) (d : decode cc pc = .ok (.invokestatic index, 3)) (kk : ∀ (n : Nat) (u : ST), n < 4294967296 → post n u → WA K (WW u) L (pc + 3) (.int (nI n) :: S)) : WA K (WW x) L pc (v0 :: S) := k_I C (a := ([v0] : List Value).toArray) (fun H locs ls hP hD hS hl => runSN C (As := [v0]) (hM H.size) h1 h2 h4 h5 hd hlev hmL rfl rfl hcat d hP hD hl) kk
theorem vI2 {y : MethodName} {cy : ByteArray} {mL lev index q0 ci N : Nat} {ret : Option FieldType} {Cn : String} {b : Addr} {v0 v1 : Value} {post : Nat → ST → Prop} {fs : List Value} {T : u_T} (C : CT K cc own tys lv) (hM : CI (kl K) (kD K) tys WW y cy mL ret lev (.ref b :: [v0, v1]) x post) (h1 : Cond.methodLink own index y ∈ LG) (h2 : Cond.instanceMethod y ∈ LG) (h3 : Cond.selects Cn y y ∈ LG) (h4 : Cond.initialized Cn ∈ LG) (h5 : Cond.code y cy mL ret ∈ LG) (hd : y.cls = Cn ∧ y.cls ≠ "java/lang/invoke/MethodHandle" ∧ y.cls ≠ "java/lang/invoke/VarHandle" ∧ (parseMethodDescriptor y.desc).map (fun d => d.parameters.length) = some 2) (hlev : lev < lv) (hmL : mL ≤ 21) (hq : (WW x)[q0]? = some (b, .inr (ci, fs))) (hc : cls6[ci]? = some (Cn, T, N)) (hcat : (S.map fun v => v.category).sum ≤ 8) (d : decode cc pc = .ok (.invokevirtual index, 3)) (kk : ∀ (n : Nat) (u : ST), n < 4294967296 → post n u → WA K (WW u) L (pc + 3) (.int (nI n) :: S)) : WA K (WW x) L pc (v1 :: v0 :: .ref b :: S) := k_I C (a := (.ref b :: [v0, v1] : List Value).toArray) (fun H locs ls hP hD hS hl => runV C (As := [v0, v1]) (hM H.size) h1 h2 h3 h4 h5 hd hlev hmL hq hc rfl rfl hcat d hP hD hl) kk
theorem sI2 {y : MethodName} {cy : ByteArray} {mL lev index : Nat} {ret : Option FieldType} {v0 v1 : Value} {post : Nat → ST → Prop} (C : CT K cc own tys lv) (hM : CI (kl K) (kD K) tys WW y cy mL ret lev [v0, v1] x post) (h1 : Cond.methodLink own index y ∈ LG) (h2 : Cond.static y ∈ LG) (h4 : Cond.initialized y.cls ∈ LG) (h5 : Cond.code y cy mL ret ∈ LG) (hd : y.cls ≠ "java/lang/invoke/MethodHandle" ∧ y.cls ≠ "java/lang/invoke/VarHandle" ∧ (parseMethodDescriptor y.desc).map (fun d => d.parameters.length) = some 2) (hlev : lev < lv) (hmL : mL ≤ 21) (hcat : (S.map fun v => v.category).sum ≤ 8) (d : decode cc pc = .ok (.invokestatic index, 3)) (kk : ∀ (n : Nat) (u : ST), n < 4294967296 → post n u → WA K (WW u) L (pc + 3) (.int (nI n) :: S)) : WA K (WW x) L pc (v1 :: v0 :: S) := k_I C (a := ([v0, v1] : List Value).toArray) (fun H locs ls hP hD hS hl => runS C (As := [v0, v1]) (hM H.size) h1 h2 h4 h5 hd hlev hmL rfl rfl hcat d hP hD hl) kk
theorem tI2 {y : MethodName} {cy : ByteArray} {mL lev index k0 : Nat} {host : String} {ret : Option FieldType} {v0 v1 : Value} {post : Nat → ST → Prop} (C : CT K cc own tys lv) (hM : CI (kl K) (kD K) tys WW y cy mL ret lev [v0, v1] x post) (h1 : NWs[k0]? = some (own, index, y, host)) (h2 : Cond.static y ∈ LG) (h4 : Cond.initialized y.cls ∈ LG) (h5 : Cond.code y cy mL ret ∈ LG) (hd : y.cls ≠ "java/lang/invoke/MethodHandle" ∧ y.cls ≠ "java/lang/invoke/VarHandle" ∧ (parseMethodDescriptor y.desc).map (fun d => d.parameters.length) = some 2) (hlev : lev < lv) (hmL : mL ≤ 21) (hcat : (S.map fun v => v.category).sum ≤ 8) (d : decode cc pc = .ok (.invokestatic index, 3)) (kk : ∀ (n : Nat) (u : ST), n < 4294967296 → post n u → WA K (WW u) L (pc + 3) (.int (nI n) :: S)) : WA K (WW x) L pc (v1 :: v0 :: S) := k_I C (a := ([v0, v1] : List Value).toArray) (fun H locs ls hP hD hS hl => runSN C (As := [v0, v1]) (hM H.size) h1 h2 h4 h5 hd hlev hmL rfl rfl hcat d hP hD hl) kk
theorem vI3 {y : MethodName} {cy : ByteArray} {mL lev index q0 ci N : Nat} {ret : Option FieldType} {Cn : String} {b : Addr} {v0 v1 v2 : Value} {post : Nat → ST → Prop} {fs : List Value} {T : u_T} (C : CT K cc own tys lv) (hM : CI (kl K) (kD K) tys WW y cy mL ret lev (.ref b :: [v0, v1, v2]) x post) (h1 : Cond.methodLink own index y ∈ LG) (h2 : Cond.instanceMethod y ∈ LG) (h3 : Cond.selects Cn y y ∈ LG) (h4 : Cond.initialized Cn ∈ LG) (h5 : Cond.code y cy mL ret ∈ LG) (hd : y.cls = Cn ∧ y.cls ≠ "java/lang/invoke/MethodHandle" ∧ y.cls ≠ "java/lang/invoke/VarHandle" ∧ (parseMethodDescriptor y.desc).map (fun d => d.parameters.length) = some 3) (hlev : lev < lv) (hmL : mL ≤ 21) (hq : (WW x)[q0]? = some (b, .inr (ci, fs))) (hc : cls6[ci]? = some (Cn, T, N)) (hcat : (S.map fun v => v.category).sum ≤ 8) (d : decode cc pc = .ok (.invokevirtual index, 3)) (kk : ∀ (n : Nat) (u : ST), n < 4294967296 → post n u → WA K (WW u) L (pc + 3) (.int (nI n) :: S)) : WA K (WW x) L pc (v2 :: v1 :: v0 :: .ref b :: S) := k_I C (a := (.ref b :: [v0, v1, v2] : List Value).toArray) (fun H locs ls hP hD hS hl => runV C (As := [v0, v1, v2]) (hM H.size) h1 h2 h3 h4 h5 hd hlev hmL hq hc rfl rfl hcat d hP hD hl) kk
theorem sI3 {y : MethodName} {cy : ByteArray} {mL lev index : Nat} {ret : Option FieldType} {v0 v1 v2 : Value} {post : Nat → ST → Prop} (C : CT K cc own tys lv) (hM : CI (kl K) (kD K) tys WW y cy mL ret lev [v0, v1, v2] x post) (h1 : Cond.methodLink own index y ∈ LG) (h2 : Cond.static y ∈ LG) (h4 : Cond.initialized y.cls ∈ LG) (h5 : Cond.code y cy mL ret ∈ LG) (hd : y.cls ≠ "java/lang/invoke/MethodHandle" ∧ y.cls ≠ "java/lang/invoke/VarHandle" ∧ (parseMethodDescriptor y.desc).map (fun d => d.parameters.length) = some 3) (hlev : lev < lv) (hmL : mL ≤ 21) (hcat : (S.map fun v => v.category).sum ≤ 8) (d : decode cc pc = .ok (.invokestatic index, 3)) (kk : ∀ (n : Nat) (u : ST), n < 4294967296 → post n u → WA K (WW u) L (pc + 3) (.int (nI n) :: S)) : WA K (WW x) L pc (v2 :: v1 :: v0 :: S) := k_I C (a := ([v0, v1, v2] : List Value).toArray) (fun H locs ls hP hD hS hl => runS C (As := [v0, v1, v2]) (hM H.size) h1 h2 h4 h5 hd hlev hmL rfl rfl hcat d hP hD hl) kk
theorem vI4 {y : MethodName} {cy : ByteArray} {mL lev index q0 ci N : Nat} {ret : Option FieldType} {Cn : String} {b : Addr} {v0 v1 v2 v3 : Value} {post : Nat → ST → Prop} {fs : List Value} {T : u_T} (C : CT K cc own tys lv) (hM : CI (kl K) (kD K) tys WW y cy mL ret lev (.ref b :: [v0, v1, v2, v3]) x post) (h1 : Cond.methodLink own index y ∈ LG) (h2 : Cond.instanceMethod y ∈ LG) (h3 : Cond.selects Cn y y ∈ LG) (h4 : Cond.initialized Cn ∈ LG) (h5 : Cond.code y cy mL ret ∈ LG) (hd : y.cls = Cn ∧ y.cls ≠ "java/lang/invoke/MethodHandle" ∧ y.cls ≠ "java/lang/invoke/VarHandle" ∧ (parseMethodDescriptor y.desc).map (fun d => d.parameters.length) = some 4) (hlev : lev < lv) (hmL : mL ≤ 21) (hq : (WW x)[q0]? = some (b, .inr (ci, fs))) (hc : cls6[ci]? = some (Cn, T, N)) (hcat : (S.map fun v => v.category).sum ≤ 8) (d : decode cc pc = .ok (.invokevirtual index, 3)) (kk : ∀ (n : Nat) (u : ST), n < 4294967296 → post n u → WA K (WW u) L (pc + 3) (.int (nI n) :: S)) : WA K (WW x) L pc (v3 :: v2 :: v1 :: v0 :: .ref b :: S) := k_I C (a := (.ref b :: [v0, v1, v2, v3] : List Value).toArray) (fun H locs ls hP hD hS hl => runV C (As := [v0, v1, v2, v3]) (hM H.size) h1 h2 h3 h4 h5 hd hlev hmL hq hc rfl rfl hcat d hP hD hl) kk
theorem sI4 {y : MethodName} {cy : ByteArray} {mL lev index : Nat} {ret : Option FieldType} {v0 v1 v2 v3 : Value} {post : Nat → ST → Prop} (C : CT K cc own tys lv) (hM : CI (kl K) (kD K) tys WW y cy mL ret lev [v0, v1, v2, v3] x post) (h1 : Cond.methodLink own index y ∈ LG) (h2 : Cond.static y ∈ LG) (h4 : Cond.initialized y.cls ∈ LG) (h5 : Cond.code y cy mL ret ∈ LG) (hd : y.cls ≠ "java/lang/invoke/MethodHandle" ∧ y.cls ≠ "java/lang/invoke/VarHandle" ∧ (parseMethodDescriptor y.desc).map (fun d => d.parameters.length) = some 4) (hlev : lev < lv) (hmL : mL ≤ 21) (hcat : (S.map fun v => v.category).sum ≤ 8) (d : decode cc pc = .ok (.invokestatic index, 3)) (kk : ∀ (n : Nat) (u : ST), n < 4294967296 → post n u → WA K (WW u) L (pc + 3) (.int (nI n) :: S)) : WA K (WW x) L pc (v3 :: v2 :: v1 :: v0 :: S) := k_I C (a := ([v0, v1, v2, v3] : List Value).toArray) (fun H locs ls hP hD hS hl => runS C (As := [v0, v1, v2, v3]) (hM H.size) h1 h2 h4 h5 hd hlev hmL rfl rfl hcat d hP hD hl) kk
theorem vI5 {y : MethodName} {cy : ByteArray} {mL lev index q0 ci N : Nat} {ret : Option FieldType} {Cn : String} {b : Addr} {v0 v1 v2 v3 v4 : Value} {post : Nat → ST → Prop} {fs : List Value} {T : u_T} (C : CT K cc own tys lv) (hM : CI (kl K) (kD K) tys WW y cy mL ret lev (.ref b :: [v0, v1, v2, v3, v4]) x post) (h1 : Cond.methodLink own index y ∈ LG) (h2 : Cond.instanceMethod y ∈ LG) (h3 : Cond.selects Cn y y ∈ LG) (h4 : Cond.initialized Cn ∈ LG) (h5 : Cond.code y cy mL ret ∈ LG) (hd : y.cls = Cn ∧ y.cls ≠ "java/lang/invoke/MethodHandle" ∧ y.cls ≠ "java/lang/invoke/VarHandle" ∧ (parseMethodDescriptor y.desc).map (fun d => d.parameters.length) = some 5) (hlev : lev < lv) (hmL : mL ≤ 21) (hq : (WW x)[q0]? = some (b, .inr (ci, fs))) (hc : cls6[ci]? = some (Cn, T, N)) (hcat : (S.map fun v => v.category).sum ≤ 8) (d : decode cc pc = .ok (.invokevirtual index, 3)) (kk : ∀ (n : Nat) (u : ST), n < 4294967296 → post n u → WA K (WW u) L (pc + 3) (.int (nI n) :: S)) : WA K (WW x) L pc (v4 :: v3 :: v2 :: v1 :: v0 :: .ref b :: S) := k_I C (a := (.ref b :: [v0, v1, v2, v3, v4] : List Value).toArray) (fun H locs ls hP hD hS hl => runV C (As := [v0, v1, v2, v3, v4]) (hM H.size) h1 h2 h3 h4 h5 hd hlev hmL hq hc rfl rfl hcat d hP hD hl) kk
theorem sI5 {y : MethodName} {cy : ByteArray} {mL lev index : Nat} {ret : Option FieldType} {v0 v1 v2 v3 v4 : Value} {post : Nat → ST → Prop} (C : CT K cc own tys lv) (hM : CI (kl K) (kD K) tys WW y cy mL ret lev [v0, v1, v2, v3, v4] x post) (h1 : Cond.methodLink own index y ∈ LG) (h2 : Cond.static y ∈ LG) (h4 : Cond.initialized y.cls ∈ LG) (h5 : Cond.code y cy mL ret ∈ LG) (hd : y.cls ≠ "java/lang/invoke/MethodHandle" ∧ y.cls ≠ "java/lang/invoke/VarHandle" ∧ (parseMethodDescriptor y.desc).map (fun d => d.parameters.length) = some 5) (hlev : lev < lv) (hmL : mL ≤ 21) (hcat : (S.map fun v => v.category).sum ≤ 8) (d : decode cc pc = .ok (.invokestatic index, 3)) (kk : ∀ (n : Nat) (u : ST), n < 4294967296 → post n u → WA K (WW u) L (pc + 3) (.int (nI n) :: S)) : WA K (WW x) L pc (v4 :: v3 :: v2 :: v1 :: v0 :: S) := k_I C (a := ([v0, v1, v2, v3, v4] : List Value).toArray) (fun H locs ls hP hD hS hl => runS C (As := [v0, v1, v2, v3, v4]) (hM H.size) h1 h2 h4 h5 hd hlev hmL rfl rfl hcat d hP hD hl) kk
theorem vL0 {y : MethodName} {cy : ByteArray} {mL lev index q0 ci N : Nat} {ret : Option FieldType} {Cn : String} {b : Addr} {post : Nat → ST → Prop} {fs : List Value} {T : u_T} (C : CT K cc own tys lv) (hM : CL (kl K) (kD K) tys WW y cy mL ret lev (.ref b :: []) x post) (h1 : Cond.methodLink own index y ∈ LG) (h2 : Cond.instanceMethod y ∈ LG) (h3 : Cond.selects Cn y y ∈ LG) (h4 : Cond.initialized Cn ∈ LG) (h5 : Cond.code y cy mL ret ∈ LG) (hd : y.cls = Cn ∧ y.cls ≠ "java/lang/invoke/MethodHandle" ∧ y.cls ≠ "java/lang/invoke/VarHandle" ∧ (parseMethodDescriptor y.desc).map (fun d => d.parameters.length) = some 0) (hlev : lev < lv) (hmL : mL ≤ 21) (hq : (WW x)[q0]? = some (b, .inr (ci, fs))) (hc : cls6[ci]? = some (Cn, T, N)) (hcat : (S.map fun v => v.category).sum ≤ 8) (d : decode cc pc = .ok (.invokevirtual index, 3)) (kk : ∀ (n : Nat) (u : ST), n < 9223372036854775808 → post n u → WA K (WW u) L (pc + 3) (.long (lN n) :: S)) : WA K (WW x) L pc (.ref b :: S) := k_L C (a := (.ref b :: [] : List Value).toArray) (fun H locs ls hP hD hS hl => runV C (As := []) (hM H.size) h1 h2 h3 h4 h5 hd hlev hmL hq hc rfl rfl hcat d hP hD hl) kk
theorem sL0 {y : MethodName} {cy : ByteArray} {mL lev index : Nat} {ret : Option FieldType} {post : Nat → ST → Prop} (C : CT K cc own tys lv) (hM : CL (kl K) (kD K) tys WW y cy mL ret lev [] x post) (h1 : Cond.methodLink own index y ∈ LG) (h2 : Cond.static y ∈ LG) (h4 : Cond.initialized y.cls ∈ LG) (h5 : Cond.code y cy mL ret ∈ LG) (hd : y.cls ≠ "java/lang/invoke/MethodHandle" ∧ y.cls ≠ "java/lang/invoke/VarHandle" ∧ (parseMethodDescriptor y.desc).map (fun d => d.parameters.length) = some 0) (hlev : lev < lv) (hmL : mL ≤ 21) (hcat : (S.map fun v => v.category).sum ≤ 8) (d : decode cc pc = .ok (.invokestatic index, 3)) (kk : ∀ (n : Nat) (u : ST), n < 9223372036854775808 → post n u → WA K (WW u) L (pc + 3) (.long (lN n) :: S)) : WA K (WW x) L pc (S) := k_L C (a := ([] : List Value).toArray) (fun H locs ls hP hD hS hl => runS C (As := []) (hM H.size) h1 h2 h4 h5 hd hlev hmL rfl rfl hcat d hP hD hl) kk
theorem vL1 {y : MethodName} {cy : ByteArray} {mL lev index q0 ci N : Nat} {ret : Option FieldType} {Cn : String} {b : Addr} {v0 : Value} {post : Nat → ST → Prop} {fs : List Value} {T : u_T} (C : CT K cc own tys lv) (hM : CL (kl K) (kD K) tys WW y cy mL ret lev (.ref b :: [v0]) x post) (h1 : Cond.methodLink own index y ∈ LG) (h2 : Cond.instanceMethod y ∈ LG) (h3 : Cond.selects Cn y y ∈ LG) (h4 : Cond.initialized Cn ∈ LG) (h5 : Cond.code y cy mL ret ∈ LG) (hd : y.cls = Cn ∧ y.cls ≠ "java/lang/invoke/MethodHandle" ∧ y.cls ≠ "java/lang/invoke/VarHandle" ∧ (parseMethodDescriptor y.desc).map (fun d => d.parameters.length) = some 1) (hlev : lev < lv) (hmL : mL ≤ 21) (hq : (WW x)[q0]? = some (b, .inr (ci, fs))) (hc : cls6[ci]? = some (Cn, T, N)) (hcat : (S.map fun v => v.category).sum ≤ 8) (d : decode cc pc = .ok (.invokevirtual index, 3)) (kk : ∀ (n : Nat) (u : ST), n < 9223372036854775808 → post n u → WA K (WW u) L (pc + 3) (.long (lN n) :: S)) : WA K (WW x) L pc (v0 :: .ref b :: S) := k_L C (a := (.ref b :: [v0] : List Value).toArray) (fun H locs ls hP hD hS hl => runV C (As := [v0]) (hM H.size) h1 h2 h3 h4 h5 hd hlev hmL hq hc rfl rfl hcat d hP hD hl) kk
theorem sL1 {y : MethodName} {cy : ByteArray} {mL lev index : Nat} {ret : Option FieldType} {v0 : Value} {post : Nat → ST → Prop} (C : CT K cc own tys lv) (hM : CL (kl K) (kD K) tys WW y cy mL ret lev [v0] x post) (h1 : Cond.methodLink own index y ∈ LG) (h2 : Cond.static y ∈ LG) (h4 : Cond.initialized y.cls ∈ LG) (h5 : Cond.code y cy mL ret ∈ LG) (hd : y.cls ≠ "java/lang/invoke/MethodHandle" ∧ y.cls ≠ "java/lang/invoke/VarHandle" ∧ (parseMethodDescriptor y.desc).map (fun d => d.parameters.length) = some 1) (hlev : lev < lv) (hmL : mL ≤ 21) (hcat : (S.map fun v => v.category).sum ≤ 8) (d : decode cc pc = .ok (.invokestatic index, 3)) (kk : ∀ (n : Nat) (u : ST), n < 9223372036854775808 → post n u → WA K (WW u) L (pc + 3) (.long (lN n) :: S)) : WA K (WW x) L pc (v0 :: S) := k_L C (a := ([v0] : List Value).toArray) (fun H locs ls hP hD hS hl => runS C (As := [v0]) (hM H.size) h1 h2 h4 h5 hd hlev hmL rfl rfl hcat d hP hD hl) kk
theorem vL2 {y : MethodName} {cy : ByteArray} {mL lev index q0 ci N : Nat} {ret : Option FieldType} {Cn : String} {b : Addr} {v0 v1 : Value} {post : Nat → ST → Prop} {fs : List Value} {T : u_T} (C : CT K cc own tys lv) (hM : CL (kl K) (kD K) tys WW y cy mL ret lev (.ref b :: [v0, v1]) x post) (h1 : Cond.methodLink own index y ∈ LG) (h2 : Cond.instanceMethod y ∈ LG) (h3 : Cond.selects Cn y y ∈ LG) (h4 : Cond.initialized Cn ∈ LG) (h5 : Cond.code y cy mL ret ∈ LG) (hd : y.cls = Cn ∧ y.cls ≠ "java/lang/invoke/MethodHandle" ∧ y.cls ≠ "java/lang/invoke/VarHandle" ∧ (parseMethodDescriptor y.desc).map (fun d => d.parameters.length) = some 2) (hlev : lev < lv) (hmL : mL ≤ 21) (hq : (WW x)[q0]? = some (b, .inr (ci, fs))) (hc : cls6[ci]? = some (Cn, T, N)) (hcat : (S.map fun v => v.category).sum ≤ 8) (d : decode cc pc = .ok (.invokevirtual index, 3)) (kk : ∀ (n : Nat) (u : ST), n < 9223372036854775808 → post n u → WA K (WW u) L (pc + 3) (.long (lN n) :: S)) : WA K (WW x) L pc (v1 :: v0 :: .ref b :: S) := k_L C (a := (.ref b :: [v0, v1] : List Value).toArray) (fun H locs ls hP hD hS hl => runV C (As := [v0, v1]) (hM H.size) h1 h2 h3 h4 h5 hd hlev hmL hq hc rfl rfl hcat d hP hD hl) kk
theorem sL2 {y : MethodName} {cy : ByteArray} {mL lev index : Nat} {ret : Option FieldType} {v0 v1 : Value} {post : Nat → ST → Prop} (C : CT K cc own tys lv) (hM : CL (kl K) (kD K) tys WW y cy mL ret lev [v0, v1] x post) (h1 : Cond.methodLink own index y ∈ LG) (h2 : Cond.static y ∈ LG) (h4 : Cond.initialized y.cls ∈ LG) (h5 : Cond.code y cy mL ret ∈ LG) (hd : y.cls ≠ "java/lang/invoke/MethodHandle" ∧ y.cls ≠ "java/lang/invoke/VarHandle" ∧ (parseMethodDescriptor y.desc).map (fun d => d.parameters.length) = some 2) (hlev : lev < lv) (hmL : mL ≤ 21) (hcat : (S.map fun v => v.category).sum ≤ 8) (d : decode cc pc = .ok (.invokestatic index, 3)) (kk : ∀ (n : Nat) (u : ST), n < 9223372036854775808 → post n u → WA K (WW u) L (pc + 3) (.long (lN n) :: S)) : WA K (WW x) L pc (v1 :: v0 :: S) := k_L C (a := ([v0, v1] : List Value).toArray) (fun H locs ls hP hD hS hl => runS C (As := [v0, v1]) (hM H.size) h1 h2 h4 h5 hd hlev hmL rfl rfl hcat d hP hD hl) kk
theorem vL3 {y : MethodName} {cy : ByteArray} {mL lev index q0 ci N : Nat} {ret : Option FieldType} {Cn : String} {b : Addr} {v0 v1 v2 : Value} {post : Nat → ST → Prop} {fs : List Value} {T : u_T} (C : CT K cc own tys lv) (hM : CL (kl K) (kD K) tys WW y cy mL ret lev (.ref b :: [v0, v1, v2]) x post) (h1 : Cond.methodLink own index y ∈ LG) (h2 : Cond.instanceMethod y ∈ LG) (h3 : Cond.selects Cn y y ∈ LG) (h4 : Cond.initialized Cn ∈ LG) (h5 : Cond.code y cy mL ret ∈ LG) (hd : y.cls = Cn ∧ y.cls ≠ "java/lang/invoke/MethodHandle" ∧ y.cls ≠ "java/lang/invoke/VarHandle" ∧ (parseMethodDescriptor y.desc).map (fun d => d.parameters.length) = some 3) (hlev : lev < lv) (hmL : mL ≤ 21) (hq : (WW x)[q0]? = some (b, .inr (ci, fs))) (hc : cls6[ci]? = some (Cn, T, N)) (hcat : (S.map fun v => v.category).sum ≤ 8) (d : decode cc pc = .ok (.invokevirtual index, 3)) (kk : ∀ (n : Nat) (u : ST), n < 9223372036854775808 → post n u → WA K (WW u) L (pc + 3) (.long (lN n) :: S)) : WA K (WW x) L pc (v2 :: v1 :: v0 :: .ref b :: S) := k_L C (a := (.ref b :: [v0, v1, v2] : List Value).toArray) (fun H locs ls hP hD hS hl => runV C (As := [v0, v1, v2]) (hM H.size) h1 h2 h3 h4 h5 hd hlev hmL hq hc rfl rfl hcat d hP hD hl) kk
theorem sL3 {y : MethodName} {cy : ByteArray} {mL lev index : Nat} {ret : Option FieldType} {v0 v1 v2 : Value} {post : Nat → ST → Prop} (C : CT K cc own tys lv) (hM : CL (kl K) (kD K) tys WW y cy mL ret lev [v0, v1, v2] x post) (h1 : Cond.methodLink own index y ∈ LG) (h2 : Cond.static y ∈ LG) (h4 : Cond.initialized y.cls ∈ LG) (h5 : Cond.code y cy mL ret ∈ LG) (hd : y.cls ≠ "java/lang/invoke/MethodHandle" ∧ y.cls ≠ "java/lang/invoke/VarHandle" ∧ (parseMethodDescriptor y.desc).map (fun d => d.parameters.length) = some 3) (hlev : lev < lv) (hmL : mL ≤ 21) (hcat : (S.map fun v => v.category).sum ≤ 8) (d : decode cc pc = .ok (.invokestatic index, 3)) (kk : ∀ (n : Nat) (u : ST), n < 9223372036854775808 → post n u → WA K (WW u) L (pc + 3) (.long (lN n) :: S)) : WA K (WW x) L pc (v2 :: v1 :: v0 :: S) := k_L C (a := ([v0, v1, v2] : List Value).toArray) (fun H locs ls hP hD hS hl => runS C (As := [v0, v1, v2]) (hM H.size) h1 h2 h4 h5 hd hlev hmL rfl rfl hcat d hP hD hl) kk
theorem vL4 {y : MethodName} {cy : ByteArray} {mL lev index q0 ci N : Nat} {ret : Option FieldType} {Cn : String} {b : Addr} {v0 v1 v2 v3 : Value} {post : Nat → ST → Prop} {fs : List Value} {T : u_T} (C : CT K cc own tys lv) (hM : CL (kl K) (kD K) tys WW y cy mL ret lev (.ref b :: [v0, v1, v2, v3]) x post) (h1 : Cond.methodLink own index y ∈ LG) (h2 : Cond.instanceMethod y ∈ LG) (h3 : Cond.selects Cn y y ∈ LG) (h4 : Cond.initialized Cn ∈ LG) (h5 : Cond.code y cy mL ret ∈ LG) (hd : y.cls = Cn ∧ y.cls ≠ "java/lang/invoke/MethodHandle" ∧ y.cls ≠ "java/lang/invoke/VarHandle" ∧ (parseMethodDescriptor y.desc).map (fun d => d.parameters.length) = some 4) (hlev : lev < lv) (hmL : mL ≤ 21) (hq : (WW x)[q0]? = some (b, .inr (ci, fs))) (hc : cls6[ci]? = some (Cn, T, N)) (hcat : (S.map fun v => v.category).sum ≤ 8) (d : decode cc pc = .ok (.invokevirtual index, 3)) (kk : ∀ (n : Nat) (u : ST), n < 9223372036854775808 → post n u → WA K (WW u) L (pc + 3) (.long (lN n) :: S)) : WA K (WW x) L pc (v3 :: v2 :: v1 :: v0 :: .ref b :: S) := k_L C (a := (.ref b :: [v0, v1, v2, v3] : List Value).toArray) (fun H locs ls hP hD hS hl => runV C (As := [v0, v1, v2, v3]) (hM H.size) h1 h2 h3 h4 h5 hd hlev hmL hq hc rfl rfl hcat d hP hD hl) kk
theorem sL4 {y : MethodName} {cy : ByteArray} {mL lev index : Nat} {ret : Option FieldType} {v0 v1 v2 v3 : Value} {post : Nat → ST → Prop} (C : CT K cc own tys lv) (hM : CL (kl K) (kD K) tys WW y cy mL ret lev [v0, v1, v2, v3] x post) (h1 : Cond.methodLink own index y ∈ LG) (h2 : Cond.static y ∈ LG) (h4 : Cond.initialized y.cls ∈ LG) (h5 : Cond.code y cy mL ret ∈ LG) (hd : y.cls ≠ "java/lang/invoke/MethodHandle" ∧ y.cls ≠ "java/lang/invoke/VarHandle" ∧ (parseMethodDescriptor y.desc).map (fun d => d.parameters.length) = some 4) (hlev : lev < lv) (hmL : mL ≤ 21) (hcat : (S.map fun v => v.category).sum ≤ 8) (d : decode cc pc = .ok (.invokestatic index, 3)) (kk : ∀ (n : Nat) (u : ST), n < 9223372036854775808 → post n u → WA K (WW u) L (pc + 3) (.long (lN n) :: S)) : WA K (WW x) L pc (v3 :: v2 :: v1 :: v0 :: S) := k_L C (a := ([v0, v1, v2, v3] : List Value).toArray) (fun H locs ls hP hD hS hl => runS C (As := [v0, v1, v2, v3]) (hM H.size) h1 h2 h4 h5 hd hlev hmL rfl rfl hcat d hP hD hl) kk
theorem vL5 {y : MethodName} {cy : ByteArray} {mL lev index q0 ci N : Nat} {ret : Option FieldType} {Cn : String} {b : Addr} {v0 v1 v2 v3 v4 : Value} {post : Nat → ST → Prop} {fs : List Value} {T : u_T} (C : CT K cc own tys lv) (hM : CL (kl K) (kD K) tys WW y cy mL ret lev (.ref b :: [v0, v1, v2, v3, v4]) x post) (h1 : Cond.methodLink own index y ∈ LG) (h2 : Cond.instanceMethod y ∈ LG) (h3 : Cond.selects Cn y y ∈ LG) (h4 : Cond.initialized Cn ∈ LG) (h5 : Cond.code y cy mL ret ∈ LG) (hd : y.cls = Cn ∧ y.cls ≠ "java/lang/invoke/MethodHandle" ∧ y.cls ≠ "java/lang/invoke/VarHandle" ∧ (parseMethodDescriptor y.desc).map (fun d => d.parameters.length) = some 5) (hlev : lev < lv) (hmL : mL ≤ 21) (hq : (WW x)[q0]? = some (b, .inr (ci, fs))) (hc : cls6[ci]? = some (Cn, T, N)) (hcat : (S.map fun v => v.category).sum ≤ 8) (d : decode cc pc = .ok (.invokevirtual index, 3)) (kk : ∀ (n : Nat) (u : ST), n < 9223372036854775808 → post n u → WA K (WW u) L (pc + 3) (.long (lN n) :: S)) : WA K (WW x) L pc (v4 :: v3 :: v2 :: v1 :: v0 :: .ref b :: S) := k_L C (a := (.ref b :: [v0, v1, v2, v3, v4] : List Value).toArray) (fun H locs ls hP hD hS hl => runV C (As := [v0, v1, v2, v3, v4]) (hM H.size) h1 h2 h3 h4 h5 hd hlev hmL hq hc rfl rfl hcat d hP hD hl) kk
theorem sL5 {y : MethodName} {cy : ByteArray} {mL lev index : Nat} {ret : Option FieldType} {v0 v1 v2 v3 v4 : Value} {post : Nat → ST → Prop} (C : CT K cc own tys lv) (hM : CL (kl K) (kD K) tys WW y cy mL ret lev [v0, v1, v2, v3, v4] x post) (h1 : Cond.methodLink own index y ∈ LG) (h2 : Cond.static y ∈ LG) (h4 : Cond.initialized y.cls ∈ LG) (h5 : Cond.code y cy mL ret ∈ LG) (hd : y.cls ≠ "java/lang/invoke/MethodHandle" ∧ y.cls ≠ "java/lang/invoke/VarHandle" ∧ (parseMethodDescriptor y.desc).map (fun d => d.parameters.length) = some 5) (hlev : lev < lv) (hmL : mL ≤ 21) (hcat : (S.map fun v => v.category).sum ≤ 8) (d : decode cc pc = .ok (.invokestatic index, 3)) (kk : ∀ (n : Nat) (u : ST), n < 9223372036854775808 → post n u → WA K (WW u) L (pc + 3) (.long (lN n) :: S)) : WA K (WW x) L pc (v4 :: v3 :: v2 :: v1 :: v0 :: S) := k_L C (a := ([v0, v1, v2, v3, v4] : List Value).toArray) (fun H locs ls hP hD hS hl => runS C (As := [v0, v1, v2, v3, v4]) (hM H.size) h1 h2 h4 h5 hd hlev hmL rfl rfl hcat d hP hD hl) kk
theorem vD0 {y : MethodName} {cy : ByteArray} {mL lev index q0 ci N : Nat} {ret : Option FieldType} {Cn : String} {b : Addr} {post : UInt64 → ST → Prop} {fs : List Value} {T : u_T} (C : CT K cc own tys lv) (hM : CD (kl K) (kD K) tys WW y cy mL ret lev (.ref b :: []) x post) (h1 : Cond.methodLink own index y ∈ LG) (h2 : Cond.instanceMethod y ∈ LG) (h3 : Cond.selects Cn y y ∈ LG) (h4 : Cond.initialized Cn ∈ LG) (h5 : Cond.code y cy mL ret ∈ LG) (hd : y.cls = Cn ∧ y.cls ≠ "java/lang/invoke/MethodHandle" ∧ y.cls ≠ "java/lang/invoke/VarHandle" ∧ (parseMethodDescriptor y.desc).map (fun d => d.parameters.length) = some 0) (hlev : lev < lv) (hmL : mL ≤ 21) (hq : (WW x)[q0]? = some (b, .inr (ci, fs))) (hc : cls6[ci]? = some (Cn, T, N)) (hcat : (S.map fun v => v.category).sum ≤ 8) (d : decode cc pc = .ok (.invokevirtual index, 3)) (kk : ∀ (n : UInt64) (u : ST), post n u → WA K (WW u) L (pc + 3) (.double n :: S)) : WA K (WW x) L pc (.ref b :: S) := k_D C (a := (.ref b :: [] : List Value).toArray) (fun H locs ls hP hD hS hl => runV C (As := []) (hM H.size) h1 h2 h3 h4 h5 hd hlev hmL hq hc rfl rfl hcat d hP hD hl) kk
theorem sD0 {y : MethodName} {cy : ByteArray} {mL lev index : Nat} {ret : Option FieldType} {post : UInt64 → ST → Prop} (C : CT K cc own tys lv) (hM : CD (kl K) (kD K) tys WW y cy mL ret lev [] x post) (h1 : Cond.methodLink own index y ∈ LG) (h2 : Cond.static y ∈ LG) (h4 : Cond.initialized y.cls ∈ LG) (h5 : Cond.code y cy mL ret ∈ LG) (hd : y.cls ≠ "java/lang/invoke/MethodHandle" ∧ y.cls ≠ "java/lang/invoke/VarHandle" ∧ (parseMethodDescriptor y.desc).map (fun d => d.parameters.length) = some 0) (hlev : lev < lv) (hmL : mL ≤ 21) (hcat : (S.map fun v => v.category).sum ≤ 8) (d : decode cc pc = .ok (.invokestatic index, 3)) (kk : ∀ (n : UInt64) (u : ST), post n u → WA K (WW u) L (pc + 3) (.double n :: S)) : WA K (WW x) L pc (S) := k_D C (a := ([] : List Value).toArray) (fun H locs ls hP hD hS hl => runS C (As := []) (hM H.size) h1 h2 h4 h5 hd hlev hmL rfl rfl hcat d hP hD hl) kk
theorem vD1 {y : MethodName} {cy : ByteArray} {mL lev index q0 ci N : Nat} {ret : Option FieldType} {Cn : String} {b : Addr} {v0 : Value} {post : UInt64 → ST → Prop} {fs : List Value} {T : u_T} (C : CT K cc own tys lv) (hM : CD (kl K) (kD K) tys WW y cy mL ret lev (.ref b :: [v0]) x post) (h1 : Cond.methodLink own index y ∈ LG) (h2 : Cond.instanceMethod y ∈ LG) (h3 : Cond.selects Cn y y ∈ LG) (h4 : Cond.initialized Cn ∈ LG) (h5 : Cond.code y cy mL ret ∈ LG) (hd : y.cls = Cn ∧ y.cls ≠ "java/lang/invoke/MethodHandle" ∧ y.cls ≠ "java/lang/invoke/VarHandle" ∧ (parseMethodDescriptor y.desc).map (fun d => d.parameters.length) = some 1) (hlev : lev < lv) (hmL : mL ≤ 21) (hq : (WW x)[q0]? = some (b, .inr (ci, fs))) (hc : cls6[ci]? = some (Cn, T, N)) (hcat : (S.map fun v => v.category).sum ≤ 8) (d : decode cc pc = .ok (.invokevirtual index, 3)) (kk : ∀ (n : UInt64) (u : ST), post n u → WA K (WW u) L (pc + 3) (.double n :: S)) : WA K (WW x) L pc (v0 :: .ref b :: S) := k_D C (a := (.ref b :: [v0] : List Value).toArray) (fun H locs ls hP hD hS hl => runV C (As := [v0]) (hM H.size) h1 h2 h3 h4 h5 hd hlev hmL hq hc rfl rfl hcat d hP hD hl) kk
theorem sD1 {y : MethodName} {cy : ByteArray} {mL lev index : Nat} {ret : Option FieldType} {v0 : Value} {post : UInt64 → ST → Prop} (C : CT K cc own tys lv) (hM : CD (kl K) (kD K) tys WW y cy mL ret lev [v0] x post) (h1 : Cond.methodLink own index y ∈ LG) (h2 : Cond.static y ∈ LG) (h4 : Cond.initialized y.cls ∈ LG) (h5 : Cond.code y cy mL ret ∈ LG) (hd : y.cls ≠ "java/lang/invoke/MethodHandle" ∧ y.cls ≠ "java/lang/invoke/VarHandle" ∧ (parseMethodDescriptor y.desc).map (fun d => d.parameters.length) = some 1) (hlev : lev < lv) (hmL : mL ≤ 21) (hcat : (S.map fun v => v.category).sum ≤ 8) (d : decode cc pc = .ok (.invokestatic index, 3)) (kk : ∀ (n : UInt64) (u : ST), post n u → WA K (WW u) L (pc + 3) (.double n :: S)) : WA K (WW x) L pc (v0 :: S) := k_D C (a := ([v0] : List Value).toArray) (fun H locs ls hP hD hS hl => runS C (As := [v0]) (hM H.size) h1 h2 h4 h5 hd hlev hmL rfl rfl hcat d hP hD hl) kk
theorem vD2 {y : MethodName} {cy : ByteArray} {mL lev index q0 ci N : Nat} {ret : Option FieldType} {Cn : String} {b : Addr} {v0 v1 : Value} {post : UInt64 → ST → Prop} {fs : List Value} {T : u_T} (C : CT K cc own tys lv) (hM : CD (kl K) (kD K) tys WW y cy mL ret lev (.ref b :: [v0, v1]) x post) (h1 : Cond.methodLink own index y ∈ LG) (h2 : Cond.instanceMethod y ∈ LG) (h3 : Cond.selects Cn y y ∈ LG) (h4 : Cond.initialized Cn ∈ LG) (h5 : Cond.code y cy mL ret ∈ LG) (hd : y.cls = Cn ∧ y.cls ≠ "java/lang/invoke/MethodHandle" ∧ y.cls ≠ "java/lang/invoke/VarHandle" ∧ (parseMethodDescriptor y.desc).map (fun d => d.parameters.length) = some 2) (hlev : lev < lv) (hmL : mL ≤ 21) (hq : (WW x)[q0]? = some (b, .inr (ci, fs))) (hc : cls6[ci]? = some (Cn, T, N)) (hcat : (S.map fun v => v.category).sum ≤ 8) (d : decode cc pc = .ok (.invokevirtual index, 3)) (kk : ∀ (n : UInt64) (u : ST), post n u → WA K (WW u) L (pc + 3) (.double n :: S)) : WA K (WW x) L pc (v1 :: v0 :: .ref b :: S) := k_D C (a := (.ref b :: [v0, v1] : List Value).toArray) (fun H locs ls hP hD hS hl => runV C (As := [v0, v1]) (hM H.size) h1 h2 h3 h4 h5 hd hlev hmL hq hc rfl rfl hcat d hP hD hl) kk
theorem sD2 {y : MethodName} {cy : ByteArray} {mL lev index : Nat} {ret : Option FieldType} {v0 v1 : Value} {post : UInt64 → ST → Prop} (C : CT K cc own tys lv) (hM : CD (kl K) (kD K) tys WW y cy mL ret lev [v0, v1] x post) (h1 : Cond.methodLink own index y ∈ LG) (h2 : Cond.static y ∈ LG) (h4 : Cond.initialized y.cls ∈ LG) (h5 : Cond.code y cy mL ret ∈ LG) (hd : y.cls ≠ "java/lang/invoke/MethodHandle" ∧ y.cls ≠ "java/lang/invoke/VarHandle" ∧ (parseMethodDescriptor y.desc).map (fun d => d.parameters.length) = some 2) (hlev : lev < lv) (hmL : mL ≤ 21) (hcat : (S.map fun v => v.category).sum ≤ 8) (d : decode cc pc = .ok (.invokestatic index, 3)) (kk : ∀ (n : UInt64) (u : ST), post n u → WA K (WW u) L (pc + 3) (.double n :: S)) : WA K (WW x) L pc (v1 :: v0 :: S) := k_D C (a := ([v0, v1] : List Value).toArray) (fun H locs ls hP hD hS hl => runS C (As := [v0, v1]) (hM H.size) h1 h2 h4 h5 hd hlev hmL rfl rfl hcat d hP hD hl) kk
theorem vD3 {y : MethodName} {cy : ByteArray} {mL lev index q0 ci N : Nat} {ret : Option FieldType} {Cn : String} {b : Addr} {v0 v1 v2 : Value} {post : UInt64 → ST → Prop} {fs : List Value} {T : u_T} (C : CT K cc own tys lv) (hM : CD (kl K) (kD K) tys WW y cy mL ret lev (.ref b :: [v0, v1, v2]) x post) (h1 : Cond.methodLink own index y ∈ LG) (h2 : Cond.instanceMethod y ∈ LG) (h3 : Cond.selects Cn y y ∈ LG) (h4 : Cond.initialized Cn ∈ LG) (h5 : Cond.code y cy mL ret ∈ LG) (hd : y.cls = Cn ∧ y.cls ≠ "java/lang/invoke/MethodHandle" ∧ y.cls ≠ "java/lang/invoke/VarHandle" ∧ (parseMethodDescriptor y.desc).map (fun d => d.parameters.length) = some 3) (hlev : lev < lv) (hmL : mL ≤ 21) (hq : (WW x)[q0]? = some (b, .inr (ci, fs))) (hc : cls6[ci]? = some (Cn, T, N)) (hcat : (S.map fun v => v.category).sum ≤ 8) (d : decode cc pc = .ok (.invokevirtual index, 3)) (kk : ∀ (n : UInt64) (u : ST), post n u → WA K (WW u) L (pc + 3) (.double n :: S)) : WA K (WW x) L pc (v2 :: v1 :: v0 :: .ref b :: S) := k_D C (a := (.ref b :: [v0, v1, v2] : List Value).toArray) (fun H locs ls hP hD hS hl => runV C (As := [v0, v1, v2]) (hM H.size) h1 h2 h3 h4 h5 hd hlev hmL hq hc rfl rfl hcat d hP hD hl) kk
theorem sD3 {y : MethodName} {cy : ByteArray} {mL lev index : Nat} {ret : Option FieldType} {v0 v1 v2 : Value} {post : UInt64 → ST → Prop} (C : CT K cc own tys lv) (hM : CD (kl K) (kD K) tys WW y cy mL ret lev [v0, v1, v2] x post) (h1 : Cond.methodLink own index y ∈ LG) (h2 : Cond.static y ∈ LG) (h4 : Cond.initialized y.cls ∈ LG) (h5 : Cond.code y cy mL ret ∈ LG) (hd : y.cls ≠ "java/lang/invoke/MethodHandle" ∧ y.cls ≠ "java/lang/invoke/VarHandle" ∧ (parseMethodDescriptor y.desc).map (fun d => d.parameters.length) = some 3) (hlev : lev < lv) (hmL : mL ≤ 21) (hcat : (S.map fun v => v.category).sum ≤ 8) (d : decode cc pc = .ok (.invokestatic index, 3)) (kk : ∀ (n : UInt64) (u : ST), post n u → WA K (WW u) L (pc + 3) (.double n :: S)) : WA K (WW x) L pc (v2 :: v1 :: v0 :: S) := k_D C (a := ([v0, v1, v2] : List Value).toArray) (fun H locs ls hP hD hS hl => runS C (As := [v0, v1, v2]) (hM H.size) h1 h2 h4 h5 hd hlev hmL rfl rfl hcat d hP hD hl) kk
theorem vD4 {y : MethodName} {cy : ByteArray} {mL lev index q0 ci N : Nat} {ret : Option FieldType} {Cn : String} {b : Addr} {v0 v1 v2 v3 : Value} {post : UInt64 → ST → Prop} {fs : List Value} {T : u_T} (C : CT K cc own tys lv) (hM : CD (kl K) (kD K) tys WW y cy mL ret lev (.ref b :: [v0, v1, v2, v3]) x post) (h1 : Cond.methodLink own index y ∈ LG) (h2 : Cond.instanceMethod y ∈ LG) (h3 : Cond.selects Cn y y ∈ LG) (h4 : Cond.initialized Cn ∈ LG) (h5 : Cond.code y cy mL ret ∈ LG) (hd : y.cls = Cn ∧ y.cls ≠ "java/lang/invoke/MethodHandle" ∧ y.cls ≠ "java/lang/invoke/VarHandle" ∧ (parseMethodDescriptor y.desc).map (fun d => d.parameters.length) = some 4) (hlev : lev < lv) (hmL : mL ≤ 21) (hq : (WW x)[q0]? = some (b, .inr (ci, fs))) (hc : cls6[ci]? = some (Cn, T, N)) (hcat : (S.map fun v => v.category).sum ≤ 8) (d : decode cc pc = .ok (.invokevirtual index, 3)) (kk : ∀ (n : UInt64) (u : ST), post n u → WA K (WW u) L (pc + 3) (.double n :: S)) : WA K (WW x) L pc (v3 :: v2 :: v1 :: v0 :: .ref b :: S) := k_D C (a := (.ref b :: [v0, v1, v2, v3] : List Value).toArray) (fun H locs ls hP hD hS hl => runV C (As := [v0, v1, v2, v3]) (hM H.size) h1 h2 h3 h4 h5 hd hlev hmL hq hc rfl rfl hcat d hP hD hl) kk
theorem sD4 {y : MethodName} {cy : ByteArray} {mL lev index : Nat} {ret : Option FieldType} {v0 v1 v2 v3 : Value} {post : UInt64 → ST → Prop} (C : CT K cc own tys lv) (hM : CD (kl K) (kD K) tys WW y cy mL ret lev [v0, v1, v2, v3] x post) (h1 : Cond.methodLink own index y ∈ LG) (h2 : Cond.static y ∈ LG) (h4 : Cond.initialized y.cls ∈ LG) (h5 : Cond.code y cy mL ret ∈ LG) (hd : y.cls ≠ "java/lang/invoke/MethodHandle" ∧ y.cls ≠ "java/lang/invoke/VarHandle" ∧ (parseMethodDescriptor y.desc).map (fun d => d.parameters.length) = some 4) (hlev : lev < lv) (hmL : mL ≤ 21) (hcat : (S.map fun v => v.category).sum ≤ 8) (d : decode cc pc = .ok (.invokestatic index, 3)) (kk : ∀ (n : UInt64) (u : ST), post n u → WA K (WW u) L (pc + 3) (.double n :: S)) : WA K (WW x) L pc (v3 :: v2 :: v1 :: v0 :: S) := k_D C (a := ([v0, v1, v2, v3] : List Value).toArray) (fun H locs ls hP hD hS hl => runS C (As := [v0, v1, v2, v3]) (hM H.size) h1 h2 h4 h5 hd hlev hmL rfl rfl hcat d hP hD hl) kk
theorem vD5 {y : MethodName} {cy : ByteArray} {mL lev index q0 ci N : Nat} {ret : Option FieldType} {Cn : String} {b : Addr} {v0 v1 v2 v3 v4 : Value} {post : UInt64 → ST → Prop} {fs : List Value} {T : u_T} (C : CT K cc own tys lv) (hM : CD (kl K) (kD K) tys WW y cy mL ret lev (.ref b :: [v0, v1, v2, v3, v4]) x post) (h1 : Cond.methodLink own index y ∈ LG) (h2 : Cond.instanceMethod y ∈ LG) (h3 : Cond.selects Cn y y ∈ LG) (h4 : Cond.initialized Cn ∈ LG) (h5 : Cond.code y cy mL ret ∈ LG) (hd : y.cls = Cn ∧ y.cls ≠ "java/lang/invoke/MethodHandle" ∧ y.cls ≠ "java/lang/invoke/VarHandle" ∧ (parseMethodDescriptor y.desc).map (fun d => d.parameters.length) = some 5) (hlev : lev < lv) (hmL : mL ≤ 21) (hq : (WW x)[q0]? = some (b, .inr (ci, fs))) (hc : cls6[ci]? = some (Cn, T, N)) (hcat : (S.map fun v => v.category).sum ≤ 8) (d : decode cc pc = .ok (.invokevirtual index, 3)) (kk : ∀ (n : UInt64) (u : ST), post n u → WA K (WW u) L (pc + 3) (.double n :: S)) : WA K (WW x) L pc (v4 :: v3 :: v2 :: v1 :: v0 :: .ref b :: S) := k_D C (a := (.ref b :: [v0, v1, v2, v3, v4] : List Value).toArray) (fun H locs ls hP hD hS hl => runV C (As := [v0, v1, v2, v3, v4]) (hM H.size) h1 h2 h3 h4 h5 hd hlev hmL hq hc rfl rfl hcat d hP hD hl) kk
theorem sD5 {y : MethodName} {cy : ByteArray} {mL lev index : Nat} {ret : Option FieldType} {v0 v1 v2 v3 v4 : Value} {post : UInt64 → ST → Prop} (C : CT K cc own tys lv) (hM : CD (kl K) (kD K) tys WW y cy mL ret lev [v0, v1, v2, v3, v4] x post) (h1 : Cond.methodLink own index y ∈ LG) (h2 : Cond.static y ∈ LG) (h4 : Cond.initialized y.cls ∈ LG) (h5 : Cond.code y cy mL ret ∈ LG) (hd : y.cls ≠ "java/lang/invoke/MethodHandle" ∧ y.cls ≠ "java/lang/invoke/VarHandle" ∧ (parseMethodDescriptor y.desc).map (fun d => d.parameters.length) = some 5) (hlev : lev < lv) (hmL : mL ≤ 21) (hcat : (S.map fun v => v.category).sum ≤ 8) (d : decode cc pc = .ok (.invokestatic index, 3)) (kk : ∀ (n : UInt64) (u : ST), post n u → WA K (WW u) L (pc + 3) (.double n :: S)) : WA K (WW x) L pc (v4 :: v3 :: v2 :: v1 :: v0 :: S) := k_D C (a := ([v0, v1, v2, v3, v4] : List Value).toArray) (fun H locs ls hP hD hS hl => runS C (As := [v0, v1, v2, v3, v4]) (hM H.size) h1 h2 h4 h5 hd hlev hmL rfl rfl hcat d hP hD hl) kk
theorem vV0 {y : MethodName} {cy : ByteArray} {mL lev index q0 ci N : Nat} {ret : Option FieldType} {Cn : String} {b : Addr} {post : ST → Prop} {fs : List Value} {T : u_T} (C : CT K cc own tys lv) (hM : CV (kl K) (kD K) tys WW y cy mL ret lev (.ref b :: []) x post) (h1 : Cond.methodLink own index y ∈ LG) (h2 : Cond.instanceMethod y ∈ LG) (h3 : Cond.selects Cn y y ∈ LG) (h4 : Cond.initialized Cn ∈ LG) (h5 : Cond.code y cy mL ret ∈ LG) (hd : y.cls = Cn ∧ y.cls ≠ "java/lang/invoke/MethodHandle" ∧ y.cls ≠ "java/lang/invoke/VarHandle" ∧ (parseMethodDescriptor y.desc).map (fun d => d.parameters.length) = some 0) (hlev : lev < lv) (hmL : mL ≤ 21) (hq : (WW x)[q0]? = some (b, .inr (ci, fs))) (hc : cls6[ci]? = some (Cn, T, N)) (hcat : (S.map fun v => v.category).sum ≤ 8) (d : decode cc pc = .ok (.invokevirtual index, 3)) (kk : ∀ u : ST, post u → WA K (WW u) L (pc + 3) S) : WA K (WW x) L pc (.ref b :: S) := k_V C (a := (.ref b :: [] : List Value).toArray) (fun H locs ls hP hD hS hl => runV C (As := []) (hM H.size) h1 h2 h3 h4 h5 hd hlev hmL hq hc rfl rfl hcat d hP hD hl) kk
theorem sV0 {y : MethodName} {cy : ByteArray} {mL lev index : Nat} {ret : Option FieldType} {post : ST → Prop} (C : CT K cc own tys lv) (hM : CV (kl K) (kD K) tys WW y cy mL ret lev [] x post) (h1 : Cond.methodLink own index y ∈ LG) (h2 : Cond.static y ∈ LG) (h4 : Cond.initialized y.cls ∈ LG) (h5 : Cond.code y cy mL ret ∈ LG) (hd : y.cls ≠ "java/lang/invoke/MethodHandle" ∧ y.cls ≠ "java/lang/invoke/VarHandle" ∧ (parseMethodDescriptor y.desc).map (fun d => d.parameters.length) = some 0) (hlev : lev < lv) (hmL : mL ≤ 21) (hcat : (S.map fun v => v.category).sum ≤ 8) (d : decode cc pc = .ok (.invokestatic index, 3)) (kk : ∀ u : ST, post u → WA K (WW u) L (pc + 3) S) : WA K (WW x) L pc (S) := k_V C (a := ([] : List Value).toArray) (fun H locs ls hP hD hS hl => runS C (As := []) (hM H.size) h1 h2 h4 h5 hd hlev hmL rfl rfl hcat d hP hD hl) kk
theorem vV1 {y : MethodName} {cy : ByteArray} {mL lev index q0 ci N : Nat} {ret : Option FieldType} {Cn : String} {b : Addr} {v0 : Value} {post : ST → Prop} {fs : List Value} {T : u_T} (C : CT K cc own tys lv) (hM : CV (kl K) (kD K) tys WW y cy mL ret lev (.ref b :: [v0]) x post) (h1 : Cond.methodLink own index y ∈ LG) (h2 : Cond.instanceMethod y ∈ LG) (h3 : Cond.selects Cn y y ∈ LG) (h4 : Cond.initialized Cn ∈ LG) (h5 : Cond.code y cy mL ret ∈ LG) (hd : y.cls = Cn ∧ y.cls ≠ "java/lang/invoke/MethodHandle" ∧ y.cls ≠ "java/lang/invoke/VarHandle" ∧ (parseMethodDescriptor y.desc).map (fun d => d.parameters.length) = some 1) (hlev : lev < lv) (hmL : mL ≤ 21) (hq : (WW x)[q0]? = some (b, .inr (ci, fs))) (hc : cls6[ci]? = some (Cn, T, N)) (hcat : (S.map fun v => v.category).sum ≤ 8) (d : decode cc pc = .ok (.invokevirtual index, 3)) (kk : ∀ u : ST, post u → WA K (WW u) L (pc + 3) S) : WA K (WW x) L pc (v0 :: .ref b :: S) := k_V C (a := (.ref b :: [v0] : List Value).toArray) (fun H locs ls hP hD hS hl => runV C (As := [v0]) (hM H.size) h1 h2 h3 h4 h5 hd hlev hmL hq hc rfl rfl hcat d hP hD hl) kk
theorem sV1 {y : MethodName} {cy : ByteArray} {mL lev index : Nat} {ret : Option FieldType} {v0 : Value} {post : ST → Prop} (C : CT K cc own tys lv) (hM : CV (kl K) (kD K) tys WW y cy mL ret lev [v0] x post) (h1 : Cond.methodLink own index y ∈ LG) (h2 : Cond.static y ∈ LG) (h4 : Cond.initialized y.cls ∈ LG) (h5 : Cond.code y cy mL ret ∈ LG) (hd : y.cls ≠ "java/lang/invoke/MethodHandle" ∧ y.cls ≠ "java/lang/invoke/VarHandle" ∧ (parseMethodDescriptor y.desc).map (fun d => d.parameters.length) = some 1) (hlev : lev < lv) (hmL : mL ≤ 21) (hcat : (S.map fun v => v.category).sum ≤ 8) (d : decode cc pc = .ok (.invokestatic index, 3)) (kk : ∀ u : ST, post u → WA K (WW u) L (pc + 3) S) : WA K (WW x) L pc (v0 :: S) := k_V C (a := ([v0] : List Value).toArray) (fun H locs ls hP hD hS hl => runS C (As := [v0]) (hM H.size) h1 h2 h4 h5 hd hlev hmL rfl rfl hcat d hP hD hl) kk
theorem vV2 {y : MethodName} {cy : ByteArray} {mL lev index q0 ci N : Nat} {ret : Option FieldType} {Cn : String} {b : Addr} {v0 v1 : Value} {post : ST → Prop} {fs : List Value} {T : u_T} (C : CT K cc own tys lv) (hM : CV (kl K) (kD K) tys WW y cy mL ret lev (.ref b :: [v0, v1]) x post) (h1 : Cond.methodLink own index y ∈ LG) (h2 : Cond.instanceMethod y ∈ LG) (h3 : Cond.selects Cn y y ∈ LG) (h4 : Cond.initialized Cn ∈ LG) (h5 : Cond.code y cy mL ret ∈ LG) (hd : y.cls = Cn ∧ y.cls ≠ "java/lang/invoke/MethodHandle" ∧ y.cls ≠ "java/lang/invoke/VarHandle" ∧ (parseMethodDescriptor y.desc).map (fun d => d.parameters.length) = some 2) (hlev : lev < lv) (hmL : mL ≤ 21) (hq : (WW x)[q0]? = some (b, .inr (ci, fs))) (hc : cls6[ci]? = some (Cn, T, N)) (hcat : (S.map fun v => v.category).sum ≤ 8) (d : decode cc pc = .ok (.invokevirtual index, 3)) (kk : ∀ u : ST, post u → WA K (WW u) L (pc + 3) S) : WA K (WW x) L pc (v1 :: v0 :: .ref b :: S) := k_V C (a := (.ref b :: [v0, v1] : List Value).toArray) (fun H locs ls hP hD hS hl => runV C (As := [v0, v1]) (hM H.size) h1 h2 h3 h4 h5 hd hlev hmL hq hc rfl rfl hcat d hP hD hl) kk
theorem sV2 {y : MethodName} {cy : ByteArray} {mL lev index : Nat} {ret : Option FieldType} {v0 v1 : Value} {post : ST → Prop} (C : CT K cc own tys lv) (hM : CV (kl K) (kD K) tys WW y cy mL ret lev [v0, v1] x post) (h1 : Cond.methodLink own index y ∈ LG) (h2 : Cond.static y ∈ LG) (h4 : Cond.initialized y.cls ∈ LG) (h5 : Cond.code y cy mL ret ∈ LG) (hd : y.cls ≠ "java/lang/invoke/MethodHandle" ∧ y.cls ≠ "java/lang/invoke/VarHandle" ∧ (parseMethodDescriptor y.desc).map (fun d => d.parameters.length) = some 2) (hlev : lev < lv) (hmL : mL ≤ 21) (hcat : (S.map fun v => v.category).sum ≤ 8) (d : decode cc pc = .ok (.invokestatic index, 3)) (kk : ∀ u : ST, post u → WA K (WW u) L (pc + 3) S) : WA K (WW x) L pc (v1 :: v0 :: S) := k_V C (a := ([v0, v1] : List Value).toArray) (fun H locs ls hP hD hS hl => runS C (As := [v0, v1]) (hM H.size) h1 h2 h4 h5 hd hlev hmL rfl rfl hcat d hP hD hl) kk
theorem vV3 {y : MethodName} {cy : ByteArray} {mL lev index q0 ci N : Nat} {ret : Option FieldType} {Cn : String} {b : Addr} {v0 v1 v2 : Value} {post : ST → Prop} {fs : List Value} {T : u_T} (C : CT K cc own tys lv) (hM : CV (kl K) (kD K) tys WW y cy mL ret lev (.ref b :: [v0, v1, v2]) x post) (h1 : Cond.methodLink own index y ∈ LG) (h2 : Cond.instanceMethod y ∈ LG) (h3 : Cond.selects Cn y y ∈ LG) (h4 : Cond.initialized Cn ∈ LG) (h5 : Cond.code y cy mL ret ∈ LG) (hd : y.cls = Cn ∧ y.cls ≠ "java/lang/invoke/MethodHandle" ∧ y.cls ≠ "java/lang/invoke/VarHandle" ∧ (parseMethodDescriptor y.desc).map (fun d => d.parameters.length) = some 3) (hlev : lev < lv) (hmL : mL ≤ 21) (hq : (WW x)[q0]? = some (b, .inr (ci, fs))) (hc : cls6[ci]? = some (Cn, T, N)) (hcat : (S.map fun v => v.category).sum ≤ 8) (d : decode cc pc = .ok (.invokevirtual index, 3)) (kk : ∀ u : ST, post u → WA K (WW u) L (pc + 3) S) : WA K (WW x) L pc (v2 :: v1 :: v0 :: .ref b :: S) := k_V C (a := (.ref b :: [v0, v1, v2] : List Value).toArray) (fun H locs ls hP hD hS hl => runV C (As := [v0, v1, v2]) (hM H.size) h1 h2 h3 h4 h5 hd hlev hmL hq hc rfl rfl hcat d hP hD hl) kk
theorem sV3 {y : MethodName} {cy : ByteArray} {mL lev index : Nat} {ret : Option FieldType} {v0 v1 v2 : Value} {post : ST → Prop} (C : CT K cc own tys lv) (hM : CV (kl K) (kD K) tys WW y cy mL ret lev [v0, v1, v2] x post) (h1 : Cond.methodLink own index y ∈ LG) (h2 : Cond.static y ∈ LG) (h4 : Cond.initialized y.cls ∈ LG) (h5 : Cond.code y cy mL ret ∈ LG) (hd : y.cls ≠ "java/lang/invoke/MethodHandle" ∧ y.cls ≠ "java/lang/invoke/VarHandle" ∧ (parseMethodDescriptor y.desc).map (fun d => d.parameters.length) = some 3) (hlev : lev < lv) (hmL : mL ≤ 21) (hcat : (S.map fun v => v.category).sum ≤ 8) (d : decode cc pc = .ok (.invokestatic index, 3)) (kk : ∀ u : ST, post u → WA K (WW u) L (pc + 3) S) : WA K (WW x) L pc (v2 :: v1 :: v0 :: S) := k_V C (a := ([v0, v1, v2] : List Value).toArray) (fun H locs ls hP hD hS hl => runS C (As := [v0, v1, v2]) (hM H.size) h1 h2 h4 h5 hd hlev hmL rfl rfl hcat d hP hD hl) kk
theorem vV4 {y : MethodName} {cy : ByteArray} {mL lev index q0 ci N : Nat} {ret : Option FieldType} {Cn : String} {b : Addr} {v0 v1 v2 v3 : Value} {post : ST → Prop} {fs : List Value} {T : u_T} (C : CT K cc own tys lv) (hM : CV (kl K) (kD K) tys WW y cy mL ret lev (.ref b :: [v0, v1, v2, v3]) x post) (h1 : Cond.methodLink own index y ∈ LG) (h2 : Cond.instanceMethod y ∈ LG) (h3 : Cond.selects Cn y y ∈ LG) (h4 : Cond.initialized Cn ∈ LG) (h5 : Cond.code y cy mL ret ∈ LG) (hd : y.cls = Cn ∧ y.cls ≠ "java/lang/invoke/MethodHandle" ∧ y.cls ≠ "java/lang/invoke/VarHandle" ∧ (parseMethodDescriptor y.desc).map (fun d => d.parameters.length) = some 4) (hlev : lev < lv) (hmL : mL ≤ 21) (hq : (WW x)[q0]? = some (b, .inr (ci, fs))) (hc : cls6[ci]? = some (Cn, T, N)) (hcat : (S.map fun v => v.category).sum ≤ 8) (d : decode cc pc = .ok (.invokevirtual index, 3)) (kk : ∀ u : ST, post u → WA K (WW u) L (pc + 3) S) : WA K (WW x) L pc (v3 :: v2 :: v1 :: v0 :: .ref b :: S) := k_V C (a := (.ref b :: [v0, v1, v2, v3] : List Value).toArray) (fun H locs ls hP hD hS hl => runV C (As := [v0, v1, v2, v3]) (hM H.size) h1 h2 h3 h4 h5 hd hlev hmL hq hc rfl rfl hcat d hP hD hl) kk
theorem sV4 {y : MethodName} {cy : ByteArray} {mL lev index : Nat} {ret : Option FieldType} {v0 v1 v2 v3 : Value} {post : ST → Prop} (C : CT K cc own tys lv) (hM : CV (kl K) (kD K) tys WW y cy mL ret lev [v0, v1, v2, v3] x post) (h1 : Cond.methodLink own index y ∈ LG) (h2 : Cond.static y ∈ LG) (h4 : Cond.initialized y.cls ∈ LG) (h5 : Cond.code y cy mL ret ∈ LG) (hd : y.cls ≠ "java/lang/invoke/MethodHandle" ∧ y.cls ≠ "java/lang/invoke/VarHandle" ∧ (parseMethodDescriptor y.desc).map (fun d => d.parameters.length) = some 4) (hlev : lev < lv) (hmL : mL ≤ 21) (hcat : (S.map fun v => v.category).sum ≤ 8) (d : decode cc pc = .ok (.invokestatic index, 3)) (kk : ∀ u : ST, post u → WA K (WW u) L (pc + 3) S) : WA K (WW x) L pc (v3 :: v2 :: v1 :: v0 :: S) := k_V C (a := ([v0, v1, v2, v3] : List Value).toArray) (fun H locs ls hP hD hS hl => runS C (As := [v0, v1, v2, v3]) (hM H.size) h1 h2 h4 h5 hd hlev hmL rfl rfl hcat d hP hD hl) kk
theorem vV5 {y : MethodName} {cy : ByteArray} {mL lev index q0 ci N : Nat} {ret : Option FieldType} {Cn : String} {b : Addr} {v0 v1 v2 v3 v4 : Value} {post : ST → Prop} {fs : List Value} {T : u_T} (C : CT K cc own tys lv) (hM : CV (kl K) (kD K) tys WW y cy mL ret lev (.ref b :: [v0, v1, v2, v3, v4]) x post) (h1 : Cond.methodLink own index y ∈ LG) (h2 : Cond.instanceMethod y ∈ LG) (h3 : Cond.selects Cn y y ∈ LG) (h4 : Cond.initialized Cn ∈ LG) (h5 : Cond.code y cy mL ret ∈ LG) (hd : y.cls = Cn ∧ y.cls ≠ "java/lang/invoke/MethodHandle" ∧ y.cls ≠ "java/lang/invoke/VarHandle" ∧ (parseMethodDescriptor y.desc).map (fun d => d.parameters.length) = some 5) (hlev : lev < lv) (hmL : mL ≤ 21) (hq : (WW x)[q0]? = some (b, .inr (ci, fs))) (hc : cls6[ci]? = some (Cn, T, N)) (hcat : (S.map fun v => v.category).sum ≤ 8) (d : decode cc pc = .ok (.invokevirtual index, 3)) (kk : ∀ u : ST, post u → WA K (WW u) L (pc + 3) S) : WA K (WW x) L pc (v4 :: v3 :: v2 :: v1 :: v0 :: .ref b :: S) := k_V C (a := (.ref b :: [v0, v1, v2, v3, v4] : List Value).toArray) (fun H locs ls hP hD hS hl => runV C (As := [v0, v1, v2, v3, v4]) (hM H.size) h1 h2 h3 h4 h5 hd hlev hmL hq hc rfl rfl hcat d hP hD hl) kk
theorem sV5 {y : MethodName} {cy : ByteArray} {mL lev index : Nat} {ret : Option FieldType} {v0 v1 v2 v3 v4 : Value} {post : ST → Prop} (C : CT K cc own tys lv) (hM : CV (kl K) (kD K) tys WW y cy mL ret lev [v0, v1, v2, v3, v4] x post) (h1 : Cond.methodLink own index y ∈ LG) (h2 : Cond.static y ∈ LG) (h4 : Cond.initialized y.cls ∈ LG) (h5 : Cond.code y cy mL ret ∈ LG) (hd : y.cls ≠ "java/lang/invoke/MethodHandle" ∧ y.cls ≠ "java/lang/invoke/VarHandle" ∧ (parseMethodDescriptor y.desc).map (fun d => d.parameters.length) = some 5) (hlev : lev < lv) (hmL : mL ≤ 21) (hcat : (S.map fun v => v.category).sum ≤ 8) (d : decode cc pc = .ok (.invokestatic index, 3)) (kk : ∀ u : ST, post u → WA K (WW u) L (pc + 3) S) : WA K (WW x) L pc (v4 :: v3 :: v2 :: v1 :: v0 :: S) := k_V C (a := ([v0, v1, v2, v3, v4] : List Value).toArray) (fun H locs ls hP hD hS hl => runS C (As := [v0, v1, v2, v3, v4]) (hM H.size) h1 h2 h4 h5 hd hlev hmL rfl rfl hcat d hP hD hl) kk
end CALLS
/-- what a body's end owes -/
def RtI (K : KX) (WW : ST → va_W) (ret : Option FieldType) (post : Nat → ST → Prop) : Prop := kQ K = MQ (kb K) (QI (kD K) WW post (kA K)) (ka K) (ks K) (kce K) (ksl K) (kA K) ∧ (kt K).sig.returnType = ret
theorem CI_of {l : Launch} {D : va_G} {tys : List (ClassId × FieldType)} {WW : ST → va_W} {y : MethodName} {cy : ByteArray} {mL : Nat} {ret : Option FieldType} {lev : Nat} {av : List Value} {x : ST} {post : Nat → ST → Prop} (L0 : List (Option Value)) (hy : plainName y.cls = true) (hs : (lg_sl av).length ≤ mL) (hL : lv_args 0 av = lk 0 L0) (body : ∀ K : KX, CT K cy y.cls tys lev → RtI K WW ret post → kl K = l → kD K = D → kn K = mL → WA K (WW x) L0 0 []) : CI l D tys WW y cy mL ret lev av x post := by
  intro sz
  refine Met.ofW (cc := cy) (maxL := mL) (ret := ret) hy rfl ?_
  intro p e s m args below meth c s₁ B hml hv
  obtain ⟨rfl, hsz, hP, hK, hD0, hE⟩ := hv
  subst hsz
  have hts := atoms_spec (ws := .code y cy mL ret :: LG) B.pre
  have hl := lv_entry av (n := mL) hs
  rw [lg_entry_eq]
  generalize (lg_sl av ++ List.replicate (mL - (lg_sl av).length) Slot.unset).toArray = ls at hl ⊢
  rw [hL] at hl
  exact body ((p, l, e, (headSpec (.code y cy mL ret :: LG) (rmL lev)).room, s), (m, av.toArray, below, meth, c), (D, va_A (WW x) s.heap.size, mL, MQ below (QI D WW post (va_A (WW x) s.heap.size)) av.toArray s 0 0 (va_A (WW x) s.heap.size)), (0, 0)) ⟨B.exec, B.bytes, hml, findClass_of_methodNamed B.named, fun w hw => hts w (List.mem_cons_of_mem _ hw), hK, hE, fun q hq => Or.inr hq, B.notSynchronized, Nat.le_refl _, Nat.le_refl _, Nat.zero_le _, Nat.zero_le _⟩ ⟨rfl, B.returns⟩ rfl rfl rfl s.heap [] ls hP (hD0.self) va_S.rf hl
/-- what a body's end owes -/
def RtL (K : KX) (WW : ST → va_W) (ret : Option FieldType) (post : Nat → ST → Prop) : Prop := kQ K = MQ (kb K) (QL (kD K) WW post (kA K)) (ka K) (ks K) (kce K) (ksl K) (kA K) ∧ (kt K).sig.returnType = ret
theorem CL_of {l : Launch} {D : va_G} {tys : List (ClassId × FieldType)} {WW : ST → va_W} {y : MethodName} {cy : ByteArray} {mL : Nat} {ret : Option FieldType} {lev : Nat} {av : List Value} {x : ST} {post : Nat → ST → Prop} (L0 : List (Option Value)) (hy : plainName y.cls = true) (hs : (lg_sl av).length ≤ mL) (hL : lv_args 0 av = lk 0 L0) (body : ∀ K : KX, CT K cy y.cls tys lev → RtL K WW ret post → kl K = l → kD K = D → kn K = mL → WA K (WW x) L0 0 []) : CL l D tys WW y cy mL ret lev av x post := by
  intro sz
  refine Met.ofW (cc := cy) (maxL := mL) (ret := ret) hy rfl ?_
  intro p e s m args below meth c s₁ B hml hv
  obtain ⟨rfl, hsz, hP, hK, hD0, hE⟩ := hv
  subst hsz
  have hts := atoms_spec (ws := .code y cy mL ret :: LG) B.pre
  have hl := lv_entry av (n := mL) hs
  rw [lg_entry_eq]
  generalize (lg_sl av ++ List.replicate (mL - (lg_sl av).length) Slot.unset).toArray = ls at hl ⊢
  rw [hL] at hl
  exact body ((p, l, e, (headSpec (.code y cy mL ret :: LG) (rmL lev)).room, s), (m, av.toArray, below, meth, c), (D, va_A (WW x) s.heap.size, mL, MQ below (QL D WW post (va_A (WW x) s.heap.size)) av.toArray s 0 0 (va_A (WW x) s.heap.size)), (0, 0)) ⟨B.exec, B.bytes, hml, findClass_of_methodNamed B.named, fun w hw => hts w (List.mem_cons_of_mem _ hw), hK, hE, fun q hq => Or.inr hq, B.notSynchronized, Nat.le_refl _, Nat.le_refl _, Nat.zero_le _, Nat.zero_le _⟩ ⟨rfl, B.returns⟩ rfl rfl rfl s.heap [] ls hP (hD0.self) va_S.rf hl
/-- what a body's end owes -/
def RtD (K : KX) (WW : ST → va_W) (ret : Option FieldType) (post : UInt64 → ST → Prop) : Prop := kQ K = MQ (kb K) (QD (kD K) WW post (kA K)) (ka K) (ks K) (kce K) (ksl K) (kA K) ∧ (kt K).sig.returnType = ret
theorem CD_of {l : Launch} {D : va_G} {tys : List (ClassId × FieldType)} {WW : ST → va_W} {y : MethodName} {cy : ByteArray} {mL : Nat} {ret : Option FieldType} {lev : Nat} {av : List Value} {x : ST} {post : UInt64 → ST → Prop} (L0 : List (Option Value)) (hy : plainName y.cls = true) (hs : (lg_sl av).length ≤ mL) (hL : lv_args 0 av = lk 0 L0) (body : ∀ K : KX, CT K cy y.cls tys lev → RtD K WW ret post → kl K = l → kD K = D → kn K = mL → WA K (WW x) L0 0 []) : CD l D tys WW y cy mL ret lev av x post := by
  intro sz
  refine Met.ofW (cc := cy) (maxL := mL) (ret := ret) hy rfl ?_
  intro p e s m args below meth c s₁ B hml hv
  obtain ⟨rfl, hsz, hP, hK, hD0, hE⟩ := hv
  subst hsz
  have hts := atoms_spec (ws := .code y cy mL ret :: LG) B.pre
  have hl := lv_entry av (n := mL) hs
  rw [lg_entry_eq]
  generalize (lg_sl av ++ List.replicate (mL - (lg_sl av).length) Slot.unset).toArray = ls at hl ⊢
  rw [hL] at hl
  exact body ((p, l, e, (headSpec (.code y cy mL ret :: LG) (rmL lev)).room, s), (m, av.toArray, below, meth, c), (D, va_A (WW x) s.heap.size, mL, MQ below (QD D WW post (va_A (WW x) s.heap.size)) av.toArray s 0 0 (va_A (WW x) s.heap.size)), (0, 0)) ⟨B.exec, B.bytes, hml, findClass_of_methodNamed B.named, fun w hw => hts w (List.mem_cons_of_mem _ hw), hK, hE, fun q hq => Or.inr hq, B.notSynchronized, Nat.le_refl _, Nat.le_refl _, Nat.zero_le _, Nat.zero_le _⟩ ⟨rfl, B.returns⟩ rfl rfl rfl s.heap [] ls hP (hD0.self) va_S.rf hl
/-- what a body's end owes -/
def RtV (K : KX) (WW : ST → va_W) (ret : Option FieldType) (post : ST → Prop) : Prop := kQ K = MQ (kb K) (QV (kD K) WW post (kA K)) (ka K) (ks K) (kce K) (ksl K) (kA K) ∧ (kt K).sig.returnType = ret
theorem CV_of {l : Launch} {D : va_G} {tys : List (ClassId × FieldType)} {WW : ST → va_W} {y : MethodName} {cy : ByteArray} {mL : Nat} {ret : Option FieldType} {lev : Nat} {av : List Value} {x : ST} {post : ST → Prop} (L0 : List (Option Value)) (hy : plainName y.cls = true) (hs : (lg_sl av).length ≤ mL) (hL : lv_args 0 av = lk 0 L0) (body : ∀ K : KX, CT K cy y.cls tys lev → RtV K WW ret post → kl K = l → kD K = D → kn K = mL → WA K (WW x) L0 0 []) : CV l D tys WW y cy mL ret lev av x post := by
  intro sz
  refine Met.ofW (cc := cy) (maxL := mL) (ret := ret) hy rfl ?_
  intro p e s m args below meth c s₁ B hml hv
  obtain ⟨rfl, hsz, hP, hK, hD0, hE⟩ := hv
  subst hsz
  have hts := atoms_spec (ws := .code y cy mL ret :: LG) B.pre
  have hl := lv_entry av (n := mL) hs
  rw [lg_entry_eq]
  generalize (lg_sl av ++ List.replicate (mL - (lg_sl av).length) Slot.unset).toArray = ls at hl ⊢
  rw [hL] at hl
  exact body ((p, l, e, (headSpec (.code y cy mL ret :: LG) (rmL lev)).room, s), (m, av.toArray, below, meth, c), (D, va_A (WW x) s.heap.size, mL, MQ below (QV D WW post (va_A (WW x) s.heap.size)) av.toArray s 0 0 (va_A (WW x) s.heap.size)), (0, 0)) ⟨B.exec, B.bytes, hml, findClass_of_methodNamed B.named, fun w hw => hts w (List.mem_cons_of_mem _ hw), hK, hE, fun q hq => Or.inr hq, B.notSynchronized, Nat.le_refl _, Nat.le_refl _, Nat.zero_le _, Nat.zero_le _⟩ ⟨rfl, B.returns⟩ rfl rfl rfl s.heap [] ls hP (hD0.self) va_S.rf hl
section RETS
variable {K : KX} {cc : ByteArray} {own : String} {tys : List (ClassId × FieldType)} {WW : ST → va_W} {L : List (Option Value)} {pc lv : Nat}
theorem r_i {post : Nat → ST → Prop} {n : Nat} {u : ST} (C : CT K cc own tys lv) (E : RtI K WW (some .int) post) (d : decode cc pc = .ok (.ireturn, 1)) (hn : n < 4294967296) (h : post n u) : WA K (WW u) L pc [.int (nI n)] := fun H locs ls hP hD hS hl => by
  rw [E.1]
  exact W.iret C.1 C.2.1 E.2 (fun t ht hW => ⟨⟨nI n, u, rfl, ⟨n, rfl, hn, h⟩, by rw [ht]; exact hP, hD⟩, hS.F ht⟩) hS.2.2 d (hlocks := C.2.2.2.2.2.2.2.2.1)
theorem nar_zz {n : Nat} (h : n ≤ 1) : narrow .boolean (.int (nI n)) = .int (nI n) := by
  rcases (show n = 0 ∨ n = 1 by omega) with rfl | rfl <;> decide
theorem r_z {post : Nat → ST → Prop} {n : Nat} {u : ST} (C : CT K cc own tys lv) (E : RtI K WW (some .boolean) post) (d : decode cc pc = .ok (.ireturn, 1)) (hn : n ≤ 1) (h : post n u) : WA K (WW u) L pc [.int (nI n)] := fun H locs ls hP hD hS hl => by
  rw [E.1]
  exact W.zret C.1 C.2.1 E.2 (nar_zz hn) (fun t ht hW => ⟨⟨nI n, u, rfl, ⟨n, rfl, by omega, h⟩, by rw [ht]; exact hP, hD⟩, hS.F ht⟩) hS.2.2 d (hlocks := C.2.2.2.2.2.2.2.2.1)
theorem r_l {post : Nat → ST → Prop} {n : Nat} {u : ST} (C : CT K cc own tys lv) (E : RtL K WW (some .long) post) (d : decode cc pc = .ok (.lreturn, 1)) (hn : n < 9223372036854775808) (h : post n u) : WA K (WW u) L pc [.long (lN n)] := fun H locs ls hP hD hS hl => by
  rw [E.1]
  exact W.lret C.1 C.2.1 E.2 (fun t ht hW => ⟨⟨lN n, u, rfl, ⟨n, rfl, hn, h⟩, by rw [ht]; exact hP, hD⟩, hS.F ht⟩) hS.2.2 d (hlocks := C.2.2.2.2.2.2.2.2.1)
theorem r_d {post : UInt64 → ST → Prop} {n : UInt64} {u : ST} (C : CT K cc own tys lv) (E : RtD K WW (some .double) post) (d : decode cc pc = .ok (.dreturn, 1)) (h : post n u) : WA K (WW u) L pc [.double n] := fun H locs ls hP hD hS hl => by
  rw [E.1]
  exact W.dret C.1 C.2.1 E.2 (fun t ht hW => ⟨⟨n, u, rfl, h, by rw [ht]; exact hP, hD⟩, hS.F ht⟩) hS.2.2 d (hlocks := C.2.2.2.2.2.2.2.2.1)
theorem r_v {post : ST → Prop} {u : ST} (C : CT K cc own tys lv) (E : RtV K WW none post) (d : decode cc pc = .ok (.return_, 1)) (h : post u) : WA K (WW u) L pc [] := fun H locs ls hP hD hS hl => by
  rw [E.1]
  exact W.vret C.1 C.2.1 E.2 (fun t ht hW => ⟨⟨u, rfl, h, by rw [ht]; exact hP, hD⟩, hS.F ht⟩) hS.2.2 d (hlocks := C.2.2.2.2.2.2.2.2.1)
end RETS
end
section
theorem dC_init_0 : decode bC_init 0 = .ok (.aload_n 0, 1) := by decide +kernel
theorem dC_init_1 : decode bC_init 1 = .ok (.invokespecial 3, 3) := by decide +kernel
theorem dC_init_4 : decode bC_init 4 = .ok (.aload_n 0, 1) := by decide +kernel
theorem dC_init_5 : decode bC_init 5 = .ok (.sipush 1680, 3) := by decide +kernel
theorem dC_init_8 : decode bC_init 8 = .ok (.newarray .int, 2) := by decide +kernel
theorem dC_init_10 : decode bC_init 10 = .ok (.putfield 9, 3) := by decide +kernel
theorem dC_init_13 : decode bC_init 13 = .ok (.aload_n 0, 1) := by decide +kernel
theorem dC_init_14 : decode bC_init 14 = .ok (.sipush 1680, 3) := by decide +kernel
theorem dC_init_17 : decode bC_init 17 = .ok (.newarray .double, 2) := by decide +kernel
theorem dC_init_19 : decode bC_init 19 = .ok (.putfield 15, 3) := by decide +kernel
theorem dC_init_22 : decode bC_init 22 = .ok (.aload_n 0, 1) := by decide +kernel
theorem dC_init_23 : decode bC_init 23 = .ok (.sipush 1680, 3) := by decide +kernel
theorem dC_init_26 : decode bC_init 26 = .ok (.newarray .int, 2) := by decide +kernel
theorem dC_init_28 : decode bC_init 28 = .ok (.putfield 19, 3) := by decide +kernel
theorem dC_init_31 : decode bC_init 31 = .ok (.aload_n 0, 1) := by decide +kernel
theorem dC_init_32 : decode bC_init 32 = .ok (.sipush 6720, 3) := by decide +kernel
theorem dC_init_35 : decode bC_init 35 = .ok (.newarray .int, 2) := by decide +kernel
theorem dC_init_37 : decode bC_init 37 = .ok (.putfield 22, 3) := by decide +kernel
theorem dC_init_40 : decode bC_init 40 = .ok (.aload_n 0, 1) := by decide +kernel
theorem dC_init_41 : decode bC_init 41 = .ok (.sipush 6720, 3) := by decide +kernel
theorem dC_init_44 : decode bC_init 44 = .ok (.newarray .int, 2) := by decide +kernel
theorem dC_init_46 : decode bC_init 46 = .ok (.putfield 25, 3) := by decide +kernel
theorem dC_init_49 : decode bC_init 49 = .ok (.aload_n 0, 1) := by decide +kernel
theorem dC_init_50 : decode bC_init 50 = .ok (.bipush 6, 2) := by decide +kernel
theorem dC_init_52 : decode bC_init 52 = .ok (.newarray .int, 2) := by decide +kernel
theorem dC_init_54 : decode bC_init 54 = .ok (.putfield 28, 3) := by decide +kernel
theorem dC_init_57 : decode bC_init 57 = .ok (.aload_n 0, 1) := by decide +kernel
theorem dC_init_58 : decode bC_init 58 = .ok (.iconst 4, 1) := by decide +kernel
theorem dC_init_59 : decode bC_init 59 = .ok (.newarray .int, 2) := by decide +kernel
theorem dC_init_61 : decode bC_init 61 = .ok (.putfield 31, 3) := by decide +kernel
theorem dC_init_64 : decode bC_init 64 = .ok (.return_, 1) := by decide +kernel
theorem dC_fill_0 : decode bC_fill 0 = .ok (.aload_n 1, 1) := by decide +kernel
theorem dC_fill_1 : decode bC_fill 1 = .ok (.aload_n 0, 1) := by decide +kernel
theorem dC_fill_2 : decode bC_fill 2 = .ok (.getfield 28, 3) := by decide +kernel
theorem dC_fill_5 : decode bC_fill 5 = .ok (.invokevirtual 34, 3) := by decide +kernel
theorem dC_fill_8 : decode bC_fill 8 = .ok (.iconst 1, 1) := by decide +kernel
theorem dC_fill_9 : decode bC_fill 9 = .ok (.istore_n 3, 1) := by decide +kernel
theorem dC_fill_10 : decode bC_fill 10 = .ok (.iload_n 3, 1) := by decide +kernel
theorem dC_fill_11 : decode bC_fill 11 = .ok (.aload_n 2, 1) := by decide +kernel
theorem dC_fill_12 : decode bC_fill 12 = .ok (.invokevirtual 40, 3) := by decide +kernel
theorem dC_fill_15 : decode bC_fill 15 = .ok (.if_icmp .gt (41), 3) := by decide +kernel
theorem dC_fill_18 : decode bC_fill 18 = .ok (.iconst 0, 1) := by decide +kernel
theorem dC_fill_19 : decode bC_fill 19 = .ok (.istore 4, 2) := by decide +kernel
theorem dC_fill_21 : decode bC_fill 21 = .ok (.iload 4, 2) := by decide +kernel
theorem dC_fill_23 : decode bC_fill 23 = .ok (.iload_n 3, 1) := by decide +kernel
theorem dC_fill_24 : decode bC_fill 24 = .ok (.iadd, 1) := by decide +kernel
theorem dC_fill_25 : decode bC_fill 25 = .ok (.aload_n 2, 1) := by decide +kernel
theorem dC_fill_26 : decode bC_fill 26 = .ok (.invokevirtual 40, 3) := by decide +kernel
theorem dC_fill_29 : decode bC_fill 29 = .ok (.if_icmp .gt (21), 3) := by decide +kernel
theorem dC_fill_32 : decode bC_fill 32 = .ok (.aload_n 0, 1) := by decide +kernel
theorem dC_fill_33 : decode bC_fill 33 = .ok (.aload_n 1, 1) := by decide +kernel
theorem dC_fill_34 : decode bC_fill 34 = .ok (.aload_n 2, 1) := by decide +kernel
theorem dC_fill_35 : decode bC_fill 35 = .ok (.iload 4, 2) := by decide +kernel
theorem dC_fill_37 : decode bC_fill 37 = .ok (.iload 4, 2) := by decide +kernel
theorem dC_fill_39 : decode bC_fill 39 = .ok (.iload_n 3, 1) := by decide +kernel
theorem dC_fill_40 : decode bC_fill 40 = .ok (.iadd, 1) := by decide +kernel
theorem dC_fill_41 : decode bC_fill 41 = .ok (.invokevirtual 46, 3) := by decide +kernel
theorem dC_fill_44 : decode bC_fill 44 = .ok (.iinc 4 (1), 3) := by decide +kernel
theorem dC_fill_47 : decode bC_fill 47 = .ok (.goto (-26), 3) := by decide +kernel
theorem dC_fill_50 : decode bC_fill 50 = .ok (.iinc 3 (1), 3) := by decide +kernel
theorem dC_fill_53 : decode bC_fill 53 = .ok (.goto (-43), 3) := by decide +kernel
theorem dC_fill_56 : decode bC_fill 56 = .ok (.return_, 1) := by decide +kernel
theorem dC_fillSpan_0 : decode bC_fillSpan 0 = .ok (.aload_n 0, 1) := by decide +kernel
theorem dC_fillSpan_1 : decode bC_fillSpan 1 = .ok (.aload_n 1, 1) := by decide +kernel
theorem dC_fillSpan_2 : decode bC_fillSpan 2 = .ok (.aload_n 2, 1) := by decide +kernel
theorem dC_fillSpan_3 : decode bC_fillSpan 3 = .ok (.iload_n 3, 1) := by decide +kernel
theorem dC_fillSpan_4 : decode bC_fillSpan 4 = .ok (.iload 4, 2) := by decide +kernel
theorem dC_fillSpan_6 : decode bC_fillSpan 6 = .ok (.invokevirtual 50, 3) := by decide +kernel
theorem dC_fillSpan_9 : decode bC_fillSpan 9 = .ok (.iconst 0, 1) := by decide +kernel
theorem dC_fillSpan_10 : decode bC_fillSpan 10 = .ok (.istore 5, 2) := by decide +kernel
theorem dC_fillSpan_12 : decode bC_fillSpan 12 = .ok (.iload 5, 2) := by decide +kernel
theorem dC_fillSpan_14 : decode bC_fillSpan 14 = .ok (.bipush 6, 2) := by decide +kernel
theorem dC_fillSpan_16 : decode bC_fillSpan 16 = .ok (.if_icmp .ge (122), 3) := by decide +kernel
theorem dC_fillSpan_19 : decode bC_fillSpan 19 = .ok (.aload_n 0, 1) := by decide +kernel
theorem dC_fillSpan_20 : decode bC_fillSpan 20 = .ok (.getfield 28, 3) := by decide +kernel
theorem dC_fillSpan_23 : decode bC_fillSpan 23 = .ok (.iload 5, 2) := by decide +kernel
theorem dC_fillSpan_25 : decode bC_fillSpan 25 = .ok (.iaload, 1) := by decide +kernel
theorem dC_fillSpan_26 : decode bC_fillSpan 26 = .ok (.istore 6, 2) := by decide +kernel
theorem dC_fillSpan_28 : decode bC_fillSpan 28 = .ok (.iconst 0, 1) := by decide +kernel
theorem dC_fillSpan_29 : decode bC_fillSpan 29 = .ok (.istore 7, 2) := by decide +kernel
theorem dC_fillSpan_31 : decode bC_fillSpan 31 = .ok (.iload 7, 2) := by decide +kernel
theorem dC_fillSpan_33 : decode bC_fillSpan 33 = .ok (.aload_n 1, 1) := by decide +kernel
theorem dC_fillSpan_34 : decode bC_fillSpan 34 = .ok (.invokevirtual 53, 3) := by decide +kernel
theorem dC_fillSpan_37 : decode bC_fillSpan 37 = .ok (.if_icmp .ge (30), 3) := by decide +kernel
theorem dC_fillSpan_40 : decode bC_fillSpan 40 = .ok (.aload_n 1, 1) := by decide +kernel
theorem dC_fillSpan_41 : decode bC_fillSpan 41 = .ok (.iload 7, 2) := by decide +kernel
theorem dC_fillSpan_43 : decode bC_fillSpan 43 = .ok (.invokevirtual 56, 3) := by decide +kernel
theorem dC_fillSpan_46 : decode bC_fillSpan 46 = .ok (.iload 6, 2) := by decide +kernel
theorem dC_fillSpan_48 : decode bC_fillSpan 48 = .ok (.if_icmp .ne (13), 3) := by decide +kernel
theorem dC_fillSpan_51 : decode bC_fillSpan 51 = .ok (.aload_n 0, 1) := by decide +kernel
theorem dC_fillSpan_52 : decode bC_fillSpan 52 = .ok (.aload_n 1, 1) := by decide +kernel
theorem dC_fillSpan_53 : decode bC_fillSpan 53 = .ok (.iload 7, 2) := by decide +kernel
theorem dC_fillSpan_55 : decode bC_fillSpan 55 = .ok (.iload_n 3, 1) := by decide +kernel
theorem dC_fillSpan_56 : decode bC_fillSpan 56 = .ok (.iload 4, 2) := by decide +kernel
theorem dC_fillSpan_58 : decode bC_fillSpan 58 = .ok (.invokevirtual 60, 3) := by decide +kernel
theorem dC_fillSpan_61 : decode bC_fillSpan 61 = .ok (.iinc 7 (1), 3) := by decide +kernel
theorem dC_fillSpan_64 : decode bC_fillSpan 64 = .ok (.goto (-33), 3) := by decide +kernel
theorem dC_fillSpan_67 : decode bC_fillSpan 67 = .ok (.iload_n 3, 1) := by decide +kernel
theorem dC_fillSpan_68 : decode bC_fillSpan 68 = .ok (.iload 4, 2) := by decide +kernel
theorem dC_fillSpan_70 : decode bC_fillSpan 70 = .ok (.invokestatic 64, 3) := by decide +kernel
theorem dC_fillSpan_73 : decode bC_fillSpan 73 = .ok (.istore 7, 2) := by decide +kernel
theorem dC_fillSpan_75 : decode bC_fillSpan 75 = .ok (.aload_n 0, 1) := by decide +kernel
theorem dC_fillSpan_76 : decode bC_fillSpan 76 = .ok (.aload_n 1, 1) := by decide +kernel
theorem dC_fillSpan_77 : decode bC_fillSpan 77 = .ok (.iload 6, 2) := by decide +kernel
theorem dC_fillSpan_79 : decode bC_fillSpan 79 = .ok (.invokevirtual 68, 3) := by decide +kernel
theorem dC_fillSpan_82 : decode bC_fillSpan 82 = .ok (.iload 7, 2) := by decide +kernel
theorem dC_fillSpan_84 : decode bC_fillSpan 84 = .ok (.invokevirtual 71, 3) := by decide +kernel
theorem dC_fillSpan_87 : decode bC_fillSpan 87 = .ok (.ifCond .ne (31), 3) := by decide +kernel
theorem dC_fillSpan_90 : decode bC_fillSpan 90 = .ok (.iload 4, 2) := by decide +kernel
theorem dC_fillSpan_92 : decode bC_fillSpan 92 = .ok (.aload_n 2, 1) := by decide +kernel
theorem dC_fillSpan_93 : decode bC_fillSpan 93 = .ok (.invokevirtual 40, 3) := by decide +kernel
theorem dC_fillSpan_96 : decode bC_fillSpan 96 = .ok (.if_icmp .eq (18), 3) := by decide +kernel
theorem dC_fillSpan_99 : decode bC_fillSpan 99 = .ok (.aload_n 1, 1) := by decide +kernel
theorem dC_fillSpan_100 : decode bC_fillSpan 100 = .ok (.iload 6, 2) := by decide +kernel
theorem dC_fillSpan_102 : decode bC_fillSpan 102 = .ok (.aload_n 2, 1) := by decide +kernel
theorem dC_fillSpan_103 : decode bC_fillSpan 103 = .ok (.iload 4, 2) := by decide +kernel
theorem dC_fillSpan_105 : decode bC_fillSpan 105 = .ok (.invokevirtual 74, 3) := by decide +kernel
theorem dC_fillSpan_108 : decode bC_fillSpan 108 = .ok (.invokevirtual 77, 3) := by decide +kernel
theorem dC_fillSpan_111 : decode bC_fillSpan 111 = .ok (.ifCond .eq (7), 3) := by decide +kernel
theorem dC_fillSpan_114 : decode bC_fillSpan 114 = .ok (.iconst 1, 1) := by decide +kernel
theorem dC_fillSpan_115 : decode bC_fillSpan 115 = .ok (.goto (4), 3) := by decide +kernel
theorem dC_fillSpan_118 : decode bC_fillSpan 118 = .ok (.iconst 0, 1) := by decide +kernel
theorem dC_fillSpan_119 : decode bC_fillSpan 119 = .ok (.istore 8, 2) := by decide +kernel
theorem dC_fillSpan_121 : decode bC_fillSpan 121 = .ok (.aload_n 0, 1) := by decide +kernel
theorem dC_fillSpan_122 : decode bC_fillSpan 122 = .ok (.aload_n 1, 1) := by decide +kernel
theorem dC_fillSpan_123 : decode bC_fillSpan 123 = .ok (.iload 6, 2) := by decide +kernel
theorem dC_fillSpan_125 : decode bC_fillSpan 125 = .ok (.iload 7, 2) := by decide +kernel
theorem dC_fillSpan_127 : decode bC_fillSpan 127 = .ok (.iload 8, 2) := by decide +kernel
theorem dC_fillSpan_129 : decode bC_fillSpan 129 = .ok (.invokevirtual 81, 3) := by decide +kernel
theorem dC_fillSpan_132 : decode bC_fillSpan 132 = .ok (.iinc 5 (1), 3) := by decide +kernel
theorem dC_fillSpan_135 : decode bC_fillSpan 135 = .ok (.goto (-123), 3) := by decide +kernel
theorem dC_fillSpan_138 : decode bC_fillSpan 138 = .ok (.return_, 1) := by decide +kernel
theorem dC_settleCharacters_0 : decode bC_settleCharacters 0 = .ok (.iload_n 3, 1) := by decide +kernel
theorem dC_settleCharacters_1 : decode bC_settleCharacters 1 = .ok (.iload 4, 2) := by decide +kernel
theorem dC_settleCharacters_3 : decode bC_settleCharacters 3 = .ok (.invokestatic 64, 3) := by decide +kernel
theorem dC_settleCharacters_6 : decode bC_settleCharacters 6 = .ok (.istore 5, 2) := by decide +kernel
theorem dC_settleCharacters_8 : decode bC_settleCharacters 8 = .ok (.iconst 0, 1) := by decide +kernel
theorem dC_settleCharacters_9 : decode bC_settleCharacters 9 = .ok (.istore 6, 2) := by decide +kernel
theorem dC_settleCharacters_11 : decode bC_settleCharacters 11 = .ok (.iload 6, 2) := by decide +kernel
theorem dC_settleCharacters_13 : decode bC_settleCharacters 13 = .ok (.aload_n 1, 1) := by decide +kernel
theorem dC_settleCharacters_14 : decode bC_settleCharacters 14 = .ok (.invokevirtual 53, 3) := by decide +kernel
theorem dC_settleCharacters_17 : decode bC_settleCharacters 17 = .ok (.if_icmp .ge (111), 3) := by decide +kernel
theorem dC_settleCharacters_20 : decode bC_settleCharacters 20 = .ok (.iconst 0, 1) := by decide +kernel
theorem dC_settleCharacters_21 : decode bC_settleCharacters 21 = .ok (.istore 7, 2) := by decide +kernel
theorem dC_settleCharacters_23 : decode bC_settleCharacters 23 = .ok (.iload 7, 2) := by decide +kernel
theorem dC_settleCharacters_25 : decode bC_settleCharacters 25 = .ok (.aload_n 1, 1) := by decide +kernel
theorem dC_settleCharacters_26 : decode bC_settleCharacters 26 = .ok (.iload 6, 2) := by decide +kernel
theorem dC_settleCharacters_28 : decode bC_settleCharacters 28 = .ok (.invokevirtual 85, 3) := by decide +kernel
theorem dC_settleCharacters_31 : decode bC_settleCharacters 31 = .ok (.if_icmp .ge (91), 3) := by decide +kernel
theorem dC_settleCharacters_34 : decode bC_settleCharacters 34 = .ok (.aload_n 1, 1) := by decide +kernel
theorem dC_settleCharacters_35 : decode bC_settleCharacters 35 = .ok (.iload 6, 2) := by decide +kernel
theorem dC_settleCharacters_37 : decode bC_settleCharacters 37 = .ok (.iload 7, 2) := by decide +kernel
theorem dC_settleCharacters_39 : decode bC_settleCharacters 39 = .ok (.invokevirtual 88, 3) := by decide +kernel
theorem dC_settleCharacters_42 : decode bC_settleCharacters 42 = .ok (.iconst (-1), 1) := by decide +kernel
theorem dC_settleCharacters_43 : decode bC_settleCharacters 43 = .ok (.if_icmp .ne (73), 3) := by decide +kernel
theorem dC_settleCharacters_46 : decode bC_settleCharacters 46 = .ok (.iload 4, 2) := by decide +kernel
theorem dC_settleCharacters_48 : decode bC_settleCharacters 48 = .ok (.iload_n 3, 1) := by decide +kernel
theorem dC_settleCharacters_49 : decode bC_settleCharacters 49 = .ok (.isub, 1) := by decide +kernel
theorem dC_settleCharacters_50 : decode bC_settleCharacters 50 = .ok (.iconst 1, 1) := by decide +kernel
theorem dC_settleCharacters_51 : decode bC_settleCharacters 51 = .ok (.if_icmp .ne (23), 3) := by decide +kernel
theorem dC_settleCharacters_54 : decode bC_settleCharacters 54 = .ok (.aload_n 1, 1) := by decide +kernel
theorem dC_settleCharacters_55 : decode bC_settleCharacters 55 = .ok (.iload 6, 2) := by decide +kernel
theorem dC_settleCharacters_57 : decode bC_settleCharacters 57 = .ok (.iload 7, 2) := by decide +kernel
theorem dC_settleCharacters_59 : decode bC_settleCharacters 59 = .ok (.aload_n 2, 1) := by decide +kernel
theorem dC_settleCharacters_60 : decode bC_settleCharacters 60 = .ok (.iload_n 3, 1) := by decide +kernel
theorem dC_settleCharacters_61 : decode bC_settleCharacters 61 = .ok (.invokevirtual 74, 3) := by decide +kernel
theorem dC_settleCharacters_64 : decode bC_settleCharacters 64 = .ok (.invokevirtual 91, 3) := by decide +kernel
theorem dC_settleCharacters_67 : decode bC_settleCharacters 67 = .ok (.ifCond .eq (7), 3) := by decide +kernel
theorem dC_settleCharacters_70 : decode bC_settleCharacters 70 = .ok (.iconst 1, 1) := by decide +kernel
theorem dC_settleCharacters_71 : decode bC_settleCharacters 71 = .ok (.goto (4), 3) := by decide +kernel
theorem dC_settleCharacters_74 : decode bC_settleCharacters 74 = .ok (.iconst 0, 1) := by decide +kernel
theorem dC_settleCharacters_75 : decode bC_settleCharacters 75 = .ok (.istore 8, 2) := by decide +kernel
theorem dC_settleCharacters_77 : decode bC_settleCharacters 77 = .ok (.aload_n 0, 1) := by decide +kernel
theorem dC_settleCharacters_78 : decode bC_settleCharacters 78 = .ok (.getfield 22, 3) := by decide +kernel
theorem dC_settleCharacters_81 : decode bC_settleCharacters 81 = .ok (.iload 6, 2) := by decide +kernel
theorem dC_settleCharacters_83 : decode bC_settleCharacters 83 = .ok (.iload 7, 2) := by decide +kernel
theorem dC_settleCharacters_85 : decode bC_settleCharacters 85 = .ok (.iload 5, 2) := by decide +kernel
theorem dC_settleCharacters_87 : decode bC_settleCharacters 87 = .ok (.invokestatic 95, 3) := by decide +kernel
theorem dC_settleCharacters_90 : decode bC_settleCharacters 90 = .ok (.iload 8, 2) := by decide +kernel
theorem dC_settleCharacters_92 : decode bC_settleCharacters 92 = .ok (.ifCond .eq (7), 3) := by decide +kernel
theorem dC_settleCharacters_95 : decode bC_settleCharacters 95 = .ok (.iconst 1, 1) := by decide +kernel
theorem dC_settleCharacters_96 : decode bC_settleCharacters 96 = .ok (.goto (4), 3) := by decide +kernel
theorem dC_settleCharacters_99 : decode bC_settleCharacters 99 = .ok (.iconst 0, 1) := by decide +kernel
theorem dC_settleCharacters_100 : decode bC_settleCharacters 100 = .ok (.iastore, 1) := by decide +kernel
theorem dC_settleCharacters_101 : decode bC_settleCharacters 101 = .ok (.aload_n 0, 1) := by decide +kernel
theorem dC_settleCharacters_102 : decode bC_settleCharacters 102 = .ok (.getfield 25, 3) := by decide +kernel
theorem dC_settleCharacters_105 : decode bC_settleCharacters 105 = .ok (.iload 6, 2) := by decide +kernel
theorem dC_settleCharacters_107 : decode bC_settleCharacters 107 = .ok (.iload 7, 2) := by decide +kernel
theorem dC_settleCharacters_109 : decode bC_settleCharacters 109 = .ok (.iload 5, 2) := by decide +kernel
theorem dC_settleCharacters_111 : decode bC_settleCharacters 111 = .ok (.invokestatic 95, 3) := by decide +kernel
theorem dC_settleCharacters_114 : decode bC_settleCharacters 114 = .ok (.iconst (-1), 1) := by decide +kernel
theorem dC_settleCharacters_115 : decode bC_settleCharacters 115 = .ok (.iastore, 1) := by decide +kernel
theorem dC_settleCharacters_116 : decode bC_settleCharacters 116 = .ok (.iinc 7 (1), 3) := by decide +kernel
theorem dC_settleCharacters_119 : decode bC_settleCharacters 119 = .ok (.goto (-96), 3) := by decide +kernel
theorem dC_settleCharacters_122 : decode bC_settleCharacters 122 = .ok (.iinc 6 (1), 3) := by decide +kernel
theorem dC_settleCharacters_125 : decode bC_settleCharacters 125 = .ok (.goto (-114), 3) := by decide +kernel
theorem dC_settleCharacters_128 : decode bC_settleCharacters 128 = .ok (.return_, 1) := by decide +kernel
theorem dC_settleNonterminal_0 : decode bC_settleNonterminal 0 = .ok (.iload 4, 2) := by decide +kernel
theorem dC_settleNonterminal_2 : decode bC_settleNonterminal 2 = .ok (.ifCond .eq (11), 3) := by decide +kernel
theorem dC_settleNonterminal_5 : decode bC_settleNonterminal 5 = .ok (.aload_n 1, 1) := by decide +kernel
theorem dC_settleNonterminal_6 : decode bC_settleNonterminal 6 = .ok (.iload_n 2, 1) := by decide +kernel
theorem dC_settleNonterminal_7 : decode bC_settleNonterminal 7 = .ok (.invokevirtual 99, 3) := by decide +kernel
theorem dC_settleNonterminal_10 : decode bC_settleNonterminal 10 = .ok (.goto (4), 3) := by decide +kernel
theorem dC_settleNonterminal_13 : decode bC_settleNonterminal 13 = .ok (.iconst 0, 1) := by decide +kernel
theorem dC_settleNonterminal_14 : decode bC_settleNonterminal 14 = .ok (.istore 5, 2) := by decide +kernel
theorem dC_settleNonterminal_16 : decode bC_settleNonterminal 16 = .ok (.iconst 0, 1) := by decide +kernel
theorem dC_settleNonterminal_17 : decode bC_settleNonterminal 17 = .ok (.istore 6, 2) := by decide +kernel
theorem dC_settleNonterminal_19 : decode bC_settleNonterminal 19 = .ok (.iload 6, 2) := by decide +kernel
theorem dC_settleNonterminal_21 : decode bC_settleNonterminal 21 = .ok (.aload_n 1, 1) := by decide +kernel
theorem dC_settleNonterminal_22 : decode bC_settleNonterminal 22 = .ok (.invokevirtual 53, 3) := by decide +kernel
theorem dC_settleNonterminal_25 : decode bC_settleNonterminal 25 = .ok (.if_icmp .ge (93), 3) := by decide +kernel
theorem dC_settleNonterminal_28 : decode bC_settleNonterminal 28 = .ok (.iconst 0, 1) := by decide +kernel
theorem dC_settleNonterminal_29 : decode bC_settleNonterminal 29 = .ok (.istore 7, 2) := by decide +kernel
theorem dC_settleNonterminal_31 : decode bC_settleNonterminal 31 = .ok (.iload 7, 2) := by decide +kernel
theorem dC_settleNonterminal_33 : decode bC_settleNonterminal 33 = .ok (.aload_n 1, 1) := by decide +kernel
theorem dC_settleNonterminal_34 : decode bC_settleNonterminal 34 = .ok (.iload 6, 2) := by decide +kernel
theorem dC_settleNonterminal_36 : decode bC_settleNonterminal 36 = .ok (.invokevirtual 85, 3) := by decide +kernel
theorem dC_settleNonterminal_39 : decode bC_settleNonterminal 39 = .ok (.if_icmp .ge (73), 3) := by decide +kernel
theorem dC_settleNonterminal_42 : decode bC_settleNonterminal 42 = .ok (.aload_n 1, 1) := by decide +kernel
theorem dC_settleNonterminal_43 : decode bC_settleNonterminal 43 = .ok (.iload 6, 2) := by decide +kernel
theorem dC_settleNonterminal_45 : decode bC_settleNonterminal 45 = .ok (.iload 7, 2) := by decide +kernel
theorem dC_settleNonterminal_47 : decode bC_settleNonterminal 47 = .ok (.invokevirtual 88, 3) := by decide +kernel
theorem dC_settleNonterminal_50 : decode bC_settleNonterminal 50 = .ok (.iload_n 2, 1) := by decide +kernel
theorem dC_settleNonterminal_51 : decode bC_settleNonterminal 51 = .ok (.if_icmp .ne (55), 3) := by decide +kernel
theorem dC_settleNonterminal_54 : decode bC_settleNonterminal 54 = .ok (.aload_n 1, 1) := by decide +kernel
theorem dC_settleNonterminal_55 : decode bC_settleNonterminal 55 = .ok (.iload 6, 2) := by decide +kernel
theorem dC_settleNonterminal_57 : decode bC_settleNonterminal 57 = .ok (.iload 7, 2) := by decide +kernel
theorem dC_settleNonterminal_59 : decode bC_settleNonterminal 59 = .ok (.iload 5, 2) := by decide +kernel
theorem dC_settleNonterminal_61 : decode bC_settleNonterminal 61 = .ok (.invokevirtual 102, 3) := by decide +kernel
theorem dC_settleNonterminal_64 : decode bC_settleNonterminal 64 = .ok (.istore 8, 2) := by decide +kernel
theorem dC_settleNonterminal_66 : decode bC_settleNonterminal 66 = .ok (.aload_n 0, 1) := by decide +kernel
theorem dC_settleNonterminal_67 : decode bC_settleNonterminal 67 = .ok (.getfield 22, 3) := by decide +kernel
theorem dC_settleNonterminal_70 : decode bC_settleNonterminal 70 = .ok (.iload 6, 2) := by decide +kernel
theorem dC_settleNonterminal_72 : decode bC_settleNonterminal 72 = .ok (.iload 7, 2) := by decide +kernel
theorem dC_settleNonterminal_74 : decode bC_settleNonterminal 74 = .ok (.iload_n 3, 1) := by decide +kernel
theorem dC_settleNonterminal_75 : decode bC_settleNonterminal 75 = .ok (.invokestatic 95, 3) := by decide +kernel
theorem dC_settleNonterminal_78 : decode bC_settleNonterminal 78 = .ok (.aload_n 0, 1) := by decide +kernel
theorem dC_settleNonterminal_79 : decode bC_settleNonterminal 79 = .ok (.iload 8, 2) := by decide +kernel
theorem dC_settleNonterminal_81 : decode bC_settleNonterminal 81 = .ok (.iload_n 3, 1) := by decide +kernel
theorem dC_settleNonterminal_82 : decode bC_settleNonterminal 82 = .ok (.invokevirtual 71, 3) := by decide +kernel
theorem dC_settleNonterminal_85 : decode bC_settleNonterminal 85 = .ok (.iastore, 1) := by decide +kernel
theorem dC_settleNonterminal_86 : decode bC_settleNonterminal 86 = .ok (.aload_n 0, 1) := by decide +kernel
theorem dC_settleNonterminal_87 : decode bC_settleNonterminal 87 = .ok (.getfield 25, 3) := by decide +kernel
theorem dC_settleNonterminal_90 : decode bC_settleNonterminal 90 = .ok (.iload 6, 2) := by decide +kernel
theorem dC_settleNonterminal_92 : decode bC_settleNonterminal 92 = .ok (.iload 7, 2) := by decide +kernel
theorem dC_settleNonterminal_94 : decode bC_settleNonterminal 94 = .ok (.iload_n 3, 1) := by decide +kernel
theorem dC_settleNonterminal_95 : decode bC_settleNonterminal 95 = .ok (.invokestatic 95, 3) := by decide +kernel
theorem dC_settleNonterminal_98 : decode bC_settleNonterminal 98 = .ok (.aload_n 0, 1) := by decide +kernel
theorem dC_settleNonterminal_99 : decode bC_settleNonterminal 99 = .ok (.iload 8, 2) := by decide +kernel
theorem dC_settleNonterminal_101 : decode bC_settleNonterminal 101 = .ok (.iload_n 3, 1) := by decide +kernel
theorem dC_settleNonterminal_102 : decode bC_settleNonterminal 102 = .ok (.invokevirtual 105, 3) := by decide +kernel
theorem dC_settleNonterminal_105 : decode bC_settleNonterminal 105 = .ok (.iastore, 1) := by decide +kernel
theorem dC_settleNonterminal_106 : decode bC_settleNonterminal 106 = .ok (.iinc 7 (1), 3) := by decide +kernel
theorem dC_settleNonterminal_109 : decode bC_settleNonterminal 109 = .ok (.goto (-78), 3) := by decide +kernel
theorem dC_settleNonterminal_112 : decode bC_settleNonterminal 112 = .ok (.iinc 6 (1), 3) := by decide +kernel
theorem dC_settleNonterminal_115 : decode bC_settleNonterminal 115 = .ok (.goto (-96), 3) := by decide +kernel
theorem dC_settleNonterminal_118 : decode bC_settleNonterminal 118 = .ok (.return_, 1) := by decide +kernel
theorem dC_deriveRule_0 : decode bC_deriveRule 0 = .ok (.aload_n 1, 1) := by decide +kernel
theorem dC_deriveRule_1 : decode bC_deriveRule 1 = .ok (.iload_n 2, 1) := by decide +kernel
theorem dC_deriveRule_2 : decode bC_deriveRule 2 = .ok (.invokevirtual 85, 3) := by decide +kernel
theorem dC_deriveRule_5 : decode bC_deriveRule 5 = .ok (.istore 5, 2) := by decide +kernel
theorem dC_deriveRule_7 : decode bC_deriveRule 7 = .ok (.lconst 0, 1) := by decide +kernel
theorem dC_deriveRule_8 : decode bC_deriveRule 8 = .ok (.lstore 6, 2) := by decide +kernel
theorem dC_deriveRule_10 : decode bC_deriveRule 10 = .ok (.dconst 0, 1) := by decide +kernel
theorem dC_deriveRule_11 : decode bC_deriveRule 11 = .ok (.dstore 8, 2) := by decide +kernel
theorem dC_deriveRule_13 : decode bC_deriveRule 13 = .ok (.iconst 0, 1) := by decide +kernel
theorem dC_deriveRule_14 : decode bC_deriveRule 14 = .ok (.istore 10, 2) := by decide +kernel
theorem dC_deriveRule_16 : decode bC_deriveRule 16 = .ok (.aload_n 0, 1) := by decide +kernel
theorem dC_deriveRule_17 : decode bC_deriveRule 17 = .ok (.iload 5, 2) := by decide +kernel
theorem dC_deriveRule_19 : decode bC_deriveRule 19 = .ok (.iload_n 3, 1) := by decide +kernel
theorem dC_deriveRule_20 : decode bC_deriveRule 20 = .ok (.iload 4, 2) := by decide +kernel
theorem dC_deriveRule_22 : decode bC_deriveRule 22 = .ok (.invokevirtual 108, 3) := by decide +kernel
theorem dC_deriveRule_25 : decode bC_deriveRule 25 = .ok (.istore 11, 2) := by decide +kernel
theorem dC_deriveRule_27 : decode bC_deriveRule 27 = .ok (.iconst 0, 1) := by decide +kernel
theorem dC_deriveRule_28 : decode bC_deriveRule 28 = .ok (.istore 12, 2) := by decide +kernel
theorem dC_deriveRule_30 : decode bC_deriveRule 30 = .ok (.iload 12, 2) := by decide +kernel
theorem dC_deriveRule_32 : decode bC_deriveRule 32 = .ok (.sipush 286, 3) := by decide +kernel
theorem dC_deriveRule_35 : decode bC_deriveRule 35 = .ok (.if_icmp .ge (89), 3) := by decide +kernel
theorem dC_deriveRule_38 : decode bC_deriveRule 38 = .ok (.iload 11, 2) := by decide +kernel
theorem dC_deriveRule_40 : decode bC_deriveRule 40 = .ok (.ifCond .eq (84), 3) := by decide +kernel
theorem dC_deriveRule_43 : decode bC_deriveRule 43 = .ok (.aload_n 0, 1) := by decide +kernel
theorem dC_deriveRule_44 : decode bC_deriveRule 44 = .ok (.iload_n 2, 1) := by decide +kernel
theorem dC_deriveRule_45 : decode bC_deriveRule 45 = .ok (.iload 5, 2) := by decide +kernel
theorem dC_deriveRule_47 : decode bC_deriveRule 47 = .ok (.iload_n 3, 1) := by decide +kernel
theorem dC_deriveRule_48 : decode bC_deriveRule 48 = .ok (.invokevirtual 111, 3) := by decide +kernel
theorem dC_deriveRule_51 : decode bC_deriveRule 51 = .ok (.lstore 13, 2) := by decide +kernel
theorem dC_deriveRule_53 : decode bC_deriveRule 53 = .ok (.lload 13, 2) := by decide +kernel
theorem dC_deriveRule_55 : decode bC_deriveRule 55 = .ok (.lconst 0, 1) := by decide +kernel
theorem dC_deriveRule_56 : decode bC_deriveRule 56 = .ok (.lcmp, 1) := by decide +kernel
theorem dC_deriveRule_57 : decode bC_deriveRule 57 = .ok (.ifCond .le (51), 3) := by decide +kernel
theorem dC_deriveRule_60 : decode bC_deriveRule 60 = .ok (.ldc2_w 115, 3) := by decide +kernel
theorem dC_deriveRule_63 : decode bC_deriveRule 63 = .ok (.lload 6, 2) := by decide +kernel
theorem dC_deriveRule_65 : decode bC_deriveRule 65 = .ok (.lload 13, 2) := by decide +kernel
theorem dC_deriveRule_67 : decode bC_deriveRule 67 = .ok (.ladd, 1) := by decide +kernel
theorem dC_deriveRule_68 : decode bC_deriveRule 68 = .ok (.invokestatic 117, 3) := by decide +kernel
theorem dC_deriveRule_71 : decode bC_deriveRule 71 = .ok (.lstore 6, 2) := by decide +kernel
theorem dC_deriveRule_73 : decode bC_deriveRule 73 = .ok (.aload_n 0, 1) := by decide +kernel
theorem dC_deriveRule_74 : decode bC_deriveRule 74 = .ok (.aload_n 1, 1) := by decide +kernel
theorem dC_deriveRule_75 : decode bC_deriveRule 75 = .ok (.iload_n 2, 1) := by decide +kernel
theorem dC_deriveRule_76 : decode bC_deriveRule 76 = .ok (.invokevirtual 123, 3) := by decide +kernel
theorem dC_deriveRule_79 : decode bC_deriveRule 79 = .ok (.iload_n 2, 1) := by decide +kernel
theorem dC_deriveRule_80 : decode bC_deriveRule 80 = .ok (.iload 5, 2) := by decide +kernel
theorem dC_deriveRule_82 : decode bC_deriveRule 82 = .ok (.iload_n 3, 1) := by decide +kernel
theorem dC_deriveRule_83 : decode bC_deriveRule 83 = .ok (.invokevirtual 127, 3) := by decide +kernel
theorem dC_deriveRule_86 : decode bC_deriveRule 86 = .ok (.dstore 15, 2) := by decide +kernel
theorem dC_deriveRule_88 : decode bC_deriveRule 88 = .ok (.dload 15, 2) := by decide +kernel
theorem dC_deriveRule_90 : decode bC_deriveRule 90 = .ok (.dload 8, 2) := by decide +kernel
theorem dC_deriveRule_92 : decode bC_deriveRule 92 = .ok (.dcmp .l, 1) := by decide +kernel
theorem dC_deriveRule_93 : decode bC_deriveRule 93 = .ok (.ifCond .le (15), 3) := by decide +kernel
theorem dC_deriveRule_96 : decode bC_deriveRule 96 = .ok (.dload 15, 2) := by decide +kernel
theorem dC_deriveRule_98 : decode bC_deriveRule 98 = .ok (.dstore 8, 2) := by decide +kernel
theorem dC_deriveRule_100 : decode bC_deriveRule 100 = .ok (.aload_n 0, 1) := by decide +kernel
theorem dC_deriveRule_101 : decode bC_deriveRule 101 = .ok (.iload 5, 2) := by decide +kernel
theorem dC_deriveRule_103 : decode bC_deriveRule 103 = .ok (.invokevirtual 131, 3) := by decide +kernel
theorem dC_deriveRule_106 : decode bC_deriveRule 106 = .ok (.istore 10, 2) := by decide +kernel
theorem dC_deriveRule_108 : decode bC_deriveRule 108 = .ok (.aload_n 0, 1) := by decide +kernel
theorem dC_deriveRule_109 : decode bC_deriveRule 109 = .ok (.iload 5, 2) := by decide +kernel
theorem dC_deriveRule_111 : decode bC_deriveRule 111 = .ok (.iload 4, 2) := by decide +kernel
theorem dC_deriveRule_113 : decode bC_deriveRule 113 = .ok (.invokevirtual 134, 3) := by decide +kernel
theorem dC_deriveRule_116 : decode bC_deriveRule 116 = .ok (.istore 11, 2) := by decide +kernel
theorem dC_deriveRule_118 : decode bC_deriveRule 118 = .ok (.iinc 12 (1), 3) := by decide +kernel
theorem dC_deriveRule_121 : decode bC_deriveRule 121 = .ok (.goto (-91), 3) := by decide +kernel
theorem dC_deriveRule_124 : decode bC_deriveRule 124 = .ok (.iload_n 2, 1) := by decide +kernel
theorem dC_deriveRule_125 : decode bC_deriveRule 125 = .ok (.iload_n 3, 1) := by decide +kernel
theorem dC_deriveRule_126 : decode bC_deriveRule 126 = .ok (.iload 4, 2) := by decide +kernel
theorem dC_deriveRule_128 : decode bC_deriveRule 128 = .ok (.invokestatic 64, 3) := by decide +kernel
theorem dC_deriveRule_131 : decode bC_deriveRule 131 = .ok (.invokestatic 137, 3) := by decide +kernel
theorem dC_deriveRule_134 : decode bC_deriveRule 134 = .ok (.istore 12, 2) := by decide +kernel
theorem dC_deriveRule_136 : decode bC_deriveRule 136 = .ok (.aload_n 0, 1) := by decide +kernel
theorem dC_deriveRule_137 : decode bC_deriveRule 137 = .ok (.getfield 9, 3) := by decide +kernel
theorem dC_deriveRule_140 : decode bC_deriveRule 140 = .ok (.iload 12, 2) := by decide +kernel
theorem dC_deriveRule_142 : decode bC_deriveRule 142 = .ok (.lload 6, 2) := by decide +kernel
theorem dC_deriveRule_144 : decode bC_deriveRule 144 = .ok (.l2i, 1) := by decide +kernel
theorem dC_deriveRule_145 : decode bC_deriveRule 145 = .ok (.iastore, 1) := by decide +kernel
theorem dC_deriveRule_146 : decode bC_deriveRule 146 = .ok (.aload_n 0, 1) := by decide +kernel
theorem dC_deriveRule_147 : decode bC_deriveRule 147 = .ok (.getfield 15, 3) := by decide +kernel
theorem dC_deriveRule_150 : decode bC_deriveRule 150 = .ok (.iload 12, 2) := by decide +kernel
theorem dC_deriveRule_152 : decode bC_deriveRule 152 = .ok (.dload 8, 2) := by decide +kernel
theorem dC_deriveRule_154 : decode bC_deriveRule 154 = .ok (.dastore, 1) := by decide +kernel
theorem dC_deriveRule_155 : decode bC_deriveRule 155 = .ok (.aload_n 0, 1) := by decide +kernel
theorem dC_deriveRule_156 : decode bC_deriveRule 156 = .ok (.getfield 19, 3) := by decide +kernel
theorem dC_deriveRule_159 : decode bC_deriveRule 159 = .ok (.iload 12, 2) := by decide +kernel
theorem dC_deriveRule_161 : decode bC_deriveRule 161 = .ok (.iload 10, 2) := by decide +kernel
theorem dC_deriveRule_163 : decode bC_deriveRule 163 = .ok (.iastore, 1) := by decide +kernel
theorem dC_deriveRule_164 : decode bC_deriveRule 164 = .ok (.return_, 1) := by decide +kernel
theorem dC_firstDivision_0 : decode bC_firstDivision 0 = .ok (.iconst 0, 1) := by decide +kernel
theorem dC_firstDivision_1 : decode bC_firstDivision 1 = .ok (.istore 4, 2) := by decide +kernel
theorem dC_firstDivision_3 : decode bC_firstDivision 3 = .ok (.iload 4, 2) := by decide +kernel
theorem dC_firstDivision_5 : decode bC_firstDivision 5 = .ok (.iload_n 1, 1) := by decide +kernel
theorem dC_firstDivision_6 : decode bC_firstDivision 6 = .ok (.iconst 1, 1) := by decide +kernel
theorem dC_firstDivision_7 : decode bC_firstDivision 7 = .ok (.isub, 1) := by decide +kernel
theorem dC_firstDivision_8 : decode bC_firstDivision 8 = .ok (.if_icmp .ge (22), 3) := by decide +kernel
theorem dC_firstDivision_11 : decode bC_firstDivision 11 = .ok (.aload_n 0, 1) := by decide +kernel
theorem dC_firstDivision_12 : decode bC_firstDivision 12 = .ok (.getfield 31, 3) := by decide +kernel
theorem dC_firstDivision_15 : decode bC_firstDivision 15 = .ok (.iload 4, 2) := by decide +kernel
theorem dC_firstDivision_17 : decode bC_firstDivision 17 = .ok (.iload_n 2, 1) := by decide +kernel
theorem dC_firstDivision_18 : decode bC_firstDivision 18 = .ok (.iload 4, 2) := by decide +kernel
theorem dC_firstDivision_20 : decode bC_firstDivision 20 = .ok (.iadd, 1) := by decide +kernel
theorem dC_firstDivision_21 : decode bC_firstDivision 21 = .ok (.iconst 1, 1) := by decide +kernel
theorem dC_firstDivision_22 : decode bC_firstDivision 22 = .ok (.iadd, 1) := by decide +kernel
theorem dC_firstDivision_23 : decode bC_firstDivision 23 = .ok (.iastore, 1) := by decide +kernel
theorem dC_firstDivision_24 : decode bC_firstDivision 24 = .ok (.iinc 4 (1), 3) := by decide +kernel
theorem dC_firstDivision_27 : decode bC_firstDivision 27 = .ok (.goto (-24), 3) := by decide +kernel
theorem dC_firstDivision_30 : decode bC_firstDivision 30 = .ok (.aload_n 0, 1) := by decide +kernel
theorem dC_firstDivision_31 : decode bC_firstDivision 31 = .ok (.getfield 31, 3) := by decide +kernel
theorem dC_firstDivision_34 : decode bC_firstDivision 34 = .ok (.iload_n 1, 1) := by decide +kernel
theorem dC_firstDivision_35 : decode bC_firstDivision 35 = .ok (.iconst 1, 1) := by decide +kernel
theorem dC_firstDivision_36 : decode bC_firstDivision 36 = .ok (.isub, 1) := by decide +kernel
theorem dC_firstDivision_37 : decode bC_firstDivision 37 = .ok (.iload_n 3, 1) := by decide +kernel
theorem dC_firstDivision_38 : decode bC_firstDivision 38 = .ok (.iastore, 1) := by decide +kernel
theorem dC_firstDivision_39 : decode bC_firstDivision 39 = .ok (.iload_n 3, 1) := by decide +kernel
theorem dC_firstDivision_40 : decode bC_firstDivision 40 = .ok (.iload_n 2, 1) := by decide +kernel
theorem dC_firstDivision_41 : decode bC_firstDivision 41 = .ok (.isub, 1) := by decide +kernel
theorem dC_firstDivision_42 : decode bC_firstDivision 42 = .ok (.iload_n 1, 1) := by decide +kernel
theorem dC_firstDivision_43 : decode bC_firstDivision 43 = .ok (.if_icmp .lt (7), 3) := by decide +kernel
theorem dC_firstDivision_46 : decode bC_firstDivision 46 = .ok (.iconst 1, 1) := by decide +kernel
theorem dC_firstDivision_47 : decode bC_firstDivision 47 = .ok (.goto (4), 3) := by decide +kernel
theorem dC_firstDivision_50 : decode bC_firstDivision 50 = .ok (.iconst 0, 1) := by decide +kernel
theorem dC_firstDivision_51 : decode bC_firstDivision 51 = .ok (.ireturn, 1) := by decide +kernel
theorem dC_nextDivision_0 : decode bC_nextDivision 0 = .ok (.iload_n 1, 1) := by decide +kernel
theorem dC_nextDivision_1 : decode bC_nextDivision 1 = .ok (.iconst 2, 1) := by decide +kernel
theorem dC_nextDivision_2 : decode bC_nextDivision 2 = .ok (.isub, 1) := by decide +kernel
theorem dC_nextDivision_3 : decode bC_nextDivision 3 = .ok (.istore_n 3, 1) := by decide +kernel
theorem dC_nextDivision_4 : decode bC_nextDivision 4 = .ok (.iload_n 3, 1) := by decide +kernel
theorem dC_nextDivision_5 : decode bC_nextDivision 5 = .ok (.ifCond .lt (78), 3) := by decide +kernel
theorem dC_nextDivision_8 : decode bC_nextDivision 8 = .ok (.iload_n 1, 1) := by decide +kernel
theorem dC_nextDivision_9 : decode bC_nextDivision 9 = .ok (.iconst 1, 1) := by decide +kernel
theorem dC_nextDivision_10 : decode bC_nextDivision 10 = .ok (.isub, 1) := by decide +kernel
theorem dC_nextDivision_11 : decode bC_nextDivision 11 = .ok (.iload_n 3, 1) := by decide +kernel
theorem dC_nextDivision_12 : decode bC_nextDivision 12 = .ok (.isub, 1) := by decide +kernel
theorem dC_nextDivision_13 : decode bC_nextDivision 13 = .ok (.istore 4, 2) := by decide +kernel
theorem dC_nextDivision_15 : decode bC_nextDivision 15 = .ok (.aload_n 0, 1) := by decide +kernel
theorem dC_nextDivision_16 : decode bC_nextDivision 16 = .ok (.getfield 31, 3) := by decide +kernel
theorem dC_nextDivision_19 : decode bC_nextDivision 19 = .ok (.iload_n 3, 1) := by decide +kernel
theorem dC_nextDivision_20 : decode bC_nextDivision 20 = .ok (.iaload, 1) := by decide +kernel
theorem dC_nextDivision_21 : decode bC_nextDivision 21 = .ok (.iload 4, 2) := by decide +kernel
theorem dC_nextDivision_23 : decode bC_nextDivision 23 = .ok (.iadd, 1) := by decide +kernel
theorem dC_nextDivision_24 : decode bC_nextDivision 24 = .ok (.iload_n 2, 1) := by decide +kernel
theorem dC_nextDivision_25 : decode bC_nextDivision 25 = .ok (.if_icmp .ge (52), 3) := by decide +kernel
theorem dC_nextDivision_28 : decode bC_nextDivision 28 = .ok (.aload_n 0, 1) := by decide +kernel
theorem dC_nextDivision_29 : decode bC_nextDivision 29 = .ok (.getfield 31, 3) := by decide +kernel
theorem dC_nextDivision_32 : decode bC_nextDivision 32 = .ok (.iload_n 3, 1) := by decide +kernel
theorem dC_nextDivision_33 : decode bC_nextDivision 33 = .ok (.dup2, 1) := by decide +kernel
theorem dC_nextDivision_34 : decode bC_nextDivision 34 = .ok (.iaload, 1) := by decide +kernel
theorem dC_nextDivision_35 : decode bC_nextDivision 35 = .ok (.iconst 1, 1) := by decide +kernel
theorem dC_nextDivision_36 : decode bC_nextDivision 36 = .ok (.iadd, 1) := by decide +kernel
theorem dC_nextDivision_37 : decode bC_nextDivision 37 = .ok (.iastore, 1) := by decide +kernel
theorem dC_nextDivision_38 : decode bC_nextDivision 38 = .ok (.iload_n 3, 1) := by decide +kernel
theorem dC_nextDivision_39 : decode bC_nextDivision 39 = .ok (.iconst 1, 1) := by decide +kernel
theorem dC_nextDivision_40 : decode bC_nextDivision 40 = .ok (.iadd, 1) := by decide +kernel
theorem dC_nextDivision_41 : decode bC_nextDivision 41 = .ok (.istore 5, 2) := by decide +kernel
theorem dC_nextDivision_43 : decode bC_nextDivision 43 = .ok (.iload 5, 2) := by decide +kernel
theorem dC_nextDivision_45 : decode bC_nextDivision 45 = .ok (.iload_n 1, 1) := by decide +kernel
theorem dC_nextDivision_46 : decode bC_nextDivision 46 = .ok (.iconst 1, 1) := by decide +kernel
theorem dC_nextDivision_47 : decode bC_nextDivision 47 = .ok (.isub, 1) := by decide +kernel
theorem dC_nextDivision_48 : decode bC_nextDivision 48 = .ok (.if_icmp .ge (27), 3) := by decide +kernel
theorem dC_nextDivision_51 : decode bC_nextDivision 51 = .ok (.aload_n 0, 1) := by decide +kernel
theorem dC_nextDivision_52 : decode bC_nextDivision 52 = .ok (.getfield 31, 3) := by decide +kernel
theorem dC_nextDivision_55 : decode bC_nextDivision 55 = .ok (.iload 5, 2) := by decide +kernel
theorem dC_nextDivision_57 : decode bC_nextDivision 57 = .ok (.aload_n 0, 1) := by decide +kernel
theorem dC_nextDivision_58 : decode bC_nextDivision 58 = .ok (.getfield 31, 3) := by decide +kernel
theorem dC_nextDivision_61 : decode bC_nextDivision 61 = .ok (.iload 5, 2) := by decide +kernel
theorem dC_nextDivision_63 : decode bC_nextDivision 63 = .ok (.iconst 1, 1) := by decide +kernel
theorem dC_nextDivision_64 : decode bC_nextDivision 64 = .ok (.isub, 1) := by decide +kernel
theorem dC_nextDivision_65 : decode bC_nextDivision 65 = .ok (.iaload, 1) := by decide +kernel
theorem dC_nextDivision_66 : decode bC_nextDivision 66 = .ok (.iconst 1, 1) := by decide +kernel
theorem dC_nextDivision_67 : decode bC_nextDivision 67 = .ok (.iadd, 1) := by decide +kernel
theorem dC_nextDivision_68 : decode bC_nextDivision 68 = .ok (.iastore, 1) := by decide +kernel
theorem dC_nextDivision_69 : decode bC_nextDivision 69 = .ok (.iinc 5 (1), 3) := by decide +kernel
theorem dC_nextDivision_72 : decode bC_nextDivision 72 = .ok (.goto (-29), 3) := by decide +kernel
theorem dC_nextDivision_75 : decode bC_nextDivision 75 = .ok (.iconst 1, 1) := by decide +kernel
theorem dC_nextDivision_76 : decode bC_nextDivision 76 = .ok (.ireturn, 1) := by decide +kernel
theorem dC_nextDivision_77 : decode bC_nextDivision 77 = .ok (.iinc 3 (-1), 3) := by decide +kernel
theorem dC_nextDivision_80 : decode bC_nextDivision 80 = .ok (.goto (-76), 3) := by decide +kernel
theorem dC_nextDivision_83 : decode bC_nextDivision 83 = .ok (.iconst 0, 1) := by decide +kernel
theorem dC_nextDivision_84 : decode bC_nextDivision 84 = .ok (.ireturn, 1) := by decide +kernel
theorem dC_divisionWays_0 : decode bC_divisionWays 0 = .ok (.lconst 1, 1) := by decide +kernel
theorem dC_divisionWays_1 : decode bC_divisionWays 1 = .ok (.lstore 4, 2) := by decide +kernel
theorem dC_divisionWays_3 : decode bC_divisionWays 3 = .ok (.iload_n 3, 1) := by decide +kernel
theorem dC_divisionWays_4 : decode bC_divisionWays 4 = .ok (.istore 6, 2) := by decide +kernel
theorem dC_divisionWays_6 : decode bC_divisionWays 6 = .ok (.iconst 0, 1) := by decide +kernel
theorem dC_divisionWays_7 : decode bC_divisionWays 7 = .ok (.istore 7, 2) := by decide +kernel
theorem dC_divisionWays_9 : decode bC_divisionWays 9 = .ok (.iload 7, 2) := by decide +kernel
theorem dC_divisionWays_11 : decode bC_divisionWays 11 = .ok (.iload_n 2, 1) := by decide +kernel
theorem dC_divisionWays_12 : decode bC_divisionWays 12 = .ok (.if_icmp .ge (60), 3) := by decide +kernel
theorem dC_divisionWays_15 : decode bC_divisionWays 15 = .ok (.lload 4, 2) := by decide +kernel
theorem dC_divisionWays_17 : decode bC_divisionWays 17 = .ok (.lconst 0, 1) := by decide +kernel
theorem dC_divisionWays_18 : decode bC_divisionWays 18 = .ok (.lcmp, 1) := by decide +kernel
theorem dC_divisionWays_19 : decode bC_divisionWays 19 = .ok (.ifCond .le (53), 3) := by decide +kernel
theorem dC_divisionWays_22 : decode bC_divisionWays 22 = .ok (.ldc2_w 115, 3) := by decide +kernel
theorem dC_divisionWays_25 : decode bC_divisionWays 25 = .ok (.lload 4, 2) := by decide +kernel
theorem dC_divisionWays_27 : decode bC_divisionWays 27 = .ok (.aload_n 0, 1) := by decide +kernel
theorem dC_divisionWays_28 : decode bC_divisionWays 28 = .ok (.getfield 22, 3) := by decide +kernel
theorem dC_divisionWays_31 : decode bC_divisionWays 31 = .ok (.iload_n 1, 1) := by decide +kernel
theorem dC_divisionWays_32 : decode bC_divisionWays 32 = .ok (.iload 7, 2) := by decide +kernel
theorem dC_divisionWays_34 : decode bC_divisionWays 34 = .ok (.iload 6, 2) := by decide +kernel
theorem dC_divisionWays_36 : decode bC_divisionWays 36 = .ok (.aload_n 0, 1) := by decide +kernel
theorem dC_divisionWays_37 : decode bC_divisionWays 37 = .ok (.getfield 31, 3) := by decide +kernel
theorem dC_divisionWays_40 : decode bC_divisionWays 40 = .ok (.iload 7, 2) := by decide +kernel
theorem dC_divisionWays_42 : decode bC_divisionWays 42 = .ok (.iaload, 1) := by decide +kernel
theorem dC_divisionWays_43 : decode bC_divisionWays 43 = .ok (.invokestatic 64, 3) := by decide +kernel
theorem dC_divisionWays_46 : decode bC_divisionWays 46 = .ok (.invokestatic 95, 3) := by decide +kernel
theorem dC_divisionWays_49 : decode bC_divisionWays 49 = .ok (.iaload, 1) := by decide +kernel
theorem dC_divisionWays_50 : decode bC_divisionWays 50 = .ok (.i2l, 1) := by decide +kernel
theorem dC_divisionWays_51 : decode bC_divisionWays 51 = .ok (.lmul, 1) := by decide +kernel
theorem dC_divisionWays_52 : decode bC_divisionWays 52 = .ok (.invokestatic 117, 3) := by decide +kernel
theorem dC_divisionWays_55 : decode bC_divisionWays 55 = .ok (.lstore 4, 2) := by decide +kernel
theorem dC_divisionWays_57 : decode bC_divisionWays 57 = .ok (.aload_n 0, 1) := by decide +kernel
theorem dC_divisionWays_58 : decode bC_divisionWays 58 = .ok (.getfield 31, 3) := by decide +kernel
theorem dC_divisionWays_61 : decode bC_divisionWays 61 = .ok (.iload 7, 2) := by decide +kernel
theorem dC_divisionWays_63 : decode bC_divisionWays 63 = .ok (.iaload, 1) := by decide +kernel
theorem dC_divisionWays_64 : decode bC_divisionWays 64 = .ok (.istore 6, 2) := by decide +kernel
theorem dC_divisionWays_66 : decode bC_divisionWays 66 = .ok (.iinc 7 (1), 3) := by decide +kernel
theorem dC_divisionWays_69 : decode bC_divisionWays 69 = .ok (.goto (-60), 3) := by decide +kernel
theorem dC_divisionWays_72 : decode bC_divisionWays 72 = .ok (.lload 4, 2) := by decide +kernel
theorem dC_divisionWays_74 : decode bC_divisionWays 74 = .ok (.lreturn, 1) := by decide +kernel
theorem dC_divisionWeight_0 : decode bC_divisionWeight 0 = .ok (.dload_n 1, 1) := by decide +kernel
theorem dC_divisionWeight_1 : decode bC_divisionWeight 1 = .ok (.dstore 6, 2) := by decide +kernel
theorem dC_divisionWeight_3 : decode bC_divisionWeight 3 = .ok (.iload 5, 2) := by decide +kernel
theorem dC_divisionWeight_5 : decode bC_divisionWeight 5 = .ok (.istore 8, 2) := by decide +kernel
theorem dC_divisionWeight_7 : decode bC_divisionWeight 7 = .ok (.iconst 0, 1) := by decide +kernel
theorem dC_divisionWeight_8 : decode bC_divisionWeight 8 = .ok (.istore 9, 2) := by decide +kernel
theorem dC_divisionWeight_10 : decode bC_divisionWeight 10 = .ok (.iload 9, 2) := by decide +kernel
theorem dC_divisionWeight_12 : decode bC_divisionWeight 12 = .ok (.iload 4, 2) := by decide +kernel
theorem dC_divisionWeight_14 : decode bC_divisionWeight 14 = .ok (.if_icmp .ge (70), 3) := by decide +kernel
theorem dC_divisionWeight_17 : decode bC_divisionWeight 17 = .ok (.iload 8, 2) := by decide +kernel
theorem dC_divisionWeight_19 : decode bC_divisionWeight 19 = .ok (.aload_n 0, 1) := by decide +kernel
theorem dC_divisionWeight_20 : decode bC_divisionWeight 20 = .ok (.getfield 31, 3) := by decide +kernel
theorem dC_divisionWeight_23 : decode bC_divisionWeight 23 = .ok (.iload 9, 2) := by decide +kernel
theorem dC_divisionWeight_25 : decode bC_divisionWeight 25 = .ok (.iaload, 1) := by decide +kernel
theorem dC_divisionWeight_26 : decode bC_divisionWeight 26 = .ok (.invokestatic 64, 3) := by decide +kernel
theorem dC_divisionWeight_29 : decode bC_divisionWeight 29 = .ok (.istore 10, 2) := by decide +kernel
theorem dC_divisionWeight_31 : decode bC_divisionWeight 31 = .ok (.aload_n 0, 1) := by decide +kernel
theorem dC_divisionWeight_32 : decode bC_divisionWeight 32 = .ok (.getfield 25, 3) := by decide +kernel
theorem dC_divisionWeight_35 : decode bC_divisionWeight 35 = .ok (.iload_n 3, 1) := by decide +kernel
theorem dC_divisionWeight_36 : decode bC_divisionWeight 36 = .ok (.iload 9, 2) := by decide +kernel
theorem dC_divisionWeight_38 : decode bC_divisionWeight 38 = .ok (.iload 10, 2) := by decide +kernel
theorem dC_divisionWeight_40 : decode bC_divisionWeight 40 = .ok (.invokestatic 95, 3) := by decide +kernel
theorem dC_divisionWeight_43 : decode bC_divisionWeight 43 = .ok (.iaload, 1) := by decide +kernel
theorem dC_divisionWeight_44 : decode bC_divisionWeight 44 = .ok (.istore 11, 2) := by decide +kernel
theorem dC_divisionWeight_46 : decode bC_divisionWeight 46 = .ok (.iload 11, 2) := by decide +kernel
theorem dC_divisionWeight_48 : decode bC_divisionWeight 48 = .ok (.iconst (-1), 1) := by decide +kernel
theorem dC_divisionWeight_49 : decode bC_divisionWeight 49 = .ok (.if_icmp .eq (20), 3) := by decide +kernel
theorem dC_divisionWeight_52 : decode bC_divisionWeight 52 = .ok (.dload 6, 2) := by decide +kernel
theorem dC_divisionWeight_54 : decode bC_divisionWeight 54 = .ok (.aload_n 0, 1) := by decide +kernel
theorem dC_divisionWeight_55 : decode bC_divisionWeight 55 = .ok (.getfield 15, 3) := by decide +kernel
theorem dC_divisionWeight_58 : decode bC_divisionWeight 58 = .ok (.iload 11, 2) := by decide +kernel
theorem dC_divisionWeight_60 : decode bC_divisionWeight 60 = .ok (.iload 10, 2) := by decide +kernel
theorem dC_divisionWeight_62 : decode bC_divisionWeight 62 = .ok (.invokestatic 137, 3) := by decide +kernel
theorem dC_divisionWeight_65 : decode bC_divisionWeight 65 = .ok (.daload, 1) := by decide +kernel
theorem dC_divisionWeight_66 : decode bC_divisionWeight 66 = .ok (.dmul, 1) := by decide +kernel
theorem dC_divisionWeight_67 : decode bC_divisionWeight 67 = .ok (.dstore 6, 2) := by decide +kernel
theorem dC_divisionWeight_69 : decode bC_divisionWeight 69 = .ok (.aload_n 0, 1) := by decide +kernel
theorem dC_divisionWeight_70 : decode bC_divisionWeight 70 = .ok (.getfield 31, 3) := by decide +kernel
theorem dC_divisionWeight_73 : decode bC_divisionWeight 73 = .ok (.iload 9, 2) := by decide +kernel
theorem dC_divisionWeight_75 : decode bC_divisionWeight 75 = .ok (.iaload, 1) := by decide +kernel
theorem dC_divisionWeight_76 : decode bC_divisionWeight 76 = .ok (.istore 8, 2) := by decide +kernel
theorem dC_divisionWeight_78 : decode bC_divisionWeight 78 = .ok (.iinc 9 (1), 3) := by decide +kernel
theorem dC_divisionWeight_81 : decode bC_divisionWeight 81 = .ok (.goto (-71), 3) := by decide +kernel
theorem dC_divisionWeight_84 : decode bC_divisionWeight 84 = .ok (.dload 6, 2) := by decide +kernel
theorem dC_divisionWeight_86 : decode bC_divisionWeight 86 = .ok (.dreturn, 1) := by decide +kernel
theorem dC_packedEnds_0 : decode bC_packedEnds 0 = .ok (.iconst 0, 1) := by decide +kernel
theorem dC_packedEnds_1 : decode bC_packedEnds 1 = .ok (.istore_n 2, 1) := by decide +kernel
theorem dC_packedEnds_2 : decode bC_packedEnds 2 = .ok (.iconst 0, 1) := by decide +kernel
theorem dC_packedEnds_3 : decode bC_packedEnds 3 = .ok (.istore_n 3, 1) := by decide +kernel
theorem dC_packedEnds_4 : decode bC_packedEnds 4 = .ok (.iload_n 3, 1) := by decide +kernel
theorem dC_packedEnds_5 : decode bC_packedEnds 5 = .ok (.iload_n 1, 1) := by decide +kernel
theorem dC_packedEnds_6 : decode bC_packedEnds 6 = .ok (.if_icmp .ge (22), 3) := by decide +kernel
theorem dC_packedEnds_9 : decode bC_packedEnds 9 = .ok (.iload_n 2, 1) := by decide +kernel
theorem dC_packedEnds_10 : decode bC_packedEnds 10 = .ok (.aload_n 0, 1) := by decide +kernel
theorem dC_packedEnds_11 : decode bC_packedEnds 11 = .ok (.getfield 31, 3) := by decide +kernel
theorem dC_packedEnds_14 : decode bC_packedEnds 14 = .ok (.iload_n 3, 1) := by decide +kernel
theorem dC_packedEnds_15 : decode bC_packedEnds 15 = .ok (.iaload, 1) := by decide +kernel
theorem dC_packedEnds_16 : decode bC_packedEnds 16 = .ok (.iconst 4, 1) := by decide +kernel
theorem dC_packedEnds_17 : decode bC_packedEnds 17 = .ok (.iload_n 3, 1) := by decide +kernel
theorem dC_packedEnds_18 : decode bC_packedEnds 18 = .ok (.imul, 1) := by decide +kernel
theorem dC_packedEnds_19 : decode bC_packedEnds 19 = .ok (.ishl, 1) := by decide +kernel
theorem dC_packedEnds_20 : decode bC_packedEnds 20 = .ok (.ior, 1) := by decide +kernel
theorem dC_packedEnds_21 : decode bC_packedEnds 21 = .ok (.istore_n 2, 1) := by decide +kernel
theorem dC_packedEnds_22 : decode bC_packedEnds 22 = .ok (.iinc 3 (1), 3) := by decide +kernel
theorem dC_packedEnds_25 : decode bC_packedEnds 25 = .ok (.goto (-21), 3) := by decide +kernel
theorem dC_packedEnds_28 : decode bC_packedEnds 28 = .ok (.iload_n 2, 1) := by decide +kernel
theorem dC_packedEnds_29 : decode bC_packedEnds 29 = .ok (.ireturn, 1) := by decide +kernel
theorem dC_waysOf_0 : decode bC_waysOf 0 = .ok (.aload_n 0, 1) := by decide +kernel
theorem dC_waysOf_1 : decode bC_waysOf 1 = .ok (.getfield 9, 3) := by decide +kernel
theorem dC_waysOf_4 : decode bC_waysOf 4 = .ok (.iload_n 1, 1) := by decide +kernel
theorem dC_waysOf_5 : decode bC_waysOf 5 = .ok (.iload_n 2, 1) := by decide +kernel
theorem dC_waysOf_6 : decode bC_waysOf 6 = .ok (.invokestatic 137, 3) := by decide +kernel
theorem dC_waysOf_9 : decode bC_waysOf 9 = .ok (.iaload, 1) := by decide +kernel
theorem dC_waysOf_10 : decode bC_waysOf 10 = .ok (.ireturn, 1) := by decide +kernel
theorem dC_heaviestWeight_0 : decode bC_heaviestWeight 0 = .ok (.aload_n 0, 1) := by decide +kernel
theorem dC_heaviestWeight_1 : decode bC_heaviestWeight 1 = .ok (.getfield 15, 3) := by decide +kernel
theorem dC_heaviestWeight_4 : decode bC_heaviestWeight 4 = .ok (.iload_n 1, 1) := by decide +kernel
theorem dC_heaviestWeight_5 : decode bC_heaviestWeight 5 = .ok (.iload_n 2, 1) := by decide +kernel
theorem dC_heaviestWeight_6 : decode bC_heaviestWeight 6 = .ok (.invokestatic 137, 3) := by decide +kernel
theorem dC_heaviestWeight_9 : decode bC_heaviestWeight 9 = .ok (.daload, 1) := by decide +kernel
theorem dC_heaviestWeight_10 : decode bC_heaviestWeight 10 = .ok (.dreturn, 1) := by decide +kernel
theorem dC_symbolEnd_0 : decode bC_symbolEnd 0 = .ok (.aload_n 0, 1) := by decide +kernel
theorem dC_symbolEnd_1 : decode bC_symbolEnd 1 = .ok (.getfield 19, 3) := by decide +kernel
theorem dC_symbolEnd_4 : decode bC_symbolEnd 4 = .ok (.iload_n 1, 1) := by decide +kernel
theorem dC_symbolEnd_5 : decode bC_symbolEnd 5 = .ok (.iload_n 3, 1) := by decide +kernel
theorem dC_symbolEnd_6 : decode bC_symbolEnd 6 = .ok (.invokestatic 137, 3) := by decide +kernel
theorem dC_symbolEnd_9 : decode bC_symbolEnd 9 = .ok (.iaload, 1) := by decide +kernel
theorem dC_symbolEnd_10 : decode bC_symbolEnd 10 = .ok (.iconst 4, 1) := by decide +kernel
theorem dC_symbolEnd_11 : decode bC_symbolEnd 11 = .ok (.iload_n 2, 1) := by decide +kernel
theorem dC_symbolEnd_12 : decode bC_symbolEnd 12 = .ok (.imul, 1) := by decide +kernel
theorem dC_symbolEnd_13 : decode bC_symbolEnd 13 = .ok (.ishr, 1) := by decide +kernel
theorem dC_symbolEnd_14 : decode bC_symbolEnd 14 = .ok (.bipush 15, 2) := by decide +kernel
theorem dC_symbolEnd_16 : decode bC_symbolEnd 16 = .ok (.iand, 1) := by decide +kernel
theorem dC_symbolEnd_17 : decode bC_symbolEnd 17 = .ok (.ireturn, 1) := by decide +kernel
theorem dC_ruleBelow_0 : decode bC_ruleBelow 0 = .ok (.aload_n 0, 1) := by decide +kernel
theorem dC_ruleBelow_1 : decode bC_ruleBelow 1 = .ok (.getfield 25, 3) := by decide +kernel
theorem dC_ruleBelow_4 : decode bC_ruleBelow 4 = .ok (.iload_n 1, 1) := by decide +kernel
theorem dC_ruleBelow_5 : decode bC_ruleBelow 5 = .ok (.iload_n 2, 1) := by decide +kernel
theorem dC_ruleBelow_6 : decode bC_ruleBelow 6 = .ok (.iload_n 3, 1) := by decide +kernel
theorem dC_ruleBelow_7 : decode bC_ruleBelow 7 = .ok (.invokestatic 95, 3) := by decide +kernel
theorem dC_ruleBelow_10 : decode bC_ruleBelow 10 = .ok (.iaload, 1) := by decide +kernel
theorem dC_ruleBelow_11 : decode bC_ruleBelow 11 = .ok (.ireturn, 1) := by decide +kernel
theorem dC_waysOfAny_0 : decode bC_waysOfAny 0 = .ok (.lconst 0, 1) := by decide +kernel
theorem dC_waysOfAny_1 : decode bC_waysOfAny 1 = .ok (.lstore_n 3, 1) := by decide +kernel
theorem dC_waysOfAny_2 : decode bC_waysOfAny 2 = .ok (.iconst 0, 1) := by decide +kernel
theorem dC_waysOfAny_3 : decode bC_waysOfAny 3 = .ok (.istore 5, 2) := by decide +kernel
theorem dC_waysOfAny_5 : decode bC_waysOfAny 5 = .ok (.iload 5, 2) := by decide +kernel
theorem dC_waysOfAny_7 : decode bC_waysOfAny 7 = .ok (.bipush 16, 2) := by decide +kernel
theorem dC_waysOfAny_9 : decode bC_waysOfAny 9 = .ok (.if_icmp .ge (39), 3) := by decide +kernel
theorem dC_waysOfAny_12 : decode bC_waysOfAny 12 = .ok (.iload_n 1, 1) := by decide +kernel
theorem dC_waysOfAny_13 : decode bC_waysOfAny 13 = .ok (.iload 5, 2) := by decide +kernel
theorem dC_waysOfAny_15 : decode bC_waysOfAny 15 = .ok (.invokestatic 140, 3) := by decide +kernel
theorem dC_waysOfAny_18 : decode bC_waysOfAny 18 = .ok (.ifCond .eq (24), 3) := by decide +kernel
theorem dC_waysOfAny_21 : decode bC_waysOfAny 21 = .ok (.ldc2_w 115, 3) := by decide +kernel
theorem dC_waysOfAny_24 : decode bC_waysOfAny 24 = .ok (.lload_n 3, 1) := by decide +kernel
theorem dC_waysOfAny_25 : decode bC_waysOfAny 25 = .ok (.aload_n 0, 1) := by decide +kernel
theorem dC_waysOfAny_26 : decode bC_waysOfAny 26 = .ok (.getfield 9, 3) := by decide +kernel
theorem dC_waysOfAny_29 : decode bC_waysOfAny 29 = .ok (.iload 5, 2) := by decide +kernel
theorem dC_waysOfAny_31 : decode bC_waysOfAny 31 = .ok (.iload_n 2, 1) := by decide +kernel
theorem dC_waysOfAny_32 : decode bC_waysOfAny 32 = .ok (.invokestatic 137, 3) := by decide +kernel
theorem dC_waysOfAny_35 : decode bC_waysOfAny 35 = .ok (.iaload, 1) := by decide +kernel
theorem dC_waysOfAny_36 : decode bC_waysOfAny 36 = .ok (.i2l, 1) := by decide +kernel
theorem dC_waysOfAny_37 : decode bC_waysOfAny 37 = .ok (.ladd, 1) := by decide +kernel
theorem dC_waysOfAny_38 : decode bC_waysOfAny 38 = .ok (.invokestatic 117, 3) := by decide +kernel
theorem dC_waysOfAny_41 : decode bC_waysOfAny 41 = .ok (.lstore_n 3, 1) := by decide +kernel
theorem dC_waysOfAny_42 : decode bC_waysOfAny 42 = .ok (.iinc 5 (1), 3) := by decide +kernel
theorem dC_waysOfAny_45 : decode bC_waysOfAny 45 = .ok (.goto (-40), 3) := by decide +kernel
theorem dC_waysOfAny_48 : decode bC_waysOfAny 48 = .ok (.lload_n 3, 1) := by decide +kernel
theorem dC_waysOfAny_49 : decode bC_waysOfAny 49 = .ok (.l2i, 1) := by decide +kernel
theorem dC_waysOfAny_50 : decode bC_waysOfAny 50 = .ok (.ireturn, 1) := by decide +kernel
theorem dC_heaviestOf_0 : decode bC_heaviestOf 0 = .ok (.iconst (-1), 1) := by decide +kernel
theorem dC_heaviestOf_1 : decode bC_heaviestOf 1 = .ok (.istore_n 3, 1) := by decide +kernel
theorem dC_heaviestOf_2 : decode bC_heaviestOf 2 = .ok (.dconst 0, 1) := by decide +kernel
theorem dC_heaviestOf_3 : decode bC_heaviestOf 3 = .ok (.dstore 4, 2) := by decide +kernel
theorem dC_heaviestOf_5 : decode bC_heaviestOf 5 = .ok (.iconst 0, 1) := by decide +kernel
theorem dC_heaviestOf_6 : decode bC_heaviestOf 6 = .ok (.istore 6, 2) := by decide +kernel
theorem dC_heaviestOf_8 : decode bC_heaviestOf 8 = .ok (.iload 6, 2) := by decide +kernel
theorem dC_heaviestOf_10 : decode bC_heaviestOf 10 = .ok (.bipush 16, 2) := by decide +kernel
theorem dC_heaviestOf_12 : decode bC_heaviestOf 12 = .ok (.if_icmp .ge (51), 3) := by decide +kernel
theorem dC_heaviestOf_15 : decode bC_heaviestOf 15 = .ok (.iload_n 1, 1) := by decide +kernel
theorem dC_heaviestOf_16 : decode bC_heaviestOf 16 = .ok (.iload 6, 2) := by decide +kernel
theorem dC_heaviestOf_18 : decode bC_heaviestOf 18 = .ok (.invokestatic 140, 3) := by decide +kernel
theorem dC_heaviestOf_21 : decode bC_heaviestOf 21 = .ok (.ifCond .eq (36), 3) := by decide +kernel
theorem dC_heaviestOf_24 : decode bC_heaviestOf 24 = .ok (.aload_n 0, 1) := by decide +kernel
theorem dC_heaviestOf_25 : decode bC_heaviestOf 25 = .ok (.getfield 15, 3) := by decide +kernel
theorem dC_heaviestOf_28 : decode bC_heaviestOf 28 = .ok (.iload 6, 2) := by decide +kernel
theorem dC_heaviestOf_30 : decode bC_heaviestOf 30 = .ok (.iload_n 2, 1) := by decide +kernel
theorem dC_heaviestOf_31 : decode bC_heaviestOf 31 = .ok (.invokestatic 137, 3) := by decide +kernel
theorem dC_heaviestOf_34 : decode bC_heaviestOf 34 = .ok (.daload, 1) := by decide +kernel
theorem dC_heaviestOf_35 : decode bC_heaviestOf 35 = .ok (.dload 4, 2) := by decide +kernel
theorem dC_heaviestOf_37 : decode bC_heaviestOf 37 = .ok (.dcmp .l, 1) := by decide +kernel
theorem dC_heaviestOf_38 : decode bC_heaviestOf 38 = .ok (.ifCond .le (19), 3) := by decide +kernel
theorem dC_heaviestOf_41 : decode bC_heaviestOf 41 = .ok (.iload 6, 2) := by decide +kernel
theorem dC_heaviestOf_43 : decode bC_heaviestOf 43 = .ok (.istore_n 3, 1) := by decide +kernel
theorem dC_heaviestOf_44 : decode bC_heaviestOf 44 = .ok (.aload_n 0, 1) := by decide +kernel
theorem dC_heaviestOf_45 : decode bC_heaviestOf 45 = .ok (.getfield 15, 3) := by decide +kernel
theorem dC_heaviestOf_48 : decode bC_heaviestOf 48 = .ok (.iload 6, 2) := by decide +kernel
theorem dC_heaviestOf_50 : decode bC_heaviestOf 50 = .ok (.iload_n 2, 1) := by decide +kernel
theorem dC_heaviestOf_51 : decode bC_heaviestOf 51 = .ok (.invokestatic 137, 3) := by decide +kernel
theorem dC_heaviestOf_54 : decode bC_heaviestOf 54 = .ok (.daload, 1) := by decide +kernel
theorem dC_heaviestOf_55 : decode bC_heaviestOf 55 = .ok (.dstore 4, 2) := by decide +kernel
theorem dC_heaviestOf_57 : decode bC_heaviestOf 57 = .ok (.iinc 6 (1), 3) := by decide +kernel
theorem dC_heaviestOf_60 : decode bC_heaviestOf 60 = .ok (.goto (-52), 3) := by decide +kernel
theorem dC_heaviestOf_63 : decode bC_heaviestOf 63 = .ok (.iload_n 3, 1) := by decide +kernel
theorem dC_heaviestOf_64 : decode bC_heaviestOf 64 = .ok (.ireturn, 1) := by decide +kernel
theorem dC_ruleIndex_0 : decode bC_ruleIndex 0 = .ok (.iload_n 0, 1) := by decide +kernel
theorem dC_ruleIndex_1 : decode bC_ruleIndex 1 = .ok (.bipush 105, 2) := by decide +kernel
theorem dC_ruleIndex_3 : decode bC_ruleIndex 3 = .ok (.imul, 1) := by decide +kernel
theorem dC_ruleIndex_4 : decode bC_ruleIndex 4 = .ok (.iload_n 1, 1) := by decide +kernel
theorem dC_ruleIndex_5 : decode bC_ruleIndex 5 = .ok (.iadd, 1) := by decide +kernel
theorem dC_ruleIndex_6 : decode bC_ruleIndex 6 = .ok (.ireturn, 1) := by decide +kernel
theorem dC_useIndex_0 : decode bC_useIndex 0 = .ok (.iload_n 0, 1) := by decide +kernel
theorem dC_useIndex_1 : decode bC_useIndex 1 = .ok (.iconst 4, 1) := by decide +kernel
theorem dC_useIndex_2 : decode bC_useIndex 2 = .ok (.imul, 1) := by decide +kernel
theorem dC_useIndex_3 : decode bC_useIndex 3 = .ok (.iload_n 1, 1) := by decide +kernel
theorem dC_useIndex_4 : decode bC_useIndex 4 = .ok (.iadd, 1) := by decide +kernel
theorem dC_useIndex_5 : decode bC_useIndex 5 = .ok (.bipush 105, 2) := by decide +kernel
theorem dC_useIndex_7 : decode bC_useIndex 7 = .ok (.imul, 1) := by decide +kernel
theorem dC_useIndex_8 : decode bC_useIndex 8 = .ok (.iload_n 2, 1) := by decide +kernel
theorem dC_useIndex_9 : decode bC_useIndex 9 = .ok (.iadd, 1) := by decide +kernel
theorem dC_useIndex_10 : decode bC_useIndex 10 = .ok (.ireturn, 1) := by decide +kernel
theorem dG_init_0 : decode bG_init 0 = .ok (.aload_n 0, 1) := by decide +kernel
theorem dG_init_1 : decode bG_init 1 = .ok (.invokespecial 3, 3) := by decide +kernel
theorem dG_init_4 : decode bG_init 4 = .ok (.aload_n 0, 1) := by decide +kernel
theorem dG_init_5 : decode bG_init 5 = .ok (.bipush 16, 2) := by decide +kernel
theorem dG_init_7 : decode bG_init 7 = .ok (.newarray .int, 2) := by decide +kernel
theorem dG_init_9 : decode bG_init 9 = .ok (.putfield 9, 3) := by decide +kernel
theorem dG_init_12 : decode bG_init 12 = .ok (.aload_n 0, 1) := by decide +kernel
theorem dG_init_13 : decode bG_init 13 = .ok (.bipush 16, 2) := by decide +kernel
theorem dG_init_15 : decode bG_init 15 = .ok (.newarray .int, 2) := by decide +kernel
theorem dG_init_17 : decode bG_init 17 = .ok (.putfield 15, 3) := by decide +kernel
theorem dG_init_20 : decode bG_init 20 = .ok (.aload_n 0, 1) := by decide +kernel
theorem dG_init_21 : decode bG_init 21 = .ok (.bipush 64, 2) := by decide +kernel
theorem dG_init_23 : decode bG_init 23 = .ok (.newarray .int, 2) := by decide +kernel
theorem dG_init_25 : decode bG_init 25 = .ok (.putfield 18, 3) := by decide +kernel
theorem dG_init_28 : decode bG_init 28 = .ok (.aload_n 0, 1) := by decide +kernel
theorem dG_init_29 : decode bG_init 29 = .ok (.bipush 16, 2) := by decide +kernel
theorem dG_init_31 : decode bG_init 31 = .ok (.newarray .double, 2) := by decide +kernel
theorem dG_init_33 : decode bG_init 33 = .ok (.putfield 21, 3) := by decide +kernel
theorem dG_init_36 : decode bG_init 36 = .ok (.aload_n 0, 1) := by decide +kernel
theorem dG_init_37 : decode bG_init 37 = .ok (.bipush 16, 2) := by decide +kernel
theorem dG_init_39 : decode bG_init 39 = .ok (.newarray .int, 2) := by decide +kernel
theorem dG_init_41 : decode bG_init 41 = .ok (.putfield 25, 3) := by decide +kernel
theorem dG_init_44 : decode bG_init 44 = .ok (.aload_n 0, 1) := by decide +kernel
theorem dG_init_45 : decode bG_init 45 = .ok (.bipush 16, 2) := by decide +kernel
theorem dG_init_47 : decode bG_init 47 = .ok (.newarray .int, 2) := by decide +kernel
theorem dG_init_49 : decode bG_init 49 = .ok (.putfield 28, 3) := by decide +kernel
theorem dG_init_52 : decode bG_init 52 = .ok (.aload_n 0, 1) := by decide +kernel
theorem dG_init_53 : decode bG_init 53 = .ok (.sipush 564, 3) := by decide +kernel
theorem dG_init_56 : decode bG_init 56 = .ok (.newarray .boolean, 2) := by decide +kernel
theorem dG_init_58 : decode bG_init 58 = .ok (.putfield 31, 3) := by decide +kernel
theorem dG_init_61 : decode bG_init 61 = .ok (.aload_n 0, 1) := by decide +kernel
theorem dG_init_62 : decode bG_init 62 = .ok (.iconst 0, 1) := by decide +kernel
theorem dG_init_63 : decode bG_init 63 = .ok (.putfield 35, 3) := by decide +kernel
theorem dG_init_66 : decode bG_init 66 = .ok (.return_, 1) := by decide +kernel
theorem dG_wrongPlace_0 : decode bG_wrongPlace 0 = .ok (.iconst 0, 1) := by decide +kernel
theorem dG_wrongPlace_1 : decode bG_wrongPlace 1 = .ok (.istore_n 1, 1) := by decide +kernel
theorem dG_wrongPlace_2 : decode bG_wrongPlace 2 = .ok (.iload_n 1, 1) := by decide +kernel
theorem dG_wrongPlace_3 : decode bG_wrongPlace 3 = .ok (.aload_n 0, 1) := by decide +kernel
theorem dG_wrongPlace_4 : decode bG_wrongPlace 4 = .ok (.invokevirtual 39, 3) := by decide +kernel
theorem dG_wrongPlace_7 : decode bG_wrongPlace 7 = .ok (.if_icmp .ge (23), 3) := by decide +kernel
theorem dG_wrongPlace_10 : decode bG_wrongPlace 10 = .ok (.iload_n 1, 1) := by decide +kernel
theorem dG_wrongPlace_11 : decode bG_wrongPlace 11 = .ok (.aload_n 0, 1) := by decide +kernel
theorem dG_wrongPlace_12 : decode bG_wrongPlace 12 = .ok (.iload_n 1, 1) := by decide +kernel
theorem dG_wrongPlace_13 : decode bG_wrongPlace 13 = .ok (.invokevirtual 45, 3) := by decide +kernel
theorem dG_wrongPlace_16 : decode bG_wrongPlace 16 = .ok (.invokestatic 49, 3) := by decide +kernel
theorem dG_wrongPlace_19 : decode bG_wrongPlace 19 = .ok (.ifCond .ne (5), 3) := by decide +kernel
theorem dG_wrongPlace_22 : decode bG_wrongPlace 22 = .ok (.iload_n 1, 1) := by decide +kernel
theorem dG_wrongPlace_23 : decode bG_wrongPlace 23 = .ok (.ireturn, 1) := by decide +kernel
theorem dG_wrongPlace_24 : decode bG_wrongPlace 24 = .ok (.iinc 1 (1), 3) := by decide +kernel
theorem dG_wrongPlace_27 : decode bG_wrongPlace 27 = .ok (.goto (-25), 3) := by decide +kernel
theorem dG_wrongPlace_30 : decode bG_wrongPlace 30 = .ok (.aload_n 0, 1) := by decide +kernel
theorem dG_wrongPlace_31 : decode bG_wrongPlace 31 = .ok (.invokevirtual 39, 3) := by decide +kernel
theorem dG_wrongPlace_34 : decode bG_wrongPlace 34 = .ok (.iconst 3, 1) := by decide +kernel
theorem dG_wrongPlace_35 : decode bG_wrongPlace 35 = .ok (.if_icmp .ge (10), 3) := by decide +kernel
theorem dG_wrongPlace_38 : decode bG_wrongPlace 38 = .ok (.aload_n 0, 1) := by decide +kernel
theorem dG_wrongPlace_39 : decode bG_wrongPlace 39 = .ok (.invokevirtual 39, 3) := by decide +kernel
theorem dG_wrongPlace_42 : decode bG_wrongPlace 42 = .ok (.goto (4), 3) := by decide +kernel
theorem dG_wrongPlace_45 : decode bG_wrongPlace 45 = .ok (.iconst (-1), 1) := by decide +kernel
theorem dG_wrongPlace_46 : decode bG_wrongPlace 46 = .ok (.ireturn, 1) := by decide +kernel
theorem dG_fits_0 : decode bG_fits 0 = .ok (.iload_n 0, 1) := by decide +kernel
theorem dG_fits_1 : decode bG_fits 1 = .ok (.ifCond .ne (17), 3) := by decide +kernel
theorem dG_fits_4 : decode bG_fits 4 = .ok (.iload_n 1, 1) := by decide +kernel
theorem dG_fits_5 : decode bG_fits 5 = .ok (.invokestatic 53, 3) := by decide +kernel
theorem dG_fits_8 : decode bG_fits 8 = .ok (.iconst (-1), 1) := by decide +kernel
theorem dG_fits_9 : decode bG_fits 9 = .ok (.if_icmp .eq (7), 3) := by decide +kernel
theorem dG_fits_12 : decode bG_fits 12 = .ok (.iconst 1, 1) := by decide +kernel
theorem dG_fits_13 : decode bG_fits 13 = .ok (.goto (4), 3) := by decide +kernel
theorem dG_fits_16 : decode bG_fits 16 = .ok (.iconst 0, 1) := by decide +kernel
theorem dG_fits_17 : decode bG_fits 17 = .ok (.ireturn, 1) := by decide +kernel
theorem dG_fits_18 : decode bG_fits 18 = .ok (.iload_n 0, 1) := by decide +kernel
theorem dG_fits_19 : decode bG_fits 19 = .ok (.iconst 1, 1) := by decide +kernel
theorem dG_fits_20 : decode bG_fits 20 = .ok (.if_icmp .ne (15), 3) := by decide +kernel
theorem dG_fits_23 : decode bG_fits 23 = .ok (.iload_n 1, 1) := by decide +kernel
theorem dG_fits_24 : decode bG_fits 24 = .ok (.bipush 58, 2) := by decide +kernel
theorem dG_fits_26 : decode bG_fits 26 = .ok (.if_icmp .ne (7), 3) := by decide +kernel
theorem dG_fits_29 : decode bG_fits 29 = .ok (.iconst 1, 1) := by decide +kernel
theorem dG_fits_30 : decode bG_fits 30 = .ok (.goto (4), 3) := by decide +kernel
theorem dG_fits_33 : decode bG_fits 33 = .ok (.iconst 0, 1) := by decide +kernel
theorem dG_fits_34 : decode bG_fits 34 = .ok (.ireturn, 1) := by decide +kernel
theorem dG_fits_35 : decode bG_fits 35 = .ok (.iload_n 0, 1) := by decide +kernel
theorem dG_fits_36 : decode bG_fits 36 = .ok (.bipush 6, 2) := by decide +kernel
theorem dG_fits_38 : decode bG_fits 38 = .ok (.if_icmp .ge (25), 3) := by decide +kernel
theorem dG_fits_41 : decode bG_fits 41 = .ok (.iload_n 1, 1) := by decide +kernel
theorem dG_fits_42 : decode bG_fits 42 = .ok (.bipush 58, 2) := by decide +kernel
theorem dG_fits_44 : decode bG_fits 44 = .ok (.if_icmp .eq (19), 3) := by decide +kernel
theorem dG_fits_47 : decode bG_fits 47 = .ok (.iload_n 1, 1) := by decide +kernel
theorem dG_fits_48 : decode bG_fits 48 = .ok (.bipush 71, 2) := by decide +kernel
theorem dG_fits_50 : decode bG_fits 50 = .ok (.if_icmp .lt (9), 3) := by decide +kernel
theorem dG_fits_53 : decode bG_fits 53 = .ok (.iload_n 1, 1) := by decide +kernel
theorem dG_fits_54 : decode bG_fits 54 = .ok (.bipush 90, 2) := by decide +kernel
theorem dG_fits_56 : decode bG_fits 56 = .ok (.if_icmp .le (7), 3) := by decide +kernel
theorem dG_fits_59 : decode bG_fits 59 = .ok (.iconst 1, 1) := by decide +kernel
theorem dG_fits_60 : decode bG_fits 60 = .ok (.goto (4), 3) := by decide +kernel
theorem dG_fits_63 : decode bG_fits 63 = .ok (.iconst 0, 1) := by decide +kernel
theorem dG_fits_64 : decode bG_fits 64 = .ok (.ireturn, 1) := by decide +kernel
theorem dG_size_0 : decode bG_size 0 = .ok (.aload_n 0, 1) := by decide +kernel
theorem dG_size_1 : decode bG_size 1 = .ok (.getfield 35, 3) := by decide +kernel
theorem dG_size_4 : decode bG_size 4 = .ok (.ireturn, 1) := by decide +kernel
theorem dG_has_0 : decode bG_has 0 = .ok (.iload_n 1, 1) := by decide +kernel
theorem dG_has_1 : decode bG_has 1 = .ok (.ifCond .lt (15), 3) := by decide +kernel
theorem dG_has_4 : decode bG_has 4 = .ok (.iload_n 1, 1) := by decide +kernel
theorem dG_has_5 : decode bG_has 5 = .ok (.aload_n 0, 1) := by decide +kernel
theorem dG_has_6 : decode bG_has 6 = .ok (.getfield 35, 3) := by decide +kernel
theorem dG_has_9 : decode bG_has 9 = .ok (.if_icmp .ge (7), 3) := by decide +kernel
theorem dG_has_12 : decode bG_has 12 = .ok (.iconst 1, 1) := by decide +kernel
theorem dG_has_13 : decode bG_has 13 = .ok (.goto (4), 3) := by decide +kernel
theorem dG_has_16 : decode bG_has 16 = .ok (.iconst 0, 1) := by decide +kernel
theorem dG_has_17 : decode bG_has 17 = .ok (.ireturn, 1) := by decide +kernel
theorem dG_wouldLeadRound_0 : decode bG_wouldLeadRound 0 = .ok (.aload_n 1, 1) := by decide +kernel
theorem dG_wouldLeadRound_1 : decode bG_wouldLeadRound 1 = .ok (.iconst 0, 1) := by decide +kernel
theorem dG_wouldLeadRound_2 : decode bG_wouldLeadRound 2 = .ok (.invokevirtual 45, 3) := by decide +kernel
theorem dG_wouldLeadRound_5 : decode bG_wouldLeadRound 5 = .ok (.invokestatic 53, 3) := by decide +kernel
theorem dG_wouldLeadRound_8 : decode bG_wouldLeadRound 8 = .ok (.istore_n 2, 1) := by decide +kernel
theorem dG_wouldLeadRound_9 : decode bG_wouldLeadRound 9 = .ok (.aload_n 1, 1) := by decide +kernel
theorem dG_wouldLeadRound_10 : decode bG_wouldLeadRound 10 = .ok (.iconst 2, 1) := by decide +kernel
theorem dG_wouldLeadRound_11 : decode bG_wouldLeadRound 11 = .ok (.invokevirtual 45, 3) := by decide +kernel
theorem dG_wouldLeadRound_14 : decode bG_wouldLeadRound 14 = .ok (.invokestatic 53, 3) := by decide +kernel
theorem dG_wouldLeadRound_17 : decode bG_wouldLeadRound 17 = .ok (.istore_n 3, 1) := by decide +kernel
theorem dG_wouldLeadRound_18 : decode bG_wouldLeadRound 18 = .ok (.aload_n 1, 1) := by decide +kernel
theorem dG_wouldLeadRound_19 : decode bG_wouldLeadRound 19 = .ok (.invokevirtual 39, 3) := by decide +kernel
theorem dG_wouldLeadRound_22 : decode bG_wouldLeadRound 22 = .ok (.iconst 3, 1) := by decide +kernel
theorem dG_wouldLeadRound_23 : decode bG_wouldLeadRound 23 = .ok (.if_icmp .ne (13), 3) := by decide +kernel
theorem dG_wouldLeadRound_26 : decode bG_wouldLeadRound 26 = .ok (.iload_n 2, 1) := by decide +kernel
theorem dG_wouldLeadRound_27 : decode bG_wouldLeadRound 27 = .ok (.iconst (-1), 1) := by decide +kernel
theorem dG_wouldLeadRound_28 : decode bG_wouldLeadRound 28 = .ok (.if_icmp .eq (8), 3) := by decide +kernel
theorem dG_wouldLeadRound_31 : decode bG_wouldLeadRound 31 = .ok (.iload_n 3, 1) := by decide +kernel
theorem dG_wouldLeadRound_32 : decode bG_wouldLeadRound 32 = .ok (.iconst (-1), 1) := by decide +kernel
theorem dG_wouldLeadRound_33 : decode bG_wouldLeadRound 33 = .ok (.if_icmp .ne (5), 3) := by decide +kernel
theorem dG_wouldLeadRound_36 : decode bG_wouldLeadRound 36 = .ok (.iconst 0, 1) := by decide +kernel
theorem dG_wouldLeadRound_37 : decode bG_wouldLeadRound 37 = .ok (.ireturn, 1) := by decide +kernel
theorem dG_wouldLeadRound_38 : decode bG_wouldLeadRound 38 = .ok (.aload_n 0, 1) := by decide +kernel
theorem dG_wouldLeadRound_39 : decode bG_wouldLeadRound 39 = .ok (.iload_n 3, 1) := by decide +kernel
theorem dG_wouldLeadRound_40 : decode bG_wouldLeadRound 40 = .ok (.invokevirtual 56, 3) := by decide +kernel
theorem dG_wouldLeadRound_43 : decode bG_wouldLeadRound 43 = .ok (.iload_n 2, 1) := by decide +kernel
theorem dG_wouldLeadRound_44 : decode bG_wouldLeadRound 44 = .ok (.invokestatic 59, 3) := by decide +kernel
theorem dG_wouldLeadRound_47 : decode bG_wouldLeadRound 47 = .ok (.ireturn, 1) := by decide +kernel
theorem dG_reachedByChains_0 : decode bG_reachedByChains 0 = .ok (.iconst 1, 1) := by decide +kernel
theorem dG_reachedByChains_1 : decode bG_reachedByChains 1 = .ok (.iload_n 1, 1) := by decide +kernel
theorem dG_reachedByChains_2 : decode bG_reachedByChains 2 = .ok (.ishl, 1) := by decide +kernel
theorem dG_reachedByChains_3 : decode bG_reachedByChains 3 = .ok (.istore_n 2, 1) := by decide +kernel
theorem dG_reachedByChains_4 : decode bG_reachedByChains 4 = .ok (.iconst 0, 1) := by decide +kernel
theorem dG_reachedByChains_5 : decode bG_reachedByChains 5 = .ok (.istore_n 3, 1) := by decide +kernel
theorem dG_reachedByChains_6 : decode bG_reachedByChains 6 = .ok (.iload_n 3, 1) := by decide +kernel
theorem dG_reachedByChains_7 : decode bG_reachedByChains 7 = .ok (.bipush 6, 2) := by decide +kernel
theorem dG_reachedByChains_9 : decode bG_reachedByChains 9 = .ok (.if_icmp .ge (62), 3) := by decide +kernel
theorem dG_reachedByChains_12 : decode bG_reachedByChains 12 = .ok (.iconst 0, 1) := by decide +kernel
theorem dG_reachedByChains_13 : decode bG_reachedByChains 13 = .ok (.istore 4, 2) := by decide +kernel
theorem dG_reachedByChains_15 : decode bG_reachedByChains 15 = .ok (.iload 4, 2) := by decide +kernel
theorem dG_reachedByChains_17 : decode bG_reachedByChains 17 = .ok (.aload_n 0, 1) := by decide +kernel
theorem dG_reachedByChains_18 : decode bG_reachedByChains 18 = .ok (.getfield 35, 3) := by decide +kernel
theorem dG_reachedByChains_21 : decode bG_reachedByChains 21 = .ok (.if_icmp .ge (44), 3) := by decide +kernel
theorem dG_reachedByChains_24 : decode bG_reachedByChains 24 = .ok (.iload_n 2, 1) := by decide +kernel
theorem dG_reachedByChains_25 : decode bG_reachedByChains 25 = .ok (.aload_n 0, 1) := by decide +kernel
theorem dG_reachedByChains_26 : decode bG_reachedByChains 26 = .ok (.getfield 9, 3) := by decide +kernel
theorem dG_reachedByChains_29 : decode bG_reachedByChains 29 = .ok (.iload 4, 2) := by decide +kernel
theorem dG_reachedByChains_31 : decode bG_reachedByChains 31 = .ok (.iaload, 1) := by decide +kernel
theorem dG_reachedByChains_32 : decode bG_reachedByChains 32 = .ok (.invokestatic 59, 3) := by decide +kernel
theorem dG_reachedByChains_35 : decode bG_reachedByChains 35 = .ok (.ifCond .eq (24), 3) := by decide +kernel
theorem dG_reachedByChains_38 : decode bG_reachedByChains 38 = .ok (.aload_n 0, 1) := by decide +kernel
theorem dG_reachedByChains_39 : decode bG_reachedByChains 39 = .ok (.iload 4, 2) := by decide +kernel
theorem dG_reachedByChains_41 : decode bG_reachedByChains 41 = .ok (.invokevirtual 62, 3) := by decide +kernel
theorem dG_reachedByChains_44 : decode bG_reachedByChains 44 = .ok (.ifCond .eq (15), 3) := by decide +kernel
theorem dG_reachedByChains_47 : decode bG_reachedByChains 47 = .ok (.iload_n 2, 1) := by decide +kernel
theorem dG_reachedByChains_48 : decode bG_reachedByChains 48 = .ok (.iconst 1, 1) := by decide +kernel
theorem dG_reachedByChains_49 : decode bG_reachedByChains 49 = .ok (.aload_n 0, 1) := by decide +kernel
theorem dG_reachedByChains_50 : decode bG_reachedByChains 50 = .ok (.iload 4, 2) := by decide +kernel
theorem dG_reachedByChains_52 : decode bG_reachedByChains 52 = .ok (.iconst 0, 1) := by decide +kernel
theorem dG_reachedByChains_53 : decode bG_reachedByChains 53 = .ok (.invokevirtual 66, 3) := by decide +kernel
theorem dG_reachedByChains_56 : decode bG_reachedByChains 56 = .ok (.ishl, 1) := by decide +kernel
theorem dG_reachedByChains_57 : decode bG_reachedByChains 57 = .ok (.ior, 1) := by decide +kernel
theorem dG_reachedByChains_58 : decode bG_reachedByChains 58 = .ok (.istore_n 2, 1) := by decide +kernel
theorem dG_reachedByChains_59 : decode bG_reachedByChains 59 = .ok (.iinc 4 (1), 3) := by decide +kernel
theorem dG_reachedByChains_62 : decode bG_reachedByChains 62 = .ok (.goto (-47), 3) := by decide +kernel
theorem dG_reachedByChains_65 : decode bG_reachedByChains 65 = .ok (.iinc 3 (1), 3) := by decide +kernel
theorem dG_reachedByChains_68 : decode bG_reachedByChains 68 = .ok (.goto (-62), 3) := by decide +kernel
theorem dG_reachedByChains_71 : decode bG_reachedByChains 71 = .ok (.iload_n 2, 1) := by decide +kernel
theorem dG_reachedByChains_72 : decode bG_reachedByChains 72 = .ok (.ireturn, 1) := by decide +kernel
theorem dG_isChain_0 : decode bG_isChain 0 = .ok (.aload_n 0, 1) := by decide +kernel
theorem dG_isChain_1 : decode bG_isChain 1 = .ok (.getfield 15, 3) := by decide +kernel
theorem dG_isChain_4 : decode bG_isChain 4 = .ok (.iload_n 1, 1) := by decide +kernel
theorem dG_isChain_5 : decode bG_isChain 5 = .ok (.iaload, 1) := by decide +kernel
theorem dG_isChain_6 : decode bG_isChain 6 = .ok (.iconst 1, 1) := by decide +kernel
theorem dG_isChain_7 : decode bG_isChain 7 = .ok (.if_icmp .ne (17), 3) := by decide +kernel
theorem dG_isChain_10 : decode bG_isChain 10 = .ok (.aload_n 0, 1) := by decide +kernel
theorem dG_isChain_11 : decode bG_isChain 11 = .ok (.iload_n 1, 1) := by decide +kernel
theorem dG_isChain_12 : decode bG_isChain 12 = .ok (.iconst 0, 1) := by decide +kernel
theorem dG_isChain_13 : decode bG_isChain 13 = .ok (.invokevirtual 66, 3) := by decide +kernel
theorem dG_isChain_16 : decode bG_isChain 16 = .ok (.iconst (-1), 1) := by decide +kernel
theorem dG_isChain_17 : decode bG_isChain 17 = .ok (.if_icmp .eq (7), 3) := by decide +kernel
theorem dG_isChain_20 : decode bG_isChain 20 = .ok (.iconst 1, 1) := by decide +kernel
theorem dG_isChain_21 : decode bG_isChain 21 = .ok (.goto (4), 3) := by decide +kernel
theorem dG_isChain_24 : decode bG_isChain 24 = .ok (.iconst 0, 1) := by decide +kernel
theorem dG_isChain_25 : decode bG_isChain 25 = .ok (.ireturn, 1) := by decide +kernel
theorem dG_add_0 : decode bG_add 0 = .ok (.aload_n 0, 1) := by decide +kernel
theorem dG_add_1 : decode bG_add 1 = .ok (.getfield 35, 3) := by decide +kernel
theorem dG_add_4 : decode bG_add 4 = .ok (.istore 4, 2) := by decide +kernel
theorem dG_add_6 : decode bG_add 6 = .ok (.aload_n 0, 1) := by decide +kernel
theorem dG_add_7 : decode bG_add 7 = .ok (.getfield 9, 3) := by decide +kernel
theorem dG_add_10 : decode bG_add 10 = .ok (.iload 4, 2) := by decide +kernel
theorem dG_add_12 : decode bG_add 12 = .ok (.aload_n 1, 1) := by decide +kernel
theorem dG_add_13 : decode bG_add 13 = .ok (.iconst 0, 1) := by decide +kernel
theorem dG_add_14 : decode bG_add 14 = .ok (.invokevirtual 45, 3) := by decide +kernel
theorem dG_add_17 : decode bG_add 17 = .ok (.invokestatic 53, 3) := by decide +kernel
theorem dG_add_20 : decode bG_add 20 = .ok (.iastore, 1) := by decide +kernel
theorem dG_add_21 : decode bG_add 21 = .ok (.aload_n 0, 1) := by decide +kernel
theorem dG_add_22 : decode bG_add 22 = .ok (.getfield 15, 3) := by decide +kernel
theorem dG_add_25 : decode bG_add 25 = .ok (.iload 4, 2) := by decide +kernel
theorem dG_add_27 : decode bG_add 27 = .ok (.aload_n 1, 1) := by decide +kernel
theorem dG_add_28 : decode bG_add 28 = .ok (.invokevirtual 39, 3) := by decide +kernel
theorem dG_add_31 : decode bG_add 31 = .ok (.iconst 2, 1) := by decide +kernel
theorem dG_add_32 : decode bG_add 32 = .ok (.isub, 1) := by decide +kernel
theorem dG_add_33 : decode bG_add 33 = .ok (.iastore, 1) := by decide +kernel
theorem dG_add_34 : decode bG_add 34 = .ok (.iconst 0, 1) := by decide +kernel
theorem dG_add_35 : decode bG_add 35 = .ok (.istore 5, 2) := by decide +kernel
theorem dG_add_37 : decode bG_add 37 = .ok (.iload 5, 2) := by decide +kernel
theorem dG_add_39 : decode bG_add 39 = .ok (.iconst 4, 1) := by decide +kernel
theorem dG_add_40 : decode bG_add 40 = .ok (.if_icmp .ge (29), 3) := by decide +kernel
theorem dG_add_43 : decode bG_add 43 = .ok (.aload_n 0, 1) := by decide +kernel
theorem dG_add_44 : decode bG_add 44 = .ok (.getfield 18, 3) := by decide +kernel
theorem dG_add_47 : decode bG_add 47 = .ok (.iload 4, 2) := by decide +kernel
theorem dG_add_49 : decode bG_add 49 = .ok (.iconst 4, 1) := by decide +kernel
theorem dG_add_50 : decode bG_add 50 = .ok (.imul, 1) := by decide +kernel
theorem dG_add_51 : decode bG_add 51 = .ok (.iload 5, 2) := by decide +kernel
theorem dG_add_53 : decode bG_add 53 = .ok (.iadd, 1) := by decide +kernel
theorem dG_add_54 : decode bG_add 54 = .ok (.aload_n 1, 1) := by decide +kernel
theorem dG_add_55 : decode bG_add 55 = .ok (.iload 5, 2) := by decide +kernel
theorem dG_add_57 : decode bG_add 57 = .ok (.iconst 2, 1) := by decide +kernel
theorem dG_add_58 : decode bG_add 58 = .ok (.iadd, 1) := by decide +kernel
theorem dG_add_59 : decode bG_add 59 = .ok (.invokevirtual 45, 3) := by decide +kernel
theorem dG_add_62 : decode bG_add 62 = .ok (.iastore, 1) := by decide +kernel
theorem dG_add_63 : decode bG_add 63 = .ok (.iinc 5 (1), 3) := by decide +kernel
theorem dG_add_66 : decode bG_add 66 = .ok (.goto (-29), 3) := by decide +kernel
theorem dG_add_69 : decode bG_add 69 = .ok (.aload_n 0, 1) := by decide +kernel
theorem dG_add_70 : decode bG_add 70 = .ok (.getfield 21, 3) := by decide +kernel
theorem dG_add_73 : decode bG_add 73 = .ok (.iload 4, 2) := by decide +kernel
theorem dG_add_75 : decode bG_add 75 = .ok (.dload_n 2, 1) := by decide +kernel
theorem dG_add_76 : decode bG_add 76 = .ok (.dastore, 1) := by decide +kernel
theorem dG_add_77 : decode bG_add 77 = .ok (.aload_n 0, 1) := by decide +kernel
theorem dG_add_78 : decode bG_add 78 = .ok (.getfield 25, 3) := by decide +kernel
theorem dG_add_81 : decode bG_add 81 = .ok (.iload 4, 2) := by decide +kernel
theorem dG_add_83 : decode bG_add 83 = .ok (.iconst 0, 1) := by decide +kernel
theorem dG_add_84 : decode bG_add 84 = .ok (.iastore, 1) := by decide +kernel
theorem dG_add_85 : decode bG_add 85 = .ok (.aload_n 0, 1) := by decide +kernel
theorem dG_add_86 : decode bG_add 86 = .ok (.dup, 1) := by decide +kernel
theorem dG_add_87 : decode bG_add 87 = .ok (.getfield 35, 3) := by decide +kernel
theorem dG_add_90 : decode bG_add 90 = .ok (.iconst 1, 1) := by decide +kernel
theorem dG_add_91 : decode bG_add 91 = .ok (.iadd, 1) := by decide +kernel
theorem dG_add_92 : decode bG_add 92 = .ok (.putfield 35, 3) := by decide +kernel
theorem dG_add_95 : decode bG_add 95 = .ok (.return_, 1) := by decide +kernel
theorem dG_removeLatest_0 : decode bG_removeLatest 0 = .ok (.aload_n 0, 1) := by decide +kernel
theorem dG_removeLatest_1 : decode bG_removeLatest 1 = .ok (.dup, 1) := by decide +kernel
theorem dG_removeLatest_2 : decode bG_removeLatest 2 = .ok (.getfield 35, 3) := by decide +kernel
theorem dG_removeLatest_5 : decode bG_removeLatest 5 = .ok (.iconst 1, 1) := by decide +kernel
theorem dG_removeLatest_6 : decode bG_removeLatest 6 = .ok (.isub, 1) := by decide +kernel
theorem dG_removeLatest_7 : decode bG_removeLatest 7 = .ok (.putfield 35, 3) := by decide +kernel
theorem dG_removeLatest_10 : decode bG_removeLatest 10 = .ok (.aload_n 0, 1) := by decide +kernel
theorem dG_removeLatest_11 : decode bG_removeLatest 11 = .ok (.getfield 28, 3) := by decide +kernel
theorem dG_removeLatest_14 : decode bG_removeLatest 14 = .ok (.aload_n 0, 1) := by decide +kernel
theorem dG_removeLatest_15 : decode bG_removeLatest 15 = .ok (.getfield 35, 3) := by decide +kernel
theorem dG_removeLatest_18 : decode bG_removeLatest 18 = .ok (.iconst 0, 1) := by decide +kernel
theorem dG_removeLatest_19 : decode bG_removeLatest 19 = .ok (.iastore, 1) := by decide +kernel
theorem dG_removeLatest_20 : decode bG_removeLatest 20 = .ok (.iconst 0, 1) := by decide +kernel
theorem dG_removeLatest_21 : decode bG_removeLatest 21 = .ok (.istore_n 1, 1) := by decide +kernel
theorem dG_removeLatest_22 : decode bG_removeLatest 22 = .ok (.iload_n 1, 1) := by decide +kernel
theorem dG_removeLatest_23 : decode bG_removeLatest 23 = .ok (.aload_n 0, 1) := by decide +kernel
theorem dG_removeLatest_24 : decode bG_removeLatest 24 = .ok (.getfield 35, 3) := by decide +kernel
theorem dG_removeLatest_27 : decode bG_removeLatest 27 = .ok (.if_icmp .ge (19), 3) := by decide +kernel
theorem dG_removeLatest_30 : decode bG_removeLatest 30 = .ok (.aload_n 0, 1) := by decide +kernel
theorem dG_removeLatest_31 : decode bG_removeLatest 31 = .ok (.iload_n 1, 1) := by decide +kernel
theorem dG_removeLatest_32 : decode bG_removeLatest 32 = .ok (.aload_n 0, 1) := by decide +kernel
theorem dG_removeLatest_33 : decode bG_removeLatest 33 = .ok (.getfield 35, 3) := by decide +kernel
theorem dG_removeLatest_36 : decode bG_removeLatest 36 = .ok (.iconst 0, 1) := by decide +kernel
theorem dG_removeLatest_37 : decode bG_removeLatest 37 = .ok (.invokevirtual 70, 3) := by decide +kernel
theorem dG_removeLatest_40 : decode bG_removeLatest 40 = .ok (.iinc 1 (1), 3) := by decide +kernel
theorem dG_removeLatest_43 : decode bG_removeLatest 43 = .ok (.goto (-21), 3) := by decide +kernel
theorem dG_removeLatest_46 : decode bG_removeLatest 46 = .ok (.return_, 1) := by decide +kernel
theorem dG_setMark_0 : decode bG_setMark 0 = .ok (.aload_n 0, 1) := by decide +kernel
theorem dG_setMark_1 : decode bG_setMark 1 = .ok (.getfield 25, 3) := by decide +kernel
theorem dG_setMark_4 : decode bG_setMark 4 = .ok (.iload_n 1, 1) := by decide +kernel
theorem dG_setMark_5 : decode bG_setMark 5 = .ok (.iload_n 2, 1) := by decide +kernel
theorem dG_setMark_6 : decode bG_setMark 6 = .ok (.iastore, 1) := by decide +kernel
theorem dG_setMark_7 : decode bG_setMark 7 = .ok (.return_, 1) := by decide +kernel
theorem dG_setBarred_0 : decode bG_setBarred 0 = .ok (.iload_n 3, 1) := by decide +kernel
theorem dG_setBarred_1 : decode bG_setBarred 1 = .ok (.ifCond .eq (18), 3) := by decide +kernel
theorem dG_setBarred_4 : decode bG_setBarred 4 = .ok (.aload_n 0, 1) := by decide +kernel
theorem dG_setBarred_5 : decode bG_setBarred 5 = .ok (.getfield 28, 3) := by decide +kernel
theorem dG_setBarred_8 : decode bG_setBarred 8 = .ok (.iload_n 1, 1) := by decide +kernel
theorem dG_setBarred_9 : decode bG_setBarred 9 = .ok (.dup2, 1) := by decide +kernel
theorem dG_setBarred_10 : decode bG_setBarred 10 = .ok (.iaload, 1) := by decide +kernel
theorem dG_setBarred_11 : decode bG_setBarred 11 = .ok (.iconst 1, 1) := by decide +kernel
theorem dG_setBarred_12 : decode bG_setBarred 12 = .ok (.iload_n 2, 1) := by decide +kernel
theorem dG_setBarred_13 : decode bG_setBarred 13 = .ok (.ishl, 1) := by decide +kernel
theorem dG_setBarred_14 : decode bG_setBarred 14 = .ok (.ior, 1) := by decide +kernel
theorem dG_setBarred_15 : decode bG_setBarred 15 = .ok (.iastore, 1) := by decide +kernel
theorem dG_setBarred_16 : decode bG_setBarred 16 = .ok (.goto (17), 3) := by decide +kernel
theorem dG_setBarred_19 : decode bG_setBarred 19 = .ok (.aload_n 0, 1) := by decide +kernel
theorem dG_setBarred_20 : decode bG_setBarred 20 = .ok (.getfield 28, 3) := by decide +kernel
theorem dG_setBarred_23 : decode bG_setBarred 23 = .ok (.iload_n 1, 1) := by decide +kernel
theorem dG_setBarred_24 : decode bG_setBarred 24 = .ok (.dup2, 1) := by decide +kernel
theorem dG_setBarred_25 : decode bG_setBarred 25 = .ok (.iaload, 1) := by decide +kernel
theorem dG_setBarred_26 : decode bG_setBarred 26 = .ok (.iconst 1, 1) := by decide +kernel
theorem dG_setBarred_27 : decode bG_setBarred 27 = .ok (.iload_n 2, 1) := by decide +kernel
theorem dG_setBarred_28 : decode bG_setBarred 28 = .ok (.ishl, 1) := by decide +kernel
theorem dG_setBarred_29 : decode bG_setBarred 29 = .ok (.iconst (-1), 1) := by decide +kernel
theorem dG_setBarred_30 : decode bG_setBarred 30 = .ok (.ixor, 1) := by decide +kernel
theorem dG_setBarred_31 : decode bG_setBarred 31 = .ok (.iand, 1) := by decide +kernel
theorem dG_setBarred_32 : decode bG_setBarred 32 = .ok (.iastore, 1) := by decide +kernel
theorem dG_setBarred_33 : decode bG_setBarred 33 = .ok (.return_, 1) := by decide +kernel
theorem dG_setMayFollow_0 : decode bG_setMayFollow 0 = .ok (.aload_n 0, 1) := by decide +kernel
theorem dG_setMayFollow_1 : decode bG_setMayFollow 1 = .ok (.getfield 31, 3) := by decide +kernel
theorem dG_setMayFollow_4 : decode bG_setMayFollow 4 = .ok (.iload_n 1, 1) := by decide +kernel
theorem dG_setMayFollow_5 : decode bG_setMayFollow 5 = .ok (.bipush 94, 2) := by decide +kernel
theorem dG_setMayFollow_7 : decode bG_setMayFollow 7 = .ok (.imul, 1) := by decide +kernel
theorem dG_setMayFollow_8 : decode bG_setMayFollow 8 = .ok (.iload_n 2, 1) := by decide +kernel
theorem dG_setMayFollow_9 : decode bG_setMayFollow 9 = .ok (.iadd, 1) := by decide +kernel
theorem dG_setMayFollow_10 : decode bG_setMayFollow 10 = .ok (.bipush 33, 2) := by decide +kernel
theorem dG_setMayFollow_12 : decode bG_setMayFollow 12 = .ok (.isub, 1) := by decide +kernel
theorem dG_setMayFollow_13 : decode bG_setMayFollow 13 = .ok (.iload_n 3, 1) := by decide +kernel
theorem dG_setMayFollow_14 : decode bG_setMayFollow 14 = .ok (.ifCond .ne (7), 3) := by decide +kernel
theorem dG_setMayFollow_17 : decode bG_setMayFollow 17 = .ok (.iconst 1, 1) := by decide +kernel
theorem dG_setMayFollow_18 : decode bG_setMayFollow 18 = .ok (.goto (4), 3) := by decide +kernel
theorem dG_setMayFollow_21 : decode bG_setMayFollow 21 = .ok (.iconst 0, 1) := by decide +kernel
theorem dG_setMayFollow_22 : decode bG_setMayFollow 22 = .ok (.bastore, 1) := by decide +kernel
theorem dG_setMayFollow_23 : decode bG_setMayFollow 23 = .ok (.return_, 1) := by decide +kernel
theorem dG_mayFollow_0 : decode bG_mayFollow 0 = .ok (.aload_n 0, 1) := by decide +kernel
theorem dG_mayFollow_1 : decode bG_mayFollow 1 = .ok (.getfield 31, 3) := by decide +kernel
theorem dG_mayFollow_4 : decode bG_mayFollow 4 = .ok (.iload_n 1, 1) := by decide +kernel
theorem dG_mayFollow_5 : decode bG_mayFollow 5 = .ok (.bipush 94, 2) := by decide +kernel
theorem dG_mayFollow_7 : decode bG_mayFollow 7 = .ok (.imul, 1) := by decide +kernel
theorem dG_mayFollow_8 : decode bG_mayFollow 8 = .ok (.iload_n 2, 1) := by decide +kernel
theorem dG_mayFollow_9 : decode bG_mayFollow 9 = .ok (.iadd, 1) := by decide +kernel
theorem dG_mayFollow_10 : decode bG_mayFollow 10 = .ok (.bipush 33, 2) := by decide +kernel
theorem dG_mayFollow_12 : decode bG_mayFollow 12 = .ok (.isub, 1) := by decide +kernel
theorem dG_mayFollow_13 : decode bG_mayFollow 13 = .ok (.baload, 1) := by decide +kernel
theorem dG_mayFollow_14 : decode bG_mayFollow 14 = .ok (.ifCond .ne (7), 3) := by decide +kernel
theorem dG_mayFollow_17 : decode bG_mayFollow 17 = .ok (.iconst 1, 1) := by decide +kernel
theorem dG_mayFollow_18 : decode bG_mayFollow 18 = .ok (.goto (4), 3) := by decide +kernel
theorem dG_mayFollow_21 : decode bG_mayFollow 21 = .ok (.iconst 0, 1) := by decide +kernel
theorem dG_mayFollow_22 : decode bG_mayFollow 22 = .ok (.ireturn, 1) := by decide +kernel
theorem dG_left_0 : decode bG_left 0 = .ok (.aload_n 0, 1) := by decide +kernel
theorem dG_left_1 : decode bG_left 1 = .ok (.getfield 9, 3) := by decide +kernel
theorem dG_left_4 : decode bG_left 4 = .ok (.iload_n 1, 1) := by decide +kernel
theorem dG_left_5 : decode bG_left 5 = .ok (.iaload, 1) := by decide +kernel
theorem dG_left_6 : decode bG_left 6 = .ok (.ireturn, 1) := by decide +kernel
theorem dG_rightLength_0 : decode bG_rightLength 0 = .ok (.aload_n 0, 1) := by decide +kernel
theorem dG_rightLength_1 : decode bG_rightLength 1 = .ok (.getfield 15, 3) := by decide +kernel
theorem dG_rightLength_4 : decode bG_rightLength 4 = .ok (.iload_n 1, 1) := by decide +kernel
theorem dG_rightLength_5 : decode bG_rightLength 5 = .ok (.iaload, 1) := by decide +kernel
theorem dG_rightLength_6 : decode bG_rightLength 6 = .ok (.ireturn, 1) := by decide +kernel
theorem dG_weightOf_0 : decode bG_weightOf 0 = .ok (.aload_n 0, 1) := by decide +kernel
theorem dG_weightOf_1 : decode bG_weightOf 1 = .ok (.getfield 21, 3) := by decide +kernel
theorem dG_weightOf_4 : decode bG_weightOf 4 = .ok (.iload_n 1, 1) := by decide +kernel
theorem dG_weightOf_5 : decode bG_weightOf 5 = .ok (.daload, 1) := by decide +kernel
theorem dG_weightOf_6 : decode bG_weightOf 6 = .ok (.dreturn, 1) := by decide +kernel
theorem dG_symbolNonterminal_0 : decode bG_symbolNonterminal 0 = .ok (.aload_n 0, 1) := by decide +kernel
theorem dG_symbolNonterminal_1 : decode bG_symbolNonterminal 1 = .ok (.getfield 18, 3) := by decide +kernel
theorem dG_symbolNonterminal_4 : decode bG_symbolNonterminal 4 = .ok (.iload_n 1, 1) := by decide +kernel
theorem dG_symbolNonterminal_5 : decode bG_symbolNonterminal 5 = .ok (.iconst 4, 1) := by decide +kernel
theorem dG_symbolNonterminal_6 : decode bG_symbolNonterminal 6 = .ok (.imul, 1) := by decide +kernel
theorem dG_symbolNonterminal_7 : decode bG_symbolNonterminal 7 = .ok (.iload_n 2, 1) := by decide +kernel
theorem dG_symbolNonterminal_8 : decode bG_symbolNonterminal 8 = .ok (.iadd, 1) := by decide +kernel
theorem dG_symbolNonterminal_9 : decode bG_symbolNonterminal 9 = .ok (.iaload, 1) := by decide +kernel
theorem dG_symbolNonterminal_10 : decode bG_symbolNonterminal 10 = .ok (.invokestatic 53, 3) := by decide +kernel
theorem dG_symbolNonterminal_13 : decode bG_symbolNonterminal 13 = .ok (.ireturn, 1) := by decide +kernel
theorem dG_symbolStandsFor_0 : decode bG_symbolStandsFor 0 = .ok (.aload_n 0, 1) := by decide +kernel
theorem dG_symbolStandsFor_1 : decode bG_symbolStandsFor 1 = .ok (.getfield 18, 3) := by decide +kernel
theorem dG_symbolStandsFor_4 : decode bG_symbolStandsFor 4 = .ok (.iload_n 1, 1) := by decide +kernel
theorem dG_symbolStandsFor_5 : decode bG_symbolStandsFor 5 = .ok (.iconst 4, 1) := by decide +kernel
theorem dG_symbolStandsFor_6 : decode bG_symbolStandsFor 6 = .ok (.imul, 1) := by decide +kernel
theorem dG_symbolStandsFor_7 : decode bG_symbolStandsFor 7 = .ok (.iload_n 2, 1) := by decide +kernel
theorem dG_symbolStandsFor_8 : decode bG_symbolStandsFor 8 = .ok (.iadd, 1) := by decide +kernel
theorem dG_symbolStandsFor_9 : decode bG_symbolStandsFor 9 = .ok (.iaload, 1) := by decide +kernel
theorem dG_symbolStandsFor_10 : decode bG_symbolStandsFor 10 = .ok (.istore 4, 2) := by decide +kernel
theorem dG_symbolStandsFor_12 : decode bG_symbolStandsFor 12 = .ok (.iload 4, 2) := by decide +kernel
theorem dG_symbolStandsFor_14 : decode bG_symbolStandsFor 14 = .ok (.bipush 35, 2) := by decide +kernel
theorem dG_symbolStandsFor_16 : decode bG_symbolStandsFor 16 = .ok (.if_icmp .ne (21), 3) := by decide +kernel
theorem dG_symbolStandsFor_19 : decode bG_symbolStandsFor 19 = .ok (.iload_n 3, 1) := by decide +kernel
theorem dG_symbolStandsFor_20 : decode bG_symbolStandsFor 20 = .ok (.bipush 48, 2) := by decide +kernel
theorem dG_symbolStandsFor_22 : decode bG_symbolStandsFor 22 = .ok (.if_icmp .lt (13), 3) := by decide +kernel
theorem dG_symbolStandsFor_25 : decode bG_symbolStandsFor 25 = .ok (.iload_n 3, 1) := by decide +kernel
theorem dG_symbolStandsFor_26 : decode bG_symbolStandsFor 26 = .ok (.bipush 57, 2) := by decide +kernel
theorem dG_symbolStandsFor_28 : decode bG_symbolStandsFor 28 = .ok (.if_icmp .gt (7), 3) := by decide +kernel
theorem dG_symbolStandsFor_31 : decode bG_symbolStandsFor 31 = .ok (.iconst 1, 1) := by decide +kernel
theorem dG_symbolStandsFor_32 : decode bG_symbolStandsFor 32 = .ok (.goto (4), 3) := by decide +kernel
theorem dG_symbolStandsFor_35 : decode bG_symbolStandsFor 35 = .ok (.iconst 0, 1) := by decide +kernel
theorem dG_symbolStandsFor_36 : decode bG_symbolStandsFor 36 = .ok (.ireturn, 1) := by decide +kernel
theorem dG_symbolStandsFor_37 : decode bG_symbolStandsFor 37 = .ok (.iload 4, 2) := by decide +kernel
theorem dG_symbolStandsFor_39 : decode bG_symbolStandsFor 39 = .ok (.bipush 64, 2) := by decide +kernel
theorem dG_symbolStandsFor_41 : decode bG_symbolStandsFor 41 = .ok (.if_icmp .ne (21), 3) := by decide +kernel
theorem dG_symbolStandsFor_44 : decode bG_symbolStandsFor 44 = .ok (.iload_n 3, 1) := by decide +kernel
theorem dG_symbolStandsFor_45 : decode bG_symbolStandsFor 45 = .ok (.bipush 97, 2) := by decide +kernel
theorem dG_symbolStandsFor_47 : decode bG_symbolStandsFor 47 = .ok (.if_icmp .lt (13), 3) := by decide +kernel
theorem dG_symbolStandsFor_50 : decode bG_symbolStandsFor 50 = .ok (.iload_n 3, 1) := by decide +kernel
theorem dG_symbolStandsFor_51 : decode bG_symbolStandsFor 51 = .ok (.bipush 122, 2) := by decide +kernel
theorem dG_symbolStandsFor_53 : decode bG_symbolStandsFor 53 = .ok (.if_icmp .gt (7), 3) := by decide +kernel
theorem dG_symbolStandsFor_56 : decode bG_symbolStandsFor 56 = .ok (.iconst 1, 1) := by decide +kernel
theorem dG_symbolStandsFor_57 : decode bG_symbolStandsFor 57 = .ok (.goto (4), 3) := by decide +kernel
theorem dG_symbolStandsFor_60 : decode bG_symbolStandsFor 60 = .ok (.iconst 0, 1) := by decide +kernel
theorem dG_symbolStandsFor_61 : decode bG_symbolStandsFor 61 = .ok (.ireturn, 1) := by decide +kernel
theorem dG_symbolStandsFor_62 : decode bG_symbolStandsFor 62 = .ok (.iload 4, 2) := by decide +kernel
theorem dG_symbolStandsFor_64 : decode bG_symbolStandsFor 64 = .ok (.iload_n 3, 1) := by decide +kernel
theorem dG_symbolStandsFor_65 : decode bG_symbolStandsFor 65 = .ok (.if_icmp .ne (16), 3) := by decide +kernel
theorem dG_symbolStandsFor_68 : decode bG_symbolStandsFor 68 = .ok (.iload 4, 2) := by decide +kernel
theorem dG_symbolStandsFor_70 : decode bG_symbolStandsFor 70 = .ok (.invokestatic 53, 3) := by decide +kernel
theorem dG_symbolStandsFor_73 : decode bG_symbolStandsFor 73 = .ok (.iconst (-1), 1) := by decide +kernel
theorem dG_symbolStandsFor_74 : decode bG_symbolStandsFor 74 = .ok (.if_icmp .ne (7), 3) := by decide +kernel
theorem dG_symbolStandsFor_77 : decode bG_symbolStandsFor 77 = .ok (.iconst 1, 1) := by decide +kernel
theorem dG_symbolStandsFor_78 : decode bG_symbolStandsFor 78 = .ok (.goto (4), 3) := by decide +kernel
theorem dG_symbolStandsFor_81 : decode bG_symbolStandsFor 81 = .ok (.iconst 0, 1) := by decide +kernel
theorem dG_symbolStandsFor_82 : decode bG_symbolStandsFor 82 = .ok (.ireturn, 1) := by decide +kernel
theorem dG_rejectingRules_0 : decode bG_rejectingRules 0 = .ok (.aload_n 0, 1) := by decide +kernel
theorem dG_rejectingRules_1 : decode bG_rejectingRules 1 = .ok (.iload_n 1, 1) := by decide +kernel
theorem dG_rejectingRules_2 : decode bG_rejectingRules 2 = .ok (.iconst 1, 1) := by decide +kernel
theorem dG_rejectingRules_3 : decode bG_rejectingRules 3 = .ok (.invokevirtual 74, 3) := by decide +kernel
theorem dG_rejectingRules_6 : decode bG_rejectingRules 6 = .ok (.ireturn, 1) := by decide +kernel
theorem dG_derivingRules_0 : decode bG_derivingRules 0 = .ok (.aload_n 0, 1) := by decide +kernel
theorem dG_derivingRules_1 : decode bG_derivingRules 1 = .ok (.iload_n 1, 1) := by decide +kernel
theorem dG_derivingRules_2 : decode bG_derivingRules 2 = .ok (.iconst 0, 1) := by decide +kernel
theorem dG_derivingRules_3 : decode bG_derivingRules 3 = .ok (.invokevirtual 74, 3) := by decide +kernel
theorem dG_derivingRules_6 : decode bG_derivingRules 6 = .ok (.ireturn, 1) := by decide +kernel
theorem dG_rulesOf_0 : decode bG_rulesOf 0 = .ok (.iconst 0, 1) := by decide +kernel
theorem dG_rulesOf_1 : decode bG_rulesOf 1 = .ok (.istore_n 3, 1) := by decide +kernel
theorem dG_rulesOf_2 : decode bG_rulesOf 2 = .ok (.iconst 0, 1) := by decide +kernel
theorem dG_rulesOf_3 : decode bG_rulesOf 3 = .ok (.istore 4, 2) := by decide +kernel
theorem dG_rulesOf_5 : decode bG_rulesOf 5 = .ok (.iload 4, 2) := by decide +kernel
theorem dG_rulesOf_7 : decode bG_rulesOf 7 = .ok (.aload_n 0, 1) := by decide +kernel
theorem dG_rulesOf_8 : decode bG_rulesOf 8 = .ok (.getfield 35, 3) := by decide +kernel
theorem dG_rulesOf_11 : decode bG_rulesOf 11 = .ok (.if_icmp .ge (47), 3) := by decide +kernel
theorem dG_rulesOf_14 : decode bG_rulesOf 14 = .ok (.aload_n 0, 1) := by decide +kernel
theorem dG_rulesOf_15 : decode bG_rulesOf 15 = .ok (.getfield 9, 3) := by decide +kernel
theorem dG_rulesOf_18 : decode bG_rulesOf 18 = .ok (.iload 4, 2) := by decide +kernel
theorem dG_rulesOf_20 : decode bG_rulesOf 20 = .ok (.iaload, 1) := by decide +kernel
theorem dG_rulesOf_21 : decode bG_rulesOf 21 = .ok (.iload_n 1, 1) := by decide +kernel
theorem dG_rulesOf_22 : decode bG_rulesOf 22 = .ok (.if_icmp .ne (30), 3) := by decide +kernel
theorem dG_rulesOf_25 : decode bG_rulesOf 25 = .ok (.aload_n 0, 1) := by decide +kernel
theorem dG_rulesOf_26 : decode bG_rulesOf 26 = .ok (.getfield 25, 3) := by decide +kernel
theorem dG_rulesOf_29 : decode bG_rulesOf 29 = .ok (.iload 4, 2) := by decide +kernel
theorem dG_rulesOf_31 : decode bG_rulesOf 31 = .ok (.iaload, 1) := by decide +kernel
theorem dG_rulesOf_32 : decode bG_rulesOf 32 = .ok (.iconst 1, 1) := by decide +kernel
theorem dG_rulesOf_33 : decode bG_rulesOf 33 = .ok (.if_icmp .ne (7), 3) := by decide +kernel
theorem dG_rulesOf_36 : decode bG_rulesOf 36 = .ok (.iconst 1, 1) := by decide +kernel
theorem dG_rulesOf_37 : decode bG_rulesOf 37 = .ok (.goto (4), 3) := by decide +kernel
theorem dG_rulesOf_40 : decode bG_rulesOf 40 = .ok (.iconst 0, 1) := by decide +kernel
theorem dG_rulesOf_41 : decode bG_rulesOf 41 = .ok (.iload_n 2, 1) := by decide +kernel
theorem dG_rulesOf_42 : decode bG_rulesOf 42 = .ok (.if_icmp .ne (10), 3) := by decide +kernel
theorem dG_rulesOf_45 : decode bG_rulesOf 45 = .ok (.iload_n 3, 1) := by decide +kernel
theorem dG_rulesOf_46 : decode bG_rulesOf 46 = .ok (.iconst 1, 1) := by decide +kernel
theorem dG_rulesOf_47 : decode bG_rulesOf 47 = .ok (.iload 4, 2) := by decide +kernel
theorem dG_rulesOf_49 : decode bG_rulesOf 49 = .ok (.ishl, 1) := by decide +kernel
theorem dG_rulesOf_50 : decode bG_rulesOf 50 = .ok (.ior, 1) := by decide +kernel
theorem dG_rulesOf_51 : decode bG_rulesOf 51 = .ok (.istore_n 3, 1) := by decide +kernel
theorem dG_rulesOf_52 : decode bG_rulesOf 52 = .ok (.iinc 4 (1), 3) := by decide +kernel
theorem dG_rulesOf_55 : decode bG_rulesOf 55 = .ok (.goto (-50), 3) := by decide +kernel
theorem dG_rulesOf_58 : decode bG_rulesOf 58 = .ok (.iload_n 3, 1) := by decide +kernel
theorem dG_rulesOf_59 : decode bG_rulesOf 59 = .ok (.ireturn, 1) := by decide +kernel
theorem dG_allowedUnder_0 : decode bG_allowedUnder 0 = .ok (.iload_n 3, 1) := by decide +kernel
theorem dG_allowedUnder_1 : decode bG_allowedUnder 1 = .ok (.aload_n 0, 1) := by decide +kernel
theorem dG_allowedUnder_2 : decode bG_allowedUnder 2 = .ok (.getfield 28, 3) := by decide +kernel
theorem dG_allowedUnder_5 : decode bG_allowedUnder 5 = .ok (.iload_n 1, 1) := by decide +kernel
theorem dG_allowedUnder_6 : decode bG_allowedUnder 6 = .ok (.iaload, 1) := by decide +kernel
theorem dG_allowedUnder_7 : decode bG_allowedUnder 7 = .ok (.iconst (-1), 1) := by decide +kernel
theorem dG_allowedUnder_8 : decode bG_allowedUnder 8 = .ok (.ixor, 1) := by decide +kernel
theorem dG_allowedUnder_9 : decode bG_allowedUnder 9 = .ok (.iand, 1) := by decide +kernel
theorem dG_allowedUnder_10 : decode bG_allowedUnder 10 = .ok (.istore 4, 2) := by decide +kernel
theorem dG_allowedUnder_12 : decode bG_allowedUnder 12 = .ok (.aload_n 0, 1) := by decide +kernel
theorem dG_allowedUnder_13 : decode bG_allowedUnder 13 = .ok (.getfield 25, 3) := by decide +kernel
theorem dG_allowedUnder_16 : decode bG_allowedUnder 16 = .ok (.iload_n 1, 1) := by decide +kernel
theorem dG_allowedUnder_17 : decode bG_allowedUnder 17 = .ok (.iaload, 1) := by decide +kernel
theorem dG_allowedUnder_18 : decode bG_allowedUnder 18 = .ok (.iconst 2, 1) := by decide +kernel
theorem dG_allowedUnder_19 : decode bG_allowedUnder 19 = .ok (.if_icmp .ne (15), 3) := by decide +kernel
theorem dG_allowedUnder_22 : decode bG_allowedUnder 22 = .ok (.iload_n 2, 1) := by decide +kernel
theorem dG_allowedUnder_23 : decode bG_allowedUnder 23 = .ok (.aload_n 0, 1) := by decide +kernel
theorem dG_allowedUnder_24 : decode bG_allowedUnder 24 = .ok (.getfield 15, 3) := by decide +kernel
theorem dG_allowedUnder_27 : decode bG_allowedUnder 27 = .ok (.iload_n 1, 1) := by decide +kernel
theorem dG_allowedUnder_28 : decode bG_allowedUnder 28 = .ok (.iaload, 1) := by decide +kernel
theorem dG_allowedUnder_29 : decode bG_allowedUnder 29 = .ok (.iconst 1, 1) := by decide +kernel
theorem dG_allowedUnder_30 : decode bG_allowedUnder 30 = .ok (.isub, 1) := by decide +kernel
theorem dG_allowedUnder_31 : decode bG_allowedUnder 31 = .ok (.if_icmp .eq (17), 3) := by decide +kernel
theorem dG_allowedUnder_34 : decode bG_allowedUnder 34 = .ok (.aload_n 0, 1) := by decide +kernel
theorem dG_allowedUnder_35 : decode bG_allowedUnder 35 = .ok (.getfield 25, 3) := by decide +kernel
theorem dG_allowedUnder_38 : decode bG_allowedUnder 38 = .ok (.iload_n 1, 1) := by decide +kernel
theorem dG_allowedUnder_39 : decode bG_allowedUnder 39 = .ok (.iaload, 1) := by decide +kernel
theorem dG_allowedUnder_40 : decode bG_allowedUnder 40 = .ok (.iconst 3, 1) := by decide +kernel
theorem dG_allowedUnder_41 : decode bG_allowedUnder 41 = .ok (.if_icmp .ne (11), 3) := by decide +kernel
theorem dG_allowedUnder_44 : decode bG_allowedUnder 44 = .ok (.iload_n 2, 1) := by decide +kernel
theorem dG_allowedUnder_45 : decode bG_allowedUnder 45 = .ok (.ifCond .ne (7), 3) := by decide +kernel
theorem dG_allowedUnder_48 : decode bG_allowedUnder 48 = .ok (.iconst 1, 1) := by decide +kernel
theorem dG_allowedUnder_49 : decode bG_allowedUnder 49 = .ok (.goto (4), 3) := by decide +kernel
theorem dG_allowedUnder_52 : decode bG_allowedUnder 52 = .ok (.iconst 0, 1) := by decide +kernel
theorem dG_allowedUnder_53 : decode bG_allowedUnder 53 = .ok (.istore 5, 2) := by decide +kernel
theorem dG_allowedUnder_55 : decode bG_allowedUnder 55 = .ok (.iload 5, 2) := by decide +kernel
theorem dG_allowedUnder_57 : decode bG_allowedUnder 57 = .ok (.ifCond .eq (14), 3) := by decide +kernel
theorem dG_allowedUnder_60 : decode bG_allowedUnder 60 = .ok (.iload 4, 2) := by decide +kernel
theorem dG_allowedUnder_62 : decode bG_allowedUnder 62 = .ok (.iconst 1, 1) := by decide +kernel
theorem dG_allowedUnder_63 : decode bG_allowedUnder 63 = .ok (.iload_n 1, 1) := by decide +kernel
theorem dG_allowedUnder_64 : decode bG_allowedUnder 64 = .ok (.ishl, 1) := by decide +kernel
theorem dG_allowedUnder_65 : decode bG_allowedUnder 65 = .ok (.iconst (-1), 1) := by decide +kernel
theorem dG_allowedUnder_66 : decode bG_allowedUnder 66 = .ok (.ixor, 1) := by decide +kernel
theorem dG_allowedUnder_67 : decode bG_allowedUnder 67 = .ok (.iand, 1) := by decide +kernel
theorem dG_allowedUnder_68 : decode bG_allowedUnder 68 = .ok (.goto (5), 3) := by decide +kernel
theorem dG_allowedUnder_71 : decode bG_allowedUnder 71 = .ok (.iload 4, 2) := by decide +kernel
theorem dG_allowedUnder_73 : decode bG_allowedUnder 73 = .ok (.ireturn, 1) := by decide +kernel
theorem dG_orderByChains_0 : decode bG_orderByChains 0 = .ok (.iconst 0, 1) := by decide +kernel
theorem dG_orderByChains_1 : decode bG_orderByChains 1 = .ok (.istore_n 2, 1) := by decide +kernel
theorem dG_orderByChains_2 : decode bG_orderByChains 2 = .ok (.iconst 0, 1) := by decide +kernel
theorem dG_orderByChains_3 : decode bG_orderByChains 3 = .ok (.istore_n 3, 1) := by decide +kernel
theorem dG_orderByChains_4 : decode bG_orderByChains 4 = .ok (.iconst 0, 1) := by decide +kernel
theorem dG_orderByChains_5 : decode bG_orderByChains 5 = .ok (.istore 4, 2) := by decide +kernel
theorem dG_orderByChains_7 : decode bG_orderByChains 7 = .ok (.iload 4, 2) := by decide +kernel
theorem dG_orderByChains_9 : decode bG_orderByChains 9 = .ok (.bipush 6, 2) := by decide +kernel
theorem dG_orderByChains_11 : decode bG_orderByChains 11 = .ok (.if_icmp .ge (73), 3) := by decide +kernel
theorem dG_orderByChains_14 : decode bG_orderByChains 14 = .ok (.iconst 0, 1) := by decide +kernel
theorem dG_orderByChains_15 : decode bG_orderByChains 15 = .ok (.istore 5, 2) := by decide +kernel
theorem dG_orderByChains_17 : decode bG_orderByChains 17 = .ok (.iload 5, 2) := by decide +kernel
theorem dG_orderByChains_19 : decode bG_orderByChains 19 = .ok (.bipush 6, 2) := by decide +kernel
theorem dG_orderByChains_21 : decode bG_orderByChains 21 = .ok (.if_icmp .ge (57), 3) := by decide +kernel
theorem dG_orderByChains_24 : decode bG_orderByChains 24 = .ok (.aload_n 0, 1) := by decide +kernel
theorem dG_orderByChains_25 : decode bG_orderByChains 25 = .ok (.iload 5, 2) := by decide +kernel
theorem dG_orderByChains_27 : decode bG_orderByChains 27 = .ok (.invokevirtual 56, 3) := by decide +kernel
theorem dG_orderByChains_30 : decode bG_orderByChains 30 = .ok (.iconst 1, 1) := by decide +kernel
theorem dG_orderByChains_31 : decode bG_orderByChains 31 = .ok (.iload 5, 2) := by decide +kernel
theorem dG_orderByChains_33 : decode bG_orderByChains 33 = .ok (.ishl, 1) := by decide +kernel
theorem dG_orderByChains_34 : decode bG_orderByChains 34 = .ok (.iconst (-1), 1) := by decide +kernel
theorem dG_orderByChains_35 : decode bG_orderByChains 35 = .ok (.ixor, 1) := by decide +kernel
theorem dG_orderByChains_36 : decode bG_orderByChains 36 = .ok (.iand, 1) := by decide +kernel
theorem dG_orderByChains_37 : decode bG_orderByChains 37 = .ok (.istore 6, 2) := by decide +kernel
theorem dG_orderByChains_39 : decode bG_orderByChains 39 = .ok (.iload_n 2, 1) := by decide +kernel
theorem dG_orderByChains_40 : decode bG_orderByChains 40 = .ok (.iload 5, 2) := by decide +kernel
theorem dG_orderByChains_42 : decode bG_orderByChains 42 = .ok (.invokestatic 59, 3) := by decide +kernel
theorem dG_orderByChains_45 : decode bG_orderByChains 45 = .ok (.ifCond .ne (27), 3) := by decide +kernel
theorem dG_orderByChains_48 : decode bG_orderByChains 48 = .ok (.iload 6, 2) := by decide +kernel
theorem dG_orderByChains_50 : decode bG_orderByChains 50 = .ok (.iload_n 2, 1) := by decide +kernel
theorem dG_orderByChains_51 : decode bG_orderByChains 51 = .ok (.iconst (-1), 1) := by decide +kernel
theorem dG_orderByChains_52 : decode bG_orderByChains 52 = .ok (.ixor, 1) := by decide +kernel
theorem dG_orderByChains_53 : decode bG_orderByChains 53 = .ok (.iand, 1) := by decide +kernel
theorem dG_orderByChains_54 : decode bG_orderByChains 54 = .ok (.ifCond .ne (18), 3) := by decide +kernel
theorem dG_orderByChains_57 : decode bG_orderByChains 57 = .ok (.aload_n 1, 1) := by decide +kernel
theorem dG_orderByChains_58 : decode bG_orderByChains 58 = .ok (.iload_n 3, 1) := by decide +kernel
theorem dG_orderByChains_59 : decode bG_orderByChains 59 = .ok (.iload 5, 2) := by decide +kernel
theorem dG_orderByChains_61 : decode bG_orderByChains 61 = .ok (.iastore, 1) := by decide +kernel
theorem dG_orderByChains_62 : decode bG_orderByChains 62 = .ok (.iinc 3 (1), 3) := by decide +kernel
theorem dG_orderByChains_65 : decode bG_orderByChains 65 = .ok (.iload_n 2, 1) := by decide +kernel
theorem dG_orderByChains_66 : decode bG_orderByChains 66 = .ok (.iconst 1, 1) := by decide +kernel
theorem dG_orderByChains_67 : decode bG_orderByChains 67 = .ok (.iload 5, 2) := by decide +kernel
theorem dG_orderByChains_69 : decode bG_orderByChains 69 = .ok (.ishl, 1) := by decide +kernel
theorem dG_orderByChains_70 : decode bG_orderByChains 70 = .ok (.ior, 1) := by decide +kernel
theorem dG_orderByChains_71 : decode bG_orderByChains 71 = .ok (.istore_n 2, 1) := by decide +kernel
theorem dG_orderByChains_72 : decode bG_orderByChains 72 = .ok (.iinc 5 (1), 3) := by decide +kernel
theorem dG_orderByChains_75 : decode bG_orderByChains 75 = .ok (.goto (-58), 3) := by decide +kernel
theorem dG_orderByChains_78 : decode bG_orderByChains 78 = .ok (.iinc 4 (1), 3) := by decide +kernel
theorem dG_orderByChains_81 : decode bG_orderByChains 81 = .ok (.goto (-74), 3) := by decide +kernel
theorem dG_orderByChains_84 : decode bG_orderByChains 84 = .ok (.return_, 1) := by decide +kernel
theorem dT_init_0 : decode bT_init 0 = .ok (.aload_n 0, 1) := by decide +kernel
theorem dT_init_1 : decode bT_init 1 = .ok (.invokespecial 3, 3) := by decide +kernel
theorem dT_init_4 : decode bT_init 4 = .ok (.aload_n 0, 1) := by decide +kernel
theorem dT_init_5 : decode bT_init 5 = .ok (.bipush 14, 2) := by decide +kernel
theorem dT_init_7 : decode bT_init 7 = .ok (.newarray .int, 2) := by decide +kernel
theorem dT_init_9 : decode bT_init 9 = .ok (.putfield 9, 3) := by decide +kernel
theorem dT_init_12 : decode bT_init 12 = .ok (.aload_n 0, 1) := by decide +kernel
theorem dT_init_13 : decode bT_init 13 = .ok (.iconst 0, 1) := by decide +kernel
theorem dT_init_14 : decode bT_init 14 = .ok (.putfield 15, 3) := by decide +kernel
theorem dT_init_17 : decode bT_init 17 = .ok (.return_, 1) := by decide +kernel
theorem dT_length_0 : decode bT_length 0 = .ok (.aload_n 0, 1) := by decide +kernel
theorem dT_length_1 : decode bT_length 1 = .ok (.getfield 15, 3) := by decide +kernel
theorem dT_length_4 : decode bT_length 4 = .ok (.ireturn, 1) := by decide +kernel
theorem dT_at_0 : decode bT_at 0 = .ok (.iload_n 1, 1) := by decide +kernel
theorem dT_at_1 : decode bT_at 1 = .ok (.ifCond .lt (20), 3) := by decide +kernel
theorem dT_at_4 : decode bT_at 4 = .ok (.iload_n 1, 1) := by decide +kernel
theorem dT_at_5 : decode bT_at 5 = .ok (.aload_n 0, 1) := by decide +kernel
theorem dT_at_6 : decode bT_at 6 = .ok (.getfield 15, 3) := by decide +kernel
theorem dT_at_9 : decode bT_at 9 = .ok (.if_icmp .ge (12), 3) := by decide +kernel
theorem dT_at_12 : decode bT_at 12 = .ok (.aload_n 0, 1) := by decide +kernel
theorem dT_at_13 : decode bT_at 13 = .ok (.getfield 9, 3) := by decide +kernel
theorem dT_at_16 : decode bT_at 16 = .ok (.iload_n 1, 1) := by decide +kernel
theorem dT_at_17 : decode bT_at 17 = .ok (.iaload, 1) := by decide +kernel
theorem dT_at_18 : decode bT_at 18 = .ok (.goto (4), 3) := by decide +kernel
theorem dT_at_21 : decode bT_at 21 = .ok (.iconst 0, 1) := by decide +kernel
theorem dT_at_22 : decode bT_at 22 = .ok (.ireturn, 1) := by decide +kernel
theorem dT_append_0 : decode bT_append 0 = .ok (.aload_n 0, 1) := by decide +kernel
theorem dT_append_1 : decode bT_append 1 = .ok (.getfield 15, 3) := by decide +kernel
theorem dT_append_4 : decode bT_append 4 = .ok (.bipush 14, 2) := by decide +kernel
theorem dT_append_6 : decode bT_append 6 = .ok (.if_icmp .ge (23), 3) := by decide +kernel
theorem dT_append_9 : decode bT_append 9 = .ok (.aload_n 0, 1) := by decide +kernel
theorem dT_append_10 : decode bT_append 10 = .ok (.getfield 9, 3) := by decide +kernel
theorem dT_append_13 : decode bT_append 13 = .ok (.aload_n 0, 1) := by decide +kernel
theorem dT_append_14 : decode bT_append 14 = .ok (.getfield 15, 3) := by decide +kernel
theorem dT_append_17 : decode bT_append 17 = .ok (.iload_n 1, 1) := by decide +kernel
theorem dT_append_18 : decode bT_append 18 = .ok (.iastore, 1) := by decide +kernel
theorem dT_append_19 : decode bT_append 19 = .ok (.aload_n 0, 1) := by decide +kernel
theorem dT_append_20 : decode bT_append 20 = .ok (.dup, 1) := by decide +kernel
theorem dT_append_21 : decode bT_append 21 = .ok (.getfield 15, 3) := by decide +kernel
theorem dT_append_24 : decode bT_append 24 = .ok (.iconst 1, 1) := by decide +kernel
theorem dT_append_25 : decode bT_append 25 = .ok (.iadd, 1) := by decide +kernel
theorem dT_append_26 : decode bT_append 26 = .ok (.putfield 15, 3) := by decide +kernel
theorem dT_append_29 : decode bT_append 29 = .ok (.return_, 1) := by decide +kernel
theorem dT_clear_0 : decode bT_clear 0 = .ok (.aload_n 0, 1) := by decide +kernel
theorem dT_clear_1 : decode bT_clear 1 = .ok (.iconst 0, 1) := by decide +kernel
theorem dT_clear_2 : decode bT_clear 2 = .ok (.putfield 15, 3) := by decide +kernel
theorem dT_clear_5 : decode bT_clear 5 = .ok (.return_, 1) := by decide +kernel
theorem dE_init_0 : decode bE_init 0 = .ok (.aload_n 0, 1) := by decide +kernel
theorem dE_init_1 : decode bE_init 1 = .ok (.invokespecial 3, 3) := by decide +kernel
theorem dE_init_4 : decode bE_init 4 = .ok (.aload_n 0, 1) := by decide +kernel
theorem dE_init_5 : decode bE_init 5 = .ok (.sipush 162, 3) := by decide +kernel
theorem dE_init_8 : decode bE_init 8 = .ok (.newarray .int, 2) := by decide +kernel
theorem dE_init_10 : decode bE_init 10 = .ok (.putfield 9, 3) := by decide +kernel
theorem dE_init_13 : decode bE_init 13 = .ok (.aload_n 0, 1) := by decide +kernel
theorem dE_init_14 : decode bE_init 14 = .ok (.sipush 162, 3) := by decide +kernel
theorem dE_init_17 : decode bE_init 17 = .ok (.newarray .int, 2) := by decide +kernel
theorem dE_init_19 : decode bE_init 19 = .ok (.putfield 15, 3) := by decide +kernel
theorem dE_init_22 : decode bE_init 22 = .ok (.aload_n 0, 1) := by decide +kernel
theorem dE_init_23 : decode bE_init 23 = .ok (.sipush 162, 3) := by decide +kernel
theorem dE_init_26 : decode bE_init 26 = .ok (.newarray .int, 2) := by decide +kernel
theorem dE_init_28 : decode bE_init 28 = .ok (.putfield 18, 3) := by decide +kernel
theorem dE_init_31 : decode bE_init 31 = .ok (.aload_n 0, 1) := by decide +kernel
theorem dE_init_32 : decode bE_init 32 = .ok (.iconst 0, 1) := by decide +kernel
theorem dE_init_33 : decode bE_init 33 = .ok (.putfield 21, 3) := by decide +kernel
theorem dE_init_36 : decode bE_init 36 = .ok (.return_, 1) := by decide +kernel
theorem dE_clear_0 : decode bE_clear 0 = .ok (.aload_n 0, 1) := by decide +kernel
theorem dE_clear_1 : decode bE_clear 1 = .ok (.iconst 0, 1) := by decide +kernel
theorem dE_clear_2 : decode bE_clear 2 = .ok (.putfield 21, 3) := by decide +kernel
theorem dE_clear_5 : decode bE_clear 5 = .ok (.return_, 1) := by decide +kernel
theorem dE_grow_0 : decode bE_grow 0 = .ok (.aload_n 0, 1) := by decide +kernel
theorem dE_grow_1 : decode bE_grow 1 = .ok (.iconst 0, 1) := by decide +kernel
theorem dE_grow_2 : decode bE_grow 2 = .ok (.putfield 21, 3) := by decide +kernel
theorem dE_grow_5 : decode bE_grow 5 = .ok (.aload_n 0, 1) := by decide +kernel
theorem dE_grow_6 : decode bE_grow 6 = .ok (.iconst 0, 1) := by decide +kernel
theorem dE_grow_7 : decode bE_grow 7 = .ok (.iload_n 3, 1) := by decide +kernel
theorem dE_grow_8 : decode bE_grow 8 = .ok (.iconst 0, 1) := by decide +kernel
theorem dE_grow_9 : decode bE_grow 9 = .ok (.iload 4, 2) := by decide +kernel
theorem dE_grow_11 : decode bE_grow 11 = .ok (.invokevirtual 25, 3) := by decide +kernel
theorem dE_grow_14 : decode bE_grow 14 = .ok (.iconst 0, 1) := by decide +kernel
theorem dE_grow_15 : decode bE_grow 15 = .ok (.istore 5, 2) := by decide +kernel
theorem dE_grow_17 : decode bE_grow 17 = .ok (.iload 5, 2) := by decide +kernel
theorem dE_grow_19 : decode bE_grow 19 = .ok (.aload_n 0, 1) := by decide +kernel
theorem dE_grow_20 : decode bE_grow 20 = .ok (.getfield 21, 3) := by decide +kernel
theorem dE_grow_23 : decode bE_grow 23 = .ok (.if_icmp .ge (25), 3) := by decide +kernel
theorem dE_grow_26 : decode bE_grow 26 = .ok (.iload 5, 2) := by decide +kernel
theorem dE_grow_28 : decode bE_grow 28 = .ok (.sipush 162, 3) := by decide +kernel
theorem dE_grow_31 : decode bE_grow 31 = .ok (.if_icmp .ge (17), 3) := by decide +kernel
theorem dE_grow_34 : decode bE_grow 34 = .ok (.aload_n 0, 1) := by decide +kernel
theorem dE_grow_35 : decode bE_grow 35 = .ok (.aload_n 1, 1) := by decide +kernel
theorem dE_grow_36 : decode bE_grow 36 = .ok (.aload_n 2, 1) := by decide +kernel
theorem dE_grow_37 : decode bE_grow 37 = .ok (.iload 5, 2) := by decide +kernel
theorem dE_grow_39 : decode bE_grow 39 = .ok (.invokevirtual 29, 3) := by decide +kernel
theorem dE_grow_42 : decode bE_grow 42 = .ok (.iinc 5 (1), 3) := by decide +kernel
theorem dE_grow_45 : decode bE_grow 45 = .ok (.goto (-28), 3) := by decide +kernel
theorem dE_grow_48 : decode bE_grow 48 = .ok (.return_, 1) := by decide +kernel
theorem dE_insertBelow_0 : decode bE_insertBelow 0 = .ok (.aload_n 0, 1) := by decide +kernel
theorem dE_insertBelow_1 : decode bE_insertBelow 1 = .ok (.getfield 9, 3) := by decide +kernel
theorem dE_insertBelow_4 : decode bE_insertBelow 4 = .ok (.iload_n 3, 1) := by decide +kernel
theorem dE_insertBelow_5 : decode bE_insertBelow 5 = .ok (.iaload, 1) := by decide +kernel
theorem dE_insertBelow_6 : decode bE_insertBelow 6 = .ok (.istore 4, 2) := by decide +kernel
theorem dE_insertBelow_8 : decode bE_insertBelow 8 = .ok (.aload_n 0, 1) := by decide +kernel
theorem dE_insertBelow_9 : decode bE_insertBelow 9 = .ok (.getfield 15, 3) := by decide +kernel
theorem dE_insertBelow_12 : decode bE_insertBelow 12 = .ok (.iload_n 3, 1) := by decide +kernel
theorem dE_insertBelow_13 : decode bE_insertBelow 13 = .ok (.iaload, 1) := by decide +kernel
theorem dE_insertBelow_14 : decode bE_insertBelow 14 = .ok (.aload_n 0, 1) := by decide +kernel
theorem dE_insertBelow_15 : decode bE_insertBelow 15 = .ok (.getfield 18, 3) := by decide +kernel
theorem dE_insertBelow_18 : decode bE_insertBelow 18 = .ok (.iload_n 3, 1) := by decide +kernel
theorem dE_insertBelow_19 : decode bE_insertBelow 19 = .ok (.iaload, 1) := by decide +kernel
theorem dE_insertBelow_20 : decode bE_insertBelow 20 = .ok (.invokestatic 33, 3) := by decide +kernel
theorem dE_insertBelow_23 : decode bE_insertBelow 23 = .ok (.istore 5, 2) := by decide +kernel
theorem dE_insertBelow_25 : decode bE_insertBelow 25 = .ok (.aload_n 0, 1) := by decide +kernel
theorem dE_insertBelow_26 : decode bE_insertBelow 26 = .ok (.getfield 15, 3) := by decide +kernel
theorem dE_insertBelow_29 : decode bE_insertBelow 29 = .ok (.iload_n 3, 1) := by decide +kernel
theorem dE_insertBelow_30 : decode bE_insertBelow 30 = .ok (.iaload, 1) := by decide +kernel
theorem dE_insertBelow_31 : decode bE_insertBelow 31 = .ok (.istore 6, 2) := by decide +kernel
theorem dE_insertBelow_33 : decode bE_insertBelow 33 = .ok (.iload_n 3, 1) := by decide +kernel
theorem dE_insertBelow_34 : decode bE_insertBelow 34 = .ok (.iconst 1, 1) := by decide +kernel
theorem dE_insertBelow_35 : decode bE_insertBelow 35 = .ok (.iadd, 1) := by decide +kernel
theorem dE_insertBelow_36 : decode bE_insertBelow 36 = .ok (.istore 7, 2) := by decide +kernel
theorem dE_insertBelow_38 : decode bE_insertBelow 38 = .ok (.iconst 0, 1) := by decide +kernel
theorem dE_insertBelow_39 : decode bE_insertBelow 39 = .ok (.istore 8, 2) := by decide +kernel
theorem dE_insertBelow_41 : decode bE_insertBelow 41 = .ok (.iload 8, 2) := by decide +kernel
theorem dE_insertBelow_43 : decode bE_insertBelow 43 = .ok (.aload_n 1, 1) := by decide +kernel
theorem dE_insertBelow_44 : decode bE_insertBelow 44 = .ok (.iload 4, 2) := by decide +kernel
theorem dE_insertBelow_46 : decode bE_insertBelow 46 = .ok (.invokevirtual 37, 3) := by decide +kernel
theorem dE_insertBelow_49 : decode bE_insertBelow 49 = .ok (.if_icmp .ge (63), 3) := by decide +kernel
theorem dE_insertBelow_52 : decode bE_insertBelow 52 = .ok (.aload_n 2, 1) := by decide +kernel
theorem dE_insertBelow_53 : decode bE_insertBelow 53 = .ok (.iload 4, 2) := by decide +kernel
theorem dE_insertBelow_55 : decode bE_insertBelow 55 = .ok (.iload 8, 2) := by decide +kernel
theorem dE_insertBelow_57 : decode bE_insertBelow 57 = .ok (.iload 5, 2) := by decide +kernel
theorem dE_insertBelow_59 : decode bE_insertBelow 59 = .ok (.invokevirtual 43, 3) := by decide +kernel
theorem dE_insertBelow_62 : decode bE_insertBelow 62 = .ok (.istore 9, 2) := by decide +kernel
theorem dE_insertBelow_64 : decode bE_insertBelow 64 = .ok (.aload_n 2, 1) := by decide +kernel
theorem dE_insertBelow_65 : decode bE_insertBelow 65 = .ok (.iload 4, 2) := by decide +kernel
theorem dE_insertBelow_67 : decode bE_insertBelow 67 = .ok (.iload 8, 2) := by decide +kernel
theorem dE_insertBelow_69 : decode bE_insertBelow 69 = .ok (.iload 6, 2) := by decide +kernel
theorem dE_insertBelow_71 : decode bE_insertBelow 71 = .ok (.iload 9, 2) := by decide +kernel
theorem dE_insertBelow_73 : decode bE_insertBelow 73 = .ok (.invokestatic 33, 3) := by decide +kernel
theorem dE_insertBelow_76 : decode bE_insertBelow 76 = .ok (.invokevirtual 49, 3) := by decide +kernel
theorem dE_insertBelow_79 : decode bE_insertBelow 79 = .ok (.istore 10, 2) := by decide +kernel
theorem dE_insertBelow_81 : decode bE_insertBelow 81 = .ok (.iload 10, 2) := by decide +kernel
theorem dE_insertBelow_83 : decode bE_insertBelow 83 = .ok (.iconst (-1), 1) := by decide +kernel
theorem dE_insertBelow_84 : decode bE_insertBelow 84 = .ok (.if_icmp .eq (18), 3) := by decide +kernel
theorem dE_insertBelow_87 : decode bE_insertBelow 87 = .ok (.aload_n 0, 1) := by decide +kernel
theorem dE_insertBelow_88 : decode bE_insertBelow 88 = .ok (.iload 7, 2) := by decide +kernel
theorem dE_insertBelow_90 : decode bE_insertBelow 90 = .ok (.iload 10, 2) := by decide +kernel
theorem dE_insertBelow_92 : decode bE_insertBelow 92 = .ok (.iload 6, 2) := by decide +kernel
theorem dE_insertBelow_94 : decode bE_insertBelow 94 = .ok (.iload 9, 2) := by decide +kernel
theorem dE_insertBelow_96 : decode bE_insertBelow 96 = .ok (.invokevirtual 25, 3) := by decide +kernel
theorem dE_insertBelow_99 : decode bE_insertBelow 99 = .ok (.iinc 7 (1), 3) := by decide +kernel
theorem dE_insertBelow_102 : decode bE_insertBelow 102 = .ok (.iload 9, 2) := by decide +kernel
theorem dE_insertBelow_104 : decode bE_insertBelow 104 = .ok (.istore 6, 2) := by decide +kernel
theorem dE_insertBelow_106 : decode bE_insertBelow 106 = .ok (.iinc 8 (1), 3) := by decide +kernel
theorem dE_insertBelow_109 : decode bE_insertBelow 109 = .ok (.goto (-68), 3) := by decide +kernel
theorem dE_insertBelow_112 : decode bE_insertBelow 112 = .ok (.return_, 1) := by decide +kernel
theorem dE_insert_0 : decode bE_insert 0 = .ok (.aload_n 0, 1) := by decide +kernel
theorem dE_insert_1 : decode bE_insert 1 = .ok (.getfield 21, 3) := by decide +kernel
theorem dE_insert_4 : decode bE_insert 4 = .ok (.sipush 162, 3) := by decide +kernel
theorem dE_insert_7 : decode bE_insert 7 = .ok (.if_icmp .ge (106), 3) := by decide +kernel
theorem dE_insert_10 : decode bE_insert 10 = .ok (.iload_n 1, 1) := by decide +kernel
theorem dE_insert_11 : decode bE_insert 11 = .ok (.aload_n 0, 1) := by decide +kernel
theorem dE_insert_12 : decode bE_insert 12 = .ok (.getfield 21, 3) := by decide +kernel
theorem dE_insert_15 : decode bE_insert 15 = .ok (.if_icmp .gt (98), 3) := by decide +kernel
theorem dE_insert_18 : decode bE_insert 18 = .ok (.aload_n 0, 1) := by decide +kernel
theorem dE_insert_19 : decode bE_insert 19 = .ok (.getfield 9, 3) := by decide +kernel
theorem dE_insert_22 : decode bE_insert 22 = .ok (.iload_n 1, 1) := by decide +kernel
theorem dE_insert_23 : decode bE_insert 23 = .ok (.aload_n 0, 1) := by decide +kernel
theorem dE_insert_24 : decode bE_insert 24 = .ok (.getfield 9, 3) := by decide +kernel
theorem dE_insert_27 : decode bE_insert 27 = .ok (.iload_n 1, 1) := by decide +kernel
theorem dE_insert_28 : decode bE_insert 28 = .ok (.iconst 1, 1) := by decide +kernel
theorem dE_insert_29 : decode bE_insert 29 = .ok (.iadd, 1) := by decide +kernel
theorem dE_insert_30 : decode bE_insert 30 = .ok (.aload_n 0, 1) := by decide +kernel
theorem dE_insert_31 : decode bE_insert 31 = .ok (.getfield 21, 3) := by decide +kernel
theorem dE_insert_34 : decode bE_insert 34 = .ok (.iload_n 1, 1) := by decide +kernel
theorem dE_insert_35 : decode bE_insert 35 = .ok (.isub, 1) := by decide +kernel
theorem dE_insert_36 : decode bE_insert 36 = .ok (.invokestatic 52, 3) := by decide +kernel
theorem dE_insert_39 : decode bE_insert 39 = .ok (.aload_n 0, 1) := by decide +kernel
theorem dE_insert_40 : decode bE_insert 40 = .ok (.getfield 15, 3) := by decide +kernel
theorem dE_insert_43 : decode bE_insert 43 = .ok (.iload_n 1, 1) := by decide +kernel
theorem dE_insert_44 : decode bE_insert 44 = .ok (.aload_n 0, 1) := by decide +kernel
theorem dE_insert_45 : decode bE_insert 45 = .ok (.getfield 15, 3) := by decide +kernel
theorem dE_insert_48 : decode bE_insert 48 = .ok (.iload_n 1, 1) := by decide +kernel
theorem dE_insert_49 : decode bE_insert 49 = .ok (.iconst 1, 1) := by decide +kernel
theorem dE_insert_50 : decode bE_insert 50 = .ok (.iadd, 1) := by decide +kernel
theorem dE_insert_51 : decode bE_insert 51 = .ok (.aload_n 0, 1) := by decide +kernel
theorem dE_insert_52 : decode bE_insert 52 = .ok (.getfield 21, 3) := by decide +kernel
theorem dE_insert_55 : decode bE_insert 55 = .ok (.iload_n 1, 1) := by decide +kernel
theorem dE_insert_56 : decode bE_insert 56 = .ok (.isub, 1) := by decide +kernel
theorem dE_insert_57 : decode bE_insert 57 = .ok (.invokestatic 52, 3) := by decide +kernel
theorem dE_insert_60 : decode bE_insert 60 = .ok (.aload_n 0, 1) := by decide +kernel
theorem dE_insert_61 : decode bE_insert 61 = .ok (.getfield 18, 3) := by decide +kernel
theorem dE_insert_64 : decode bE_insert 64 = .ok (.iload_n 1, 1) := by decide +kernel
theorem dE_insert_65 : decode bE_insert 65 = .ok (.aload_n 0, 1) := by decide +kernel
theorem dE_insert_66 : decode bE_insert 66 = .ok (.getfield 18, 3) := by decide +kernel
theorem dE_insert_69 : decode bE_insert 69 = .ok (.iload_n 1, 1) := by decide +kernel
theorem dE_insert_70 : decode bE_insert 70 = .ok (.iconst 1, 1) := by decide +kernel
theorem dE_insert_71 : decode bE_insert 71 = .ok (.iadd, 1) := by decide +kernel
theorem dE_insert_72 : decode bE_insert 72 = .ok (.aload_n 0, 1) := by decide +kernel
theorem dE_insert_73 : decode bE_insert 73 = .ok (.getfield 21, 3) := by decide +kernel
theorem dE_insert_76 : decode bE_insert 76 = .ok (.iload_n 1, 1) := by decide +kernel
theorem dE_insert_77 : decode bE_insert 77 = .ok (.isub, 1) := by decide +kernel
theorem dE_insert_78 : decode bE_insert 78 = .ok (.invokestatic 52, 3) := by decide +kernel
theorem dE_insert_81 : decode bE_insert 81 = .ok (.aload_n 0, 1) := by decide +kernel
theorem dE_insert_82 : decode bE_insert 82 = .ok (.getfield 9, 3) := by decide +kernel
theorem dE_insert_85 : decode bE_insert 85 = .ok (.iload_n 1, 1) := by decide +kernel
theorem dE_insert_86 : decode bE_insert 86 = .ok (.iload_n 2, 1) := by decide +kernel
theorem dE_insert_87 : decode bE_insert 87 = .ok (.iastore, 1) := by decide +kernel
theorem dE_insert_88 : decode bE_insert 88 = .ok (.aload_n 0, 1) := by decide +kernel
theorem dE_insert_89 : decode bE_insert 89 = .ok (.getfield 15, 3) := by decide +kernel
theorem dE_insert_92 : decode bE_insert 92 = .ok (.iload_n 1, 1) := by decide +kernel
theorem dE_insert_93 : decode bE_insert 93 = .ok (.iload_n 3, 1) := by decide +kernel
theorem dE_insert_94 : decode bE_insert 94 = .ok (.iastore, 1) := by decide +kernel
theorem dE_insert_95 : decode bE_insert 95 = .ok (.aload_n 0, 1) := by decide +kernel
theorem dE_insert_96 : decode bE_insert 96 = .ok (.getfield 18, 3) := by decide +kernel
theorem dE_insert_99 : decode bE_insert 99 = .ok (.iload_n 1, 1) := by decide +kernel
theorem dE_insert_100 : decode bE_insert 100 = .ok (.iload 4, 2) := by decide +kernel
theorem dE_insert_102 : decode bE_insert 102 = .ok (.iastore, 1) := by decide +kernel
theorem dE_insert_103 : decode bE_insert 103 = .ok (.aload_n 0, 1) := by decide +kernel
theorem dE_insert_104 : decode bE_insert 104 = .ok (.dup, 1) := by decide +kernel
theorem dE_insert_105 : decode bE_insert 105 = .ok (.getfield 21, 3) := by decide +kernel
theorem dE_insert_108 : decode bE_insert 108 = .ok (.iconst 1, 1) := by decide +kernel
theorem dE_insert_109 : decode bE_insert 109 = .ok (.iadd, 1) := by decide +kernel
theorem dE_insert_110 : decode bE_insert 110 = .ok (.putfield 21, 3) := by decide +kernel
theorem dE_insert_113 : decode bE_insert 113 = .ok (.return_, 1) := by decide +kernel
theorem dE_size_0 : decode bE_size 0 = .ok (.aload_n 0, 1) := by decide +kernel
theorem dE_size_1 : decode bE_size 1 = .ok (.getfield 21, 3) := by decide +kernel
theorem dE_size_4 : decode bE_size 4 = .ok (.ireturn, 1) := by decide +kernel
theorem dE_ruleAt_0 : decode bE_ruleAt 0 = .ok (.aload_n 0, 1) := by decide +kernel
theorem dE_ruleAt_1 : decode bE_ruleAt 1 = .ok (.getfield 9, 3) := by decide +kernel
theorem dE_ruleAt_4 : decode bE_ruleAt 4 = .ok (.iload_n 1, 1) := by decide +kernel
theorem dE_ruleAt_5 : decode bE_ruleAt 5 = .ok (.iaload, 1) := by decide +kernel
theorem dE_ruleAt_6 : decode bE_ruleAt 6 = .ok (.ireturn, 1) := by decide +kernel
theorem dE_beginAt_0 : decode bE_beginAt 0 = .ok (.aload_n 0, 1) := by decide +kernel
theorem dE_beginAt_1 : decode bE_beginAt 1 = .ok (.getfield 15, 3) := by decide +kernel
theorem dE_beginAt_4 : decode bE_beginAt 4 = .ok (.iload_n 1, 1) := by decide +kernel
theorem dE_beginAt_5 : decode bE_beginAt 5 = .ok (.iaload, 1) := by decide +kernel
theorem dE_beginAt_6 : decode bE_beginAt 6 = .ok (.ireturn, 1) := by decide +kernel
theorem dE_endAt_0 : decode bE_endAt 0 = .ok (.aload_n 0, 1) := by decide +kernel
theorem dE_endAt_1 : decode bE_endAt 1 = .ok (.getfield 18, 3) := by decide +kernel
theorem dE_endAt_4 : decode bE_endAt 4 = .ok (.iload_n 1, 1) := by decide +kernel
theorem dE_endAt_5 : decode bE_endAt 5 = .ok (.iaload, 1) := by decide +kernel
theorem dE_endAt_6 : decode bE_endAt 6 = .ok (.ireturn, 1) := by decide +kernel
theorem dE_nodesBelow_0 : decode bE_nodesBelow 0 = .ok (.iload_n 1, 1) := by decide +kernel
theorem dE_nodesBelow_1 : decode bE_nodesBelow 1 = .ok (.iconst 1, 1) := by decide +kernel
theorem dE_nodesBelow_2 : decode bE_nodesBelow 2 = .ok (.iadd, 1) := by decide +kernel
theorem dE_nodesBelow_3 : decode bE_nodesBelow 3 = .ok (.istore_n 2, 1) := by decide +kernel
theorem dE_nodesBelow_4 : decode bE_nodesBelow 4 = .ok (.iload_n 2, 1) := by decide +kernel
theorem dE_nodesBelow_5 : decode bE_nodesBelow 5 = .ok (.aload_n 0, 1) := by decide +kernel
theorem dE_nodesBelow_6 : decode bE_nodesBelow 6 = .ok (.getfield 21, 3) := by decide +kernel
theorem dE_nodesBelow_9 : decode bE_nodesBelow 9 = .ok (.if_icmp .ge (24), 3) := by decide +kernel
theorem dE_nodesBelow_12 : decode bE_nodesBelow 12 = .ok (.aload_n 0, 1) := by decide +kernel
theorem dE_nodesBelow_13 : decode bE_nodesBelow 13 = .ok (.getfield 15, 3) := by decide +kernel
theorem dE_nodesBelow_16 : decode bE_nodesBelow 16 = .ok (.iload_n 2, 1) := by decide +kernel
theorem dE_nodesBelow_17 : decode bE_nodesBelow 17 = .ok (.iaload, 1) := by decide +kernel
theorem dE_nodesBelow_18 : decode bE_nodesBelow 18 = .ok (.aload_n 0, 1) := by decide +kernel
theorem dE_nodesBelow_19 : decode bE_nodesBelow 19 = .ok (.getfield 18, 3) := by decide +kernel
theorem dE_nodesBelow_22 : decode bE_nodesBelow 22 = .ok (.iload_n 1, 1) := by decide +kernel
theorem dE_nodesBelow_23 : decode bE_nodesBelow 23 = .ok (.iaload, 1) := by decide +kernel
theorem dE_nodesBelow_24 : decode bE_nodesBelow 24 = .ok (.if_icmp .ge (9), 3) := by decide +kernel
theorem dE_nodesBelow_27 : decode bE_nodesBelow 27 = .ok (.iinc 2 (1), 3) := by decide +kernel
theorem dE_nodesBelow_30 : decode bE_nodesBelow 30 = .ok (.goto (-26), 3) := by decide +kernel
theorem dE_nodesBelow_33 : decode bE_nodesBelow 33 = .ok (.iload_n 2, 1) := by decide +kernel
theorem dE_nodesBelow_34 : decode bE_nodesBelow 34 = .ok (.iload_n 1, 1) := by decide +kernel
theorem dE_nodesBelow_35 : decode bE_nodesBelow 35 = .ok (.isub, 1) := by decide +kernel
theorem dE_nodesBelow_36 : decode bE_nodesBelow 36 = .ok (.iconst 1, 1) := by decide +kernel
theorem dE_nodesBelow_37 : decode bE_nodesBelow 37 = .ok (.isub, 1) := by decide +kernel
theorem dE_nodesBelow_38 : decode bE_nodesBelow 38 = .ok (.ireturn, 1) := by decide +kernel
theorem dP_init_0 : decode bP_init 0 = .ok (.aload_n 0, 1) := by decide +kernel
theorem dP_init_1 : decode bP_init 1 = .ok (.invokespecial 3, 3) := by decide +kernel
theorem dP_init_4 : decode bP_init 4 = .ok (.aload_n 0, 1) := by decide +kernel
theorem dP_init_5 : decode bP_init 5 = .ok (.new 9, 3) := by decide +kernel
theorem dP_init_8 : decode bP_init 8 = .ok (.dup, 1) := by decide +kernel
theorem dP_init_9 : decode bP_init 9 = .ok (.invokespecial 11, 3) := by decide +kernel
theorem dP_init_12 : decode bP_init 12 = .ok (.putfield 12, 3) := by decide +kernel
theorem dP_init_15 : decode bP_init 15 = .ok (.aload_n 0, 1) := by decide +kernel
theorem dP_init_16 : decode bP_init 16 = .ok (.new 16, 3) := by decide +kernel
theorem dP_init_19 : decode bP_init 19 = .ok (.dup, 1) := by decide +kernel
theorem dP_init_20 : decode bP_init 20 = .ok (.invokespecial 18, 3) := by decide +kernel
theorem dP_init_23 : decode bP_init 23 = .ok (.putfield 19, 3) := by decide +kernel
theorem dP_init_26 : decode bP_init 26 = .ok (.aload_n 0, 1) := by decide +kernel
theorem dP_init_27 : decode bP_init 27 = .ok (.new 23, 3) := by decide +kernel
theorem dP_init_30 : decode bP_init 30 = .ok (.dup, 1) := by decide +kernel
theorem dP_init_31 : decode bP_init 31 = .ok (.invokespecial 25, 3) := by decide +kernel
theorem dP_init_34 : decode bP_init 34 = .ok (.putfield 26, 3) := by decide +kernel
theorem dP_init_37 : decode bP_init 37 = .ok (.aload_n 0, 1) := by decide +kernel
theorem dP_init_38 : decode bP_init 38 = .ok (.new 30, 3) := by decide +kernel
theorem dP_init_41 : decode bP_init 41 = .ok (.dup, 1) := by decide +kernel
theorem dP_init_42 : decode bP_init 42 = .ok (.invokespecial 32, 3) := by decide +kernel
theorem dP_init_45 : decode bP_init 45 = .ok (.putfield 33, 3) := by decide +kernel
theorem dP_init_48 : decode bP_init 48 = .ok (.aload_n 0, 1) := by decide +kernel
theorem dP_init_49 : decode bP_init 49 = .ok (.iconst (-1), 1) := by decide +kernel
theorem dP_init_50 : decode bP_init 50 = .ok (.putfield 37, 3) := by decide +kernel
theorem dP_init_53 : decode bP_init 53 = .ok (.aload_n 0, 1) := by decide +kernel
theorem dP_init_54 : decode bP_init 54 = .ok (.iconst 0, 1) := by decide +kernel
theorem dP_init_55 : decode bP_init 55 = .ok (.putfield 41, 3) := by decide +kernel
theorem dP_init_58 : decode bP_init 58 = .ok (.aload_n 0, 1) := by decide +kernel
theorem dP_init_59 : decode bP_init 59 = .ok (.dconst 0, 1) := by decide +kernel
theorem dP_init_60 : decode bP_init 60 = .ok (.putfield 44, 3) := by decide +kernel
theorem dP_init_63 : decode bP_init 63 = .ok (.return_, 1) := by decide +kernel
theorem dP_type_0 : decode bP_type 0 = .ok (.iconst 0, 1) := by decide +kernel
theorem dP_type_1 : decode bP_type 1 = .ok (.istore_n 3, 1) := by decide +kernel
theorem dP_type_2 : decode bP_type 2 = .ok (.bipush 56, 2) := by decide +kernel
theorem dP_type_4 : decode bP_type 4 = .ok (.istore 4, 2) := by decide +kernel
theorem dP_type_6 : decode bP_type 6 = .ok (.iload 4, 2) := by decide +kernel
theorem dP_type_8 : decode bP_type 8 = .ok (.ifCond .lt (41), 3) := by decide +kernel
theorem dP_type_11 : decode bP_type 11 = .ok (.lload_n 1, 1) := by decide +kernel
theorem dP_type_12 : decode bP_type 12 = .ok (.iload 4, 2) := by decide +kernel
theorem dP_type_14 : decode bP_type 14 = .ok (.invokestatic 48, 3) := by decide +kernel
theorem dP_type_17 : decode bP_type 17 = .ok (.istore 5, 2) := by decide +kernel
theorem dP_type_19 : decode bP_type 19 = .ok (.iload 5, 2) := by decide +kernel
theorem dP_type_21 : decode bP_type 21 = .ok (.ifCond .eq (22), 3) := by decide +kernel
theorem dP_type_24 : decode bP_type 24 = .ok (.iload 5, 2) := by decide +kernel
theorem dP_type_26 : decode bP_type 26 = .ok (.invokestatic 52, 3) := by decide +kernel
theorem dP_type_29 : decode bP_type 29 = .ok (.ifCond .ne (11), 3) := by decide +kernel
theorem dP_type_32 : decode bP_type 32 = .ok (.new 56, 3) := by decide +kernel
theorem dP_type_35 : decode bP_type 35 = .ok (.dup, 1) := by decide +kernel
theorem dP_type_36 : decode bP_type 36 = .ok (.invokespecial 58, 3) := by decide +kernel
theorem dP_type_39 : decode bP_type 39 = .ok (.athrow, 1) := by decide +kernel
theorem dP_type_40 : decode bP_type 40 = .ok (.iinc 3 (1), 3) := by decide +kernel
theorem dP_type_43 : decode bP_type 43 = .ok (.iinc 4 (-8), 3) := by decide +kernel
theorem dP_type_46 : decode bP_type 46 = .ok (.goto (-40), 3) := by decide +kernel
theorem dP_type_49 : decode bP_type 49 = .ok (.aload_n 0, 1) := by decide +kernel
theorem dP_type_50 : decode bP_type 50 = .ok (.getfield 12, 3) := by decide +kernel
theorem dP_type_53 : decode bP_type 53 = .ok (.invokevirtual 59, 3) := by decide +kernel
theorem dP_type_56 : decode bP_type 56 = .ok (.iload_n 3, 1) := by decide +kernel
theorem dP_type_57 : decode bP_type 57 = .ok (.iadd, 1) := by decide +kernel
theorem dP_type_58 : decode bP_type 58 = .ok (.bipush 14, 2) := by decide +kernel
theorem dP_type_60 : decode bP_type 60 = .ok (.if_icmp .le (11), 3) := by decide +kernel
theorem dP_type_63 : decode bP_type 63 = .ok (.new 63, 3) := by decide +kernel
theorem dP_type_66 : decode bP_type 66 = .ok (.dup, 1) := by decide +kernel
theorem dP_type_67 : decode bP_type 67 = .ok (.invokespecial 65, 3) := by decide +kernel
theorem dP_type_70 : decode bP_type 70 = .ok (.athrow, 1) := by decide +kernel
theorem dP_type_71 : decode bP_type 71 = .ok (.bipush 56, 2) := by decide +kernel
theorem dP_type_73 : decode bP_type 73 = .ok (.istore 4, 2) := by decide +kernel
theorem dP_type_75 : decode bP_type 75 = .ok (.iload 4, 2) := by decide +kernel
theorem dP_type_77 : decode bP_type 77 = .ok (.ifCond .lt (31), 3) := by decide +kernel
theorem dP_type_80 : decode bP_type 80 = .ok (.lload_n 1, 1) := by decide +kernel
theorem dP_type_81 : decode bP_type 81 = .ok (.iload 4, 2) := by decide +kernel
theorem dP_type_83 : decode bP_type 83 = .ok (.invokestatic 48, 3) := by decide +kernel
theorem dP_type_86 : decode bP_type 86 = .ok (.istore 5, 2) := by decide +kernel
theorem dP_type_88 : decode bP_type 88 = .ok (.iload 5, 2) := by decide +kernel
theorem dP_type_90 : decode bP_type 90 = .ok (.ifCond .eq (12), 3) := by decide +kernel
theorem dP_type_93 : decode bP_type 93 = .ok (.aload_n 0, 1) := by decide +kernel
theorem dP_type_94 : decode bP_type 94 = .ok (.getfield 12, 3) := by decide +kernel
theorem dP_type_97 : decode bP_type 97 = .ok (.iload 5, 2) := by decide +kernel
theorem dP_type_99 : decode bP_type 99 = .ok (.invokevirtual 66, 3) := by decide +kernel
theorem dP_type_102 : decode bP_type 102 = .ok (.iinc 4 (-8), 3) := by decide +kernel
theorem dP_type_105 : decode bP_type 105 = .ok (.goto (-30), 3) := by decide +kernel
theorem dP_type_108 : decode bP_type 108 = .ok (.aload_n 0, 1) := by decide +kernel
theorem dP_type_109 : decode bP_type 109 = .ok (.getfield 12, 3) := by decide +kernel
theorem dP_type_112 : decode bP_type 112 = .ok (.invokevirtual 59, 3) := by decide +kernel
theorem dP_type_115 : decode bP_type 115 = .ok (.ireturn, 1) := by decide +kernel
theorem dP_rule_0 : decode bP_rule 0 = .ok (.dload_n 1, 1) := by decide +kernel
theorem dP_rule_1 : decode bP_rule 1 = .ok (.ldc2_w 70, 3) := by decide +kernel
theorem dP_rule_4 : decode bP_rule 4 = .ok (.dcmp .l, 1) := by decide +kernel
theorem dP_rule_5 : decode bP_rule 5 = .ok (.ifCond .lt (11), 3) := by decide +kernel
theorem dP_rule_8 : decode bP_rule 8 = .ok (.dload_n 1, 1) := by decide +kernel
theorem dP_rule_9 : decode bP_rule 9 = .ok (.ldc2_w 72, 3) := by decide +kernel
theorem dP_rule_12 : decode bP_rule 12 = .ok (.dcmp .g, 1) := by decide +kernel
theorem dP_rule_13 : decode bP_rule 13 = .ok (.ifCond .le (11), 3) := by decide +kernel
theorem dP_rule_16 : decode bP_rule 16 = .ok (.new 56, 3) := by decide +kernel
theorem dP_rule_19 : decode bP_rule 19 = .ok (.dup, 1) := by decide +kernel
theorem dP_rule_20 : decode bP_rule 20 = .ok (.invokespecial 58, 3) := by decide +kernel
theorem dP_rule_23 : decode bP_rule 23 = .ok (.athrow, 1) := by decide +kernel
theorem dP_rule_24 : decode bP_rule 24 = .ok (.aload_n 0, 1) := by decide +kernel
theorem dP_rule_25 : decode bP_rule 25 = .ok (.getfield 19, 3) := by decide +kernel
theorem dP_rule_28 : decode bP_rule 28 = .ok (.invokevirtual 74, 3) := by decide +kernel
theorem dP_rule_31 : decode bP_rule 31 = .ok (.bipush 16, 2) := by decide +kernel
theorem dP_rule_33 : decode bP_rule 33 = .ok (.if_icmp .lt (18), 3) := by decide +kernel
theorem dP_rule_36 : decode bP_rule 36 = .ok (.aload_n 0, 1) := by decide +kernel
theorem dP_rule_37 : decode bP_rule 37 = .ok (.getfield 12, 3) := by decide +kernel
theorem dP_rule_40 : decode bP_rule 40 = .ok (.invokevirtual 77, 3) := by decide +kernel
theorem dP_rule_43 : decode bP_rule 43 = .ok (.new 63, 3) := by decide +kernel
theorem dP_rule_46 : decode bP_rule 46 = .ok (.dup, 1) := by decide +kernel
theorem dP_rule_47 : decode bP_rule 47 = .ok (.invokespecial 65, 3) := by decide +kernel
theorem dP_rule_50 : decode bP_rule 50 = .ok (.athrow, 1) := by decide +kernel
theorem dP_rule_51 : decode bP_rule 51 = .ok (.aload_n 0, 1) := by decide +kernel
theorem dP_rule_52 : decode bP_rule 52 = .ok (.getfield 12, 3) := by decide +kernel
theorem dP_rule_55 : decode bP_rule 55 = .ok (.invokestatic 80, 3) := by decide +kernel
theorem dP_rule_58 : decode bP_rule 58 = .ok (.istore_n 3, 1) := by decide +kernel
theorem dP_rule_59 : decode bP_rule 59 = .ok (.iload_n 3, 1) := by decide +kernel
theorem dP_rule_60 : decode bP_rule 60 = .ok (.iconst (-1), 1) := by decide +kernel
theorem dP_rule_61 : decode bP_rule 61 = .ok (.if_icmp .eq (23), 3) := by decide +kernel
theorem dP_rule_64 : decode bP_rule 64 = .ok (.aload_n 0, 1) := by decide +kernel
theorem dP_rule_65 : decode bP_rule 65 = .ok (.iload_n 3, 1) := by decide +kernel
theorem dP_rule_66 : decode bP_rule 66 = .ok (.putfield 37, 3) := by decide +kernel
theorem dP_rule_69 : decode bP_rule 69 = .ok (.aload_n 0, 1) := by decide +kernel
theorem dP_rule_70 : decode bP_rule 70 = .ok (.getfield 12, 3) := by decide +kernel
theorem dP_rule_73 : decode bP_rule 73 = .ok (.invokevirtual 77, 3) := by decide +kernel
theorem dP_rule_76 : decode bP_rule 76 = .ok (.new 56, 3) := by decide +kernel
theorem dP_rule_79 : decode bP_rule 79 = .ok (.dup, 1) := by decide +kernel
theorem dP_rule_80 : decode bP_rule 80 = .ok (.invokespecial 58, 3) := by decide +kernel
theorem dP_rule_83 : decode bP_rule 83 = .ok (.athrow, 1) := by decide +kernel
theorem dP_rule_84 : decode bP_rule 84 = .ok (.aload_n 0, 1) := by decide +kernel
theorem dP_rule_85 : decode bP_rule 85 = .ok (.getfield 19, 3) := by decide +kernel
theorem dP_rule_88 : decode bP_rule 88 = .ok (.aload_n 0, 1) := by decide +kernel
theorem dP_rule_89 : decode bP_rule 89 = .ok (.getfield 12, 3) := by decide +kernel
theorem dP_rule_92 : decode bP_rule 92 = .ok (.invokevirtual 84, 3) := by decide +kernel
theorem dP_rule_95 : decode bP_rule 95 = .ok (.ifCond .eq (18), 3) := by decide +kernel
theorem dP_rule_98 : decode bP_rule 98 = .ok (.aload_n 0, 1) := by decide +kernel
theorem dP_rule_99 : decode bP_rule 99 = .ok (.getfield 12, 3) := by decide +kernel
theorem dP_rule_102 : decode bP_rule 102 = .ok (.invokevirtual 77, 3) := by decide +kernel
theorem dP_rule_105 : decode bP_rule 105 = .ok (.new 88, 3) := by decide +kernel
theorem dP_rule_108 : decode bP_rule 108 = .ok (.dup, 1) := by decide +kernel
theorem dP_rule_109 : decode bP_rule 109 = .ok (.invokespecial 90, 3) := by decide +kernel
theorem dP_rule_112 : decode bP_rule 112 = .ok (.athrow, 1) := by decide +kernel
theorem dP_rule_113 : decode bP_rule 113 = .ok (.aload_n 0, 1) := by decide +kernel
theorem dP_rule_114 : decode bP_rule 114 = .ok (.getfield 19, 3) := by decide +kernel
theorem dP_rule_117 : decode bP_rule 117 = .ok (.aload_n 0, 1) := by decide +kernel
theorem dP_rule_118 : decode bP_rule 118 = .ok (.getfield 12, 3) := by decide +kernel
theorem dP_rule_121 : decode bP_rule 121 = .ok (.dload_n 1, 1) := by decide +kernel
theorem dP_rule_122 : decode bP_rule 122 = .ok (.invokevirtual 91, 3) := by decide +kernel
theorem dP_rule_125 : decode bP_rule 125 = .ok (.aload_n 0, 1) := by decide +kernel
theorem dP_rule_126 : decode bP_rule 126 = .ok (.getfield 12, 3) := by decide +kernel
theorem dP_rule_129 : decode bP_rule 129 = .ok (.invokevirtual 77, 3) := by decide +kernel
theorem dP_rule_132 : decode bP_rule 132 = .ok (.aload_n 0, 1) := by decide +kernel
theorem dP_rule_133 : decode bP_rule 133 = .ok (.invokevirtual 95, 3) := by decide +kernel
theorem dP_rule_136 : decode bP_rule 136 = .ok (.aload_n 0, 1) := by decide +kernel
theorem dP_rule_137 : decode bP_rule 137 = .ok (.getfield 19, 3) := by decide +kernel
theorem dP_rule_140 : decode bP_rule 140 = .ok (.invokevirtual 74, 3) := by decide +kernel
theorem dP_rule_143 : decode bP_rule 143 = .ok (.iconst 1, 1) := by decide +kernel
theorem dP_rule_144 : decode bP_rule 144 = .ok (.isub, 1) := by decide +kernel
theorem dP_rule_145 : decode bP_rule 145 = .ok (.ireturn, 1) := by decide +kernel
theorem dP_mark_0 : decode bP_mark 0 = .ok (.aload_n 0, 1) := by decide +kernel
theorem dP_mark_1 : decode bP_mark 1 = .ok (.getfield 19, 3) := by decide +kernel
theorem dP_mark_4 : decode bP_mark 4 = .ok (.iload_n 1, 1) := by decide +kernel
theorem dP_mark_5 : decode bP_mark 5 = .ok (.invokevirtual 98, 3) := by decide +kernel
theorem dP_mark_8 : decode bP_mark 8 = .ok (.ifCond .eq (12), 3) := by decide +kernel
theorem dP_mark_11 : decode bP_mark 11 = .ok (.iload_n 2, 1) := by decide +kernel
theorem dP_mark_12 : decode bP_mark 12 = .ok (.ifCond .lt (8), 3) := by decide +kernel
theorem dP_mark_15 : decode bP_mark 15 = .ok (.iload_n 2, 1) := by decide +kernel
theorem dP_mark_16 : decode bP_mark 16 = .ok (.iconst 3, 1) := by decide +kernel
theorem dP_mark_17 : decode bP_mark 17 = .ok (.if_icmp .le (11), 3) := by decide +kernel
theorem dP_mark_20 : decode bP_mark 20 = .ok (.new 56, 3) := by decide +kernel
theorem dP_mark_23 : decode bP_mark 23 = .ok (.dup, 1) := by decide +kernel
theorem dP_mark_24 : decode bP_mark 24 = .ok (.invokespecial 58, 3) := by decide +kernel
theorem dP_mark_27 : decode bP_mark 27 = .ok (.athrow, 1) := by decide +kernel
theorem dP_mark_28 : decode bP_mark 28 = .ok (.aload_n 0, 1) := by decide +kernel
theorem dP_mark_29 : decode bP_mark 29 = .ok (.getfield 19, 3) := by decide +kernel
theorem dP_mark_32 : decode bP_mark 32 = .ok (.iload_n 1, 1) := by decide +kernel
theorem dP_mark_33 : decode bP_mark 33 = .ok (.iload_n 2, 1) := by decide +kernel
theorem dP_mark_34 : decode bP_mark 34 = .ok (.invokevirtual 101, 3) := by decide +kernel
theorem dP_mark_37 : decode bP_mark 37 = .ok (.aload_n 0, 1) := by decide +kernel
theorem dP_mark_38 : decode bP_mark 38 = .ok (.invokevirtual 95, 3) := by decide +kernel
theorem dP_mark_41 : decode bP_mark 41 = .ok (.return_, 1) := by decide +kernel
theorem dP_bar_0 : decode bP_bar 0 = .ok (.aload_n 0, 1) := by decide +kernel
theorem dP_bar_1 : decode bP_bar 1 = .ok (.getfield 19, 3) := by decide +kernel
theorem dP_bar_4 : decode bP_bar 4 = .ok (.iload_n 1, 1) := by decide +kernel
theorem dP_bar_5 : decode bP_bar 5 = .ok (.invokevirtual 98, 3) := by decide +kernel
theorem dP_bar_8 : decode bP_bar 8 = .ok (.ifCond .eq (14), 3) := by decide +kernel
theorem dP_bar_11 : decode bP_bar 11 = .ok (.aload_n 0, 1) := by decide +kernel
theorem dP_bar_12 : decode bP_bar 12 = .ok (.getfield 19, 3) := by decide +kernel
theorem dP_bar_15 : decode bP_bar 15 = .ok (.iload_n 2, 1) := by decide +kernel
theorem dP_bar_16 : decode bP_bar 16 = .ok (.invokevirtual 98, 3) := by decide +kernel
theorem dP_bar_19 : decode bP_bar 19 = .ok (.ifCond .ne (11), 3) := by decide +kernel
theorem dP_bar_22 : decode bP_bar 22 = .ok (.new 56, 3) := by decide +kernel
theorem dP_bar_25 : decode bP_bar 25 = .ok (.dup, 1) := by decide +kernel
theorem dP_bar_26 : decode bP_bar 26 = .ok (.invokespecial 58, 3) := by decide +kernel
theorem dP_bar_29 : decode bP_bar 29 = .ok (.athrow, 1) := by decide +kernel
theorem dP_bar_30 : decode bP_bar 30 = .ok (.aload_n 0, 1) := by decide +kernel
theorem dP_bar_31 : decode bP_bar 31 = .ok (.getfield 19, 3) := by decide +kernel
theorem dP_bar_34 : decode bP_bar 34 = .ok (.iload_n 1, 1) := by decide +kernel
theorem dP_bar_35 : decode bP_bar 35 = .ok (.iload_n 2, 1) := by decide +kernel
theorem dP_bar_36 : decode bP_bar 36 = .ok (.iload_n 3, 1) := by decide +kernel
theorem dP_bar_37 : decode bP_bar 37 = .ok (.invokevirtual 105, 3) := by decide +kernel
theorem dP_bar_40 : decode bP_bar 40 = .ok (.aload_n 0, 1) := by decide +kernel
theorem dP_bar_41 : decode bP_bar 41 = .ok (.invokevirtual 95, 3) := by decide +kernel
theorem dP_bar_44 : decode bP_bar 44 = .ok (.return_, 1) := by decide +kernel
theorem dP_follow_0 : decode bP_follow 0 = .ok (.iload_n 1, 1) := by decide +kernel
theorem dP_follow_1 : decode bP_follow 1 = .ok (.invokestatic 109, 3) := by decide +kernel
theorem dP_follow_4 : decode bP_follow 4 = .ok (.ifCond .eq (10), 3) := by decide +kernel
theorem dP_follow_7 : decode bP_follow 7 = .ok (.iload_n 2, 1) := by decide +kernel
theorem dP_follow_8 : decode bP_follow 8 = .ok (.invokestatic 52, 3) := by decide +kernel
theorem dP_follow_11 : decode bP_follow 11 = .ok (.ifCond .ne (11), 3) := by decide +kernel
theorem dP_follow_14 : decode bP_follow 14 = .ok (.new 56, 3) := by decide +kernel
theorem dP_follow_17 : decode bP_follow 17 = .ok (.dup, 1) := by decide +kernel
theorem dP_follow_18 : decode bP_follow 18 = .ok (.invokespecial 58, 3) := by decide +kernel
theorem dP_follow_21 : decode bP_follow 21 = .ok (.athrow, 1) := by decide +kernel
theorem dP_follow_22 : decode bP_follow 22 = .ok (.aload_n 0, 1) := by decide +kernel
theorem dP_follow_23 : decode bP_follow 23 = .ok (.getfield 19, 3) := by decide +kernel
theorem dP_follow_26 : decode bP_follow 26 = .ok (.iload_n 1, 1) := by decide +kernel
theorem dP_follow_27 : decode bP_follow 27 = .ok (.iload_n 2, 1) := by decide +kernel
theorem dP_follow_28 : decode bP_follow 28 = .ok (.iload_n 3, 1) := by decide +kernel
theorem dP_follow_29 : decode bP_follow 29 = .ok (.invokevirtual 112, 3) := by decide +kernel
theorem dP_follow_32 : decode bP_follow 32 = .ok (.aload_n 0, 1) := by decide +kernel
theorem dP_follow_33 : decode bP_follow 33 = .ok (.invokevirtual 95, 3) := by decide +kernel
theorem dP_follow_36 : decode bP_follow 36 = .ok (.return_, 1) := by decide +kernel
theorem dP_undo_0 : decode bP_undo 0 = .ok (.aload_n 0, 1) := by decide +kernel
theorem dP_undo_1 : decode bP_undo 1 = .ok (.getfield 19, 3) := by decide +kernel
theorem dP_undo_4 : decode bP_undo 4 = .ok (.invokevirtual 74, 3) := by decide +kernel
theorem dP_undo_7 : decode bP_undo 7 = .ok (.ifCond .ne (11), 3) := by decide +kernel
theorem dP_undo_10 : decode bP_undo 10 = .ok (.new 115, 3) := by decide +kernel
theorem dP_undo_13 : decode bP_undo 13 = .ok (.dup, 1) := by decide +kernel
theorem dP_undo_14 : decode bP_undo 14 = .ok (.invokespecial 117, 3) := by decide +kernel
theorem dP_undo_17 : decode bP_undo 17 = .ok (.athrow, 1) := by decide +kernel
theorem dP_undo_18 : decode bP_undo 18 = .ok (.aload_n 0, 1) := by decide +kernel
theorem dP_undo_19 : decode bP_undo 19 = .ok (.getfield 19, 3) := by decide +kernel
theorem dP_undo_22 : decode bP_undo 22 = .ok (.invokevirtual 118, 3) := by decide +kernel
theorem dP_undo_25 : decode bP_undo 25 = .ok (.aload_n 0, 1) := by decide +kernel
theorem dP_undo_26 : decode bP_undo 26 = .ok (.invokevirtual 95, 3) := by decide +kernel
theorem dP_undo_29 : decode bP_undo 29 = .ok (.return_, 1) := by decide +kernel
theorem dP_parse_0 : decode bP_parse 0 = .ok (.iload_n 1, 1) := by decide +kernel
theorem dP_parse_1 : decode bP_parse 1 = .ok (.invokestatic 109, 3) := by decide +kernel
theorem dP_parse_4 : decode bP_parse 4 = .ok (.ifCond .eq (13), 3) := by decide +kernel
theorem dP_parse_7 : decode bP_parse 7 = .ok (.aload_n 0, 1) := by decide +kernel
theorem dP_parse_8 : decode bP_parse 8 = .ok (.getfield 12, 3) := by decide +kernel
theorem dP_parse_11 : decode bP_parse 11 = .ok (.invokevirtual 59, 3) := by decide +kernel
theorem dP_parse_14 : decode bP_parse 14 = .ok (.ifCond .ne (11), 3) := by decide +kernel
theorem dP_parse_17 : decode bP_parse 17 = .ok (.new 56, 3) := by decide +kernel
theorem dP_parse_20 : decode bP_parse 20 = .ok (.dup, 1) := by decide +kernel
theorem dP_parse_21 : decode bP_parse 21 = .ok (.invokespecial 58, 3) := by decide +kernel
theorem dP_parse_24 : decode bP_parse 24 = .ok (.athrow, 1) := by decide +kernel
theorem dP_parse_25 : decode bP_parse 25 = .ok (.aload_n 0, 1) := by decide +kernel
theorem dP_parse_26 : decode bP_parse 26 = .ok (.invokevirtual 95, 3) := by decide +kernel
theorem dP_parse_29 : decode bP_parse 29 = .ok (.aload_n 0, 1) := by decide +kernel
theorem dP_parse_30 : decode bP_parse 30 = .ok (.aload_n 0, 1) := by decide +kernel
theorem dP_parse_31 : decode bP_parse 31 = .ok (.getfield 12, 3) := by decide +kernel
theorem dP_parse_34 : decode bP_parse 34 = .ok (.invokevirtual 59, 3) := by decide +kernel
theorem dP_parse_37 : decode bP_parse 37 = .ok (.putfield 41, 3) := by decide +kernel
theorem dP_parse_40 : decode bP_parse 40 = .ok (.aload_n 0, 1) := by decide +kernel
theorem dP_parse_41 : decode bP_parse 41 = .ok (.getfield 26, 3) := by decide +kernel
theorem dP_parse_44 : decode bP_parse 44 = .ok (.aload_n 0, 1) := by decide +kernel
theorem dP_parse_45 : decode bP_parse 45 = .ok (.getfield 19, 3) := by decide +kernel
theorem dP_parse_48 : decode bP_parse 48 = .ok (.aload_n 0, 1) := by decide +kernel
theorem dP_parse_49 : decode bP_parse 49 = .ok (.getfield 12, 3) := by decide +kernel
theorem dP_parse_52 : decode bP_parse 52 = .ok (.invokevirtual 121, 3) := by decide +kernel
theorem dP_parse_55 : decode bP_parse 55 = .ok (.iconst 0, 1) := by decide +kernel
theorem dP_parse_56 : decode bP_parse 56 = .ok (.aload_n 0, 1) := by decide +kernel
theorem dP_parse_57 : decode bP_parse 57 = .ok (.getfield 41, 3) := by decide +kernel
theorem dP_parse_60 : decode bP_parse 60 = .ok (.invokestatic 125, 3) := by decide +kernel
theorem dP_parse_63 : decode bP_parse 63 = .ok (.istore_n 2, 1) := by decide +kernel
theorem dP_parse_64 : decode bP_parse 64 = .ok (.aload_n 0, 1) := by decide +kernel
theorem dP_parse_65 : decode bP_parse 65 = .ok (.getfield 26, 3) := by decide +kernel
theorem dP_parse_68 : decode bP_parse 68 = .ok (.aload_n 0, 1) := by decide +kernel
theorem dP_parse_69 : decode bP_parse 69 = .ok (.getfield 19, 3) := by decide +kernel
theorem dP_parse_72 : decode bP_parse 72 = .ok (.iload_n 1, 1) := by decide +kernel
theorem dP_parse_73 : decode bP_parse 73 = .ok (.invokevirtual 129, 3) := by decide +kernel
theorem dP_parse_76 : decode bP_parse 76 = .ok (.iload_n 2, 1) := by decide +kernel
theorem dP_parse_77 : decode bP_parse 77 = .ok (.invokevirtual 133, 3) := by decide +kernel
theorem dP_parse_80 : decode bP_parse 80 = .ok (.ifCond .ne (7), 3) := by decide +kernel
theorem dP_parse_83 : decode bP_parse 83 = .ok (.iconst 1, 1) := by decide +kernel
theorem dP_parse_84 : decode bP_parse 84 = .ok (.goto (4), 3) := by decide +kernel
theorem dP_parse_87 : decode bP_parse 87 = .ok (.iconst 0, 1) := by decide +kernel
theorem dP_parse_88 : decode bP_parse 88 = .ok (.istore_n 3, 1) := by decide +kernel
theorem dP_parse_89 : decode bP_parse 89 = .ok (.aload_n 0, 1) := by decide +kernel
theorem dP_parse_90 : decode bP_parse 90 = .ok (.getfield 19, 3) := by decide +kernel
theorem dP_parse_93 : decode bP_parse 93 = .ok (.iload_n 1, 1) := by decide +kernel
theorem dP_parse_94 : decode bP_parse 94 = .ok (.invokevirtual 136, 3) := by decide +kernel
theorem dP_parse_97 : decode bP_parse 97 = .ok (.istore 4, 2) := by decide +kernel
theorem dP_parse_99 : decode bP_parse 99 = .ok (.iload_n 3, 1) := by decide +kernel
theorem dP_parse_100 : decode bP_parse 100 = .ok (.ifCond .eq (16), 3) := by decide +kernel
theorem dP_parse_103 : decode bP_parse 103 = .ok (.aload_n 0, 1) := by decide +kernel
theorem dP_parse_104 : decode bP_parse 104 = .ok (.getfield 26, 3) := by decide +kernel
theorem dP_parse_107 : decode bP_parse 107 = .ok (.iload 4, 2) := by decide +kernel
theorem dP_parse_109 : decode bP_parse 109 = .ok (.iload_n 2, 1) := by decide +kernel
theorem dP_parse_110 : decode bP_parse 110 = .ok (.invokevirtual 133, 3) := by decide +kernel
theorem dP_parse_113 : decode bP_parse 113 = .ok (.goto (4), 3) := by decide +kernel
theorem dP_parse_116 : decode bP_parse 116 = .ok (.iconst 0, 1) := by decide +kernel
theorem dP_parse_117 : decode bP_parse 117 = .ok (.istore 5, 2) := by decide +kernel
theorem dP_parse_119 : decode bP_parse 119 = .ok (.aload_n 0, 1) := by decide +kernel
theorem dP_parse_120 : decode bP_parse 120 = .ok (.getfield 12, 3) := by decide +kernel
theorem dP_parse_123 : decode bP_parse 123 = .ok (.invokevirtual 77, 3) := by decide +kernel
theorem dP_parse_126 : decode bP_parse 126 = .ok (.iload 5, 2) := by decide +kernel
theorem dP_parse_128 : decode bP_parse 128 = .ok (.ifCond .ne (11), 3) := by decide +kernel
theorem dP_parse_131 : decode bP_parse 131 = .ok (.new 115, 3) := by decide +kernel
theorem dP_parse_134 : decode bP_parse 134 = .ok (.dup, 1) := by decide +kernel
theorem dP_parse_135 : decode bP_parse 135 = .ok (.invokespecial 117, 3) := by decide +kernel
theorem dP_parse_138 : decode bP_parse 138 = .ok (.athrow, 1) := by decide +kernel
theorem dP_parse_139 : decode bP_parse 139 = .ok (.aload_n 0, 1) := by decide +kernel
theorem dP_parse_140 : decode bP_parse 140 = .ok (.getfield 26, 3) := by decide +kernel
theorem dP_parse_143 : decode bP_parse 143 = .ok (.iload 4, 2) := by decide +kernel
theorem dP_parse_145 : decode bP_parse 145 = .ok (.iload_n 2, 1) := by decide +kernel
theorem dP_parse_146 : decode bP_parse 146 = .ok (.invokevirtual 139, 3) := by decide +kernel
theorem dP_parse_149 : decode bP_parse 149 = .ok (.istore 6, 2) := by decide +kernel
theorem dP_parse_151 : decode bP_parse 151 = .ok (.aload_n 0, 1) := by decide +kernel
theorem dP_parse_152 : decode bP_parse 152 = .ok (.aload_n 0, 1) := by decide +kernel
theorem dP_parse_153 : decode bP_parse 153 = .ok (.getfield 26, 3) := by decide +kernel
theorem dP_parse_156 : decode bP_parse 156 = .ok (.iload 6, 2) := by decide +kernel
theorem dP_parse_158 : decode bP_parse 158 = .ok (.iload_n 2, 1) := by decide +kernel
theorem dP_parse_159 : decode bP_parse 159 = .ok (.invokevirtual 142, 3) := by decide +kernel
theorem dP_parse_162 : decode bP_parse 162 = .ok (.putfield 44, 3) := by decide +kernel
theorem dP_parse_165 : decode bP_parse 165 = .ok (.aload_n 0, 1) := by decide +kernel
theorem dP_parse_166 : decode bP_parse 166 = .ok (.getfield 33, 3) := by decide +kernel
theorem dP_parse_169 : decode bP_parse 169 = .ok (.aload_n 0, 1) := by decide +kernel
theorem dP_parse_170 : decode bP_parse 170 = .ok (.getfield 19, 3) := by decide +kernel
theorem dP_parse_173 : decode bP_parse 173 = .ok (.aload_n 0, 1) := by decide +kernel
theorem dP_parse_174 : decode bP_parse 174 = .ok (.getfield 26, 3) := by decide +kernel
theorem dP_parse_177 : decode bP_parse 177 = .ok (.iload 6, 2) := by decide +kernel
theorem dP_parse_179 : decode bP_parse 179 = .ok (.aload_n 0, 1) := by decide +kernel
theorem dP_parse_180 : decode bP_parse 180 = .ok (.getfield 41, 3) := by decide +kernel
theorem dP_parse_183 : decode bP_parse 183 = .ok (.invokevirtual 146, 3) := by decide +kernel
theorem dP_parse_186 : decode bP_parse 186 = .ok (.iload 5, 2) := by decide +kernel
theorem dP_parse_188 : decode bP_parse 188 = .ok (.ireturn, 1) := by decide +kernel
theorem dP_weight_0 : decode bP_weight 0 = .ok (.aload_n 0, 1) := by decide +kernel
theorem dP_weight_1 : decode bP_weight 1 = .ok (.getfield 33, 3) := by decide +kernel
theorem dP_weight_4 : decode bP_weight 4 = .ok (.invokevirtual 150, 3) := by decide +kernel
theorem dP_weight_7 : decode bP_weight 7 = .ok (.ifCond .ne (11), 3) := by decide +kernel
theorem dP_weight_10 : decode bP_weight 10 = .ok (.new 115, 3) := by decide +kernel
theorem dP_weight_13 : decode bP_weight 13 = .ok (.dup, 1) := by decide +kernel
theorem dP_weight_14 : decode bP_weight 14 = .ok (.invokespecial 117, 3) := by decide +kernel
theorem dP_weight_17 : decode bP_weight 17 = .ok (.athrow, 1) := by decide +kernel
theorem dP_weight_18 : decode bP_weight 18 = .ok (.aload_n 0, 1) := by decide +kernel
theorem dP_weight_19 : decode bP_weight 19 = .ok (.getfield 44, 3) := by decide +kernel
theorem dP_weight_22 : decode bP_weight 22 = .ok (.dreturn, 1) := by decide +kernel
theorem dP_node_0 : decode bP_node 0 = .ok (.iload_n 2, 1) := by decide +kernel
theorem dP_node_1 : decode bP_node 1 = .ok (.ifCond .lt (8), 3) := by decide +kernel
theorem dP_node_4 : decode bP_node 4 = .ok (.iload_n 2, 1) := by decide +kernel
theorem dP_node_5 : decode bP_node 5 = .ok (.iconst 3, 1) := by decide +kernel
theorem dP_node_6 : decode bP_node 6 = .ok (.if_icmp .le (11), 3) := by decide +kernel
theorem dP_node_9 : decode bP_node 9 = .ok (.new 56, 3) := by decide +kernel
theorem dP_node_12 : decode bP_node 12 = .ok (.dup, 1) := by decide +kernel
theorem dP_node_13 : decode bP_node 13 = .ok (.invokespecial 58, 3) := by decide +kernel
theorem dP_node_16 : decode bP_node 16 = .ok (.athrow, 1) := by decide +kernel
theorem dP_node_17 : decode bP_node 17 = .ok (.iload_n 1, 1) := by decide +kernel
theorem dP_node_18 : decode bP_node 18 = .ok (.ifCond .lt (14), 3) := by decide +kernel
theorem dP_node_21 : decode bP_node 21 = .ok (.iload_n 1, 1) := by decide +kernel
theorem dP_node_22 : decode bP_node 22 = .ok (.aload_n 0, 1) := by decide +kernel
theorem dP_node_23 : decode bP_node 23 = .ok (.getfield 33, 3) := by decide +kernel
theorem dP_node_26 : decode bP_node 26 = .ok (.invokevirtual 150, 3) := by decide +kernel
theorem dP_node_29 : decode bP_node 29 = .ok (.if_icmp .lt (11), 3) := by decide +kernel
theorem dP_node_32 : decode bP_node 32 = .ok (.new 115, 3) := by decide +kernel
theorem dP_node_35 : decode bP_node 35 = .ok (.dup, 1) := by decide +kernel
theorem dP_node_36 : decode bP_node 36 = .ok (.invokespecial 117, 3) := by decide +kernel
theorem dP_node_39 : decode bP_node 39 = .ok (.athrow, 1) := by decide +kernel
theorem dP_node_40 : decode bP_node 40 = .ok (.iload_n 2, 1) := by decide +kernel
theorem dP_node_41 : decode bP_node 41 = .ok (.tableswitch 54 0 2 #[27, 36, 45], 27) := by decide +kernel
theorem dP_node_68 : decode bP_node 68 = .ok (.aload_n 0, 1) := by decide +kernel
theorem dP_node_69 : decode bP_node 69 = .ok (.getfield 33, 3) := by decide +kernel
theorem dP_node_72 : decode bP_node 72 = .ok (.iload_n 1, 1) := by decide +kernel
theorem dP_node_73 : decode bP_node 73 = .ok (.invokevirtual 151, 3) := by decide +kernel
theorem dP_node_76 : decode bP_node 76 = .ok (.ireturn, 1) := by decide +kernel
theorem dP_node_77 : decode bP_node 77 = .ok (.aload_n 0, 1) := by decide +kernel
theorem dP_node_78 : decode bP_node 78 = .ok (.getfield 33, 3) := by decide +kernel
theorem dP_node_81 : decode bP_node 81 = .ok (.iload_n 1, 1) := by decide +kernel
theorem dP_node_82 : decode bP_node 82 = .ok (.invokevirtual 154, 3) := by decide +kernel
theorem dP_node_85 : decode bP_node 85 = .ok (.ireturn, 1) := by decide +kernel
theorem dP_node_86 : decode bP_node 86 = .ok (.aload_n 0, 1) := by decide +kernel
theorem dP_node_87 : decode bP_node 87 = .ok (.getfield 33, 3) := by decide +kernel
theorem dP_node_90 : decode bP_node 90 = .ok (.iload_n 1, 1) := by decide +kernel
theorem dP_node_91 : decode bP_node 91 = .ok (.invokevirtual 157, 3) := by decide +kernel
theorem dP_node_94 : decode bP_node 94 = .ok (.ireturn, 1) := by decide +kernel
theorem dP_node_95 : decode bP_node 95 = .ok (.aload_n 0, 1) := by decide +kernel
theorem dP_node_96 : decode bP_node 96 = .ok (.getfield 33, 3) := by decide +kernel
theorem dP_node_99 : decode bP_node 99 = .ok (.iload_n 1, 1) := by decide +kernel
theorem dP_node_100 : decode bP_node 100 = .ok (.invokevirtual 160, 3) := by decide +kernel
theorem dP_node_103 : decode bP_node 103 = .ok (.ireturn, 1) := by decide +kernel
theorem dP_many_0 : decode bP_many 0 = .ok (.aload_n 0, 1) := by decide +kernel
theorem dP_many_1 : decode bP_many 1 = .ok (.getfield 19, 3) := by decide +kernel
theorem dP_many_4 : decode bP_many 4 = .ok (.iload_n 1, 1) := by decide +kernel
theorem dP_many_5 : decode bP_many 5 = .ok (.invokevirtual 98, 3) := by decide +kernel
theorem dP_many_8 : decode bP_many 8 = .ok (.ifCond .ne (11), 3) := by decide +kernel
theorem dP_many_11 : decode bP_many 11 = .ok (.new 56, 3) := by decide +kernel
theorem dP_many_14 : decode bP_many 14 = .ok (.dup, 1) := by decide +kernel
theorem dP_many_15 : decode bP_many 15 = .ok (.invokespecial 58, 3) := by decide +kernel
theorem dP_many_18 : decode bP_many 18 = .ok (.athrow, 1) := by decide +kernel
theorem dP_many_19 : decode bP_many 19 = .ok (.iload_n 2, 1) := by decide +kernel
theorem dP_many_20 : decode bP_many 20 = .ok (.ifCond .lt (16), 3) := by decide +kernel
theorem dP_many_23 : decode bP_many 23 = .ok (.iload_n 3, 1) := by decide +kernel
theorem dP_many_24 : decode bP_many 24 = .ok (.aload_n 0, 1) := by decide +kernel
theorem dP_many_25 : decode bP_many 25 = .ok (.getfield 41, 3) := by decide +kernel
theorem dP_many_28 : decode bP_many 28 = .ok (.if_icmp .gt (8), 3) := by decide +kernel
theorem dP_many_31 : decode bP_many 31 = .ok (.iload_n 2, 1) := by decide +kernel
theorem dP_many_32 : decode bP_many 32 = .ok (.iload_n 3, 1) := by decide +kernel
theorem dP_many_33 : decode bP_many 33 = .ok (.if_icmp .lt (11), 3) := by decide +kernel
theorem dP_many_36 : decode bP_many 36 = .ok (.new 115, 3) := by decide +kernel
theorem dP_many_39 : decode bP_many 39 = .ok (.dup, 1) := by decide +kernel
theorem dP_many_40 : decode bP_many 40 = .ok (.invokespecial 117, 3) := by decide +kernel
theorem dP_many_43 : decode bP_many 43 = .ok (.athrow, 1) := by decide +kernel
theorem dP_many_44 : decode bP_many 44 = .ok (.aload_n 0, 1) := by decide +kernel
theorem dP_many_45 : decode bP_many 45 = .ok (.getfield 26, 3) := by decide +kernel
theorem dP_many_48 : decode bP_many 48 = .ok (.iload_n 1, 1) := by decide +kernel
theorem dP_many_49 : decode bP_many 49 = .ok (.iload_n 2, 1) := by decide +kernel
theorem dP_many_50 : decode bP_many 50 = .ok (.iload_n 3, 1) := by decide +kernel
theorem dP_many_51 : decode bP_many 51 = .ok (.invokestatic 125, 3) := by decide +kernel
theorem dP_many_54 : decode bP_many 54 = .ok (.invokevirtual 163, 3) := by decide +kernel
theorem dP_many_57 : decode bP_many 57 = .ok (.ireturn, 1) := by decide +kernel
theorem dP_count_0 : decode bP_count 0 = .ok (.iload_n 1, 1) := by decide +kernel
theorem dP_count_1 : decode bP_count 1 = .ok (.tableswitch 69 0 4 #[35, 43, 48, 56, 64], 35) := by decide +kernel
theorem dP_count_36 : decode bP_count 36 = .ok (.aload_n 0, 1) := by decide +kernel
theorem dP_count_37 : decode bP_count 37 = .ok (.getfield 19, 3) := by decide +kernel
theorem dP_count_40 : decode bP_count 40 = .ok (.invokevirtual 74, 3) := by decide +kernel
theorem dP_count_43 : decode bP_count 43 = .ok (.ireturn, 1) := by decide +kernel
theorem dP_count_44 : decode bP_count 44 = .ok (.aload_n 0, 1) := by decide +kernel
theorem dP_count_45 : decode bP_count 45 = .ok (.getfield 37, 3) := by decide +kernel
theorem dP_count_48 : decode bP_count 48 = .ok (.ireturn, 1) := by decide +kernel
theorem dP_count_49 : decode bP_count 49 = .ok (.aload_n 0, 1) := by decide +kernel
theorem dP_count_50 : decode bP_count 50 = .ok (.getfield 12, 3) := by decide +kernel
theorem dP_count_53 : decode bP_count 53 = .ok (.invokevirtual 59, 3) := by decide +kernel
theorem dP_count_56 : decode bP_count 56 = .ok (.ireturn, 1) := by decide +kernel
theorem dP_count_57 : decode bP_count 57 = .ok (.aload_n 0, 1) := by decide +kernel
theorem dP_count_58 : decode bP_count 58 = .ok (.getfield 33, 3) := by decide +kernel
theorem dP_count_61 : decode bP_count 61 = .ok (.invokevirtual 150, 3) := by decide +kernel
theorem dP_count_64 : decode bP_count 64 = .ok (.ireturn, 1) := by decide +kernel
theorem dP_count_65 : decode bP_count 65 = .ok (.aload_n 0, 1) := by decide +kernel
theorem dP_count_66 : decode bP_count 66 = .ok (.getfield 41, 3) := by decide +kernel
theorem dP_count_69 : decode bP_count 69 = .ok (.ireturn, 1) := by decide +kernel
theorem dP_count_70 : decode bP_count 70 = .ok (.iconst (-1), 1) := by decide +kernel
theorem dP_count_71 : decode bP_count 71 = .ok (.ireturn, 1) := by decide +kernel
theorem dP_forgetInput_0 : decode bP_forgetInput 0 = .ok (.aload_n 0, 1) := by decide +kernel
theorem dP_forgetInput_1 : decode bP_forgetInput 1 = .ok (.iconst 0, 1) := by decide +kernel
theorem dP_forgetInput_2 : decode bP_forgetInput 2 = .ok (.putfield 41, 3) := by decide +kernel
theorem dP_forgetInput_5 : decode bP_forgetInput 5 = .ok (.aload_n 0, 1) := by decide +kernel
theorem dP_forgetInput_6 : decode bP_forgetInput 6 = .ok (.dconst 0, 1) := by decide +kernel
theorem dP_forgetInput_7 : decode bP_forgetInput 7 = .ok (.putfield 44, 3) := by decide +kernel
theorem dP_forgetInput_10 : decode bP_forgetInput 10 = .ok (.aload_n 0, 1) := by decide +kernel
theorem dP_forgetInput_11 : decode bP_forgetInput 11 = .ok (.getfield 33, 3) := by decide +kernel
theorem dP_forgetInput_14 : decode bP_forgetInput 14 = .ok (.invokevirtual 166, 3) := by decide +kernel
theorem dP_forgetInput_17 : decode bP_forgetInput 17 = .ok (.return_, 1) := by decide +kernel
theorem dP_byteAt_0 : decode bP_byteAt 0 = .ok (.lload_n 0, 1) := by decide +kernel
theorem dP_byteAt_1 : decode bP_byteAt 1 = .ok (.iload_n 2, 1) := by decide +kernel
theorem dP_byteAt_2 : decode bP_byteAt 2 = .ok (.lushr, 1) := by decide +kernel
theorem dP_byteAt_3 : decode bP_byteAt 3 = .ok (.l2i, 1) := by decide +kernel
theorem dP_byteAt_4 : decode bP_byteAt 4 = .ok (.sipush 255, 3) := by decide +kernel
theorem dP_byteAt_7 : decode bP_byteAt 7 = .ok (.iand, 1) := by decide +kernel
theorem dP_byteAt_8 : decode bP_byteAt 8 = .ok (.ireturn, 1) := by decide +kernel
theorem dP_isCharacter_0 : decode bP_isCharacter 0 = .ok (.iload_n 0, 1) := by decide +kernel
theorem dP_isCharacter_1 : decode bP_isCharacter 1 = .ok (.bipush 33, 2) := by decide +kernel
theorem dP_isCharacter_3 : decode bP_isCharacter 3 = .ok (.if_icmp .lt (13), 3) := by decide +kernel
theorem dP_isCharacter_6 : decode bP_isCharacter 6 = .ok (.iload_n 0, 1) := by decide +kernel
theorem dP_isCharacter_7 : decode bP_isCharacter 7 = .ok (.bipush 126, 2) := by decide +kernel
theorem dP_isCharacter_9 : decode bP_isCharacter 9 = .ok (.if_icmp .gt (7), 3) := by decide +kernel
theorem dP_isCharacter_12 : decode bP_isCharacter 12 = .ok (.iconst 1, 1) := by decide +kernel
theorem dP_isCharacter_13 : decode bP_isCharacter 13 = .ok (.goto (4), 3) := by decide +kernel
theorem dP_isCharacter_16 : decode bP_isCharacter 16 = .ok (.iconst 0, 1) := by decide +kernel
theorem dP_isCharacter_17 : decode bP_isCharacter 17 = .ok (.ireturn, 1) := by decide +kernel
theorem dP_isNonterminalNumber_0 : decode bP_isNonterminalNumber 0 = .ok (.iload_n 0, 1) := by decide +kernel
theorem dP_isNonterminalNumber_1 : decode bP_isNonterminalNumber 1 = .ok (.ifCond .lt (13), 3) := by decide +kernel
theorem dP_isNonterminalNumber_4 : decode bP_isNonterminalNumber 4 = .ok (.iload_n 0, 1) := by decide +kernel
theorem dP_isNonterminalNumber_5 : decode bP_isNonterminalNumber 5 = .ok (.bipush 6, 2) := by decide +kernel
theorem dP_isNonterminalNumber_7 : decode bP_isNonterminalNumber 7 = .ok (.if_icmp .ge (7), 3) := by decide +kernel
theorem dP_isNonterminalNumber_10 : decode bP_isNonterminalNumber 10 = .ok (.iconst 1, 1) := by decide +kernel
theorem dP_isNonterminalNumber_11 : decode bP_isNonterminalNumber 11 = .ok (.goto (4), 3) := by decide +kernel
theorem dP_isNonterminalNumber_14 : decode bP_isNonterminalNumber 14 = .ok (.iconst 0, 1) := by decide +kernel
theorem dP_isNonterminalNumber_15 : decode bP_isNonterminalNumber 15 = .ok (.ireturn, 1) := by decide +kernel
theorem dP_nonterminalNumber_0 : decode bP_nonterminalNumber 0 = .ok (.iload_n 0, 1) := by decide +kernel
theorem dP_nonterminalNumber_1 : decode bP_nonterminalNumber 1 = .ok (.bipush 65, 2) := by decide +kernel
theorem dP_nonterminalNumber_3 : decode bP_nonterminalNumber 3 = .ok (.if_icmp .lt (16), 3) := by decide +kernel
theorem dP_nonterminalNumber_6 : decode bP_nonterminalNumber 6 = .ok (.iload_n 0, 1) := by decide +kernel
theorem dP_nonterminalNumber_7 : decode bP_nonterminalNumber 7 = .ok (.bipush 70, 2) := by decide +kernel
theorem dP_nonterminalNumber_9 : decode bP_nonterminalNumber 9 = .ok (.if_icmp .gt (10), 3) := by decide +kernel
theorem dP_nonterminalNumber_12 : decode bP_nonterminalNumber 12 = .ok (.iload_n 0, 1) := by decide +kernel
theorem dP_nonterminalNumber_13 : decode bP_nonterminalNumber 13 = .ok (.bipush 65, 2) := by decide +kernel
theorem dP_nonterminalNumber_15 : decode bP_nonterminalNumber 15 = .ok (.isub, 1) := by decide +kernel
theorem dP_nonterminalNumber_16 : decode bP_nonterminalNumber 16 = .ok (.goto (4), 3) := by decide +kernel
theorem dP_nonterminalNumber_19 : decode bP_nonterminalNumber 19 = .ok (.iconst (-1), 1) := by decide +kernel
theorem dP_nonterminalNumber_20 : decode bP_nonterminalNumber 20 = .ok (.ireturn, 1) := by decide +kernel
theorem dP_contains_0 : decode bP_contains 0 = .ok (.iload_n 0, 1) := by decide +kernel
theorem dP_contains_1 : decode bP_contains 1 = .ok (.iconst 1, 1) := by decide +kernel
theorem dP_contains_2 : decode bP_contains 2 = .ok (.iload_n 1, 1) := by decide +kernel
theorem dP_contains_3 : decode bP_contains 3 = .ok (.ishl, 1) := by decide +kernel
theorem dP_contains_4 : decode bP_contains 4 = .ok (.iand, 1) := by decide +kernel
theorem dP_contains_5 : decode bP_contains 5 = .ok (.ifCond .eq (7), 3) := by decide +kernel
theorem dP_contains_8 : decode bP_contains 8 = .ok (.iconst 1, 1) := by decide +kernel
theorem dP_contains_9 : decode bP_contains 9 = .ok (.goto (4), 3) := by decide +kernel
theorem dP_contains_12 : decode bP_contains 12 = .ok (.iconst 0, 1) := by decide +kernel
theorem dP_contains_13 : decode bP_contains 13 = .ok (.ireturn, 1) := by decide +kernel
theorem dP_spanNumber_0 : decode bP_spanNumber 0 = .ok (.iload_n 1, 1) := by decide +kernel
theorem dP_spanNumber_1 : decode bP_spanNumber 1 = .ok (.iload_n 1, 1) := by decide +kernel
theorem dP_spanNumber_2 : decode bP_spanNumber 2 = .ok (.iconst 1, 1) := by decide +kernel
theorem dP_spanNumber_3 : decode bP_spanNumber 3 = .ok (.isub, 1) := by decide +kernel
theorem dP_spanNumber_4 : decode bP_spanNumber 4 = .ok (.imul, 1) := by decide +kernel
theorem dP_spanNumber_5 : decode bP_spanNumber 5 = .ok (.iconst 2, 1) := by decide +kernel
theorem dP_spanNumber_6 : decode bP_spanNumber 6 = .ok (.idiv, 1) := by decide +kernel
theorem dP_spanNumber_7 : decode bP_spanNumber 7 = .ok (.iload_n 0, 1) := by decide +kernel
theorem dP_spanNumber_8 : decode bP_spanNumber 8 = .ok (.iadd, 1) := by decide +kernel
theorem dP_spanNumber_9 : decode bP_spanNumber 9 = .ok (.ireturn, 1) := by decide +kernel
end
section
theorem dM_init_0 : decode bM_init 0 = .ok (.aload_n 0, 1) := by decide +kernel
theorem dM_init_1 : decode bM_init 1 = .ok (.invokespecial 1, 3) := by decide +kernel
theorem dM_init_4 : decode bM_init 4 = .ok (.aload_n 0, 1) := by decide +kernel
theorem dM_init_5 : decode bM_init 5 = .ok (.bipush 14, 2) := by decide +kernel
theorem dM_init_7 : decode bM_init 7 = .ok (.newarray .int, 2) := by decide +kernel
theorem dM_init_9 : decode bM_init 9 = .ok (.putfield 7, 3) := by decide +kernel
theorem dM_init_12 : decode bM_init 12 = .ok (.aload_n 0, 1) := by decide +kernel
theorem dM_init_13 : decode bM_init 13 = .ok (.bipush 14, 2) := by decide +kernel
theorem dM_init_15 : decode bM_init 15 = .ok (.newarray .int, 2) := by decide +kernel
theorem dM_init_17 : decode bM_init 17 = .ok (.putfield 13, 3) := by decide +kernel
theorem dM_init_20 : decode bM_init 20 = .ok (.aload_n 0, 1) := by decide +kernel
theorem dM_init_21 : decode bM_init 21 = .ok (.bipush 16, 2) := by decide +kernel
theorem dM_init_23 : decode bM_init 23 = .ok (.newarray .int, 2) := by decide +kernel
theorem dM_init_25 : decode bM_init 25 = .ok (.putfield 16, 3) := by decide +kernel
theorem dM_init_28 : decode bM_init 28 = .ok (.aload_n 0, 1) := by decide +kernel
theorem dM_init_29 : decode bM_init 29 = .ok (.bipush 16, 2) := by decide +kernel
theorem dM_init_31 : decode bM_init 31 = .ok (.newarray .int, 2) := by decide +kernel
theorem dM_init_33 : decode bM_init 33 = .ok (.putfield 19, 3) := by decide +kernel
theorem dM_init_36 : decode bM_init 36 = .ok (.aload_n 0, 1) := by decide +kernel
theorem dM_init_37 : decode bM_init 37 = .ok (.bipush 64, 2) := by decide +kernel
theorem dM_init_39 : decode bM_init 39 = .ok (.newarray .int, 2) := by decide +kernel
theorem dM_init_41 : decode bM_init 41 = .ok (.putfield 22, 3) := by decide +kernel
theorem dM_init_44 : decode bM_init 44 = .ok (.aload_n 0, 1) := by decide +kernel
theorem dM_init_45 : decode bM_init 45 = .ok (.bipush 16, 2) := by decide +kernel
theorem dM_init_47 : decode bM_init 47 = .ok (.newarray .int, 2) := by decide +kernel
theorem dM_init_49 : decode bM_init 49 = .ok (.putfield 25, 3) := by decide +kernel
theorem dM_init_52 : decode bM_init 52 = .ok (.aload_n 0, 1) := by decide +kernel
theorem dM_init_53 : decode bM_init 53 = .ok (.iconst 5, 1) := by decide +kernel
theorem dM_init_54 : decode bM_init 54 = .ok (.newarray .int, 2) := by decide +kernel
theorem dM_init_56 : decode bM_init 56 = .ok (.putfield 28, 3) := by decide +kernel
theorem dM_init_59 : decode bM_init 59 = .ok (.aload_n 0, 1) := by decide +kernel
theorem dM_init_60 : decode bM_init 60 = .ok (.iconst 5, 1) := by decide +kernel
theorem dM_init_61 : decode bM_init 61 = .ok (.newarray .int, 2) := by decide +kernel
theorem dM_init_63 : decode bM_init 63 = .ok (.putfield 31, 3) := by decide +kernel
theorem dM_init_66 : decode bM_init 66 = .ok (.aload_n 0, 1) := by decide +kernel
theorem dM_init_67 : decode bM_init 67 = .ok (.bipush 16, 2) := by decide +kernel
theorem dM_init_69 : decode bM_init 69 = .ok (.newarray .double, 2) := by decide +kernel
theorem dM_init_71 : decode bM_init 71 = .ok (.putfield 34, 3) := by decide +kernel
theorem dM_init_74 : decode bM_init 74 = .ok (.aload_n 0, 1) := by decide +kernel
theorem dM_init_75 : decode bM_init 75 = .ok (.sipush 3600, 3) := by decide +kernel
theorem dM_init_78 : decode bM_init 78 = .ok (.newarray .double, 2) := by decide +kernel
theorem dM_init_80 : decode bM_init 80 = .ok (.putfield 38, 3) := by decide +kernel
theorem dM_init_83 : decode bM_init 83 = .ok (.aload_n 0, 1) := by decide +kernel
theorem dM_init_84 : decode bM_init 84 = .ok (.sipush 256, 3) := by decide +kernel
theorem dM_init_87 : decode bM_init 87 = .ok (.newarray .boolean, 2) := by decide +kernel
theorem dM_init_89 : decode bM_init 89 = .ok (.putfield 41, 3) := by decide +kernel
theorem dM_init_92 : decode bM_init 92 = .ok (.aload_n 0, 1) := by decide +kernel
theorem dM_init_93 : decode bM_init 93 = .ok (.sipush 762, 3) := by decide +kernel
theorem dM_init_96 : decode bM_init 96 = .ok (.newarray .boolean, 2) := by decide +kernel
theorem dM_init_98 : decode bM_init 98 = .ok (.putfield 45, 3) := by decide +kernel
theorem dM_init_101 : decode bM_init 101 = .ok (.aload_n 0, 1) := by decide +kernel
theorem dM_init_102 : decode bM_init 102 = .ok (.sipush 1350, 3) := by decide +kernel
theorem dM_init_105 : decode bM_init 105 = .ok (.newarray .boolean, 2) := by decide +kernel
theorem dM_init_107 : decode bM_init 107 = .ok (.putfield 48, 3) := by decide +kernel
theorem dM_init_110 : decode bM_init 110 = .ok (.aload_n 0, 1) := by decide +kernel
theorem dM_init_111 : decode bM_init 111 = .ok (.sipush 3600, 3) := by decide +kernel
theorem dM_init_114 : decode bM_init 114 = .ok (.newarray .int, 2) := by decide +kernel
theorem dM_init_116 : decode bM_init 116 = .ok (.putfield 51, 3) := by decide +kernel
theorem dM_init_119 : decode bM_init 119 = .ok (.aload_n 0, 1) := by decide +kernel
theorem dM_init_120 : decode bM_init 120 = .ok (.sipush 400, 3) := by decide +kernel
theorem dM_init_123 : decode bM_init 123 = .ok (.newarray .int, 2) := by decide +kernel
theorem dM_init_125 : decode bM_init 125 = .ok (.putfield 54, 3) := by decide +kernel
theorem dM_init_128 : decode bM_init 128 = .ok (.aload_n 0, 1) := by decide +kernel
theorem dM_init_129 : decode bM_init 129 = .ok (.sipush 400, 3) := by decide +kernel
theorem dM_init_132 : decode bM_init 132 = .ok (.newarray .int, 2) := by decide +kernel
theorem dM_init_134 : decode bM_init 134 = .ok (.putfield 57, 3) := by decide +kernel
theorem dM_init_137 : decode bM_init 137 = .ok (.aload_n 0, 1) := by decide +kernel
theorem dM_init_138 : decode bM_init 138 = .ok (.sipush 400, 3) := by decide +kernel
theorem dM_init_141 : decode bM_init 141 = .ok (.newarray .int, 2) := by decide +kernel
theorem dM_init_143 : decode bM_init 143 = .ok (.putfield 60, 3) := by decide +kernel
theorem dM_init_146 : decode bM_init 146 = .ok (.aload_n 0, 1) := by decide +kernel
theorem dM_init_147 : decode bM_init 147 = .ok (.sipush 400, 3) := by decide +kernel
theorem dM_init_150 : decode bM_init 150 = .ok (.newarray .int, 2) := by decide +kernel
theorem dM_init_152 : decode bM_init 152 = .ok (.putfield 63, 3) := by decide +kernel
theorem dM_init_155 : decode bM_init 155 = .ok (.aload_n 0, 1) := by decide +kernel
theorem dM_init_156 : decode bM_init 156 = .ok (.sipush 400, 3) := by decide +kernel
theorem dM_init_159 : decode bM_init 159 = .ok (.newarray .int, 2) := by decide +kernel
theorem dM_init_161 : decode bM_init 161 = .ok (.putfield 66, 3) := by decide +kernel
theorem dM_init_164 : decode bM_init 164 = .ok (.aload_n 0, 1) := by decide +kernel
theorem dM_init_165 : decode bM_init 165 = .ok (.sipush 1600, 3) := by decide +kernel
theorem dM_init_168 : decode bM_init 168 = .ok (.newarray .int, 2) := by decide +kernel
theorem dM_init_170 : decode bM_init 170 = .ok (.putfield 69, 3) := by decide +kernel
theorem dM_init_173 : decode bM_init 173 = .ok (.aload_n 0, 1) := by decide +kernel
theorem dM_init_174 : decode bM_init 174 = .ok (.iconst (-1), 1) := by decide +kernel
theorem dM_init_175 : decode bM_init 175 = .ok (.putfield 72, 3) := by decide +kernel
theorem dM_init_178 : decode bM_init 178 = .ok (.return_, 1) := by decide +kernel
theorem dM_thrown_0 : decode bM_thrown 0 = .ok (.aload_n 0, 1) := by decide +kernel
theorem dM_thrown_1 : decode bM_thrown 1 = .ok (.getfield 76, 3) := by decide +kernel
theorem dM_thrown_4 : decode bM_thrown 4 = .ok (.ireturn, 1) := by decide +kernel
theorem dM_in_0 : decode bM_in 0 = .ok (.iload_n 0, 1) := by decide +kernel
theorem dM_in_1 : decode bM_in 1 = .ok (.iload_n 1, 1) := by decide +kernel
theorem dM_in_2 : decode bM_in 2 = .ok (.if_icmp .lt (12), 3) := by decide +kernel
theorem dM_in_5 : decode bM_in 5 = .ok (.iload_n 0, 1) := by decide +kernel
theorem dM_in_6 : decode bM_in 6 = .ok (.iload_n 2, 1) := by decide +kernel
theorem dM_in_7 : decode bM_in 7 = .ok (.if_icmp .gt (7), 3) := by decide +kernel
theorem dM_in_10 : decode bM_in 10 = .ok (.iconst 1, 1) := by decide +kernel
theorem dM_in_11 : decode bM_in 11 = .ok (.goto (4), 3) := by decide +kernel
theorem dM_in_14 : decode bM_in 14 = .ok (.iconst 0, 1) := by decide +kernel
theorem dM_in_15 : decode bM_in 15 = .ok (.ireturn, 1) := by decide +kernel
theorem dM_bad_0 : decode bM_bad 0 = .ok (.aload_n 0, 1) := by decide +kernel
theorem dM_bad_1 : decode bM_bad 1 = .ok (.iload_n 1, 1) := by decide +kernel
theorem dM_bad_2 : decode bM_bad 2 = .ok (.ifCond .eq (7), 3) := by decide +kernel
theorem dM_bad_5 : decode bM_bad 5 = .ok (.iconst 0, 1) := by decide +kernel
theorem dM_bad_6 : decode bM_bad 6 = .ok (.goto (4), 3) := by decide +kernel
theorem dM_bad_9 : decode bM_bad 9 = .ok (.iconst 1, 1) := by decide +kernel
theorem dM_bad_10 : decode bM_bad 10 = .ok (.putfield 76, 3) := by decide +kernel
theorem dM_bad_13 : decode bM_bad 13 = .ok (.iload_n 1, 1) := by decide +kernel
theorem dM_bad_14 : decode bM_bad 14 = .ok (.ifCond .ne (7), 3) := by decide +kernel
theorem dM_bad_17 : decode bM_bad 17 = .ok (.iconst 1, 1) := by decide +kernel
theorem dM_bad_18 : decode bM_bad 18 = .ok (.goto (4), 3) := by decide +kernel
theorem dM_bad_21 : decode bM_bad 21 = .ok (.iconst 0, 1) := by decide +kernel
theorem dM_bad_22 : decode bM_bad 22 = .ok (.ireturn, 1) := by decide +kernel
theorem dM_fail_0 : decode bM_fail 0 = .ok (.aload_n 0, 1) := by decide +kernel
theorem dM_fail_1 : decode bM_fail 1 = .ok (.iload_n 1, 1) := by decide +kernel
theorem dM_fail_2 : decode bM_fail 2 = .ok (.putfield 76, 3) := by decide +kernel
theorem dM_fail_5 : decode bM_fail 5 = .ok (.iconst 0, 1) := by decide +kernel
theorem dM_fail_6 : decode bM_fail 6 = .ok (.ireturn, 1) := by decide +kernel
theorem dM_type_0 : decode bM_type 0 = .ok (.iconst 0, 1) := by decide +kernel
theorem dM_type_1 : decode bM_type 1 = .ok (.istore_n 3, 1) := by decide +kernel
theorem dM_type_2 : decode bM_type 2 = .ok (.iconst 1, 1) := by decide +kernel
theorem dM_type_3 : decode bM_type 3 = .ok (.istore 4, 2) := by decide +kernel
theorem dM_type_5 : decode bM_type 5 = .ok (.bipush 56, 2) := by decide +kernel
theorem dM_type_7 : decode bM_type 7 = .ok (.istore 5, 2) := by decide +kernel
theorem dM_type_9 : decode bM_type 9 = .ok (.iload 5, 2) := by decide +kernel
theorem dM_type_11 : decode bM_type 11 = .ok (.ifCond .lt (48), 3) := by decide +kernel
theorem dM_type_14 : decode bM_type 14 = .ok (.lload_n 1, 1) := by decide +kernel
theorem dM_type_15 : decode bM_type 15 = .ok (.iload 5, 2) := by decide +kernel
theorem dM_type_17 : decode bM_type 17 = .ok (.lushr, 1) := by decide +kernel
theorem dM_type_18 : decode bM_type 18 = .ok (.l2i, 1) := by decide +kernel
theorem dM_type_19 : decode bM_type 19 = .ok (.sipush 255, 3) := by decide +kernel
theorem dM_type_22 : decode bM_type 22 = .ok (.iand, 1) := by decide +kernel
theorem dM_type_23 : decode bM_type 23 = .ok (.istore 6, 2) := by decide +kernel
theorem dM_type_25 : decode bM_type 25 = .ok (.iload 6, 2) := by decide +kernel
theorem dM_type_27 : decode bM_type 27 = .ok (.ifCond .eq (6), 3) := by decide +kernel
theorem dM_type_30 : decode bM_type 30 = .ok (.iinc 3 (1), 3) := by decide +kernel
theorem dM_type_33 : decode bM_type 33 = .ok (.iload 6, 2) := by decide +kernel
theorem dM_type_35 : decode bM_type 35 = .ok (.ifCond .eq (18), 3) := by decide +kernel
theorem dM_type_38 : decode bM_type 38 = .ok (.iload 6, 2) := by decide +kernel
theorem dM_type_40 : decode bM_type 40 = .ok (.bipush 33, 2) := by decide +kernel
theorem dM_type_42 : decode bM_type 42 = .ok (.bipush 126, 2) := by decide +kernel
theorem dM_type_44 : decode bM_type 44 = .ok (.invokestatic 79, 3) := by decide +kernel
theorem dM_type_47 : decode bM_type 47 = .ok (.ifCond .ne (6), 3) := by decide +kernel
theorem dM_type_50 : decode bM_type 50 = .ok (.iconst 0, 1) := by decide +kernel
theorem dM_type_51 : decode bM_type 51 = .ok (.istore 4, 2) := by decide +kernel
theorem dM_type_53 : decode bM_type 53 = .ok (.iinc 5 (-8), 3) := by decide +kernel
theorem dM_type_56 : decode bM_type 56 = .ok (.goto (-47), 3) := by decide +kernel
theorem dM_type_59 : decode bM_type 59 = .ok (.aload_n 0, 1) := by decide +kernel
theorem dM_type_60 : decode bM_type 60 = .ok (.iload 4, 2) := by decide +kernel
theorem dM_type_62 : decode bM_type 62 = .ok (.invokevirtual 83, 3) := by decide +kernel
theorem dM_type_65 : decode bM_type 65 = .ok (.ifCond .eq (5), 3) := by decide +kernel
theorem dM_type_68 : decode bM_type 68 = .ok (.iconst 0, 1) := by decide +kernel
theorem dM_type_69 : decode bM_type 69 = .ok (.ireturn, 1) := by decide +kernel
theorem dM_type_70 : decode bM_type 70 = .ok (.aload_n 0, 1) := by decide +kernel
theorem dM_type_71 : decode bM_type 71 = .ok (.getfield 87, 3) := by decide +kernel
theorem dM_type_74 : decode bM_type 74 = .ok (.iload_n 3, 1) := by decide +kernel
theorem dM_type_75 : decode bM_type 75 = .ok (.iadd, 1) := by decide +kernel
theorem dM_type_76 : decode bM_type 76 = .ok (.bipush 14, 2) := by decide +kernel
theorem dM_type_78 : decode bM_type 78 = .ok (.if_icmp .le (9), 3) := by decide +kernel
theorem dM_type_81 : decode bM_type 81 = .ok (.aload_n 0, 1) := by decide +kernel
theorem dM_type_82 : decode bM_type 82 = .ok (.iconst 2, 1) := by decide +kernel
theorem dM_type_83 : decode bM_type 83 = .ok (.invokevirtual 90, 3) := by decide +kernel
theorem dM_type_86 : decode bM_type 86 = .ok (.ireturn, 1) := by decide +kernel
theorem dM_type_87 : decode bM_type 87 = .ok (.bipush 56, 2) := by decide +kernel
theorem dM_type_89 : decode bM_type 89 = .ok (.istore 5, 2) := by decide +kernel
theorem dM_type_91 : decode bM_type 91 = .ok (.iload 5, 2) := by decide +kernel
theorem dM_type_93 : decode bM_type 93 = .ok (.ifCond .lt (49), 3) := by decide +kernel
theorem dM_type_96 : decode bM_type 96 = .ok (.lload_n 1, 1) := by decide +kernel
theorem dM_type_97 : decode bM_type 97 = .ok (.iload 5, 2) := by decide +kernel
theorem dM_type_99 : decode bM_type 99 = .ok (.lushr, 1) := by decide +kernel
theorem dM_type_100 : decode bM_type 100 = .ok (.l2i, 1) := by decide +kernel
theorem dM_type_101 : decode bM_type 101 = .ok (.sipush 255, 3) := by decide +kernel
theorem dM_type_104 : decode bM_type 104 = .ok (.iand, 1) := by decide +kernel
theorem dM_type_105 : decode bM_type 105 = .ok (.istore 6, 2) := by decide +kernel
theorem dM_type_107 : decode bM_type 107 = .ok (.iload 6, 2) := by decide +kernel
theorem dM_type_109 : decode bM_type 109 = .ok (.ifCond .ne (6), 3) := by decide +kernel
theorem dM_type_112 : decode bM_type 112 = .ok (.goto (24), 3) := by decide +kernel
theorem dM_type_115 : decode bM_type 115 = .ok (.aload_n 0, 1) := by decide +kernel
theorem dM_type_116 : decode bM_type 116 = .ok (.getfield 7, 3) := by decide +kernel
theorem dM_type_119 : decode bM_type 119 = .ok (.aload_n 0, 1) := by decide +kernel
theorem dM_type_120 : decode bM_type 120 = .ok (.getfield 87, 3) := by decide +kernel
theorem dM_type_123 : decode bM_type 123 = .ok (.iload 6, 2) := by decide +kernel
theorem dM_type_125 : decode bM_type 125 = .ok (.iastore, 1) := by decide +kernel
theorem dM_type_126 : decode bM_type 126 = .ok (.aload_n 0, 1) := by decide +kernel
theorem dM_type_127 : decode bM_type 127 = .ok (.dup, 1) := by decide +kernel
theorem dM_type_128 : decode bM_type 128 = .ok (.getfield 87, 3) := by decide +kernel
theorem dM_type_131 : decode bM_type 131 = .ok (.iconst 1, 1) := by decide +kernel
theorem dM_type_132 : decode bM_type 132 = .ok (.iadd, 1) := by decide +kernel
theorem dM_type_133 : decode bM_type 133 = .ok (.putfield 87, 3) := by decide +kernel
theorem dM_type_136 : decode bM_type 136 = .ok (.iinc 5 (-8), 3) := by decide +kernel
theorem dM_type_139 : decode bM_type 139 = .ok (.goto (-48), 3) := by decide +kernel
theorem dM_type_142 : decode bM_type 142 = .ok (.aload_n 0, 1) := by decide +kernel
theorem dM_type_143 : decode bM_type 143 = .ok (.getfield 87, 3) := by decide +kernel
theorem dM_type_146 : decode bM_type 146 = .ok (.ireturn, 1) := by decide +kernel
theorem dM_change_0 : decode bM_change 0 = .ok (.aload_n 0, 1) := by decide +kernel
theorem dM_change_1 : decode bM_change 1 = .ok (.iconst 0, 1) := by decide +kernel
theorem dM_change_2 : decode bM_change 2 = .ok (.putfield 94, 3) := by decide +kernel
theorem dM_change_5 : decode bM_change 5 = .ok (.aload_n 0, 1) := by decide +kernel
theorem dM_change_6 : decode bM_change 6 = .ok (.iconst 0, 1) := by decide +kernel
theorem dM_change_7 : decode bM_change 7 = .ok (.putfield 98, 3) := by decide +kernel
theorem dM_change_10 : decode bM_change 10 = .ok (.return_, 1) := by decide +kernel
theorem dM_wrong_0 : decode bM_wrong 0 = .ok (.aload_n 0, 1) := by decide +kernel
theorem dM_wrong_1 : decode bM_wrong 1 = .ok (.getfield 87, 3) := by decide +kernel
theorem dM_wrong_4 : decode bM_wrong 4 = .ok (.iconst 1, 1) := by decide +kernel
theorem dM_wrong_5 : decode bM_wrong 5 = .ok (.if_icmp .lt (19), 3) := by decide +kernel
theorem dM_wrong_8 : decode bM_wrong 8 = .ok (.aload_n 0, 1) := by decide +kernel
theorem dM_wrong_9 : decode bM_wrong 9 = .ok (.getfield 7, 3) := by decide +kernel
theorem dM_wrong_12 : decode bM_wrong 12 = .ok (.iconst 0, 1) := by decide +kernel
theorem dM_wrong_13 : decode bM_wrong 13 = .ok (.iaload, 1) := by decide +kernel
theorem dM_wrong_14 : decode bM_wrong 14 = .ok (.bipush 65, 2) := by decide +kernel
theorem dM_wrong_16 : decode bM_wrong 16 = .ok (.bipush 70, 2) := by decide +kernel
theorem dM_wrong_18 : decode bM_wrong 18 = .ok (.invokestatic 79, 3) := by decide +kernel
theorem dM_wrong_21 : decode bM_wrong 21 = .ok (.ifCond .ne (5), 3) := by decide +kernel
theorem dM_wrong_24 : decode bM_wrong 24 = .ok (.iconst 0, 1) := by decide +kernel
theorem dM_wrong_25 : decode bM_wrong 25 = .ok (.ireturn, 1) := by decide +kernel
theorem dM_wrong_26 : decode bM_wrong 26 = .ok (.aload_n 0, 1) := by decide +kernel
theorem dM_wrong_27 : decode bM_wrong 27 = .ok (.getfield 87, 3) := by decide +kernel
theorem dM_wrong_30 : decode bM_wrong 30 = .ok (.iconst 2, 1) := by decide +kernel
theorem dM_wrong_31 : decode bM_wrong 31 = .ok (.if_icmp .lt (14), 3) := by decide +kernel
theorem dM_wrong_34 : decode bM_wrong 34 = .ok (.aload_n 0, 1) := by decide +kernel
theorem dM_wrong_35 : decode bM_wrong 35 = .ok (.getfield 7, 3) := by decide +kernel
theorem dM_wrong_38 : decode bM_wrong 38 = .ok (.iconst 1, 1) := by decide +kernel
theorem dM_wrong_39 : decode bM_wrong 39 = .ok (.iaload, 1) := by decide +kernel
theorem dM_wrong_40 : decode bM_wrong 40 = .ok (.bipush 58, 2) := by decide +kernel
theorem dM_wrong_42 : decode bM_wrong 42 = .ok (.if_icmp .eq (5), 3) := by decide +kernel
theorem dM_wrong_45 : decode bM_wrong 45 = .ok (.iconst 1, 1) := by decide +kernel
theorem dM_wrong_46 : decode bM_wrong 46 = .ok (.ireturn, 1) := by decide +kernel
theorem dM_wrong_47 : decode bM_wrong 47 = .ok (.iconst 2, 1) := by decide +kernel
theorem dM_wrong_48 : decode bM_wrong 48 = .ok (.istore_n 1, 1) := by decide +kernel
theorem dM_wrong_49 : decode bM_wrong 49 = .ok (.iload_n 1, 1) := by decide +kernel
theorem dM_wrong_50 : decode bM_wrong 50 = .ok (.aload_n 0, 1) := by decide +kernel
theorem dM_wrong_51 : decode bM_wrong 51 = .ok (.getfield 87, 3) := by decide +kernel
theorem dM_wrong_54 : decode bM_wrong 54 = .ok (.if_icmp .ge (44), 3) := by decide +kernel
theorem dM_wrong_57 : decode bM_wrong 57 = .ok (.iload_n 1, 1) := by decide +kernel
theorem dM_wrong_58 : decode bM_wrong 58 = .ok (.bipush 6, 2) := by decide +kernel
theorem dM_wrong_60 : decode bM_wrong 60 = .ok (.if_icmp .eq (30), 3) := by decide +kernel
theorem dM_wrong_63 : decode bM_wrong 63 = .ok (.aload_n 0, 1) := by decide +kernel
theorem dM_wrong_64 : decode bM_wrong 64 = .ok (.getfield 7, 3) := by decide +kernel
theorem dM_wrong_67 : decode bM_wrong 67 = .ok (.iload_n 1, 1) := by decide +kernel
theorem dM_wrong_68 : decode bM_wrong 68 = .ok (.iaload, 1) := by decide +kernel
theorem dM_wrong_69 : decode bM_wrong 69 = .ok (.bipush 58, 2) := by decide +kernel
theorem dM_wrong_71 : decode bM_wrong 71 = .ok (.if_icmp .eq (19), 3) := by decide +kernel
theorem dM_wrong_74 : decode bM_wrong 74 = .ok (.aload_n 0, 1) := by decide +kernel
theorem dM_wrong_75 : decode bM_wrong 75 = .ok (.getfield 7, 3) := by decide +kernel
theorem dM_wrong_78 : decode bM_wrong 78 = .ok (.iload_n 1, 1) := by decide +kernel
theorem dM_wrong_79 : decode bM_wrong 79 = .ok (.iaload, 1) := by decide +kernel
theorem dM_wrong_80 : decode bM_wrong 80 = .ok (.bipush 71, 2) := by decide +kernel
theorem dM_wrong_82 : decode bM_wrong 82 = .ok (.bipush 90, 2) := by decide +kernel
theorem dM_wrong_84 : decode bM_wrong 84 = .ok (.invokestatic 79, 3) := by decide +kernel
theorem dM_wrong_87 : decode bM_wrong 87 = .ok (.ifCond .eq (5), 3) := by decide +kernel
theorem dM_wrong_90 : decode bM_wrong 90 = .ok (.iload_n 1, 1) := by decide +kernel
theorem dM_wrong_91 : decode bM_wrong 91 = .ok (.ireturn, 1) := by decide +kernel
theorem dM_wrong_92 : decode bM_wrong 92 = .ok (.iinc 1 (1), 3) := by decide +kernel
theorem dM_wrong_95 : decode bM_wrong 95 = .ok (.goto (-46), 3) := by decide +kernel
theorem dM_wrong_98 : decode bM_wrong 98 = .ok (.aload_n 0, 1) := by decide +kernel
theorem dM_wrong_99 : decode bM_wrong 99 = .ok (.getfield 87, 3) := by decide +kernel
theorem dM_wrong_102 : decode bM_wrong 102 = .ok (.iconst 2, 1) := by decide +kernel
theorem dM_wrong_103 : decode bM_wrong 103 = .ok (.if_icmp .ne (7), 3) := by decide +kernel
theorem dM_wrong_106 : decode bM_wrong 106 = .ok (.iconst 2, 1) := by decide +kernel
theorem dM_wrong_107 : decode bM_wrong 107 = .ok (.goto (4), 3) := by decide +kernel
theorem dM_wrong_110 : decode bM_wrong 110 = .ok (.iconst (-1), 1) := by decide +kernel
theorem dM_wrong_111 : decode bM_wrong 111 = .ok (.ireturn, 1) := by decide +kernel
theorem dM_isChain_0 : decode bM_isChain 0 = .ok (.aload_n 0, 1) := by decide +kernel
theorem dM_isChain_1 : decode bM_isChain 1 = .ok (.getfield 19, 3) := by decide +kernel
theorem dM_isChain_4 : decode bM_isChain 4 = .ok (.iload_n 1, 1) := by decide +kernel
theorem dM_isChain_5 : decode bM_isChain 5 = .ok (.iaload, 1) := by decide +kernel
theorem dM_isChain_6 : decode bM_isChain 6 = .ok (.iconst 1, 1) := by decide +kernel
theorem dM_isChain_7 : decode bM_isChain 7 = .ok (.if_icmp .ne (25), 3) := by decide +kernel
theorem dM_isChain_10 : decode bM_isChain 10 = .ok (.aload_n 0, 1) := by decide +kernel
theorem dM_isChain_11 : decode bM_isChain 11 = .ok (.getfield 22, 3) := by decide +kernel
theorem dM_isChain_14 : decode bM_isChain 14 = .ok (.iload_n 1, 1) := by decide +kernel
theorem dM_isChain_15 : decode bM_isChain 15 = .ok (.iconst 4, 1) := by decide +kernel
theorem dM_isChain_16 : decode bM_isChain 16 = .ok (.imul, 1) := by decide +kernel
theorem dM_isChain_17 : decode bM_isChain 17 = .ok (.iaload, 1) := by decide +kernel
theorem dM_isChain_18 : decode bM_isChain 18 = .ok (.bipush 65, 2) := by decide +kernel
theorem dM_isChain_20 : decode bM_isChain 20 = .ok (.bipush 70, 2) := by decide +kernel
theorem dM_isChain_22 : decode bM_isChain 22 = .ok (.invokestatic 79, 3) := by decide +kernel
theorem dM_isChain_25 : decode bM_isChain 25 = .ok (.ifCond .eq (7), 3) := by decide +kernel
theorem dM_isChain_28 : decode bM_isChain 28 = .ok (.iconst 1, 1) := by decide +kernel
theorem dM_isChain_29 : decode bM_isChain 29 = .ok (.goto (4), 3) := by decide +kernel
theorem dM_isChain_32 : decode bM_isChain 32 = .ok (.iconst 0, 1) := by decide +kernel
theorem dM_isChain_33 : decode bM_isChain 33 = .ok (.ireturn, 1) := by decide +kernel
theorem dM_leads_0 : decode bM_leads 0 = .ok (.iconst 1, 1) := by decide +kernel
theorem dM_leads_1 : decode bM_leads 1 = .ok (.iload_n 1, 1) := by decide +kernel
theorem dM_leads_2 : decode bM_leads 2 = .ok (.ishl, 1) := by decide +kernel
theorem dM_leads_3 : decode bM_leads 3 = .ok (.istore_n 3, 1) := by decide +kernel
theorem dM_leads_4 : decode bM_leads 4 = .ok (.iconst 0, 1) := by decide +kernel
theorem dM_leads_5 : decode bM_leads 5 = .ok (.istore 4, 2) := by decide +kernel
theorem dM_leads_7 : decode bM_leads 7 = .ok (.iload 4, 2) := by decide +kernel
theorem dM_leads_9 : decode bM_leads 9 = .ok (.bipush 6, 2) := by decide +kernel
theorem dM_leads_11 : decode bM_leads 11 = .ok (.if_icmp .ge (67), 3) := by decide +kernel
theorem dM_leads_14 : decode bM_leads 14 = .ok (.iconst 0, 1) := by decide +kernel
theorem dM_leads_15 : decode bM_leads 15 = .ok (.istore 5, 2) := by decide +kernel
theorem dM_leads_17 : decode bM_leads 17 = .ok (.iload 5, 2) := by decide +kernel
theorem dM_leads_19 : decode bM_leads 19 = .ok (.aload_n 0, 1) := by decide +kernel
theorem dM_leads_20 : decode bM_leads 20 = .ok (.getfield 101, 3) := by decide +kernel
theorem dM_leads_23 : decode bM_leads 23 = .ok (.if_icmp .ge (49), 3) := by decide +kernel
theorem dM_leads_26 : decode bM_leads 26 = .ok (.aload_n 0, 1) := by decide +kernel
theorem dM_leads_27 : decode bM_leads 27 = .ok (.iload 5, 2) := by decide +kernel
theorem dM_leads_29 : decode bM_leads 29 = .ok (.invokevirtual 104, 3) := by decide +kernel
theorem dM_leads_32 : decode bM_leads 32 = .ok (.ifCond .eq (34), 3) := by decide +kernel
theorem dM_leads_35 : decode bM_leads 35 = .ok (.iload_n 3, 1) := by decide +kernel
theorem dM_leads_36 : decode bM_leads 36 = .ok (.aload_n 0, 1) := by decide +kernel
theorem dM_leads_37 : decode bM_leads 37 = .ok (.getfield 16, 3) := by decide +kernel
theorem dM_leads_40 : decode bM_leads 40 = .ok (.iload 5, 2) := by decide +kernel
theorem dM_leads_42 : decode bM_leads 42 = .ok (.iaload, 1) := by decide +kernel
theorem dM_leads_43 : decode bM_leads 43 = .ok (.ishr, 1) := by decide +kernel
theorem dM_leads_44 : decode bM_leads 44 = .ok (.iconst 1, 1) := by decide +kernel
theorem dM_leads_45 : decode bM_leads 45 = .ok (.iand, 1) := by decide +kernel
theorem dM_leads_46 : decode bM_leads 46 = .ok (.ifCond .eq (20), 3) := by decide +kernel
theorem dM_leads_49 : decode bM_leads 49 = .ok (.iload_n 3, 1) := by decide +kernel
theorem dM_leads_50 : decode bM_leads 50 = .ok (.iconst 1, 1) := by decide +kernel
theorem dM_leads_51 : decode bM_leads 51 = .ok (.aload_n 0, 1) := by decide +kernel
theorem dM_leads_52 : decode bM_leads 52 = .ok (.getfield 22, 3) := by decide +kernel
theorem dM_leads_55 : decode bM_leads 55 = .ok (.iload 5, 2) := by decide +kernel
theorem dM_leads_57 : decode bM_leads 57 = .ok (.iconst 4, 1) := by decide +kernel
theorem dM_leads_58 : decode bM_leads 58 = .ok (.imul, 1) := by decide +kernel
theorem dM_leads_59 : decode bM_leads 59 = .ok (.iaload, 1) := by decide +kernel
theorem dM_leads_60 : decode bM_leads 60 = .ok (.bipush 65, 2) := by decide +kernel
theorem dM_leads_62 : decode bM_leads 62 = .ok (.isub, 1) := by decide +kernel
theorem dM_leads_63 : decode bM_leads 63 = .ok (.ishl, 1) := by decide +kernel
theorem dM_leads_64 : decode bM_leads 64 = .ok (.ior, 1) := by decide +kernel
theorem dM_leads_65 : decode bM_leads 65 = .ok (.istore_n 3, 1) := by decide +kernel
theorem dM_leads_66 : decode bM_leads 66 = .ok (.iinc 5 (1), 3) := by decide +kernel
theorem dM_leads_69 : decode bM_leads 69 = .ok (.goto (-52), 3) := by decide +kernel
theorem dM_leads_72 : decode bM_leads 72 = .ok (.iinc 4 (1), 3) := by decide +kernel
theorem dM_leads_75 : decode bM_leads 75 = .ok (.goto (-68), 3) := by decide +kernel
theorem dM_leads_78 : decode bM_leads 78 = .ok (.iload_n 3, 1) := by decide +kernel
theorem dM_leads_79 : decode bM_leads 79 = .ok (.iload_n 2, 1) := by decide +kernel
theorem dM_leads_80 : decode bM_leads 80 = .ok (.ishr, 1) := by decide +kernel
theorem dM_leads_81 : decode bM_leads 81 = .ok (.iconst 1, 1) := by decide +kernel
theorem dM_leads_82 : decode bM_leads 82 = .ok (.iand, 1) := by decide +kernel
theorem dM_leads_83 : decode bM_leads 83 = .ok (.ifCond .eq (7), 3) := by decide +kernel
theorem dM_leads_86 : decode bM_leads 86 = .ok (.iconst 1, 1) := by decide +kernel
theorem dM_leads_87 : decode bM_leads 87 = .ok (.goto (4), 3) := by decide +kernel
theorem dM_leads_90 : decode bM_leads 90 = .ok (.iconst 0, 1) := by decide +kernel
theorem dM_leads_91 : decode bM_leads 91 = .ok (.ireturn, 1) := by decide +kernel
theorem dM_rule_0 : decode bM_rule 0 = .ok (.aload_n 0, 1) := by decide +kernel
theorem dM_rule_1 : decode bM_rule 1 = .ok (.dload_n 1, 1) := by decide +kernel
theorem dM_rule_2 : decode bM_rule 2 = .ok (.ldc2_w 108, 3) := by decide +kernel
theorem dM_rule_5 : decode bM_rule 5 = .ok (.dcmp .l, 1) := by decide +kernel
theorem dM_rule_6 : decode bM_rule 6 = .ok (.ifCond .lt (15), 3) := by decide +kernel
theorem dM_rule_9 : decode bM_rule 9 = .ok (.dload_n 1, 1) := by decide +kernel
theorem dM_rule_10 : decode bM_rule 10 = .ok (.ldc2_w 110, 3) := by decide +kernel
theorem dM_rule_13 : decode bM_rule 13 = .ok (.dcmp .g, 1) := by decide +kernel
theorem dM_rule_14 : decode bM_rule 14 = .ok (.ifCond .gt (7), 3) := by decide +kernel
theorem dM_rule_17 : decode bM_rule 17 = .ok (.iconst 1, 1) := by decide +kernel
theorem dM_rule_18 : decode bM_rule 18 = .ok (.goto (4), 3) := by decide +kernel
theorem dM_rule_21 : decode bM_rule 21 = .ok (.iconst 0, 1) := by decide +kernel
theorem dM_rule_22 : decode bM_rule 22 = .ok (.invokevirtual 83, 3) := by decide +kernel
theorem dM_rule_25 : decode bM_rule 25 = .ok (.ifCond .eq (5), 3) := by decide +kernel
theorem dM_rule_28 : decode bM_rule 28 = .ok (.iconst 0, 1) := by decide +kernel
theorem dM_rule_29 : decode bM_rule 29 = .ok (.ireturn, 1) := by decide +kernel
theorem dM_rule_30 : decode bM_rule 30 = .ok (.aload_n 0, 1) := by decide +kernel
theorem dM_rule_31 : decode bM_rule 31 = .ok (.getfield 87, 3) := by decide +kernel
theorem dM_rule_34 : decode bM_rule 34 = .ok (.istore_n 3, 1) := by decide +kernel
theorem dM_rule_35 : decode bM_rule 35 = .ok (.aload_n 0, 1) := by decide +kernel
theorem dM_rule_36 : decode bM_rule 36 = .ok (.iconst 0, 1) := by decide +kernel
theorem dM_rule_37 : decode bM_rule 37 = .ok (.putfield 87, 3) := by decide +kernel
theorem dM_rule_40 : decode bM_rule 40 = .ok (.aload_n 0, 1) := by decide +kernel
theorem dM_rule_41 : decode bM_rule 41 = .ok (.getfield 101, 3) := by decide +kernel
theorem dM_rule_44 : decode bM_rule 44 = .ok (.bipush 16, 2) := by decide +kernel
theorem dM_rule_46 : decode bM_rule 46 = .ok (.if_icmp .ne (9), 3) := by decide +kernel
theorem dM_rule_49 : decode bM_rule 49 = .ok (.aload_n 0, 1) := by decide +kernel
theorem dM_rule_50 : decode bM_rule 50 = .ok (.iconst 2, 1) := by decide +kernel
theorem dM_rule_51 : decode bM_rule 51 = .ok (.invokevirtual 90, 3) := by decide +kernel
theorem dM_rule_54 : decode bM_rule 54 = .ok (.ireturn, 1) := by decide +kernel
theorem dM_rule_55 : decode bM_rule 55 = .ok (.aload_n 0, 1) := by decide +kernel
theorem dM_rule_56 : decode bM_rule 56 = .ok (.iload_n 3, 1) := by decide +kernel
theorem dM_rule_57 : decode bM_rule 57 = .ok (.putfield 87, 3) := by decide +kernel
theorem dM_rule_60 : decode bM_rule 60 = .ok (.aload_n 0, 1) := by decide +kernel
theorem dM_rule_61 : decode bM_rule 61 = .ok (.invokevirtual 112, 3) := by decide +kernel
theorem dM_rule_64 : decode bM_rule 64 = .ok (.istore 4, 2) := by decide +kernel
theorem dM_rule_66 : decode bM_rule 66 = .ok (.aload_n 0, 1) := by decide +kernel
theorem dM_rule_67 : decode bM_rule 67 = .ok (.iconst 0, 1) := by decide +kernel
theorem dM_rule_68 : decode bM_rule 68 = .ok (.putfield 87, 3) := by decide +kernel
theorem dM_rule_71 : decode bM_rule 71 = .ok (.iload 4, 2) := by decide +kernel
theorem dM_rule_73 : decode bM_rule 73 = .ok (.ifCond .lt (9), 3) := by decide +kernel
theorem dM_rule_76 : decode bM_rule 76 = .ok (.aload_n 0, 1) := by decide +kernel
theorem dM_rule_77 : decode bM_rule 77 = .ok (.iload 4, 2) := by decide +kernel
theorem dM_rule_79 : decode bM_rule 79 = .ok (.putfield 72, 3) := by decide +kernel
theorem dM_rule_82 : decode bM_rule 82 = .ok (.aload_n 0, 1) := by decide +kernel
theorem dM_rule_83 : decode bM_rule 83 = .ok (.iload 4, 2) := by decide +kernel
theorem dM_rule_85 : decode bM_rule 85 = .ok (.ifCond .ge (7), 3) := by decide +kernel
theorem dM_rule_88 : decode bM_rule 88 = .ok (.iconst 1, 1) := by decide +kernel
theorem dM_rule_89 : decode bM_rule 89 = .ok (.goto (4), 3) := by decide +kernel
theorem dM_rule_92 : decode bM_rule 92 = .ok (.iconst 0, 1) := by decide +kernel
theorem dM_rule_93 : decode bM_rule 93 = .ok (.invokevirtual 83, 3) := by decide +kernel
theorem dM_rule_96 : decode bM_rule 96 = .ok (.ifCond .eq (5), 3) := by decide +kernel
theorem dM_rule_99 : decode bM_rule 99 = .ok (.iconst 0, 1) := by decide +kernel
theorem dM_rule_100 : decode bM_rule 100 = .ok (.ireturn, 1) := by decide +kernel
theorem dM_rule_101 : decode bM_rule 101 = .ok (.iload_n 3, 1) := by decide +kernel
theorem dM_rule_102 : decode bM_rule 102 = .ok (.iconst 3, 1) := by decide +kernel
theorem dM_rule_103 : decode bM_rule 103 = .ok (.if_icmp .ne (50), 3) := by decide +kernel
theorem dM_rule_106 : decode bM_rule 106 = .ok (.aload_n 0, 1) := by decide +kernel
theorem dM_rule_107 : decode bM_rule 107 = .ok (.getfield 7, 3) := by decide +kernel
theorem dM_rule_110 : decode bM_rule 110 = .ok (.iconst 2, 1) := by decide +kernel
theorem dM_rule_111 : decode bM_rule 111 = .ok (.iaload, 1) := by decide +kernel
theorem dM_rule_112 : decode bM_rule 112 = .ok (.bipush 65, 2) := by decide +kernel
theorem dM_rule_114 : decode bM_rule 114 = .ok (.bipush 70, 2) := by decide +kernel
theorem dM_rule_116 : decode bM_rule 116 = .ok (.invokestatic 79, 3) := by decide +kernel
theorem dM_rule_119 : decode bM_rule 119 = .ok (.ifCond .eq (34), 3) := by decide +kernel
theorem dM_rule_122 : decode bM_rule 122 = .ok (.aload_n 0, 1) := by decide +kernel
theorem dM_rule_123 : decode bM_rule 123 = .ok (.aload_n 0, 1) := by decide +kernel
theorem dM_rule_124 : decode bM_rule 124 = .ok (.getfield 7, 3) := by decide +kernel
theorem dM_rule_127 : decode bM_rule 127 = .ok (.iconst 2, 1) := by decide +kernel
theorem dM_rule_128 : decode bM_rule 128 = .ok (.iaload, 1) := by decide +kernel
theorem dM_rule_129 : decode bM_rule 129 = .ok (.bipush 65, 2) := by decide +kernel
theorem dM_rule_131 : decode bM_rule 131 = .ok (.isub, 1) := by decide +kernel
theorem dM_rule_132 : decode bM_rule 132 = .ok (.aload_n 0, 1) := by decide +kernel
theorem dM_rule_133 : decode bM_rule 133 = .ok (.getfield 7, 3) := by decide +kernel
theorem dM_rule_136 : decode bM_rule 136 = .ok (.iconst 0, 1) := by decide +kernel
theorem dM_rule_137 : decode bM_rule 137 = .ok (.iaload, 1) := by decide +kernel
theorem dM_rule_138 : decode bM_rule 138 = .ok (.bipush 65, 2) := by decide +kernel
theorem dM_rule_140 : decode bM_rule 140 = .ok (.isub, 1) := by decide +kernel
theorem dM_rule_141 : decode bM_rule 141 = .ok (.invokevirtual 116, 3) := by decide +kernel
theorem dM_rule_144 : decode bM_rule 144 = .ok (.ifCond .eq (9), 3) := by decide +kernel
theorem dM_rule_147 : decode bM_rule 147 = .ok (.aload_n 0, 1) := by decide +kernel
theorem dM_rule_148 : decode bM_rule 148 = .ok (.iconst 3, 1) := by decide +kernel
theorem dM_rule_149 : decode bM_rule 149 = .ok (.invokevirtual 90, 3) := by decide +kernel
theorem dM_rule_152 : decode bM_rule 152 = .ok (.ireturn, 1) := by decide +kernel
theorem dM_rule_153 : decode bM_rule 153 = .ok (.aload_n 0, 1) := by decide +kernel
theorem dM_rule_154 : decode bM_rule 154 = .ok (.getfield 16, 3) := by decide +kernel
theorem dM_rule_157 : decode bM_rule 157 = .ok (.aload_n 0, 1) := by decide +kernel
theorem dM_rule_158 : decode bM_rule 158 = .ok (.getfield 101, 3) := by decide +kernel
theorem dM_rule_161 : decode bM_rule 161 = .ok (.aload_n 0, 1) := by decide +kernel
theorem dM_rule_162 : decode bM_rule 162 = .ok (.getfield 7, 3) := by decide +kernel
theorem dM_rule_165 : decode bM_rule 165 = .ok (.iconst 0, 1) := by decide +kernel
theorem dM_rule_166 : decode bM_rule 166 = .ok (.iaload, 1) := by decide +kernel
theorem dM_rule_167 : decode bM_rule 167 = .ok (.bipush 65, 2) := by decide +kernel
theorem dM_rule_169 : decode bM_rule 169 = .ok (.isub, 1) := by decide +kernel
theorem dM_rule_170 : decode bM_rule 170 = .ok (.iastore, 1) := by decide +kernel
theorem dM_rule_171 : decode bM_rule 171 = .ok (.aload_n 0, 1) := by decide +kernel
theorem dM_rule_172 : decode bM_rule 172 = .ok (.getfield 19, 3) := by decide +kernel
theorem dM_rule_175 : decode bM_rule 175 = .ok (.aload_n 0, 1) := by decide +kernel
theorem dM_rule_176 : decode bM_rule 176 = .ok (.getfield 101, 3) := by decide +kernel
theorem dM_rule_179 : decode bM_rule 179 = .ok (.iload_n 3, 1) := by decide +kernel
theorem dM_rule_180 : decode bM_rule 180 = .ok (.iconst 2, 1) := by decide +kernel
theorem dM_rule_181 : decode bM_rule 181 = .ok (.isub, 1) := by decide +kernel
theorem dM_rule_182 : decode bM_rule 182 = .ok (.iastore, 1) := by decide +kernel
theorem dM_rule_183 : decode bM_rule 183 = .ok (.iconst 0, 1) := by decide +kernel
theorem dM_rule_184 : decode bM_rule 184 = .ok (.istore 5, 2) := by decide +kernel
theorem dM_rule_186 : decode bM_rule 186 = .ok (.iload 5, 2) := by decide +kernel
theorem dM_rule_188 : decode bM_rule 188 = .ok (.iload_n 3, 1) := by decide +kernel
theorem dM_rule_189 : decode bM_rule 189 = .ok (.iconst 2, 1) := by decide +kernel
theorem dM_rule_190 : decode bM_rule 190 = .ok (.isub, 1) := by decide +kernel
theorem dM_rule_191 : decode bM_rule 191 = .ok (.if_icmp .ge (32), 3) := by decide +kernel
theorem dM_rule_194 : decode bM_rule 194 = .ok (.aload_n 0, 1) := by decide +kernel
theorem dM_rule_195 : decode bM_rule 195 = .ok (.getfield 22, 3) := by decide +kernel
theorem dM_rule_198 : decode bM_rule 198 = .ok (.aload_n 0, 1) := by decide +kernel
theorem dM_rule_199 : decode bM_rule 199 = .ok (.getfield 101, 3) := by decide +kernel
theorem dM_rule_202 : decode bM_rule 202 = .ok (.iconst 4, 1) := by decide +kernel
theorem dM_rule_203 : decode bM_rule 203 = .ok (.imul, 1) := by decide +kernel
theorem dM_rule_204 : decode bM_rule 204 = .ok (.iload 5, 2) := by decide +kernel
theorem dM_rule_206 : decode bM_rule 206 = .ok (.iadd, 1) := by decide +kernel
theorem dM_rule_207 : decode bM_rule 207 = .ok (.aload_n 0, 1) := by decide +kernel
theorem dM_rule_208 : decode bM_rule 208 = .ok (.getfield 7, 3) := by decide +kernel
theorem dM_rule_211 : decode bM_rule 211 = .ok (.iload 5, 2) := by decide +kernel
theorem dM_rule_213 : decode bM_rule 213 = .ok (.iconst 2, 1) := by decide +kernel
theorem dM_rule_214 : decode bM_rule 214 = .ok (.iadd, 1) := by decide +kernel
theorem dM_rule_215 : decode bM_rule 215 = .ok (.iaload, 1) := by decide +kernel
theorem dM_rule_216 : decode bM_rule 216 = .ok (.iastore, 1) := by decide +kernel
theorem dM_rule_217 : decode bM_rule 217 = .ok (.iinc 5 (1), 3) := by decide +kernel
theorem dM_rule_220 : decode bM_rule 220 = .ok (.goto (-34), 3) := by decide +kernel
theorem dM_rule_223 : decode bM_rule 223 = .ok (.aload_n 0, 1) := by decide +kernel
theorem dM_rule_224 : decode bM_rule 224 = .ok (.getfield 34, 3) := by decide +kernel
theorem dM_rule_227 : decode bM_rule 227 = .ok (.aload_n 0, 1) := by decide +kernel
theorem dM_rule_228 : decode bM_rule 228 = .ok (.getfield 101, 3) := by decide +kernel
theorem dM_rule_231 : decode bM_rule 231 = .ok (.dload_n 1, 1) := by decide +kernel
theorem dM_rule_232 : decode bM_rule 232 = .ok (.dastore, 1) := by decide +kernel
theorem dM_rule_233 : decode bM_rule 233 = .ok (.aload_n 0, 1) := by decide +kernel
theorem dM_rule_234 : decode bM_rule 234 = .ok (.getfield 25, 3) := by decide +kernel
theorem dM_rule_237 : decode bM_rule 237 = .ok (.aload_n 0, 1) := by decide +kernel
theorem dM_rule_238 : decode bM_rule 238 = .ok (.getfield 101, 3) := by decide +kernel
theorem dM_rule_241 : decode bM_rule 241 = .ok (.iconst 0, 1) := by decide +kernel
theorem dM_rule_242 : decode bM_rule 242 = .ok (.iastore, 1) := by decide +kernel
theorem dM_rule_243 : decode bM_rule 243 = .ok (.aload_n 0, 1) := by decide +kernel
theorem dM_rule_244 : decode bM_rule 244 = .ok (.dup, 1) := by decide +kernel
theorem dM_rule_245 : decode bM_rule 245 = .ok (.getfield 101, 3) := by decide +kernel
theorem dM_rule_248 : decode bM_rule 248 = .ok (.iconst 1, 1) := by decide +kernel
theorem dM_rule_249 : decode bM_rule 249 = .ok (.iadd, 1) := by decide +kernel
theorem dM_rule_250 : decode bM_rule 250 = .ok (.putfield 101, 3) := by decide +kernel
theorem dM_rule_253 : decode bM_rule 253 = .ok (.aload_n 0, 1) := by decide +kernel
theorem dM_rule_254 : decode bM_rule 254 = .ok (.invokevirtual 120, 3) := by decide +kernel
theorem dM_rule_257 : decode bM_rule 257 = .ok (.aload_n 0, 1) := by decide +kernel
theorem dM_rule_258 : decode bM_rule 258 = .ok (.getfield 101, 3) := by decide +kernel
theorem dM_rule_261 : decode bM_rule 261 = .ok (.iconst 1, 1) := by decide +kernel
theorem dM_rule_262 : decode bM_rule 262 = .ok (.isub, 1) := by decide +kernel
theorem dM_rule_263 : decode bM_rule 263 = .ok (.ireturn, 1) := by decide +kernel
theorem dM_isRule_0 : decode bM_isRule 0 = .ok (.iload_n 1, 1) := by decide +kernel
theorem dM_isRule_1 : decode bM_isRule 1 = .ok (.iconst 0, 1) := by decide +kernel
theorem dM_isRule_2 : decode bM_isRule 2 = .ok (.aload_n 0, 1) := by decide +kernel
theorem dM_isRule_3 : decode bM_isRule 3 = .ok (.getfield 101, 3) := by decide +kernel
theorem dM_isRule_6 : decode bM_isRule 6 = .ok (.iconst 1, 1) := by decide +kernel
theorem dM_isRule_7 : decode bM_isRule 7 = .ok (.isub, 1) := by decide +kernel
theorem dM_isRule_8 : decode bM_isRule 8 = .ok (.invokestatic 79, 3) := by decide +kernel
theorem dM_isRule_11 : decode bM_isRule 11 = .ok (.ireturn, 1) := by decide +kernel
theorem dM_mark_0 : decode bM_mark 0 = .ok (.aload_n 0, 1) := by decide +kernel
theorem dM_mark_1 : decode bM_mark 1 = .ok (.aload_n 0, 1) := by decide +kernel
theorem dM_mark_2 : decode bM_mark 2 = .ok (.iload_n 1, 1) := by decide +kernel
theorem dM_mark_3 : decode bM_mark 3 = .ok (.invokevirtual 123, 3) := by decide +kernel
theorem dM_mark_6 : decode bM_mark 6 = .ok (.ifCond .eq (16), 3) := by decide +kernel
theorem dM_mark_9 : decode bM_mark 9 = .ok (.iload_n 2, 1) := by decide +kernel
theorem dM_mark_10 : decode bM_mark 10 = .ok (.iconst 0, 1) := by decide +kernel
theorem dM_mark_11 : decode bM_mark 11 = .ok (.iconst 3, 1) := by decide +kernel
theorem dM_mark_12 : decode bM_mark 12 = .ok (.invokestatic 79, 3) := by decide +kernel
theorem dM_mark_15 : decode bM_mark 15 = .ok (.ifCond .eq (7), 3) := by decide +kernel
theorem dM_mark_18 : decode bM_mark 18 = .ok (.iconst 1, 1) := by decide +kernel
theorem dM_mark_19 : decode bM_mark 19 = .ok (.goto (4), 3) := by decide +kernel
theorem dM_mark_22 : decode bM_mark 22 = .ok (.iconst 0, 1) := by decide +kernel
theorem dM_mark_23 : decode bM_mark 23 = .ok (.invokevirtual 83, 3) := by decide +kernel
theorem dM_mark_26 : decode bM_mark 26 = .ok (.ifCond .eq (4), 3) := by decide +kernel
theorem dM_mark_29 : decode bM_mark 29 = .ok (.return_, 1) := by decide +kernel
theorem dM_mark_30 : decode bM_mark 30 = .ok (.aload_n 0, 1) := by decide +kernel
theorem dM_mark_31 : decode bM_mark 31 = .ok (.getfield 25, 3) := by decide +kernel
theorem dM_mark_34 : decode bM_mark 34 = .ok (.iload_n 1, 1) := by decide +kernel
theorem dM_mark_35 : decode bM_mark 35 = .ok (.iload_n 2, 1) := by decide +kernel
theorem dM_mark_36 : decode bM_mark 36 = .ok (.iastore, 1) := by decide +kernel
theorem dM_mark_37 : decode bM_mark 37 = .ok (.aload_n 0, 1) := by decide +kernel
theorem dM_mark_38 : decode bM_mark 38 = .ok (.invokevirtual 120, 3) := by decide +kernel
theorem dM_mark_41 : decode bM_mark 41 = .ok (.return_, 1) := by decide +kernel
theorem dM_bar_0 : decode bM_bar 0 = .ok (.aload_n 0, 1) := by decide +kernel
theorem dM_bar_1 : decode bM_bar 1 = .ok (.aload_n 0, 1) := by decide +kernel
theorem dM_bar_2 : decode bM_bar 2 = .ok (.iload_n 1, 1) := by decide +kernel
theorem dM_bar_3 : decode bM_bar 3 = .ok (.invokevirtual 123, 3) := by decide +kernel
theorem dM_bar_6 : decode bM_bar 6 = .ok (.ifCond .eq (15), 3) := by decide +kernel
theorem dM_bar_9 : decode bM_bar 9 = .ok (.aload_n 0, 1) := by decide +kernel
theorem dM_bar_10 : decode bM_bar 10 = .ok (.iload_n 2, 1) := by decide +kernel
theorem dM_bar_11 : decode bM_bar 11 = .ok (.invokevirtual 123, 3) := by decide +kernel
theorem dM_bar_14 : decode bM_bar 14 = .ok (.ifCond .eq (7), 3) := by decide +kernel
theorem dM_bar_17 : decode bM_bar 17 = .ok (.iconst 1, 1) := by decide +kernel
theorem dM_bar_18 : decode bM_bar 18 = .ok (.goto (4), 3) := by decide +kernel
theorem dM_bar_21 : decode bM_bar 21 = .ok (.iconst 0, 1) := by decide +kernel
theorem dM_bar_22 : decode bM_bar 22 = .ok (.invokevirtual 83, 3) := by decide +kernel
theorem dM_bar_25 : decode bM_bar 25 = .ok (.ifCond .eq (4), 3) := by decide +kernel
theorem dM_bar_28 : decode bM_bar 28 = .ok (.return_, 1) := by decide +kernel
theorem dM_bar_29 : decode bM_bar 29 = .ok (.aload_n 0, 1) := by decide +kernel
theorem dM_bar_30 : decode bM_bar 30 = .ok (.getfield 41, 3) := by decide +kernel
theorem dM_bar_33 : decode bM_bar 33 = .ok (.iload_n 1, 1) := by decide +kernel
theorem dM_bar_34 : decode bM_bar 34 = .ok (.bipush 16, 2) := by decide +kernel
theorem dM_bar_36 : decode bM_bar 36 = .ok (.imul, 1) := by decide +kernel
theorem dM_bar_37 : decode bM_bar 37 = .ok (.iload_n 2, 1) := by decide +kernel
theorem dM_bar_38 : decode bM_bar 38 = .ok (.iadd, 1) := by decide +kernel
theorem dM_bar_39 : decode bM_bar 39 = .ok (.iload_n 3, 1) := by decide +kernel
theorem dM_bar_40 : decode bM_bar 40 = .ok (.bastore, 1) := by decide +kernel
theorem dM_bar_41 : decode bM_bar 41 = .ok (.aload_n 0, 1) := by decide +kernel
theorem dM_bar_42 : decode bM_bar 42 = .ok (.invokevirtual 120, 3) := by decide +kernel
theorem dM_bar_45 : decode bM_bar 45 = .ok (.return_, 1) := by decide +kernel
theorem dM_follow_0 : decode bM_follow 0 = .ok (.aload_n 0, 1) := by decide +kernel
theorem dM_follow_1 : decode bM_follow 1 = .ok (.iload_n 1, 1) := by decide +kernel
theorem dM_follow_2 : decode bM_follow 2 = .ok (.iconst 0, 1) := by decide +kernel
theorem dM_follow_3 : decode bM_follow 3 = .ok (.iconst 5, 1) := by decide +kernel
theorem dM_follow_4 : decode bM_follow 4 = .ok (.invokestatic 79, 3) := by decide +kernel
theorem dM_follow_7 : decode bM_follow 7 = .ok (.ifCond .eq (18), 3) := by decide +kernel
theorem dM_follow_10 : decode bM_follow 10 = .ok (.iload_n 2, 1) := by decide +kernel
theorem dM_follow_11 : decode bM_follow 11 = .ok (.bipush 33, 2) := by decide +kernel
theorem dM_follow_13 : decode bM_follow 13 = .ok (.bipush 126, 2) := by decide +kernel
theorem dM_follow_15 : decode bM_follow 15 = .ok (.invokestatic 79, 3) := by decide +kernel
theorem dM_follow_18 : decode bM_follow 18 = .ok (.ifCond .eq (7), 3) := by decide +kernel
theorem dM_follow_21 : decode bM_follow 21 = .ok (.iconst 1, 1) := by decide +kernel
theorem dM_follow_22 : decode bM_follow 22 = .ok (.goto (4), 3) := by decide +kernel
theorem dM_follow_25 : decode bM_follow 25 = .ok (.iconst 0, 1) := by decide +kernel
theorem dM_follow_26 : decode bM_follow 26 = .ok (.invokevirtual 83, 3) := by decide +kernel
theorem dM_follow_29 : decode bM_follow 29 = .ok (.ifCond .eq (4), 3) := by decide +kernel
theorem dM_follow_32 : decode bM_follow 32 = .ok (.return_, 1) := by decide +kernel
theorem dM_follow_33 : decode bM_follow 33 = .ok (.aload_n 0, 1) := by decide +kernel
theorem dM_follow_34 : decode bM_follow 34 = .ok (.getfield 45, 3) := by decide +kernel
theorem dM_follow_37 : decode bM_follow 37 = .ok (.iload_n 1, 1) := by decide +kernel
theorem dM_follow_38 : decode bM_follow 38 = .ok (.bipush 127, 2) := by decide +kernel
theorem dM_follow_40 : decode bM_follow 40 = .ok (.imul, 1) := by decide +kernel
theorem dM_follow_41 : decode bM_follow 41 = .ok (.iload_n 2, 1) := by decide +kernel
theorem dM_follow_42 : decode bM_follow 42 = .ok (.iadd, 1) := by decide +kernel
theorem dM_follow_43 : decode bM_follow 43 = .ok (.iload_n 3, 1) := by decide +kernel
theorem dM_follow_44 : decode bM_follow 44 = .ok (.ifCond .ne (7), 3) := by decide +kernel
theorem dM_follow_47 : decode bM_follow 47 = .ok (.iconst 1, 1) := by decide +kernel
theorem dM_follow_48 : decode bM_follow 48 = .ok (.goto (4), 3) := by decide +kernel
theorem dM_follow_51 : decode bM_follow 51 = .ok (.iconst 0, 1) := by decide +kernel
theorem dM_follow_52 : decode bM_follow 52 = .ok (.bastore, 1) := by decide +kernel
theorem dM_follow_53 : decode bM_follow 53 = .ok (.aload_n 0, 1) := by decide +kernel
theorem dM_follow_54 : decode bM_follow 54 = .ok (.invokevirtual 120, 3) := by decide +kernel
theorem dM_follow_57 : decode bM_follow 57 = .ok (.return_, 1) := by decide +kernel
theorem dM_undo_0 : decode bM_undo 0 = .ok (.aload_n 0, 1) := by decide +kernel
theorem dM_undo_1 : decode bM_undo 1 = .ok (.aload_n 0, 1) := by decide +kernel
theorem dM_undo_2 : decode bM_undo 2 = .ok (.getfield 101, 3) := by decide +kernel
theorem dM_undo_5 : decode bM_undo 5 = .ok (.ifCond .ne (7), 3) := by decide +kernel
theorem dM_undo_8 : decode bM_undo 8 = .ok (.iconst 1, 1) := by decide +kernel
theorem dM_undo_9 : decode bM_undo 9 = .ok (.goto (4), 3) := by decide +kernel
theorem dM_undo_12 : decode bM_undo 12 = .ok (.iconst 0, 1) := by decide +kernel
theorem dM_undo_13 : decode bM_undo 13 = .ok (.putfield 76, 3) := by decide +kernel
theorem dM_undo_16 : decode bM_undo 16 = .ok (.aload_n 0, 1) := by decide +kernel
theorem dM_undo_17 : decode bM_undo 17 = .ok (.getfield 101, 3) := by decide +kernel
theorem dM_undo_20 : decode bM_undo 20 = .ok (.ifCond .ne (4), 3) := by decide +kernel
theorem dM_undo_23 : decode bM_undo 23 = .ok (.return_, 1) := by decide +kernel
theorem dM_undo_24 : decode bM_undo 24 = .ok (.aload_n 0, 1) := by decide +kernel
theorem dM_undo_25 : decode bM_undo 25 = .ok (.dup, 1) := by decide +kernel
theorem dM_undo_26 : decode bM_undo 26 = .ok (.getfield 101, 3) := by decide +kernel
theorem dM_undo_29 : decode bM_undo 29 = .ok (.iconst 1, 1) := by decide +kernel
theorem dM_undo_30 : decode bM_undo 30 = .ok (.isub, 1) := by decide +kernel
theorem dM_undo_31 : decode bM_undo 31 = .ok (.putfield 101, 3) := by decide +kernel
theorem dM_undo_34 : decode bM_undo 34 = .ok (.iconst 0, 1) := by decide +kernel
theorem dM_undo_35 : decode bM_undo 35 = .ok (.istore_n 1, 1) := by decide +kernel
theorem dM_undo_36 : decode bM_undo 36 = .ok (.iload_n 1, 1) := by decide +kernel
theorem dM_undo_37 : decode bM_undo 37 = .ok (.bipush 16, 2) := by decide +kernel
theorem dM_undo_39 : decode bM_undo 39 = .ok (.if_icmp .ge (39), 3) := by decide +kernel
theorem dM_undo_42 : decode bM_undo 42 = .ok (.aload_n 0, 1) := by decide +kernel
theorem dM_undo_43 : decode bM_undo 43 = .ok (.getfield 41, 3) := by decide +kernel
theorem dM_undo_46 : decode bM_undo 46 = .ok (.aload_n 0, 1) := by decide +kernel
theorem dM_undo_47 : decode bM_undo 47 = .ok (.getfield 101, 3) := by decide +kernel
theorem dM_undo_50 : decode bM_undo 50 = .ok (.bipush 16, 2) := by decide +kernel
theorem dM_undo_52 : decode bM_undo 52 = .ok (.imul, 1) := by decide +kernel
theorem dM_undo_53 : decode bM_undo 53 = .ok (.iload_n 1, 1) := by decide +kernel
theorem dM_undo_54 : decode bM_undo 54 = .ok (.iadd, 1) := by decide +kernel
theorem dM_undo_55 : decode bM_undo 55 = .ok (.iconst 0, 1) := by decide +kernel
theorem dM_undo_56 : decode bM_undo 56 = .ok (.bastore, 1) := by decide +kernel
theorem dM_undo_57 : decode bM_undo 57 = .ok (.aload_n 0, 1) := by decide +kernel
theorem dM_undo_58 : decode bM_undo 58 = .ok (.getfield 41, 3) := by decide +kernel
theorem dM_undo_61 : decode bM_undo 61 = .ok (.iload_n 1, 1) := by decide +kernel
theorem dM_undo_62 : decode bM_undo 62 = .ok (.bipush 16, 2) := by decide +kernel
theorem dM_undo_64 : decode bM_undo 64 = .ok (.imul, 1) := by decide +kernel
theorem dM_undo_65 : decode bM_undo 65 = .ok (.aload_n 0, 1) := by decide +kernel
theorem dM_undo_66 : decode bM_undo 66 = .ok (.getfield 101, 3) := by decide +kernel
theorem dM_undo_69 : decode bM_undo 69 = .ok (.iadd, 1) := by decide +kernel
theorem dM_undo_70 : decode bM_undo 70 = .ok (.iconst 0, 1) := by decide +kernel
theorem dM_undo_71 : decode bM_undo 71 = .ok (.bastore, 1) := by decide +kernel
theorem dM_undo_72 : decode bM_undo 72 = .ok (.iinc 1 (1), 3) := by decide +kernel
theorem dM_undo_75 : decode bM_undo 75 = .ok (.goto (-39), 3) := by decide +kernel
theorem dM_undo_78 : decode bM_undo 78 = .ok (.aload_n 0, 1) := by decide +kernel
theorem dM_undo_79 : decode bM_undo 79 = .ok (.invokevirtual 120, 3) := by decide +kernel
theorem dM_undo_82 : decode bM_undo 82 = .ok (.return_, 1) := by decide +kernel
theorem dM_span_0 : decode bM_span 0 = .ok (.iload_n 0, 1) := by decide +kernel
theorem dM_span_1 : decode bM_span 1 = .ok (.bipush 15, 2) := by decide +kernel
theorem dM_span_3 : decode bM_span 3 = .ok (.imul, 1) := by decide +kernel
theorem dM_span_4 : decode bM_span 4 = .ok (.iload_n 1, 1) := by decide +kernel
theorem dM_span_5 : decode bM_span 5 = .ok (.iadd, 1) := by decide +kernel
theorem dM_span_6 : decode bM_span 6 = .ok (.ireturn, 1) := by decide +kernel
theorem dM_allowed_0 : decode bM_allowed 0 = .ok (.aload_n 0, 1) := by decide +kernel
theorem dM_allowed_1 : decode bM_allowed 1 = .ok (.getfield 41, 3) := by decide +kernel
theorem dM_allowed_4 : decode bM_allowed 4 = .ok (.iload_n 1, 1) := by decide +kernel
theorem dM_allowed_5 : decode bM_allowed 5 = .ok (.bipush 16, 2) := by decide +kernel
theorem dM_allowed_7 : decode bM_allowed 7 = .ok (.imul, 1) := by decide +kernel
theorem dM_allowed_8 : decode bM_allowed 8 = .ok (.iload_n 3, 1) := by decide +kernel
theorem dM_allowed_9 : decode bM_allowed 9 = .ok (.iadd, 1) := by decide +kernel
theorem dM_allowed_10 : decode bM_allowed 10 = .ok (.baload, 1) := by decide +kernel
theorem dM_allowed_11 : decode bM_allowed 11 = .ok (.ifCond .eq (5), 3) := by decide +kernel
theorem dM_allowed_14 : decode bM_allowed 14 = .ok (.iconst 0, 1) := by decide +kernel
theorem dM_allowed_15 : decode bM_allowed 15 = .ok (.ireturn, 1) := by decide +kernel
theorem dM_allowed_16 : decode bM_allowed 16 = .ok (.iload_n 1, 1) := by decide +kernel
theorem dM_allowed_17 : decode bM_allowed 17 = .ok (.iload_n 3, 1) := by decide +kernel
theorem dM_allowed_18 : decode bM_allowed 18 = .ok (.if_icmp .eq (5), 3) := by decide +kernel
theorem dM_allowed_21 : decode bM_allowed 21 = .ok (.iconst 1, 1) := by decide +kernel
theorem dM_allowed_22 : decode bM_allowed 22 = .ok (.ireturn, 1) := by decide +kernel
theorem dM_allowed_23 : decode bM_allowed 23 = .ok (.aload_n 0, 1) := by decide +kernel
theorem dM_allowed_24 : decode bM_allowed 24 = .ok (.getfield 25, 3) := by decide +kernel
theorem dM_allowed_27 : decode bM_allowed 27 = .ok (.iload_n 1, 1) := by decide +kernel
theorem dM_allowed_28 : decode bM_allowed 28 = .ok (.iaload, 1) := by decide +kernel
theorem dM_allowed_29 : decode bM_allowed 29 = .ok (.iconst 2, 1) := by decide +kernel
theorem dM_allowed_30 : decode bM_allowed 30 = .ok (.if_icmp .ne (15), 3) := by decide +kernel
theorem dM_allowed_33 : decode bM_allowed 33 = .ok (.iload_n 2, 1) := by decide +kernel
theorem dM_allowed_34 : decode bM_allowed 34 = .ok (.aload_n 0, 1) := by decide +kernel
theorem dM_allowed_35 : decode bM_allowed 35 = .ok (.getfield 19, 3) := by decide +kernel
theorem dM_allowed_38 : decode bM_allowed 38 = .ok (.iload_n 1, 1) := by decide +kernel
theorem dM_allowed_39 : decode bM_allowed 39 = .ok (.iaload, 1) := by decide +kernel
theorem dM_allowed_40 : decode bM_allowed 40 = .ok (.iconst 1, 1) := by decide +kernel
theorem dM_allowed_41 : decode bM_allowed 41 = .ok (.isub, 1) := by decide +kernel
theorem dM_allowed_42 : decode bM_allowed 42 = .ok (.if_icmp .eq (21), 3) := by decide +kernel
theorem dM_allowed_45 : decode bM_allowed 45 = .ok (.aload_n 0, 1) := by decide +kernel
theorem dM_allowed_46 : decode bM_allowed 46 = .ok (.getfield 25, 3) := by decide +kernel
theorem dM_allowed_49 : decode bM_allowed 49 = .ok (.iload_n 1, 1) := by decide +kernel
theorem dM_allowed_50 : decode bM_allowed 50 = .ok (.iaload, 1) := by decide +kernel
theorem dM_allowed_51 : decode bM_allowed 51 = .ok (.iconst 3, 1) := by decide +kernel
theorem dM_allowed_52 : decode bM_allowed 52 = .ok (.if_icmp .ne (7), 3) := by decide +kernel
theorem dM_allowed_55 : decode bM_allowed 55 = .ok (.iload_n 2, 1) := by decide +kernel
theorem dM_allowed_56 : decode bM_allowed 56 = .ok (.ifCond .eq (7), 3) := by decide +kernel
theorem dM_allowed_59 : decode bM_allowed 59 = .ok (.iconst 1, 1) := by decide +kernel
theorem dM_allowed_60 : decode bM_allowed 60 = .ok (.goto (4), 3) := by decide +kernel
theorem dM_allowed_63 : decode bM_allowed 63 = .ok (.iconst 0, 1) := by decide +kernel
theorem dM_allowed_64 : decode bM_allowed 64 = .ok (.ireturn, 1) := by decide +kernel
theorem dM_cutDown_0 : decode bM_cutDown 0 = .ok (.lload_n 0, 1) := by decide +kernel
theorem dM_cutDown_1 : decode bM_cutDown 1 = .ok (.ldc2_w 126, 3) := by decide +kernel
theorem dM_cutDown_4 : decode bM_cutDown 4 = .ok (.lcmp, 1) := by decide +kernel
theorem dM_cutDown_5 : decode bM_cutDown 5 = .ok (.ifCond .le (8), 3) := by decide +kernel
theorem dM_cutDown_8 : decode bM_cutDown 8 = .ok (.ldc 128, 2) := by decide +kernel
theorem dM_cutDown_10 : decode bM_cutDown 10 = .ok (.goto (5), 3) := by decide +kernel
theorem dM_cutDown_13 : decode bM_cutDown 13 = .ok (.lload_n 0, 1) := by decide +kernel
theorem dM_cutDown_14 : decode bM_cutDown 14 = .ok (.l2i, 1) := by decide +kernel
theorem dM_cutDown_15 : decode bM_cutDown 15 = .ok (.ireturn, 1) := by decide +kernel
theorem dM_heaviest_0 : decode bM_heaviest 0 = .ok (.iconst (-1), 1) := by decide +kernel
theorem dM_heaviest_1 : decode bM_heaviest 1 = .ok (.istore 6, 2) := by decide +kernel
theorem dM_heaviest_3 : decode bM_heaviest 3 = .ok (.iconst 0, 1) := by decide +kernel
theorem dM_heaviest_4 : decode bM_heaviest 4 = .ok (.istore 7, 2) := by decide +kernel
theorem dM_heaviest_6 : decode bM_heaviest 6 = .ok (.iload 7, 2) := by decide +kernel
theorem dM_heaviest_8 : decode bM_heaviest 8 = .ok (.aload_n 0, 1) := by decide +kernel
theorem dM_heaviest_9 : decode bM_heaviest 9 = .ok (.getfield 101, 3) := by decide +kernel
theorem dM_heaviest_12 : decode bM_heaviest 12 = .ok (.if_icmp .ge (122), 3) := by decide +kernel
theorem dM_heaviest_15 : decode bM_heaviest 15 = .ok (.aload_n 0, 1) := by decide +kernel
theorem dM_heaviest_16 : decode bM_heaviest 16 = .ok (.getfield 16, 3) := by decide +kernel
theorem dM_heaviest_19 : decode bM_heaviest 19 = .ok (.iload 7, 2) := by decide +kernel
theorem dM_heaviest_21 : decode bM_heaviest 21 = .ok (.iaload, 1) := by decide +kernel
theorem dM_heaviest_22 : decode bM_heaviest 22 = .ok (.iload_n 3, 1) := by decide +kernel
theorem dM_heaviest_23 : decode bM_heaviest 23 = .ok (.if_icmp .ne (105), 3) := by decide +kernel
theorem dM_heaviest_26 : decode bM_heaviest 26 = .ok (.aload_n 0, 1) := by decide +kernel
theorem dM_heaviest_27 : decode bM_heaviest 27 = .ok (.getfield 25, 3) := by decide +kernel
theorem dM_heaviest_30 : decode bM_heaviest 30 = .ok (.iload 7, 2) := by decide +kernel
theorem dM_heaviest_32 : decode bM_heaviest 32 = .ok (.iaload, 1) := by decide +kernel
theorem dM_heaviest_33 : decode bM_heaviest 33 = .ok (.iconst 1, 1) := by decide +kernel
theorem dM_heaviest_34 : decode bM_heaviest 34 = .ok (.if_icmp .eq (94), 3) := by decide +kernel
theorem dM_heaviest_37 : decode bM_heaviest 37 = .ok (.aload_n 0, 1) := by decide +kernel
theorem dM_heaviest_38 : decode bM_heaviest 38 = .ok (.getfield 51, 3) := by decide +kernel
theorem dM_heaviest_41 : decode bM_heaviest 41 = .ok (.iload 7, 2) := by decide +kernel
theorem dM_heaviest_43 : decode bM_heaviest 43 = .ok (.sipush 225, 3) := by decide +kernel
theorem dM_heaviest_46 : decode bM_heaviest 46 = .ok (.imul, 1) := by decide +kernel
theorem dM_heaviest_47 : decode bM_heaviest 47 = .ok (.iload 4, 2) := by decide +kernel
theorem dM_heaviest_49 : decode bM_heaviest 49 = .ok (.iload 5, 2) := by decide +kernel
theorem dM_heaviest_51 : decode bM_heaviest 51 = .ok (.invokestatic 129, 3) := by decide +kernel
theorem dM_heaviest_54 : decode bM_heaviest 54 = .ok (.iadd, 1) := by decide +kernel
theorem dM_heaviest_55 : decode bM_heaviest 55 = .ok (.iaload, 1) := by decide +kernel
theorem dM_heaviest_56 : decode bM_heaviest 56 = .ok (.ifCond .eq (72), 3) := by decide +kernel
theorem dM_heaviest_59 : decode bM_heaviest 59 = .ok (.iload_n 1, 1) := by decide +kernel
theorem dM_heaviest_60 : decode bM_heaviest 60 = .ok (.ifCond .lt (17), 3) := by decide +kernel
theorem dM_heaviest_63 : decode bM_heaviest 63 = .ok (.aload_n 0, 1) := by decide +kernel
theorem dM_heaviest_64 : decode bM_heaviest 64 = .ok (.iload_n 1, 1) := by decide +kernel
theorem dM_heaviest_65 : decode bM_heaviest 65 = .ok (.iload_n 2, 1) := by decide +kernel
theorem dM_heaviest_66 : decode bM_heaviest 66 = .ok (.iload 7, 2) := by decide +kernel
theorem dM_heaviest_68 : decode bM_heaviest 68 = .ok (.invokevirtual 133, 3) := by decide +kernel
theorem dM_heaviest_71 : decode bM_heaviest 71 = .ok (.ifCond .ne (6), 3) := by decide +kernel
theorem dM_heaviest_74 : decode bM_heaviest 74 = .ok (.goto (54), 3) := by decide +kernel
theorem dM_heaviest_77 : decode bM_heaviest 77 = .ok (.iload 6, 2) := by decide +kernel
theorem dM_heaviest_79 : decode bM_heaviest 79 = .ok (.ifCond .lt (45), 3) := by decide +kernel
theorem dM_heaviest_82 : decode bM_heaviest 82 = .ok (.aload_n 0, 1) := by decide +kernel
theorem dM_heaviest_83 : decode bM_heaviest 83 = .ok (.getfield 38, 3) := by decide +kernel
theorem dM_heaviest_86 : decode bM_heaviest 86 = .ok (.iload 7, 2) := by decide +kernel
theorem dM_heaviest_88 : decode bM_heaviest 88 = .ok (.sipush 225, 3) := by decide +kernel
theorem dM_heaviest_91 : decode bM_heaviest 91 = .ok (.imul, 1) := by decide +kernel
theorem dM_heaviest_92 : decode bM_heaviest 92 = .ok (.iload 4, 2) := by decide +kernel
theorem dM_heaviest_94 : decode bM_heaviest 94 = .ok (.iload 5, 2) := by decide +kernel
theorem dM_heaviest_96 : decode bM_heaviest 96 = .ok (.invokestatic 129, 3) := by decide +kernel
theorem dM_heaviest_99 : decode bM_heaviest 99 = .ok (.iadd, 1) := by decide +kernel
theorem dM_heaviest_100 : decode bM_heaviest 100 = .ok (.daload, 1) := by decide +kernel
theorem dM_heaviest_101 : decode bM_heaviest 101 = .ok (.aload_n 0, 1) := by decide +kernel
theorem dM_heaviest_102 : decode bM_heaviest 102 = .ok (.getfield 38, 3) := by decide +kernel
theorem dM_heaviest_105 : decode bM_heaviest 105 = .ok (.iload 6, 2) := by decide +kernel
theorem dM_heaviest_107 : decode bM_heaviest 107 = .ok (.sipush 225, 3) := by decide +kernel
theorem dM_heaviest_110 : decode bM_heaviest 110 = .ok (.imul, 1) := by decide +kernel
theorem dM_heaviest_111 : decode bM_heaviest 111 = .ok (.iload 4, 2) := by decide +kernel
theorem dM_heaviest_113 : decode bM_heaviest 113 = .ok (.iload 5, 2) := by decide +kernel
theorem dM_heaviest_115 : decode bM_heaviest 115 = .ok (.invokestatic 129, 3) := by decide +kernel
theorem dM_heaviest_118 : decode bM_heaviest 118 = .ok (.iadd, 1) := by decide +kernel
theorem dM_heaviest_119 : decode bM_heaviest 119 = .ok (.daload, 1) := by decide +kernel
theorem dM_heaviest_120 : decode bM_heaviest 120 = .ok (.dcmp .l, 1) := by decide +kernel
theorem dM_heaviest_121 : decode bM_heaviest 121 = .ok (.ifCond .le (7), 3) := by decide +kernel
theorem dM_heaviest_124 : decode bM_heaviest 124 = .ok (.iload 7, 2) := by decide +kernel
theorem dM_heaviest_126 : decode bM_heaviest 126 = .ok (.istore 6, 2) := by decide +kernel
theorem dM_heaviest_128 : decode bM_heaviest 128 = .ok (.iinc 7 (1), 3) := by decide +kernel
theorem dM_heaviest_131 : decode bM_heaviest 131 = .ok (.goto (-125), 3) := by decide +kernel
theorem dM_heaviest_134 : decode bM_heaviest 134 = .ok (.iload 6, 2) := by decide +kernel
theorem dM_heaviest_136 : decode bM_heaviest 136 = .ok (.ireturn, 1) := by decide +kernel
theorem dM_count5_0 : decode bM_count5 0 = .ok (.lconst 0, 1) := by decide +kernel
theorem dM_count5_1 : decode bM_count5 1 = .ok (.lstore 6, 2) := by decide +kernel
theorem dM_count5_3 : decode bM_count5 3 = .ok (.iconst 0, 1) := by decide +kernel
theorem dM_count5_4 : decode bM_count5 4 = .ok (.istore 8, 2) := by decide +kernel
theorem dM_count5_6 : decode bM_count5 6 = .ok (.iload 8, 2) := by decide +kernel
theorem dM_count5_8 : decode bM_count5 8 = .ok (.aload_n 0, 1) := by decide +kernel
theorem dM_count5_9 : decode bM_count5 9 = .ok (.getfield 101, 3) := by decide +kernel
theorem dM_count5_12 : decode bM_count5 12 = .ok (.if_icmp .ge (75), 3) := by decide +kernel
theorem dM_count5_15 : decode bM_count5 15 = .ok (.aload_n 0, 1) := by decide +kernel
theorem dM_count5_16 : decode bM_count5 16 = .ok (.getfield 16, 3) := by decide +kernel
theorem dM_count5_19 : decode bM_count5 19 = .ok (.iload 8, 2) := by decide +kernel
theorem dM_count5_21 : decode bM_count5 21 = .ok (.iaload, 1) := by decide +kernel
theorem dM_count5_22 : decode bM_count5 22 = .ok (.iload_n 3, 1) := by decide +kernel
theorem dM_count5_23 : decode bM_count5 23 = .ok (.if_icmp .ne (58), 3) := by decide +kernel
theorem dM_count5_26 : decode bM_count5 26 = .ok (.aload_n 0, 1) := by decide +kernel
theorem dM_count5_27 : decode bM_count5 27 = .ok (.getfield 25, 3) := by decide +kernel
theorem dM_count5_30 : decode bM_count5 30 = .ok (.iload 8, 2) := by decide +kernel
theorem dM_count5_32 : decode bM_count5 32 = .ok (.iaload, 1) := by decide +kernel
theorem dM_count5_33 : decode bM_count5 33 = .ok (.iconst 1, 1) := by decide +kernel
theorem dM_count5_34 : decode bM_count5 34 = .ok (.if_icmp .eq (47), 3) := by decide +kernel
theorem dM_count5_37 : decode bM_count5 37 = .ok (.iload_n 1, 1) := by decide +kernel
theorem dM_count5_38 : decode bM_count5 38 = .ok (.ifCond .lt (14), 3) := by decide +kernel
theorem dM_count5_41 : decode bM_count5 41 = .ok (.aload_n 0, 1) := by decide +kernel
theorem dM_count5_42 : decode bM_count5 42 = .ok (.iload_n 1, 1) := by decide +kernel
theorem dM_count5_43 : decode bM_count5 43 = .ok (.iload_n 2, 1) := by decide +kernel
theorem dM_count5_44 : decode bM_count5 44 = .ok (.iload 8, 2) := by decide +kernel
theorem dM_count5_46 : decode bM_count5 46 = .ok (.invokevirtual 133, 3) := by decide +kernel
theorem dM_count5_49 : decode bM_count5 49 = .ok (.ifCond .eq (32), 3) := by decide +kernel
theorem dM_count5_52 : decode bM_count5 52 = .ok (.lload 6, 2) := by decide +kernel
theorem dM_count5_54 : decode bM_count5 54 = .ok (.aload_n 0, 1) := by decide +kernel
theorem dM_count5_55 : decode bM_count5 55 = .ok (.getfield 51, 3) := by decide +kernel
theorem dM_count5_58 : decode bM_count5 58 = .ok (.iload 8, 2) := by decide +kernel
theorem dM_count5_60 : decode bM_count5 60 = .ok (.sipush 225, 3) := by decide +kernel
theorem dM_count5_63 : decode bM_count5 63 = .ok (.imul, 1) := by decide +kernel
theorem dM_count5_64 : decode bM_count5 64 = .ok (.iload 4, 2) := by decide +kernel
theorem dM_count5_66 : decode bM_count5 66 = .ok (.iload 5, 2) := by decide +kernel
theorem dM_count5_68 : decode bM_count5 68 = .ok (.invokestatic 129, 3) := by decide +kernel
theorem dM_count5_71 : decode bM_count5 71 = .ok (.iadd, 1) := by decide +kernel
theorem dM_count5_72 : decode bM_count5 72 = .ok (.iaload, 1) := by decide +kernel
theorem dM_count5_73 : decode bM_count5 73 = .ok (.i2l, 1) := by decide +kernel
theorem dM_count5_74 : decode bM_count5 74 = .ok (.ladd, 1) := by decide +kernel
theorem dM_count5_75 : decode bM_count5 75 = .ok (.invokestatic 136, 3) := by decide +kernel
theorem dM_count5_78 : decode bM_count5 78 = .ok (.i2l, 1) := by decide +kernel
theorem dM_count5_79 : decode bM_count5 79 = .ok (.lstore 6, 2) := by decide +kernel
theorem dM_count5_81 : decode bM_count5 81 = .ok (.iinc 8 (1), 3) := by decide +kernel
theorem dM_count5_84 : decode bM_count5 84 = .ok (.goto (-78), 3) := by decide +kernel
theorem dM_count5_87 : decode bM_count5 87 = .ok (.lload 6, 2) := by decide +kernel
theorem dM_count5_89 : decode bM_count5 89 = .ok (.l2i, 1) := by decide +kernel
theorem dM_count5_90 : decode bM_count5 90 = .ok (.ireturn, 1) := by decide +kernel
theorem dM_stands_0 : decode bM_stands 0 = .ok (.iload_n 1, 1) := by decide +kernel
theorem dM_stands_1 : decode bM_stands 1 = .ok (.bipush 35, 2) := by decide +kernel
theorem dM_stands_3 : decode bM_stands 3 = .ok (.if_icmp .ne (14), 3) := by decide +kernel
theorem dM_stands_6 : decode bM_stands 6 = .ok (.iload_n 2, 1) := by decide +kernel
theorem dM_stands_7 : decode bM_stands 7 = .ok (.bipush 48, 2) := by decide +kernel
theorem dM_stands_9 : decode bM_stands 9 = .ok (.bipush 57, 2) := by decide +kernel
theorem dM_stands_11 : decode bM_stands 11 = .ok (.invokestatic 79, 3) := by decide +kernel
theorem dM_stands_14 : decode bM_stands 14 = .ok (.goto (30), 3) := by decide +kernel
theorem dM_stands_17 : decode bM_stands 17 = .ok (.iload_n 1, 1) := by decide +kernel
theorem dM_stands_18 : decode bM_stands 18 = .ok (.bipush 64, 2) := by decide +kernel
theorem dM_stands_20 : decode bM_stands 20 = .ok (.if_icmp .ne (14), 3) := by decide +kernel
theorem dM_stands_23 : decode bM_stands 23 = .ok (.iload_n 2, 1) := by decide +kernel
theorem dM_stands_24 : decode bM_stands 24 = .ok (.bipush 97, 2) := by decide +kernel
theorem dM_stands_26 : decode bM_stands 26 = .ok (.bipush 122, 2) := by decide +kernel
theorem dM_stands_28 : decode bM_stands 28 = .ok (.invokestatic 79, 3) := by decide +kernel
theorem dM_stands_31 : decode bM_stands 31 = .ok (.goto (13), 3) := by decide +kernel
theorem dM_stands_34 : decode bM_stands 34 = .ok (.iload_n 1, 1) := by decide +kernel
theorem dM_stands_35 : decode bM_stands 35 = .ok (.iload_n 2, 1) := by decide +kernel
theorem dM_stands_36 : decode bM_stands 36 = .ok (.if_icmp .ne (7), 3) := by decide +kernel
theorem dM_stands_39 : decode bM_stands 39 = .ok (.iconst 1, 1) := by decide +kernel
theorem dM_stands_40 : decode bM_stands 40 = .ok (.goto (4), 3) := by decide +kernel
theorem dM_stands_43 : decode bM_stands 43 = .ok (.iconst 0, 1) := by decide +kernel
theorem dM_stands_44 : decode bM_stands 44 = .ok (.ireturn, 1) := by decide +kernel
theorem dM_symbol_0 : decode bM_symbol 0 = .ok (.aload_n 0, 1) := by decide +kernel
theorem dM_symbol_1 : decode bM_symbol 1 = .ok (.getfield 22, 3) := by decide +kernel
theorem dM_symbol_4 : decode bM_symbol 4 = .ok (.iload_n 1, 1) := by decide +kernel
theorem dM_symbol_5 : decode bM_symbol 5 = .ok (.iconst 4, 1) := by decide +kernel
theorem dM_symbol_6 : decode bM_symbol 6 = .ok (.imul, 1) := by decide +kernel
theorem dM_symbol_7 : decode bM_symbol 7 = .ok (.iload_n 2, 1) := by decide +kernel
theorem dM_symbol_8 : decode bM_symbol 8 = .ok (.iadd, 1) := by decide +kernel
theorem dM_symbol_9 : decode bM_symbol 9 = .ok (.iaload, 1) := by decide +kernel
theorem dM_symbol_10 : decode bM_symbol 10 = .ok (.istore 5, 2) := by decide +kernel
theorem dM_symbol_12 : decode bM_symbol 12 = .ok (.iload 5, 2) := by decide +kernel
theorem dM_symbol_14 : decode bM_symbol 14 = .ok (.bipush 65, 2) := by decide +kernel
theorem dM_symbol_16 : decode bM_symbol 16 = .ok (.bipush 70, 2) := by decide +kernel
theorem dM_symbol_18 : decode bM_symbol 18 = .ok (.invokestatic 79, 3) := by decide +kernel
theorem dM_symbol_21 : decode bM_symbol 21 = .ok (.ifCond .ne (32), 3) := by decide +kernel
theorem dM_symbol_24 : decode bM_symbol 24 = .ok (.iload 4, 2) := by decide +kernel
theorem dM_symbol_26 : decode bM_symbol 26 = .ok (.iload_n 3, 1) := by decide +kernel
theorem dM_symbol_27 : decode bM_symbol 27 = .ok (.iconst 1, 1) := by decide +kernel
theorem dM_symbol_28 : decode bM_symbol 28 = .ok (.iadd, 1) := by decide +kernel
theorem dM_symbol_29 : decode bM_symbol 29 = .ok (.if_icmp .ne (22), 3) := by decide +kernel
theorem dM_symbol_32 : decode bM_symbol 32 = .ok (.aload_n 0, 1) := by decide +kernel
theorem dM_symbol_33 : decode bM_symbol 33 = .ok (.iload 5, 2) := by decide +kernel
theorem dM_symbol_35 : decode bM_symbol 35 = .ok (.aload_n 0, 1) := by decide +kernel
theorem dM_symbol_36 : decode bM_symbol 36 = .ok (.getfield 13, 3) := by decide +kernel
theorem dM_symbol_39 : decode bM_symbol 39 = .ok (.iload_n 3, 1) := by decide +kernel
theorem dM_symbol_40 : decode bM_symbol 40 = .ok (.iaload, 1) := by decide +kernel
theorem dM_symbol_41 : decode bM_symbol 41 = .ok (.invokevirtual 140, 3) := by decide +kernel
theorem dM_symbol_44 : decode bM_symbol 44 = .ok (.ifCond .eq (7), 3) := by decide +kernel
theorem dM_symbol_47 : decode bM_symbol 47 = .ok (.iconst 1, 1) := by decide +kernel
theorem dM_symbol_48 : decode bM_symbol 48 = .ok (.goto (4), 3) := by decide +kernel
theorem dM_symbol_51 : decode bM_symbol 51 = .ok (.iconst 0, 1) := by decide +kernel
theorem dM_symbol_52 : decode bM_symbol 52 = .ok (.ireturn, 1) := by decide +kernel
theorem dM_symbol_53 : decode bM_symbol 53 = .ok (.aload_n 0, 1) := by decide +kernel
theorem dM_symbol_54 : decode bM_symbol 54 = .ok (.getfield 48, 3) := by decide +kernel
theorem dM_symbol_57 : decode bM_symbol 57 = .ok (.iload 5, 2) := by decide +kernel
theorem dM_symbol_59 : decode bM_symbol 59 = .ok (.bipush 65, 2) := by decide +kernel
theorem dM_symbol_61 : decode bM_symbol 61 = .ok (.isub, 1) := by decide +kernel
theorem dM_symbol_62 : decode bM_symbol 62 = .ok (.sipush 225, 3) := by decide +kernel
theorem dM_symbol_65 : decode bM_symbol 65 = .ok (.imul, 1) := by decide +kernel
theorem dM_symbol_66 : decode bM_symbol 66 = .ok (.iload_n 3, 1) := by decide +kernel
theorem dM_symbol_67 : decode bM_symbol 67 = .ok (.iload 4, 2) := by decide +kernel
theorem dM_symbol_69 : decode bM_symbol 69 = .ok (.invokestatic 129, 3) := by decide +kernel
theorem dM_symbol_72 : decode bM_symbol 72 = .ok (.iadd, 1) := by decide +kernel
theorem dM_symbol_73 : decode bM_symbol 73 = .ok (.baload, 1) := by decide +kernel
theorem dM_symbol_74 : decode bM_symbol 74 = .ok (.ifCond .eq (20), 3) := by decide +kernel
theorem dM_symbol_77 : decode bM_symbol 77 = .ok (.aload_n 0, 1) := by decide +kernel
theorem dM_symbol_78 : decode bM_symbol 78 = .ok (.iload_n 1, 1) := by decide +kernel
theorem dM_symbol_79 : decode bM_symbol 79 = .ok (.iload_n 2, 1) := by decide +kernel
theorem dM_symbol_80 : decode bM_symbol 80 = .ok (.iload 5, 2) := by decide +kernel
theorem dM_symbol_82 : decode bM_symbol 82 = .ok (.bipush 65, 2) := by decide +kernel
theorem dM_symbol_84 : decode bM_symbol 84 = .ok (.isub, 1) := by decide +kernel
theorem dM_symbol_85 : decode bM_symbol 85 = .ok (.iload_n 3, 1) := by decide +kernel
theorem dM_symbol_86 : decode bM_symbol 86 = .ok (.iload 4, 2) := by decide +kernel
theorem dM_symbol_88 : decode bM_symbol 88 = .ok (.invokevirtual 143, 3) := by decide +kernel
theorem dM_symbol_91 : decode bM_symbol 91 = .ok (.goto (4), 3) := by decide +kernel
theorem dM_symbol_94 : decode bM_symbol 94 = .ok (.iconst 0, 1) := by decide +kernel
theorem dM_symbol_95 : decode bM_symbol 95 = .ok (.ireturn, 1) := by decide +kernel
theorem dM_next_0 : decode bM_next 0 = .ok (.iload_n 1, 1) := by decide +kernel
theorem dM_next_1 : decode bM_next 1 = .ok (.iconst 1, 1) := by decide +kernel
theorem dM_next_2 : decode bM_next 2 = .ok (.isub, 1) := by decide +kernel
theorem dM_next_3 : decode bM_next 3 = .ok (.istore_n 3, 1) := by decide +kernel
theorem dM_next_4 : decode bM_next 4 = .ok (.iload_n 3, 1) := by decide +kernel
theorem dM_next_5 : decode bM_next 5 = .ok (.ifCond .le (23), 3) := by decide +kernel
theorem dM_next_8 : decode bM_next 8 = .ok (.aload_n 0, 1) := by decide +kernel
theorem dM_next_9 : decode bM_next 9 = .ok (.getfield 28, 3) := by decide +kernel
theorem dM_next_12 : decode bM_next 12 = .ok (.iload_n 3, 1) := by decide +kernel
theorem dM_next_13 : decode bM_next 13 = .ok (.iaload, 1) := by decide +kernel
theorem dM_next_14 : decode bM_next 14 = .ok (.iload_n 2, 1) := by decide +kernel
theorem dM_next_15 : decode bM_next 15 = .ok (.iload_n 1, 1) := by decide +kernel
theorem dM_next_16 : decode bM_next 16 = .ok (.isub, 1) := by decide +kernel
theorem dM_next_17 : decode bM_next 17 = .ok (.iload_n 3, 1) := by decide +kernel
theorem dM_next_18 : decode bM_next 18 = .ok (.iadd, 1) := by decide +kernel
theorem dM_next_19 : decode bM_next 19 = .ok (.if_icmp .ne (9), 3) := by decide +kernel
theorem dM_next_22 : decode bM_next 22 = .ok (.iinc 3 (-1), 3) := by decide +kernel
theorem dM_next_25 : decode bM_next 25 = .ok (.goto (-21), 3) := by decide +kernel
theorem dM_next_28 : decode bM_next 28 = .ok (.iload_n 3, 1) := by decide +kernel
theorem dM_next_29 : decode bM_next 29 = .ok (.ifCond .ne (5), 3) := by decide +kernel
theorem dM_next_32 : decode bM_next 32 = .ok (.iconst 0, 1) := by decide +kernel
theorem dM_next_33 : decode bM_next 33 = .ok (.ireturn, 1) := by decide +kernel
theorem dM_next_34 : decode bM_next 34 = .ok (.aload_n 0, 1) := by decide +kernel
theorem dM_next_35 : decode bM_next 35 = .ok (.getfield 28, 3) := by decide +kernel
theorem dM_next_38 : decode bM_next 38 = .ok (.iload_n 3, 1) := by decide +kernel
theorem dM_next_39 : decode bM_next 39 = .ok (.dup2, 1) := by decide +kernel
theorem dM_next_40 : decode bM_next 40 = .ok (.iaload, 1) := by decide +kernel
theorem dM_next_41 : decode bM_next 41 = .ok (.iconst 1, 1) := by decide +kernel
theorem dM_next_42 : decode bM_next 42 = .ok (.iadd, 1) := by decide +kernel
theorem dM_next_43 : decode bM_next 43 = .ok (.iastore, 1) := by decide +kernel
theorem dM_next_44 : decode bM_next 44 = .ok (.iload_n 3, 1) := by decide +kernel
theorem dM_next_45 : decode bM_next 45 = .ok (.iconst 1, 1) := by decide +kernel
theorem dM_next_46 : decode bM_next 46 = .ok (.iadd, 1) := by decide +kernel
theorem dM_next_47 : decode bM_next 47 = .ok (.istore 4, 2) := by decide +kernel
theorem dM_next_49 : decode bM_next 49 = .ok (.iload 4, 2) := by decide +kernel
theorem dM_next_51 : decode bM_next 51 = .ok (.iload_n 1, 1) := by decide +kernel
theorem dM_next_52 : decode bM_next 52 = .ok (.if_icmp .ge (27), 3) := by decide +kernel
theorem dM_next_55 : decode bM_next 55 = .ok (.aload_n 0, 1) := by decide +kernel
theorem dM_next_56 : decode bM_next 56 = .ok (.getfield 28, 3) := by decide +kernel
theorem dM_next_59 : decode bM_next 59 = .ok (.iload 4, 2) := by decide +kernel
theorem dM_next_61 : decode bM_next 61 = .ok (.aload_n 0, 1) := by decide +kernel
theorem dM_next_62 : decode bM_next 62 = .ok (.getfield 28, 3) := by decide +kernel
theorem dM_next_65 : decode bM_next 65 = .ok (.iload 4, 2) := by decide +kernel
theorem dM_next_67 : decode bM_next 67 = .ok (.iconst 1, 1) := by decide +kernel
theorem dM_next_68 : decode bM_next 68 = .ok (.isub, 1) := by decide +kernel
theorem dM_next_69 : decode bM_next 69 = .ok (.iaload, 1) := by decide +kernel
theorem dM_next_70 : decode bM_next 70 = .ok (.iconst 1, 1) := by decide +kernel
theorem dM_next_71 : decode bM_next 71 = .ok (.iadd, 1) := by decide +kernel
theorem dM_next_72 : decode bM_next 72 = .ok (.iastore, 1) := by decide +kernel
theorem dM_next_73 : decode bM_next 73 = .ok (.iinc 4 (1), 3) := by decide +kernel
theorem dM_next_76 : decode bM_next 76 = .ok (.goto (-27), 3) := by decide +kernel
theorem dM_next_79 : decode bM_next 79 = .ok (.iconst 1, 1) := by decide +kernel
theorem dM_next_80 : decode bM_next 80 = .ok (.ireturn, 1) := by decide +kernel
theorem dM_divide_0 : decode bM_divide 0 = .ok (.aload_n 0, 1) := by decide +kernel
theorem dM_divide_1 : decode bM_divide 1 = .ok (.getfield 19, 3) := by decide +kernel
theorem dM_divide_4 : decode bM_divide 4 = .ok (.iload_n 1, 1) := by decide +kernel
theorem dM_divide_5 : decode bM_divide 5 = .ok (.iaload, 1) := by decide +kernel
theorem dM_divide_6 : decode bM_divide 6 = .ok (.istore 4, 2) := by decide +kernel
theorem dM_divide_8 : decode bM_divide 8 = .ok (.lconst 0, 1) := by decide +kernel
theorem dM_divide_9 : decode bM_divide 9 = .ok (.lstore 5, 2) := by decide +kernel
theorem dM_divide_11 : decode bM_divide 11 = .ok (.dconst 0, 1) := by decide +kernel
theorem dM_divide_12 : decode bM_divide 12 = .ok (.dstore 7, 2) := by decide +kernel
theorem dM_divide_14 : decode bM_divide 14 = .ok (.iconst 0, 1) := by decide +kernel
theorem dM_divide_15 : decode bM_divide 15 = .ok (.istore 9, 2) := by decide +kernel
theorem dM_divide_17 : decode bM_divide 17 = .ok (.iconst 0, 1) := by decide +kernel
theorem dM_divide_18 : decode bM_divide 18 = .ok (.istore 10, 2) := by decide +kernel
theorem dM_divide_20 : decode bM_divide 20 = .ok (.iload 10, 2) := by decide +kernel
theorem dM_divide_22 : decode bM_divide 22 = .ok (.iload 4, 2) := by decide +kernel
theorem dM_divide_24 : decode bM_divide 24 = .ok (.if_icmp .gt (20), 3) := by decide +kernel
theorem dM_divide_27 : decode bM_divide 27 = .ok (.aload_n 0, 1) := by decide +kernel
theorem dM_divide_28 : decode bM_divide 28 = .ok (.getfield 28, 3) := by decide +kernel
theorem dM_divide_31 : decode bM_divide 31 = .ok (.iload 10, 2) := by decide +kernel
theorem dM_divide_33 : decode bM_divide 33 = .ok (.iload_n 2, 1) := by decide +kernel
theorem dM_divide_34 : decode bM_divide 34 = .ok (.iload 10, 2) := by decide +kernel
theorem dM_divide_36 : decode bM_divide 36 = .ok (.iadd, 1) := by decide +kernel
theorem dM_divide_37 : decode bM_divide 37 = .ok (.iastore, 1) := by decide +kernel
theorem dM_divide_38 : decode bM_divide 38 = .ok (.iinc 10 (1), 3) := by decide +kernel
theorem dM_divide_41 : decode bM_divide 41 = .ok (.goto (-21), 3) := by decide +kernel
theorem dM_divide_44 : decode bM_divide 44 = .ok (.aload_n 0, 1) := by decide +kernel
theorem dM_divide_45 : decode bM_divide 45 = .ok (.getfield 28, 3) := by decide +kernel
theorem dM_divide_48 : decode bM_divide 48 = .ok (.iload 4, 2) := by decide +kernel
theorem dM_divide_50 : decode bM_divide 50 = .ok (.iload_n 3, 1) := by decide +kernel
theorem dM_divide_51 : decode bM_divide 51 = .ok (.iastore, 1) := by decide +kernel
theorem dM_divide_52 : decode bM_divide 52 = .ok (.iload_n 3, 1) := by decide +kernel
theorem dM_divide_53 : decode bM_divide 53 = .ok (.iload_n 2, 1) := by decide +kernel
theorem dM_divide_54 : decode bM_divide 54 = .ok (.isub, 1) := by decide +kernel
theorem dM_divide_55 : decode bM_divide 55 = .ok (.iload 4, 2) := by decide +kernel
theorem dM_divide_57 : decode bM_divide 57 = .ok (.if_icmp .lt (7), 3) := by decide +kernel
theorem dM_divide_60 : decode bM_divide 60 = .ok (.iconst 1, 1) := by decide +kernel
theorem dM_divide_61 : decode bM_divide 61 = .ok (.goto (4), 3) := by decide +kernel
theorem dM_divide_64 : decode bM_divide 64 = .ok (.iconst 0, 1) := by decide +kernel
theorem dM_divide_65 : decode bM_divide 65 = .ok (.istore 10, 2) := by decide +kernel
theorem dM_divide_67 : decode bM_divide 67 = .ok (.iload 10, 2) := by decide +kernel
theorem dM_divide_69 : decode bM_divide 69 = .ok (.ifCond .eq (149), 3) := by decide +kernel
theorem dM_divide_72 : decode bM_divide 72 = .ok (.lconst 1, 1) := by decide +kernel
theorem dM_divide_73 : decode bM_divide 73 = .ok (.lstore 11, 2) := by decide +kernel
theorem dM_divide_75 : decode bM_divide 75 = .ok (.iconst 0, 1) := by decide +kernel
theorem dM_divide_76 : decode bM_divide 76 = .ok (.istore 13, 2) := by decide +kernel
theorem dM_divide_78 : decode bM_divide 78 = .ok (.iload 13, 2) := by decide +kernel
theorem dM_divide_80 : decode bM_divide 80 = .ok (.iload 4, 2) := by decide +kernel
theorem dM_divide_82 : decode bM_divide 82 = .ok (.if_icmp .ge (49), 3) := by decide +kernel
theorem dM_divide_85 : decode bM_divide 85 = .ok (.lload 11, 2) := by decide +kernel
theorem dM_divide_87 : decode bM_divide 87 = .ok (.lconst 0, 1) := by decide +kernel
theorem dM_divide_88 : decode bM_divide 88 = .ok (.lcmp, 1) := by decide +kernel
theorem dM_divide_89 : decode bM_divide 89 = .ok (.ifCond .le (42), 3) := by decide +kernel
theorem dM_divide_92 : decode bM_divide 92 = .ok (.lload 11, 2) := by decide +kernel
theorem dM_divide_94 : decode bM_divide 94 = .ok (.aload_n 0, 1) := by decide +kernel
theorem dM_divide_95 : decode bM_divide 95 = .ok (.iload_n 1, 1) := by decide +kernel
theorem dM_divide_96 : decode bM_divide 96 = .ok (.iload 13, 2) := by decide +kernel
theorem dM_divide_98 : decode bM_divide 98 = .ok (.aload_n 0, 1) := by decide +kernel
theorem dM_divide_99 : decode bM_divide 99 = .ok (.getfield 28, 3) := by decide +kernel
theorem dM_divide_102 : decode bM_divide 102 = .ok (.iload 13, 2) := by decide +kernel
theorem dM_divide_104 : decode bM_divide 104 = .ok (.iaload, 1) := by decide +kernel
theorem dM_divide_105 : decode bM_divide 105 = .ok (.aload_n 0, 1) := by decide +kernel
theorem dM_divide_106 : decode bM_divide 106 = .ok (.getfield 28, 3) := by decide +kernel
theorem dM_divide_109 : decode bM_divide 109 = .ok (.iload 13, 2) := by decide +kernel
theorem dM_divide_111 : decode bM_divide 111 = .ok (.iconst 1, 1) := by decide +kernel
theorem dM_divide_112 : decode bM_divide 112 = .ok (.iadd, 1) := by decide +kernel
theorem dM_divide_113 : decode bM_divide 113 = .ok (.iaload, 1) := by decide +kernel
theorem dM_divide_114 : decode bM_divide 114 = .ok (.invokevirtual 147, 3) := by decide +kernel
theorem dM_divide_117 : decode bM_divide 117 = .ok (.i2l, 1) := by decide +kernel
theorem dM_divide_118 : decode bM_divide 118 = .ok (.lmul, 1) := by decide +kernel
theorem dM_divide_119 : decode bM_divide 119 = .ok (.invokestatic 136, 3) := by decide +kernel
theorem dM_divide_122 : decode bM_divide 122 = .ok (.i2l, 1) := by decide +kernel
theorem dM_divide_123 : decode bM_divide 123 = .ok (.lstore 11, 2) := by decide +kernel
theorem dM_divide_125 : decode bM_divide 125 = .ok (.iinc 13 (1), 3) := by decide +kernel
theorem dM_divide_128 : decode bM_divide 128 = .ok (.goto (-50), 3) := by decide +kernel
theorem dM_divide_131 : decode bM_divide 131 = .ok (.lload 5, 2) := by decide +kernel
theorem dM_divide_133 : decode bM_divide 133 = .ok (.lload 11, 2) := by decide +kernel
theorem dM_divide_135 : decode bM_divide 135 = .ok (.ladd, 1) := by decide +kernel
theorem dM_divide_136 : decode bM_divide 136 = .ok (.invokestatic 136, 3) := by decide +kernel
theorem dM_divide_139 : decode bM_divide 139 = .ok (.i2l, 1) := by decide +kernel
theorem dM_divide_140 : decode bM_divide 140 = .ok (.lstore 5, 2) := by decide +kernel
theorem dM_divide_142 : decode bM_divide 142 = .ok (.lload 11, 2) := by decide +kernel
theorem dM_divide_144 : decode bM_divide 144 = .ok (.lconst 0, 1) := by decide +kernel
theorem dM_divide_145 : decode bM_divide 145 = .ok (.lcmp, 1) := by decide +kernel
theorem dM_divide_146 : decode bM_divide 146 = .ok (.ifCond .le (60), 3) := by decide +kernel
theorem dM_divide_149 : decode bM_divide 149 = .ok (.aload_n 0, 1) := by decide +kernel
theorem dM_divide_150 : decode bM_divide 150 = .ok (.iload_n 1, 1) := by decide +kernel
theorem dM_divide_151 : decode bM_divide 151 = .ok (.invokevirtual 151, 3) := by decide +kernel
theorem dM_divide_154 : decode bM_divide 154 = .ok (.dstore 13, 2) := by decide +kernel
theorem dM_divide_156 : decode bM_divide 156 = .ok (.iload 9, 2) := by decide +kernel
theorem dM_divide_158 : decode bM_divide 158 = .ok (.ifCond .eq (11), 3) := by decide +kernel
theorem dM_divide_161 : decode bM_divide 161 = .ok (.dload 13, 2) := by decide +kernel
theorem dM_divide_163 : decode bM_divide 163 = .ok (.dload 7, 2) := by decide +kernel
theorem dM_divide_165 : decode bM_divide 165 = .ok (.dcmp .l, 1) := by decide +kernel
theorem dM_divide_166 : decode bM_divide 166 = .ok (.ifCond .le (37), 3) := by decide +kernel
theorem dM_divide_169 : decode bM_divide 169 = .ok (.dload 13, 2) := by decide +kernel
theorem dM_divide_171 : decode bM_divide 171 = .ok (.dstore 7, 2) := by decide +kernel
theorem dM_divide_173 : decode bM_divide 173 = .ok (.iconst 0, 1) := by decide +kernel
theorem dM_divide_174 : decode bM_divide 174 = .ok (.istore 15, 2) := by decide +kernel
theorem dM_divide_176 : decode bM_divide 176 = .ok (.iload 15, 2) := by decide +kernel
theorem dM_divide_178 : decode bM_divide 178 = .ok (.iload 4, 2) := by decide +kernel
theorem dM_divide_180 : decode bM_divide 180 = .ok (.if_icmp .gt (23), 3) := by decide +kernel
theorem dM_divide_183 : decode bM_divide 183 = .ok (.aload_n 0, 1) := by decide +kernel
theorem dM_divide_184 : decode bM_divide 184 = .ok (.getfield 31, 3) := by decide +kernel
theorem dM_divide_187 : decode bM_divide 187 = .ok (.iload 15, 2) := by decide +kernel
theorem dM_divide_189 : decode bM_divide 189 = .ok (.aload_n 0, 1) := by decide +kernel
theorem dM_divide_190 : decode bM_divide 190 = .ok (.getfield 28, 3) := by decide +kernel
theorem dM_divide_193 : decode bM_divide 193 = .ok (.iload 15, 2) := by decide +kernel
theorem dM_divide_195 : decode bM_divide 195 = .ok (.iaload, 1) := by decide +kernel
theorem dM_divide_196 : decode bM_divide 196 = .ok (.iastore, 1) := by decide +kernel
theorem dM_divide_197 : decode bM_divide 197 = .ok (.iinc 15 (1), 3) := by decide +kernel
theorem dM_divide_200 : decode bM_divide 200 = .ok (.goto (-24), 3) := by decide +kernel
theorem dM_divide_203 : decode bM_divide 203 = .ok (.iconst 1, 1) := by decide +kernel
theorem dM_divide_204 : decode bM_divide 204 = .ok (.istore 9, 2) := by decide +kernel
theorem dM_divide_206 : decode bM_divide 206 = .ok (.aload_n 0, 1) := by decide +kernel
theorem dM_divide_207 : decode bM_divide 207 = .ok (.iload 4, 2) := by decide +kernel
theorem dM_divide_209 : decode bM_divide 209 = .ok (.iload_n 3, 1) := by decide +kernel
theorem dM_divide_210 : decode bM_divide 210 = .ok (.invokevirtual 155, 3) := by decide +kernel
theorem dM_divide_213 : decode bM_divide 213 = .ok (.istore 10, 2) := by decide +kernel
theorem dM_divide_215 : decode bM_divide 215 = .ok (.goto (-148), 3) := by decide +kernel
theorem dM_divide_218 : decode bM_divide 218 = .ok (.aload_n 0, 1) := by decide +kernel
theorem dM_divide_219 : decode bM_divide 219 = .ok (.getfield 51, 3) := by decide +kernel
theorem dM_divide_222 : decode bM_divide 222 = .ok (.iload_n 1, 1) := by decide +kernel
theorem dM_divide_223 : decode bM_divide 223 = .ok (.sipush 225, 3) := by decide +kernel
theorem dM_divide_226 : decode bM_divide 226 = .ok (.imul, 1) := by decide +kernel
theorem dM_divide_227 : decode bM_divide 227 = .ok (.iload_n 2, 1) := by decide +kernel
theorem dM_divide_228 : decode bM_divide 228 = .ok (.iload_n 3, 1) := by decide +kernel
theorem dM_divide_229 : decode bM_divide 229 = .ok (.invokestatic 129, 3) := by decide +kernel
theorem dM_divide_232 : decode bM_divide 232 = .ok (.iadd, 1) := by decide +kernel
theorem dM_divide_233 : decode bM_divide 233 = .ok (.lload 5, 2) := by decide +kernel
theorem dM_divide_235 : decode bM_divide 235 = .ok (.l2i, 1) := by decide +kernel
theorem dM_divide_236 : decode bM_divide 236 = .ok (.iastore, 1) := by decide +kernel
theorem dM_divide_237 : decode bM_divide 237 = .ok (.aload_n 0, 1) := by decide +kernel
theorem dM_divide_238 : decode bM_divide 238 = .ok (.getfield 38, 3) := by decide +kernel
theorem dM_divide_241 : decode bM_divide 241 = .ok (.iload_n 1, 1) := by decide +kernel
theorem dM_divide_242 : decode bM_divide 242 = .ok (.sipush 225, 3) := by decide +kernel
theorem dM_divide_245 : decode bM_divide 245 = .ok (.imul, 1) := by decide +kernel
theorem dM_divide_246 : decode bM_divide 246 = .ok (.iload_n 2, 1) := by decide +kernel
theorem dM_divide_247 : decode bM_divide 247 = .ok (.iload_n 3, 1) := by decide +kernel
theorem dM_divide_248 : decode bM_divide 248 = .ok (.invokestatic 129, 3) := by decide +kernel
theorem dM_divide_251 : decode bM_divide 251 = .ok (.iadd, 1) := by decide +kernel
theorem dM_divide_252 : decode bM_divide 252 = .ok (.dload 7, 2) := by decide +kernel
theorem dM_divide_254 : decode bM_divide 254 = .ok (.dastore, 1) := by decide +kernel
theorem dM_divide_255 : decode bM_divide 255 = .ok (.return_, 1) := by decide +kernel
theorem dM_weightOf_0 : decode bM_weightOf 0 = .ok (.aload_n 0, 1) := by decide +kernel
theorem dM_weightOf_1 : decode bM_weightOf 1 = .ok (.getfield 34, 3) := by decide +kernel
theorem dM_weightOf_4 : decode bM_weightOf 4 = .ok (.iload_n 1, 1) := by decide +kernel
theorem dM_weightOf_5 : decode bM_weightOf 5 = .ok (.daload, 1) := by decide +kernel
theorem dM_weightOf_6 : decode bM_weightOf 6 = .ok (.dstore_n 2, 1) := by decide +kernel
theorem dM_weightOf_7 : decode bM_weightOf 7 = .ok (.iconst 0, 1) := by decide +kernel
theorem dM_weightOf_8 : decode bM_weightOf 8 = .ok (.istore 4, 2) := by decide +kernel
theorem dM_weightOf_10 : decode bM_weightOf 10 = .ok (.iload 4, 2) := by decide +kernel
theorem dM_weightOf_12 : decode bM_weightOf 12 = .ok (.aload_n 0, 1) := by decide +kernel
theorem dM_weightOf_13 : decode bM_weightOf 13 = .ok (.getfield 19, 3) := by decide +kernel
theorem dM_weightOf_16 : decode bM_weightOf 16 = .ok (.iload_n 1, 1) := by decide +kernel
theorem dM_weightOf_17 : decode bM_weightOf 17 = .ok (.iaload, 1) := by decide +kernel
theorem dM_weightOf_18 : decode bM_weightOf 18 = .ok (.if_icmp .ge (101), 3) := by decide +kernel
theorem dM_weightOf_21 : decode bM_weightOf 21 = .ok (.aload_n 0, 1) := by decide +kernel
theorem dM_weightOf_22 : decode bM_weightOf 22 = .ok (.getfield 22, 3) := by decide +kernel
theorem dM_weightOf_25 : decode bM_weightOf 25 = .ok (.iload_n 1, 1) := by decide +kernel
theorem dM_weightOf_26 : decode bM_weightOf 26 = .ok (.iconst 4, 1) := by decide +kernel
theorem dM_weightOf_27 : decode bM_weightOf 27 = .ok (.imul, 1) := by decide +kernel
theorem dM_weightOf_28 : decode bM_weightOf 28 = .ok (.iload 4, 2) := by decide +kernel
theorem dM_weightOf_30 : decode bM_weightOf 30 = .ok (.iadd, 1) := by decide +kernel
theorem dM_weightOf_31 : decode bM_weightOf 31 = .ok (.iaload, 1) := by decide +kernel
theorem dM_weightOf_32 : decode bM_weightOf 32 = .ok (.istore 5, 2) := by decide +kernel
theorem dM_weightOf_34 : decode bM_weightOf 34 = .ok (.iload 5, 2) := by decide +kernel
theorem dM_weightOf_36 : decode bM_weightOf 36 = .ok (.bipush 65, 2) := by decide +kernel
theorem dM_weightOf_38 : decode bM_weightOf 38 = .ok (.bipush 70, 2) := by decide +kernel
theorem dM_weightOf_40 : decode bM_weightOf 40 = .ok (.invokestatic 79, 3) := by decide +kernel
theorem dM_weightOf_43 : decode bM_weightOf 43 = .ok (.ifCond .ne (6), 3) := by decide +kernel
theorem dM_weightOf_46 : decode bM_weightOf 46 = .ok (.goto (67), 3) := by decide +kernel
theorem dM_weightOf_49 : decode bM_weightOf 49 = .ok (.aload_n 0, 1) := by decide +kernel
theorem dM_weightOf_50 : decode bM_weightOf 50 = .ok (.iload_n 1, 1) := by decide +kernel
theorem dM_weightOf_51 : decode bM_weightOf 51 = .ok (.iload 4, 2) := by decide +kernel
theorem dM_weightOf_53 : decode bM_weightOf 53 = .ok (.iload 5, 2) := by decide +kernel
theorem dM_weightOf_55 : decode bM_weightOf 55 = .ok (.bipush 65, 2) := by decide +kernel
theorem dM_weightOf_57 : decode bM_weightOf 57 = .ok (.isub, 1) := by decide +kernel
theorem dM_weightOf_58 : decode bM_weightOf 58 = .ok (.aload_n 0, 1) := by decide +kernel
theorem dM_weightOf_59 : decode bM_weightOf 59 = .ok (.getfield 28, 3) := by decide +kernel
theorem dM_weightOf_62 : decode bM_weightOf 62 = .ok (.iload 4, 2) := by decide +kernel
theorem dM_weightOf_64 : decode bM_weightOf 64 = .ok (.iaload, 1) := by decide +kernel
theorem dM_weightOf_65 : decode bM_weightOf 65 = .ok (.aload_n 0, 1) := by decide +kernel
theorem dM_weightOf_66 : decode bM_weightOf 66 = .ok (.getfield 28, 3) := by decide +kernel
theorem dM_weightOf_69 : decode bM_weightOf 69 = .ok (.iload 4, 2) := by decide +kernel
theorem dM_weightOf_71 : decode bM_weightOf 71 = .ok (.iconst 1, 1) := by decide +kernel
theorem dM_weightOf_72 : decode bM_weightOf 72 = .ok (.iadd, 1) := by decide +kernel
theorem dM_weightOf_73 : decode bM_weightOf 73 = .ok (.iaload, 1) := by decide +kernel
theorem dM_weightOf_74 : decode bM_weightOf 74 = .ok (.invokevirtual 158, 3) := by decide +kernel
theorem dM_weightOf_77 : decode bM_weightOf 77 = .ok (.istore 6, 2) := by decide +kernel
theorem dM_weightOf_79 : decode bM_weightOf 79 = .ok (.dload_n 2, 1) := by decide +kernel
theorem dM_weightOf_80 : decode bM_weightOf 80 = .ok (.aload_n 0, 1) := by decide +kernel
theorem dM_weightOf_81 : decode bM_weightOf 81 = .ok (.getfield 38, 3) := by decide +kernel
theorem dM_weightOf_84 : decode bM_weightOf 84 = .ok (.iload 6, 2) := by decide +kernel
theorem dM_weightOf_86 : decode bM_weightOf 86 = .ok (.sipush 225, 3) := by decide +kernel
theorem dM_weightOf_89 : decode bM_weightOf 89 = .ok (.imul, 1) := by decide +kernel
theorem dM_weightOf_90 : decode bM_weightOf 90 = .ok (.aload_n 0, 1) := by decide +kernel
theorem dM_weightOf_91 : decode bM_weightOf 91 = .ok (.getfield 28, 3) := by decide +kernel
theorem dM_weightOf_94 : decode bM_weightOf 94 = .ok (.iload 4, 2) := by decide +kernel
theorem dM_weightOf_96 : decode bM_weightOf 96 = .ok (.iaload, 1) := by decide +kernel
theorem dM_weightOf_97 : decode bM_weightOf 97 = .ok (.aload_n 0, 1) := by decide +kernel
theorem dM_weightOf_98 : decode bM_weightOf 98 = .ok (.getfield 28, 3) := by decide +kernel
theorem dM_weightOf_101 : decode bM_weightOf 101 = .ok (.iload 4, 2) := by decide +kernel
theorem dM_weightOf_103 : decode bM_weightOf 103 = .ok (.iconst 1, 1) := by decide +kernel
theorem dM_weightOf_104 : decode bM_weightOf 104 = .ok (.iadd, 1) := by decide +kernel
theorem dM_weightOf_105 : decode bM_weightOf 105 = .ok (.iaload, 1) := by decide +kernel
theorem dM_weightOf_106 : decode bM_weightOf 106 = .ok (.invokestatic 129, 3) := by decide +kernel
theorem dM_weightOf_109 : decode bM_weightOf 109 = .ok (.iadd, 1) := by decide +kernel
theorem dM_weightOf_110 : decode bM_weightOf 110 = .ok (.daload, 1) := by decide +kernel
theorem dM_weightOf_111 : decode bM_weightOf 111 = .ok (.dmul, 1) := by decide +kernel
theorem dM_weightOf_112 : decode bM_weightOf 112 = .ok (.dstore_n 2, 1) := by decide +kernel
theorem dM_weightOf_113 : decode bM_weightOf 113 = .ok (.iinc 4 (1), 3) := by decide +kernel
theorem dM_weightOf_116 : decode bM_weightOf 116 = .ok (.goto (-106), 3) := by decide +kernel
theorem dM_weightOf_119 : decode bM_weightOf 119 = .ok (.dload_n 2, 1) := by decide +kernel
theorem dM_weightOf_120 : decode bM_weightOf 120 = .ok (.dreturn, 1) := by decide +kernel
theorem dM_isGood_0 : decode bM_isGood 0 = .ok (.iconst 0, 1) := by decide +kernel
theorem dM_isGood_1 : decode bM_isGood 1 = .ok (.istore 4, 2) := by decide +kernel
theorem dM_isGood_3 : decode bM_isGood 3 = .ok (.iload 4, 2) := by decide +kernel
theorem dM_isGood_5 : decode bM_isGood 5 = .ok (.aload_n 0, 1) := by decide +kernel
theorem dM_isGood_6 : decode bM_isGood 6 = .ok (.getfield 101, 3) := by decide +kernel
theorem dM_isGood_9 : decode bM_isGood 9 = .ok (.if_icmp .ge (53), 3) := by decide +kernel
theorem dM_isGood_12 : decode bM_isGood 12 = .ok (.aload_n 0, 1) := by decide +kernel
theorem dM_isGood_13 : decode bM_isGood 13 = .ok (.getfield 16, 3) := by decide +kernel
theorem dM_isGood_16 : decode bM_isGood 16 = .ok (.iload 4, 2) := by decide +kernel
theorem dM_isGood_18 : decode bM_isGood 18 = .ok (.iaload, 1) := by decide +kernel
theorem dM_isGood_19 : decode bM_isGood 19 = .ok (.iload_n 1, 1) := by decide +kernel
theorem dM_isGood_20 : decode bM_isGood 20 = .ok (.if_icmp .ne (36), 3) := by decide +kernel
theorem dM_isGood_23 : decode bM_isGood 23 = .ok (.aload_n 0, 1) := by decide +kernel
theorem dM_isGood_24 : decode bM_isGood 24 = .ok (.getfield 25, 3) := by decide +kernel
theorem dM_isGood_27 : decode bM_isGood 27 = .ok (.iload 4, 2) := by decide +kernel
theorem dM_isGood_29 : decode bM_isGood 29 = .ok (.iaload, 1) := by decide +kernel
theorem dM_isGood_30 : decode bM_isGood 30 = .ok (.iconst 1, 1) := by decide +kernel
theorem dM_isGood_31 : decode bM_isGood 31 = .ok (.if_icmp .ne (25), 3) := by decide +kernel
theorem dM_isGood_34 : decode bM_isGood 34 = .ok (.aload_n 0, 1) := by decide +kernel
theorem dM_isGood_35 : decode bM_isGood 35 = .ok (.getfield 51, 3) := by decide +kernel
theorem dM_isGood_38 : decode bM_isGood 38 = .ok (.iload 4, 2) := by decide +kernel
theorem dM_isGood_40 : decode bM_isGood 40 = .ok (.sipush 225, 3) := by decide +kernel
theorem dM_isGood_43 : decode bM_isGood 43 = .ok (.imul, 1) := by decide +kernel
theorem dM_isGood_44 : decode bM_isGood 44 = .ok (.iload_n 2, 1) := by decide +kernel
theorem dM_isGood_45 : decode bM_isGood 45 = .ok (.iload_n 3, 1) := by decide +kernel
theorem dM_isGood_46 : decode bM_isGood 46 = .ok (.invokestatic 129, 3) := by decide +kernel
theorem dM_isGood_49 : decode bM_isGood 49 = .ok (.iadd, 1) := by decide +kernel
theorem dM_isGood_50 : decode bM_isGood 50 = .ok (.iaload, 1) := by decide +kernel
theorem dM_isGood_51 : decode bM_isGood 51 = .ok (.ifCond .le (5), 3) := by decide +kernel
theorem dM_isGood_54 : decode bM_isGood 54 = .ok (.iconst 0, 1) := by decide +kernel
theorem dM_isGood_55 : decode bM_isGood 55 = .ok (.ireturn, 1) := by decide +kernel
theorem dM_isGood_56 : decode bM_isGood 56 = .ok (.iinc 4 (1), 3) := by decide +kernel
theorem dM_isGood_59 : decode bM_isGood 59 = .ok (.goto (-56), 3) := by decide +kernel
theorem dM_isGood_62 : decode bM_isGood 62 = .ok (.iload_n 3, 1) := by decide +kernel
theorem dM_isGood_63 : decode bM_isGood 63 = .ok (.aload_n 0, 1) := by decide +kernel
theorem dM_isGood_64 : decode bM_isGood 64 = .ok (.getfield 161, 3) := by decide +kernel
theorem dM_isGood_67 : decode bM_isGood 67 = .ok (.if_icmp .eq (22), 3) := by decide +kernel
theorem dM_isGood_70 : decode bM_isGood 70 = .ok (.aload_n 0, 1) := by decide +kernel
theorem dM_isGood_71 : decode bM_isGood 71 = .ok (.getfield 45, 3) := by decide +kernel
theorem dM_isGood_74 : decode bM_isGood 74 = .ok (.iload_n 1, 1) := by decide +kernel
theorem dM_isGood_75 : decode bM_isGood 75 = .ok (.bipush 127, 2) := by decide +kernel
theorem dM_isGood_77 : decode bM_isGood 77 = .ok (.imul, 1) := by decide +kernel
theorem dM_isGood_78 : decode bM_isGood 78 = .ok (.aload_n 0, 1) := by decide +kernel
theorem dM_isGood_79 : decode bM_isGood 79 = .ok (.getfield 13, 3) := by decide +kernel
theorem dM_isGood_82 : decode bM_isGood 82 = .ok (.iload_n 3, 1) := by decide +kernel
theorem dM_isGood_83 : decode bM_isGood 83 = .ok (.iaload, 1) := by decide +kernel
theorem dM_isGood_84 : decode bM_isGood 84 = .ok (.iadd, 1) := by decide +kernel
theorem dM_isGood_85 : decode bM_isGood 85 = .ok (.baload, 1) := by decide +kernel
theorem dM_isGood_86 : decode bM_isGood 86 = .ok (.ifCond .ne (7), 3) := by decide +kernel
theorem dM_isGood_89 : decode bM_isGood 89 = .ok (.iconst 1, 1) := by decide +kernel
theorem dM_isGood_90 : decode bM_isGood 90 = .ok (.goto (4), 3) := by decide +kernel
theorem dM_isGood_93 : decode bM_isGood 93 = .ok (.iconst 0, 1) := by decide +kernel
theorem dM_isGood_94 : decode bM_isGood 94 = .ok (.ireturn, 1) := by decide +kernel
theorem dM_fill_0 : decode bM_fill 0 = .ok (.iconst 0, 1) := by decide +kernel
theorem dM_fill_1 : decode bM_fill 1 = .ok (.istore_n 3, 1) := by decide +kernel
theorem dM_fill_2 : decode bM_fill 2 = .ok (.iload_n 3, 1) := by decide +kernel
theorem dM_fill_3 : decode bM_fill 3 = .ok (.aload_n 0, 1) := by decide +kernel
theorem dM_fill_4 : decode bM_fill 4 = .ok (.getfield 101, 3) := by decide +kernel
theorem dM_fill_7 : decode bM_fill 7 = .ok (.if_icmp .ge (41), 3) := by decide +kernel
theorem dM_fill_10 : decode bM_fill 10 = .ok (.aload_n 0, 1) := by decide +kernel
theorem dM_fill_11 : decode bM_fill 11 = .ok (.getfield 51, 3) := by decide +kernel
theorem dM_fill_14 : decode bM_fill 14 = .ok (.iload_n 3, 1) := by decide +kernel
theorem dM_fill_15 : decode bM_fill 15 = .ok (.sipush 225, 3) := by decide +kernel
theorem dM_fill_18 : decode bM_fill 18 = .ok (.imul, 1) := by decide +kernel
theorem dM_fill_19 : decode bM_fill 19 = .ok (.iload_n 1, 1) := by decide +kernel
theorem dM_fill_20 : decode bM_fill 20 = .ok (.iload_n 2, 1) := by decide +kernel
theorem dM_fill_21 : decode bM_fill 21 = .ok (.invokestatic 129, 3) := by decide +kernel
theorem dM_fill_24 : decode bM_fill 24 = .ok (.iadd, 1) := by decide +kernel
theorem dM_fill_25 : decode bM_fill 25 = .ok (.iconst 0, 1) := by decide +kernel
theorem dM_fill_26 : decode bM_fill 26 = .ok (.iastore, 1) := by decide +kernel
theorem dM_fill_27 : decode bM_fill 27 = .ok (.aload_n 0, 1) := by decide +kernel
theorem dM_fill_28 : decode bM_fill 28 = .ok (.iload_n 3, 1) := by decide +kernel
theorem dM_fill_29 : decode bM_fill 29 = .ok (.invokevirtual 104, 3) := by decide +kernel
theorem dM_fill_32 : decode bM_fill 32 = .ok (.ifCond .ne (10), 3) := by decide +kernel
theorem dM_fill_35 : decode bM_fill 35 = .ok (.aload_n 0, 1) := by decide +kernel
theorem dM_fill_36 : decode bM_fill 36 = .ok (.iload_n 3, 1) := by decide +kernel
theorem dM_fill_37 : decode bM_fill 37 = .ok (.iload_n 1, 1) := by decide +kernel
theorem dM_fill_38 : decode bM_fill 38 = .ok (.iload_n 2, 1) := by decide +kernel
theorem dM_fill_39 : decode bM_fill 39 = .ok (.invokevirtual 164, 3) := by decide +kernel
theorem dM_fill_42 : decode bM_fill 42 = .ok (.iinc 3 (1), 3) := by decide +kernel
theorem dM_fill_45 : decode bM_fill 45 = .ok (.goto (-43), 3) := by decide +kernel
theorem dM_fill_48 : decode bM_fill 48 = .ok (.iconst 0, 1) := by decide +kernel
theorem dM_fill_49 : decode bM_fill 49 = .ok (.istore_n 3, 1) := by decide +kernel
theorem dM_fill_50 : decode bM_fill 50 = .ok (.iload_n 3, 1) := by decide +kernel
theorem dM_fill_51 : decode bM_fill 51 = .ok (.bipush 7, 2) := by decide +kernel
theorem dM_fill_53 : decode bM_fill 53 = .ok (.if_icmp .ge (85), 3) := by decide +kernel
theorem dM_fill_56 : decode bM_fill 56 = .ok (.iconst 0, 1) := by decide +kernel
theorem dM_fill_57 : decode bM_fill 57 = .ok (.istore 4, 2) := by decide +kernel
theorem dM_fill_59 : decode bM_fill 59 = .ok (.iload 4, 2) := by decide +kernel
theorem dM_fill_61 : decode bM_fill 61 = .ok (.bipush 6, 2) := by decide +kernel
theorem dM_fill_63 : decode bM_fill 63 = .ok (.if_icmp .ge (34), 3) := by decide +kernel
theorem dM_fill_66 : decode bM_fill 66 = .ok (.aload_n 0, 1) := by decide +kernel
theorem dM_fill_67 : decode bM_fill 67 = .ok (.getfield 48, 3) := by decide +kernel
theorem dM_fill_70 : decode bM_fill 70 = .ok (.iload 4, 2) := by decide +kernel
theorem dM_fill_72 : decode bM_fill 72 = .ok (.sipush 225, 3) := by decide +kernel
theorem dM_fill_75 : decode bM_fill 75 = .ok (.imul, 1) := by decide +kernel
theorem dM_fill_76 : decode bM_fill 76 = .ok (.iload_n 1, 1) := by decide +kernel
theorem dM_fill_77 : decode bM_fill 77 = .ok (.iload_n 2, 1) := by decide +kernel
theorem dM_fill_78 : decode bM_fill 78 = .ok (.invokestatic 129, 3) := by decide +kernel
theorem dM_fill_81 : decode bM_fill 81 = .ok (.iadd, 1) := by decide +kernel
theorem dM_fill_82 : decode bM_fill 82 = .ok (.aload_n 0, 1) := by decide +kernel
theorem dM_fill_83 : decode bM_fill 83 = .ok (.iload 4, 2) := by decide +kernel
theorem dM_fill_85 : decode bM_fill 85 = .ok (.iload_n 1, 1) := by decide +kernel
theorem dM_fill_86 : decode bM_fill 86 = .ok (.iload_n 2, 1) := by decide +kernel
theorem dM_fill_87 : decode bM_fill 87 = .ok (.invokevirtual 168, 3) := by decide +kernel
theorem dM_fill_90 : decode bM_fill 90 = .ok (.bastore, 1) := by decide +kernel
theorem dM_fill_91 : decode bM_fill 91 = .ok (.iinc 4 (1), 3) := by decide +kernel
theorem dM_fill_94 : decode bM_fill 94 = .ok (.goto (-35), 3) := by decide +kernel
theorem dM_fill_97 : decode bM_fill 97 = .ok (.iconst 0, 1) := by decide +kernel
theorem dM_fill_98 : decode bM_fill 98 = .ok (.istore 4, 2) := by decide +kernel
theorem dM_fill_100 : decode bM_fill 100 = .ok (.iload 4, 2) := by decide +kernel
theorem dM_fill_102 : decode bM_fill 102 = .ok (.aload_n 0, 1) := by decide +kernel
theorem dM_fill_103 : decode bM_fill 103 = .ok (.getfield 101, 3) := by decide +kernel
theorem dM_fill_106 : decode bM_fill 106 = .ok (.if_icmp .ge (26), 3) := by decide +kernel
theorem dM_fill_109 : decode bM_fill 109 = .ok (.aload_n 0, 1) := by decide +kernel
theorem dM_fill_110 : decode bM_fill 110 = .ok (.iload 4, 2) := by decide +kernel
theorem dM_fill_112 : decode bM_fill 112 = .ok (.invokevirtual 104, 3) := by decide +kernel
theorem dM_fill_115 : decode bM_fill 115 = .ok (.ifCond .eq (11), 3) := by decide +kernel
theorem dM_fill_118 : decode bM_fill 118 = .ok (.aload_n 0, 1) := by decide +kernel
theorem dM_fill_119 : decode bM_fill 119 = .ok (.iload 4, 2) := by decide +kernel
theorem dM_fill_121 : decode bM_fill 121 = .ok (.iload_n 1, 1) := by decide +kernel
theorem dM_fill_122 : decode bM_fill 122 = .ok (.iload_n 2, 1) := by decide +kernel
theorem dM_fill_123 : decode bM_fill 123 = .ok (.invokevirtual 164, 3) := by decide +kernel
theorem dM_fill_126 : decode bM_fill 126 = .ok (.iinc 4 (1), 3) := by decide +kernel
theorem dM_fill_129 : decode bM_fill 129 = .ok (.goto (-29), 3) := by decide +kernel
theorem dM_fill_132 : decode bM_fill 132 = .ok (.iinc 3 (1), 3) := by decide +kernel
theorem dM_fill_135 : decode bM_fill 135 = .ok (.goto (-85), 3) := by decide +kernel
theorem dM_fill_138 : decode bM_fill 138 = .ok (.iconst 0, 1) := by decide +kernel
theorem dM_fill_139 : decode bM_fill 139 = .ok (.istore_n 3, 1) := by decide +kernel
theorem dM_fill_140 : decode bM_fill 140 = .ok (.iload_n 3, 1) := by decide +kernel
theorem dM_fill_141 : decode bM_fill 141 = .ok (.bipush 6, 2) := by decide +kernel
theorem dM_fill_143 : decode bM_fill 143 = .ok (.if_icmp .ge (32), 3) := by decide +kernel
theorem dM_fill_146 : decode bM_fill 146 = .ok (.aload_n 0, 1) := by decide +kernel
theorem dM_fill_147 : decode bM_fill 147 = .ok (.getfield 48, 3) := by decide +kernel
theorem dM_fill_150 : decode bM_fill 150 = .ok (.iload_n 3, 1) := by decide +kernel
theorem dM_fill_151 : decode bM_fill 151 = .ok (.sipush 225, 3) := by decide +kernel
theorem dM_fill_154 : decode bM_fill 154 = .ok (.imul, 1) := by decide +kernel
theorem dM_fill_155 : decode bM_fill 155 = .ok (.iload_n 1, 1) := by decide +kernel
theorem dM_fill_156 : decode bM_fill 156 = .ok (.iload_n 2, 1) := by decide +kernel
theorem dM_fill_157 : decode bM_fill 157 = .ok (.invokestatic 129, 3) := by decide +kernel
theorem dM_fill_160 : decode bM_fill 160 = .ok (.iadd, 1) := by decide +kernel
theorem dM_fill_161 : decode bM_fill 161 = .ok (.aload_n 0, 1) := by decide +kernel
theorem dM_fill_162 : decode bM_fill 162 = .ok (.iload_n 3, 1) := by decide +kernel
theorem dM_fill_163 : decode bM_fill 163 = .ok (.iload_n 1, 1) := by decide +kernel
theorem dM_fill_164 : decode bM_fill 164 = .ok (.iload_n 2, 1) := by decide +kernel
theorem dM_fill_165 : decode bM_fill 165 = .ok (.invokevirtual 168, 3) := by decide +kernel
theorem dM_fill_168 : decode bM_fill 168 = .ok (.bastore, 1) := by decide +kernel
theorem dM_fill_169 : decode bM_fill 169 = .ok (.iinc 3 (1), 3) := by decide +kernel
theorem dM_fill_172 : decode bM_fill 172 = .ok (.goto (-32), 3) := by decide +kernel
theorem dM_fill_175 : decode bM_fill 175 = .ok (.return_, 1) := by decide +kernel
theorem dM_parse_0 : decode bM_parse 0 = .ok (.aload_n 0, 1) := by decide +kernel
theorem dM_parse_1 : decode bM_parse 1 = .ok (.iload_n 1, 1) := by decide +kernel
theorem dM_parse_2 : decode bM_parse 2 = .ok (.iconst 0, 1) := by decide +kernel
theorem dM_parse_3 : decode bM_parse 3 = .ok (.iconst 5, 1) := by decide +kernel
theorem dM_parse_4 : decode bM_parse 4 = .ok (.invokestatic 79, 3) := by decide +kernel
theorem dM_parse_7 : decode bM_parse 7 = .ok (.ifCond .eq (14), 3) := by decide +kernel
theorem dM_parse_10 : decode bM_parse 10 = .ok (.aload_n 0, 1) := by decide +kernel
theorem dM_parse_11 : decode bM_parse 11 = .ok (.getfield 87, 3) := by decide +kernel
theorem dM_parse_14 : decode bM_parse 14 = .ok (.ifCond .le (7), 3) := by decide +kernel
theorem dM_parse_17 : decode bM_parse 17 = .ok (.iconst 1, 1) := by decide +kernel
theorem dM_parse_18 : decode bM_parse 18 = .ok (.goto (4), 3) := by decide +kernel
theorem dM_parse_21 : decode bM_parse 21 = .ok (.iconst 0, 1) := by decide +kernel
theorem dM_parse_22 : decode bM_parse 22 = .ok (.invokevirtual 83, 3) := by decide +kernel
theorem dM_parse_25 : decode bM_parse 25 = .ok (.ifCond .eq (5), 3) := by decide +kernel
theorem dM_parse_28 : decode bM_parse 28 = .ok (.iconst 0, 1) := by decide +kernel
theorem dM_parse_29 : decode bM_parse 29 = .ok (.ireturn, 1) := by decide +kernel
theorem dM_parse_30 : decode bM_parse 30 = .ok (.aload_n 0, 1) := by decide +kernel
theorem dM_parse_31 : decode bM_parse 31 = .ok (.aload_n 0, 1) := by decide +kernel
theorem dM_parse_32 : decode bM_parse 32 = .ok (.getfield 87, 3) := by decide +kernel
theorem dM_parse_35 : decode bM_parse 35 = .ok (.putfield 161, 3) := by decide +kernel
theorem dM_parse_38 : decode bM_parse 38 = .ok (.iconst 0, 1) := by decide +kernel
theorem dM_parse_39 : decode bM_parse 39 = .ok (.istore_n 2, 1) := by decide +kernel
theorem dM_parse_40 : decode bM_parse 40 = .ok (.iload_n 2, 1) := by decide +kernel
theorem dM_parse_41 : decode bM_parse 41 = .ok (.aload_n 0, 1) := by decide +kernel
theorem dM_parse_42 : decode bM_parse 42 = .ok (.getfield 87, 3) := by decide +kernel
theorem dM_parse_45 : decode bM_parse 45 = .ok (.if_icmp .ge (21), 3) := by decide +kernel
theorem dM_parse_48 : decode bM_parse 48 = .ok (.aload_n 0, 1) := by decide +kernel
theorem dM_parse_49 : decode bM_parse 49 = .ok (.getfield 13, 3) := by decide +kernel
theorem dM_parse_52 : decode bM_parse 52 = .ok (.iload_n 2, 1) := by decide +kernel
theorem dM_parse_53 : decode bM_parse 53 = .ok (.aload_n 0, 1) := by decide +kernel
theorem dM_parse_54 : decode bM_parse 54 = .ok (.getfield 7, 3) := by decide +kernel
theorem dM_parse_57 : decode bM_parse 57 = .ok (.iload_n 2, 1) := by decide +kernel
theorem dM_parse_58 : decode bM_parse 58 = .ok (.iaload, 1) := by decide +kernel
theorem dM_parse_59 : decode bM_parse 59 = .ok (.iastore, 1) := by decide +kernel
theorem dM_parse_60 : decode bM_parse 60 = .ok (.iinc 2 (1), 3) := by decide +kernel
theorem dM_parse_63 : decode bM_parse 63 = .ok (.goto (-23), 3) := by decide +kernel
theorem dM_parse_66 : decode bM_parse 66 = .ok (.aload_n 0, 1) := by decide +kernel
theorem dM_parse_67 : decode bM_parse 67 = .ok (.iconst 0, 1) := by decide +kernel
theorem dM_parse_68 : decode bM_parse 68 = .ok (.putfield 87, 3) := by decide +kernel
theorem dM_parse_71 : decode bM_parse 71 = .ok (.iconst 1, 1) := by decide +kernel
theorem dM_parse_72 : decode bM_parse 72 = .ok (.istore_n 2, 1) := by decide +kernel
theorem dM_parse_73 : decode bM_parse 73 = .ok (.iload_n 2, 1) := by decide +kernel
theorem dM_parse_74 : decode bM_parse 74 = .ok (.aload_n 0, 1) := by decide +kernel
theorem dM_parse_75 : decode bM_parse 75 = .ok (.getfield 161, 3) := by decide +kernel
theorem dM_parse_78 : decode bM_parse 78 = .ok (.if_icmp .gt (35), 3) := by decide +kernel
theorem dM_parse_81 : decode bM_parse 81 = .ok (.iconst 0, 1) := by decide +kernel
theorem dM_parse_82 : decode bM_parse 82 = .ok (.istore_n 3, 1) := by decide +kernel
theorem dM_parse_83 : decode bM_parse 83 = .ok (.iload_n 3, 1) := by decide +kernel
theorem dM_parse_84 : decode bM_parse 84 = .ok (.iload_n 2, 1) := by decide +kernel
theorem dM_parse_85 : decode bM_parse 85 = .ok (.iadd, 1) := by decide +kernel
theorem dM_parse_86 : decode bM_parse 86 = .ok (.aload_n 0, 1) := by decide +kernel
theorem dM_parse_87 : decode bM_parse 87 = .ok (.getfield 161, 3) := by decide +kernel
theorem dM_parse_90 : decode bM_parse 90 = .ok (.if_icmp .gt (17), 3) := by decide +kernel
theorem dM_parse_93 : decode bM_parse 93 = .ok (.aload_n 0, 1) := by decide +kernel
theorem dM_parse_94 : decode bM_parse 94 = .ok (.iload_n 3, 1) := by decide +kernel
theorem dM_parse_95 : decode bM_parse 95 = .ok (.iload_n 3, 1) := by decide +kernel
theorem dM_parse_96 : decode bM_parse 96 = .ok (.iload_n 2, 1) := by decide +kernel
theorem dM_parse_97 : decode bM_parse 97 = .ok (.iadd, 1) := by decide +kernel
theorem dM_parse_98 : decode bM_parse 98 = .ok (.invokevirtual 171, 3) := by decide +kernel
theorem dM_parse_101 : decode bM_parse 101 = .ok (.iinc 3 (1), 3) := by decide +kernel
theorem dM_parse_104 : decode bM_parse 104 = .ok (.goto (-21), 3) := by decide +kernel
theorem dM_parse_107 : decode bM_parse 107 = .ok (.iinc 2 (1), 3) := by decide +kernel
theorem dM_parse_110 : decode bM_parse 110 = .ok (.goto (-37), 3) := by decide +kernel
theorem dM_parse_113 : decode bM_parse 113 = .ok (.aload_n 0, 1) := by decide +kernel
theorem dM_parse_114 : decode bM_parse 114 = .ok (.iconst 1, 1) := by decide +kernel
theorem dM_parse_115 : decode bM_parse 115 = .ok (.putfield 94, 3) := by decide +kernel
theorem dM_parse_118 : decode bM_parse 118 = .ok (.aload_n 0, 1) := by decide +kernel
theorem dM_parse_119 : decode bM_parse 119 = .ok (.iconst 0, 1) := by decide +kernel
theorem dM_parse_120 : decode bM_parse 120 = .ok (.putfield 98, 3) := by decide +kernel
theorem dM_parse_123 : decode bM_parse 123 = .ok (.aload_n 0, 1) := by decide +kernel
theorem dM_parse_124 : decode bM_parse 124 = .ok (.getfield 48, 3) := by decide +kernel
theorem dM_parse_127 : decode bM_parse 127 = .ok (.iload_n 1, 1) := by decide +kernel
theorem dM_parse_128 : decode bM_parse 128 = .ok (.sipush 225, 3) := by decide +kernel
theorem dM_parse_131 : decode bM_parse 131 = .ok (.imul, 1) := by decide +kernel
theorem dM_parse_132 : decode bM_parse 132 = .ok (.iconst 0, 1) := by decide +kernel
theorem dM_parse_133 : decode bM_parse 133 = .ok (.aload_n 0, 1) := by decide +kernel
theorem dM_parse_134 : decode bM_parse 134 = .ok (.getfield 161, 3) := by decide +kernel
theorem dM_parse_137 : decode bM_parse 137 = .ok (.invokestatic 129, 3) := by decide +kernel
theorem dM_parse_140 : decode bM_parse 140 = .ok (.iadd, 1) := by decide +kernel
theorem dM_parse_141 : decode bM_parse 141 = .ok (.baload, 1) := by decide +kernel
theorem dM_parse_142 : decode bM_parse 142 = .ok (.ifCond .eq (18), 3) := by decide +kernel
theorem dM_parse_145 : decode bM_parse 145 = .ok (.aload_n 0, 1) := by decide +kernel
theorem dM_parse_146 : decode bM_parse 146 = .ok (.iconst (-1), 1) := by decide +kernel
theorem dM_parse_147 : decode bM_parse 147 = .ok (.iconst 0, 1) := by decide +kernel
theorem dM_parse_148 : decode bM_parse 148 = .ok (.iload_n 1, 1) := by decide +kernel
theorem dM_parse_149 : decode bM_parse 149 = .ok (.iconst 0, 1) := by decide +kernel
theorem dM_parse_150 : decode bM_parse 150 = .ok (.aload_n 0, 1) := by decide +kernel
theorem dM_parse_151 : decode bM_parse 151 = .ok (.getfield 161, 3) := by decide +kernel
theorem dM_parse_154 : decode bM_parse 154 = .ok (.invokevirtual 143, 3) := by decide +kernel
theorem dM_parse_157 : decode bM_parse 157 = .ok (.goto (4), 3) := by decide +kernel
theorem dM_parse_160 : decode bM_parse 160 = .ok (.iconst 0, 1) := by decide +kernel
theorem dM_parse_161 : decode bM_parse 161 = .ok (.istore_n 2, 1) := by decide +kernel
theorem dM_parse_162 : decode bM_parse 162 = .ok (.iload_n 2, 1) := by decide +kernel
theorem dM_parse_163 : decode bM_parse 163 = .ok (.ifCond .ne (9), 3) := by decide +kernel
theorem dM_parse_166 : decode bM_parse 166 = .ok (.aload_n 0, 1) := by decide +kernel
theorem dM_parse_167 : decode bM_parse 167 = .ok (.iconst 2, 1) := by decide +kernel
theorem dM_parse_168 : decode bM_parse 168 = .ok (.invokevirtual 90, 3) := by decide +kernel
theorem dM_parse_171 : decode bM_parse 171 = .ok (.ireturn, 1) := by decide +kernel
theorem dM_parse_172 : decode bM_parse 172 = .ok (.aload_n 0, 1) := by decide +kernel
theorem dM_parse_173 : decode bM_parse 173 = .ok (.iconst 1, 1) := by decide +kernel
theorem dM_parse_174 : decode bM_parse 174 = .ok (.putfield 98, 3) := by decide +kernel
theorem dM_parse_177 : decode bM_parse 177 = .ok (.aload_n 0, 1) := by decide +kernel
theorem dM_parse_178 : decode bM_parse 178 = .ok (.aload_n 0, 1) := by decide +kernel
theorem dM_parse_179 : decode bM_parse 179 = .ok (.iconst (-1), 1) := by decide +kernel
theorem dM_parse_180 : decode bM_parse 180 = .ok (.iconst 0, 1) := by decide +kernel
theorem dM_parse_181 : decode bM_parse 181 = .ok (.iload_n 1, 1) := by decide +kernel
theorem dM_parse_182 : decode bM_parse 182 = .ok (.iconst 0, 1) := by decide +kernel
theorem dM_parse_183 : decode bM_parse 183 = .ok (.aload_n 0, 1) := by decide +kernel
theorem dM_parse_184 : decode bM_parse 184 = .ok (.getfield 161, 3) := by decide +kernel
theorem dM_parse_187 : decode bM_parse 187 = .ok (.invokevirtual 158, 3) := by decide +kernel
theorem dM_parse_190 : decode bM_parse 190 = .ok (.invokevirtual 175, 3) := by decide +kernel
theorem dM_parse_193 : decode bM_parse 193 = .ok (.iload_n 2, 1) := by decide +kernel
theorem dM_parse_194 : decode bM_parse 194 = .ok (.ireturn, 1) := by decide +kernel
theorem dM_put_0 : decode bM_put 0 = .ok (.aload_n 0, 1) := by decide +kernel
theorem dM_put_1 : decode bM_put 1 = .ok (.getfield 69, 3) := by decide +kernel
theorem dM_put_4 : decode bM_put 4 = .ok (.iload_n 1, 1) := by decide +kernel
theorem dM_put_5 : decode bM_put 5 = .ok (.iload_n 2, 1) := by decide +kernel
theorem dM_put_6 : decode bM_put 6 = .ok (.iastore, 1) := by decide +kernel
theorem dM_put_7 : decode bM_put 7 = .ok (.aload_n 0, 1) := by decide +kernel
theorem dM_put_8 : decode bM_put 8 = .ok (.getfield 69, 3) := by decide +kernel
theorem dM_put_11 : decode bM_put 11 = .ok (.iload_n 1, 1) := by decide +kernel
theorem dM_put_12 : decode bM_put 12 = .ok (.iconst 1, 1) := by decide +kernel
theorem dM_put_13 : decode bM_put 13 = .ok (.iadd, 1) := by decide +kernel
theorem dM_put_14 : decode bM_put 14 = .ok (.iload_n 3, 1) := by decide +kernel
theorem dM_put_15 : decode bM_put 15 = .ok (.iastore, 1) := by decide +kernel
theorem dM_put_16 : decode bM_put 16 = .ok (.aload_n 0, 1) := by decide +kernel
theorem dM_put_17 : decode bM_put 17 = .ok (.getfield 69, 3) := by decide +kernel
theorem dM_put_20 : decode bM_put 20 = .ok (.iload_n 1, 1) := by decide +kernel
theorem dM_put_21 : decode bM_put 21 = .ok (.iconst 2, 1) := by decide +kernel
theorem dM_put_22 : decode bM_put 22 = .ok (.iadd, 1) := by decide +kernel
theorem dM_put_23 : decode bM_put 23 = .ok (.iload 4, 2) := by decide +kernel
theorem dM_put_25 : decode bM_put 25 = .ok (.iastore, 1) := by decide +kernel
theorem dM_put_26 : decode bM_put 26 = .ok (.aload_n 0, 1) := by decide +kernel
theorem dM_put_27 : decode bM_put 27 = .ok (.getfield 69, 3) := by decide +kernel
theorem dM_put_30 : decode bM_put 30 = .ok (.iload_n 1, 1) := by decide +kernel
theorem dM_put_31 : decode bM_put 31 = .ok (.iconst 3, 1) := by decide +kernel
theorem dM_put_32 : decode bM_put 32 = .ok (.iadd, 1) := by decide +kernel
theorem dM_put_33 : decode bM_put 33 = .ok (.iload 5, 2) := by decide +kernel
theorem dM_put_35 : decode bM_put 35 = .ok (.iastore, 1) := by decide +kernel
theorem dM_put_36 : decode bM_put 36 = .ok (.iload_n 1, 1) := by decide +kernel
theorem dM_put_37 : decode bM_put 37 = .ok (.iconst 4, 1) := by decide +kernel
theorem dM_put_38 : decode bM_put 38 = .ok (.iadd, 1) := by decide +kernel
theorem dM_put_39 : decode bM_put 39 = .ok (.ireturn, 1) := by decide +kernel
theorem dM_grow_0 : decode bM_grow 0 = .ok (.aload_n 0, 1) := by decide +kernel
theorem dM_grow_1 : decode bM_grow 1 = .ok (.aload_n 0, 1) := by decide +kernel
theorem dM_grow_2 : decode bM_grow 2 = .ok (.getfield 38, 3) := by decide +kernel
theorem dM_grow_5 : decode bM_grow 5 = .ok (.iload_n 1, 1) := by decide +kernel
theorem dM_grow_6 : decode bM_grow 6 = .ok (.sipush 225, 3) := by decide +kernel
theorem dM_grow_9 : decode bM_grow 9 = .ok (.imul, 1) := by decide +kernel
theorem dM_grow_10 : decode bM_grow 10 = .ok (.iconst 0, 1) := by decide +kernel
theorem dM_grow_11 : decode bM_grow 11 = .ok (.aload_n 0, 1) := by decide +kernel
theorem dM_grow_12 : decode bM_grow 12 = .ok (.getfield 161, 3) := by decide +kernel
theorem dM_grow_15 : decode bM_grow 15 = .ok (.invokestatic 129, 3) := by decide +kernel
theorem dM_grow_18 : decode bM_grow 18 = .ok (.iadd, 1) := by decide +kernel
theorem dM_grow_19 : decode bM_grow 19 = .ok (.daload, 1) := by decide +kernel
theorem dM_grow_20 : decode bM_grow 20 = .ok (.putfield 179, 3) := by decide +kernel
theorem dM_grow_23 : decode bM_grow 23 = .ok (.aload_n 0, 1) := by decide +kernel
theorem dM_grow_24 : decode bM_grow 24 = .ok (.iconst 0, 1) := by decide +kernel
theorem dM_grow_25 : decode bM_grow 25 = .ok (.putfield 183, 3) := by decide +kernel
theorem dM_grow_28 : decode bM_grow 28 = .ok (.aload_n 0, 1) := by decide +kernel
theorem dM_grow_29 : decode bM_grow 29 = .ok (.iconst 0, 1) := by decide +kernel
theorem dM_grow_30 : decode bM_grow 30 = .ok (.iload_n 1, 1) := by decide +kernel
theorem dM_grow_31 : decode bM_grow 31 = .ok (.iconst 0, 1) := by decide +kernel
theorem dM_grow_32 : decode bM_grow 32 = .ok (.aload_n 0, 1) := by decide +kernel
theorem dM_grow_33 : decode bM_grow 33 = .ok (.getfield 161, 3) := by decide +kernel
theorem dM_grow_36 : decode bM_grow 36 = .ok (.iconst (-1), 1) := by decide +kernel
theorem dM_grow_37 : decode bM_grow 37 = .ok (.invokevirtual 186, 3) := by decide +kernel
theorem dM_grow_40 : decode bM_grow 40 = .ok (.istore_n 2, 1) := by decide +kernel
theorem dM_grow_41 : decode bM_grow 41 = .ok (.iload_n 2, 1) := by decide +kernel
theorem dM_grow_42 : decode bM_grow 42 = .ok (.ifCond .le (243), 3) := by decide +kernel
theorem dM_grow_45 : decode bM_grow 45 = .ok (.iinc 2 (-4), 3) := by decide +kernel
theorem dM_grow_48 : decode bM_grow 48 = .ok (.aload_n 0, 1) := by decide +kernel
theorem dM_grow_49 : decode bM_grow 49 = .ok (.getfield 183, 3) := by decide +kernel
theorem dM_grow_52 : decode bM_grow 52 = .ok (.istore_n 3, 1) := by decide +kernel
theorem dM_grow_53 : decode bM_grow 53 = .ok (.aload_n 0, 1) := by decide +kernel
theorem dM_grow_54 : decode bM_grow 54 = .ok (.getfield 69, 3) := by decide +kernel
theorem dM_grow_57 : decode bM_grow 57 = .ok (.iload_n 2, 1) := by decide +kernel
theorem dM_grow_58 : decode bM_grow 58 = .ok (.iaload, 1) := by decide +kernel
theorem dM_grow_59 : decode bM_grow 59 = .ok (.istore 4, 2) := by decide +kernel
theorem dM_grow_61 : decode bM_grow 61 = .ok (.aload_n 0, 1) := by decide +kernel
theorem dM_grow_62 : decode bM_grow 62 = .ok (.getfield 69, 3) := by decide +kernel
theorem dM_grow_65 : decode bM_grow 65 = .ok (.iload_n 2, 1) := by decide +kernel
theorem dM_grow_66 : decode bM_grow 66 = .ok (.iconst 1, 1) := by decide +kernel
theorem dM_grow_67 : decode bM_grow 67 = .ok (.iadd, 1) := by decide +kernel
theorem dM_grow_68 : decode bM_grow 68 = .ok (.iaload, 1) := by decide +kernel
theorem dM_grow_69 : decode bM_grow 69 = .ok (.istore 5, 2) := by decide +kernel
theorem dM_grow_71 : decode bM_grow 71 = .ok (.aload_n 0, 1) := by decide +kernel
theorem dM_grow_72 : decode bM_grow 72 = .ok (.getfield 69, 3) := by decide +kernel
theorem dM_grow_75 : decode bM_grow 75 = .ok (.iload_n 2, 1) := by decide +kernel
theorem dM_grow_76 : decode bM_grow 76 = .ok (.iconst 2, 1) := by decide +kernel
theorem dM_grow_77 : decode bM_grow 77 = .ok (.iadd, 1) := by decide +kernel
theorem dM_grow_78 : decode bM_grow 78 = .ok (.iaload, 1) := by decide +kernel
theorem dM_grow_79 : decode bM_grow 79 = .ok (.istore 6, 2) := by decide +kernel
theorem dM_grow_81 : decode bM_grow 81 = .ok (.aload_n 0, 1) := by decide +kernel
theorem dM_grow_82 : decode bM_grow 82 = .ok (.getfield 54, 3) := by decide +kernel
theorem dM_grow_85 : decode bM_grow 85 = .ok (.iload_n 3, 1) := by decide +kernel
theorem dM_grow_86 : decode bM_grow 86 = .ok (.iload 4, 2) := by decide +kernel
theorem dM_grow_88 : decode bM_grow 88 = .ok (.iastore, 1) := by decide +kernel
theorem dM_grow_89 : decode bM_grow 89 = .ok (.aload_n 0, 1) := by decide +kernel
theorem dM_grow_90 : decode bM_grow 90 = .ok (.getfield 57, 3) := by decide +kernel
theorem dM_grow_93 : decode bM_grow 93 = .ok (.iload_n 3, 1) := by decide +kernel
theorem dM_grow_94 : decode bM_grow 94 = .ok (.iload 5, 2) := by decide +kernel
theorem dM_grow_96 : decode bM_grow 96 = .ok (.iastore, 1) := by decide +kernel
theorem dM_grow_97 : decode bM_grow 97 = .ok (.aload_n 0, 1) := by decide +kernel
theorem dM_grow_98 : decode bM_grow 98 = .ok (.getfield 60, 3) := by decide +kernel
theorem dM_grow_101 : decode bM_grow 101 = .ok (.iload_n 3, 1) := by decide +kernel
theorem dM_grow_102 : decode bM_grow 102 = .ok (.iload 6, 2) := by decide +kernel
theorem dM_grow_104 : decode bM_grow 104 = .ok (.iastore, 1) := by decide +kernel
theorem dM_grow_105 : decode bM_grow 105 = .ok (.aload_n 0, 1) := by decide +kernel
theorem dM_grow_106 : decode bM_grow 106 = .ok (.getfield 63, 3) := by decide +kernel
theorem dM_grow_109 : decode bM_grow 109 = .ok (.iload_n 3, 1) := by decide +kernel
theorem dM_grow_110 : decode bM_grow 110 = .ok (.aload_n 0, 1) := by decide +kernel
theorem dM_grow_111 : decode bM_grow 111 = .ok (.getfield 69, 3) := by decide +kernel
theorem dM_grow_114 : decode bM_grow 114 = .ok (.iload_n 2, 1) := by decide +kernel
theorem dM_grow_115 : decode bM_grow 115 = .ok (.iconst 3, 1) := by decide +kernel
theorem dM_grow_116 : decode bM_grow 116 = .ok (.iadd, 1) := by decide +kernel
theorem dM_grow_117 : decode bM_grow 117 = .ok (.iaload, 1) := by decide +kernel
theorem dM_grow_118 : decode bM_grow 118 = .ok (.iastore, 1) := by decide +kernel
theorem dM_grow_119 : decode bM_grow 119 = .ok (.aload_n 0, 1) := by decide +kernel
theorem dM_grow_120 : decode bM_grow 120 = .ok (.getfield 66, 3) := by decide +kernel
theorem dM_grow_123 : decode bM_grow 123 = .ok (.iload_n 3, 1) := by decide +kernel
theorem dM_grow_124 : decode bM_grow 124 = .ok (.iconst 0, 1) := by decide +kernel
theorem dM_grow_125 : decode bM_grow 125 = .ok (.iastore, 1) := by decide +kernel
theorem dM_grow_126 : decode bM_grow 126 = .ok (.aload_n 0, 1) := by decide +kernel
theorem dM_grow_127 : decode bM_grow 127 = .ok (.getfield 63, 3) := by decide +kernel
theorem dM_grow_130 : decode bM_grow 130 = .ok (.iload_n 3, 1) := by decide +kernel
theorem dM_grow_131 : decode bM_grow 131 = .ok (.iaload, 1) := by decide +kernel
theorem dM_grow_132 : decode bM_grow 132 = .ok (.istore 7, 2) := by decide +kernel
theorem dM_grow_134 : decode bM_grow 134 = .ok (.iload 7, 2) := by decide +kernel
theorem dM_grow_136 : decode bM_grow 136 = .ok (.ifCond .lt (26), 3) := by decide +kernel
theorem dM_grow_139 : decode bM_grow 139 = .ok (.aload_n 0, 1) := by decide +kernel
theorem dM_grow_140 : decode bM_grow 140 = .ok (.getfield 66, 3) := by decide +kernel
theorem dM_grow_143 : decode bM_grow 143 = .ok (.iload 7, 2) := by decide +kernel
theorem dM_grow_145 : decode bM_grow 145 = .ok (.dup2, 1) := by decide +kernel
theorem dM_grow_146 : decode bM_grow 146 = .ok (.iaload, 1) := by decide +kernel
theorem dM_grow_147 : decode bM_grow 147 = .ok (.iconst 1, 1) := by decide +kernel
theorem dM_grow_148 : decode bM_grow 148 = .ok (.iadd, 1) := by decide +kernel
theorem dM_grow_149 : decode bM_grow 149 = .ok (.iastore, 1) := by decide +kernel
theorem dM_grow_150 : decode bM_grow 150 = .ok (.aload_n 0, 1) := by decide +kernel
theorem dM_grow_151 : decode bM_grow 151 = .ok (.getfield 63, 3) := by decide +kernel
theorem dM_grow_154 : decode bM_grow 154 = .ok (.iload 7, 2) := by decide +kernel
theorem dM_grow_156 : decode bM_grow 156 = .ok (.iaload, 1) := by decide +kernel
theorem dM_grow_157 : decode bM_grow 157 = .ok (.istore 7, 2) := by decide +kernel
theorem dM_grow_159 : decode bM_grow 159 = .ok (.goto (-25), 3) := by decide +kernel
theorem dM_grow_162 : decode bM_grow 162 = .ok (.aload_n 0, 1) := by decide +kernel
theorem dM_grow_163 : decode bM_grow 163 = .ok (.dup, 1) := by decide +kernel
theorem dM_grow_164 : decode bM_grow 164 = .ok (.getfield 183, 3) := by decide +kernel
theorem dM_grow_167 : decode bM_grow 167 = .ok (.iconst 1, 1) := by decide +kernel
theorem dM_grow_168 : decode bM_grow 168 = .ok (.iadd, 1) := by decide +kernel
theorem dM_grow_169 : decode bM_grow 169 = .ok (.putfield 183, 3) := by decide +kernel
theorem dM_grow_172 : decode bM_grow 172 = .ok (.aload_n 0, 1) := by decide +kernel
theorem dM_grow_173 : decode bM_grow 173 = .ok (.iload 4, 2) := by decide +kernel
theorem dM_grow_175 : decode bM_grow 175 = .ok (.iload 5, 2) := by decide +kernel
theorem dM_grow_177 : decode bM_grow 177 = .ok (.iload 6, 2) := by decide +kernel
theorem dM_grow_179 : decode bM_grow 179 = .ok (.invokevirtual 164, 3) := by decide +kernel
theorem dM_grow_182 : decode bM_grow 182 = .ok (.aload_n 0, 1) := by decide +kernel
theorem dM_grow_183 : decode bM_grow 183 = .ok (.getfield 19, 3) := by decide +kernel
theorem dM_grow_186 : decode bM_grow 186 = .ok (.iload 4, 2) := by decide +kernel
theorem dM_grow_188 : decode bM_grow 188 = .ok (.iaload, 1) := by decide +kernel
theorem dM_grow_189 : decode bM_grow 189 = .ok (.iconst 1, 1) := by decide +kernel
theorem dM_grow_190 : decode bM_grow 190 = .ok (.isub, 1) := by decide +kernel
theorem dM_grow_191 : decode bM_grow 191 = .ok (.istore 7, 2) := by decide +kernel
theorem dM_grow_193 : decode bM_grow 193 = .ok (.iload 7, 2) := by decide +kernel
theorem dM_grow_195 : decode bM_grow 195 = .ok (.ifCond .lt (87), 3) := by decide +kernel
theorem dM_grow_198 : decode bM_grow 198 = .ok (.aload_n 0, 1) := by decide +kernel
theorem dM_grow_199 : decode bM_grow 199 = .ok (.getfield 22, 3) := by decide +kernel
theorem dM_grow_202 : decode bM_grow 202 = .ok (.iload 4, 2) := by decide +kernel
theorem dM_grow_204 : decode bM_grow 204 = .ok (.iconst 4, 1) := by decide +kernel
theorem dM_grow_205 : decode bM_grow 205 = .ok (.imul, 1) := by decide +kernel
theorem dM_grow_206 : decode bM_grow 206 = .ok (.iload 7, 2) := by decide +kernel
theorem dM_grow_208 : decode bM_grow 208 = .ok (.iadd, 1) := by decide +kernel
theorem dM_grow_209 : decode bM_grow 209 = .ok (.iaload, 1) := by decide +kernel
theorem dM_grow_210 : decode bM_grow 210 = .ok (.istore 8, 2) := by decide +kernel
theorem dM_grow_212 : decode bM_grow 212 = .ok (.iload 8, 2) := by decide +kernel
theorem dM_grow_214 : decode bM_grow 214 = .ok (.bipush 65, 2) := by decide +kernel
theorem dM_grow_216 : decode bM_grow 216 = .ok (.bipush 70, 2) := by decide +kernel
theorem dM_grow_218 : decode bM_grow 218 = .ok (.invokestatic 79, 3) := by decide +kernel
theorem dM_grow_221 : decode bM_grow 221 = .ok (.ifCond .eq (55), 3) := by decide +kernel
theorem dM_grow_224 : decode bM_grow 224 = .ok (.aload_n 0, 1) := by decide +kernel
theorem dM_grow_225 : decode bM_grow 225 = .ok (.iload_n 2, 1) := by decide +kernel
theorem dM_grow_226 : decode bM_grow 226 = .ok (.aload_n 0, 1) := by decide +kernel
theorem dM_grow_227 : decode bM_grow 227 = .ok (.iload 4, 2) := by decide +kernel
theorem dM_grow_229 : decode bM_grow 229 = .ok (.iload 7, 2) := by decide +kernel
theorem dM_grow_231 : decode bM_grow 231 = .ok (.iload 8, 2) := by decide +kernel
theorem dM_grow_233 : decode bM_grow 233 = .ok (.bipush 65, 2) := by decide +kernel
theorem dM_grow_235 : decode bM_grow 235 = .ok (.isub, 1) := by decide +kernel
theorem dM_grow_236 : decode bM_grow 236 = .ok (.aload_n 0, 1) := by decide +kernel
theorem dM_grow_237 : decode bM_grow 237 = .ok (.getfield 31, 3) := by decide +kernel
theorem dM_grow_240 : decode bM_grow 240 = .ok (.iload 7, 2) := by decide +kernel
theorem dM_grow_242 : decode bM_grow 242 = .ok (.iaload, 1) := by decide +kernel
theorem dM_grow_243 : decode bM_grow 243 = .ok (.aload_n 0, 1) := by decide +kernel
theorem dM_grow_244 : decode bM_grow 244 = .ok (.getfield 31, 3) := by decide +kernel
theorem dM_grow_247 : decode bM_grow 247 = .ok (.iload 7, 2) := by decide +kernel
theorem dM_grow_249 : decode bM_grow 249 = .ok (.iconst 1, 1) := by decide +kernel
theorem dM_grow_250 : decode bM_grow 250 = .ok (.iadd, 1) := by decide +kernel
theorem dM_grow_251 : decode bM_grow 251 = .ok (.iaload, 1) := by decide +kernel
theorem dM_grow_252 : decode bM_grow 252 = .ok (.invokevirtual 158, 3) := by decide +kernel
theorem dM_grow_255 : decode bM_grow 255 = .ok (.aload_n 0, 1) := by decide +kernel
theorem dM_grow_256 : decode bM_grow 256 = .ok (.getfield 31, 3) := by decide +kernel
theorem dM_grow_259 : decode bM_grow 259 = .ok (.iload 7, 2) := by decide +kernel
theorem dM_grow_261 : decode bM_grow 261 = .ok (.iaload, 1) := by decide +kernel
theorem dM_grow_262 : decode bM_grow 262 = .ok (.aload_n 0, 1) := by decide +kernel
theorem dM_grow_263 : decode bM_grow 263 = .ok (.getfield 31, 3) := by decide +kernel
theorem dM_grow_266 : decode bM_grow 266 = .ok (.iload 7, 2) := by decide +kernel
theorem dM_grow_268 : decode bM_grow 268 = .ok (.iconst 1, 1) := by decide +kernel
theorem dM_grow_269 : decode bM_grow 269 = .ok (.iadd, 1) := by decide +kernel
theorem dM_grow_270 : decode bM_grow 270 = .ok (.iaload, 1) := by decide +kernel
theorem dM_grow_271 : decode bM_grow 271 = .ok (.iload_n 3, 1) := by decide +kernel
theorem dM_grow_272 : decode bM_grow 272 = .ok (.invokevirtual 186, 3) := by decide +kernel
theorem dM_grow_275 : decode bM_grow 275 = .ok (.istore_n 2, 1) := by decide +kernel
theorem dM_grow_276 : decode bM_grow 276 = .ok (.iinc 7 (-1), 3) := by decide +kernel
theorem dM_grow_279 : decode bM_grow 279 = .ok (.goto (-86), 3) := by decide +kernel
theorem dM_grow_282 : decode bM_grow 282 = .ok (.goto (-241), 3) := by decide +kernel
theorem dM_grow_285 : decode bM_grow 285 = .ok (.return_, 1) := by decide +kernel
theorem dM_weight_0 : decode bM_weight 0 = .ok (.aload_n 0, 1) := by decide +kernel
theorem dM_weight_1 : decode bM_weight 1 = .ok (.aload_n 0, 1) := by decide +kernel
theorem dM_weight_2 : decode bM_weight 2 = .ok (.getfield 98, 3) := by decide +kernel
theorem dM_weight_5 : decode bM_weight 5 = .ok (.ifCond .eq (7), 3) := by decide +kernel
theorem dM_weight_8 : decode bM_weight 8 = .ok (.iconst 0, 1) := by decide +kernel
theorem dM_weight_9 : decode bM_weight 9 = .ok (.goto (4), 3) := by decide +kernel
theorem dM_weight_12 : decode bM_weight 12 = .ok (.iconst 1, 1) := by decide +kernel
theorem dM_weight_13 : decode bM_weight 13 = .ok (.putfield 76, 3) := by decide +kernel
theorem dM_weight_16 : decode bM_weight 16 = .ok (.aload_n 0, 1) := by decide +kernel
theorem dM_weight_17 : decode bM_weight 17 = .ok (.getfield 98, 3) := by decide +kernel
theorem dM_weight_20 : decode bM_weight 20 = .ok (.ifCond .eq (10), 3) := by decide +kernel
theorem dM_weight_23 : decode bM_weight 23 = .ok (.aload_n 0, 1) := by decide +kernel
theorem dM_weight_24 : decode bM_weight 24 = .ok (.getfield 179, 3) := by decide +kernel
theorem dM_weight_27 : decode bM_weight 27 = .ok (.goto (4), 3) := by decide +kernel
theorem dM_weight_30 : decode bM_weight 30 = .ok (.dconst 0, 1) := by decide +kernel
theorem dM_weight_31 : decode bM_weight 31 = .ok (.dreturn, 1) := by decide +kernel
theorem dM_node_0 : decode bM_node 0 = .ok (.aload_n 0, 1) := by decide +kernel
theorem dM_node_1 : decode bM_node 1 = .ok (.iload_n 2, 1) := by decide +kernel
theorem dM_node_2 : decode bM_node 2 = .ok (.iconst 0, 1) := by decide +kernel
theorem dM_node_3 : decode bM_node 3 = .ok (.iconst 3, 1) := by decide +kernel
theorem dM_node_4 : decode bM_node 4 = .ok (.invokestatic 79, 3) := by decide +kernel
theorem dM_node_7 : decode bM_node 7 = .ok (.invokevirtual 83, 3) := by decide +kernel
theorem dM_node_10 : decode bM_node 10 = .ok (.ifCond .eq (5), 3) := by decide +kernel
theorem dM_node_13 : decode bM_node 13 = .ok (.iconst 0, 1) := by decide +kernel
theorem dM_node_14 : decode bM_node 14 = .ok (.ireturn, 1) := by decide +kernel
theorem dM_node_15 : decode bM_node 15 = .ok (.aload_n 0, 1) := by decide +kernel
theorem dM_node_16 : decode bM_node 16 = .ok (.getfield 98, 3) := by decide +kernel
theorem dM_node_19 : decode bM_node 19 = .ok (.ifCond .eq (17), 3) := by decide +kernel
theorem dM_node_22 : decode bM_node 22 = .ok (.iload_n 1, 1) := by decide +kernel
theorem dM_node_23 : decode bM_node 23 = .ok (.iconst 0, 1) := by decide +kernel
theorem dM_node_24 : decode bM_node 24 = .ok (.aload_n 0, 1) := by decide +kernel
theorem dM_node_25 : decode bM_node 25 = .ok (.getfield 183, 3) := by decide +kernel
theorem dM_node_28 : decode bM_node 28 = .ok (.iconst 1, 1) := by decide +kernel
theorem dM_node_29 : decode bM_node 29 = .ok (.isub, 1) := by decide +kernel
theorem dM_node_30 : decode bM_node 30 = .ok (.invokestatic 79, 3) := by decide +kernel
theorem dM_node_33 : decode bM_node 33 = .ok (.ifCond .ne (9), 3) := by decide +kernel
theorem dM_node_36 : decode bM_node 36 = .ok (.aload_n 0, 1) := by decide +kernel
theorem dM_node_37 : decode bM_node 37 = .ok (.iconst 2, 1) := by decide +kernel
theorem dM_node_38 : decode bM_node 38 = .ok (.invokevirtual 90, 3) := by decide +kernel
theorem dM_node_41 : decode bM_node 41 = .ok (.ireturn, 1) := by decide +kernel
theorem dM_node_42 : decode bM_node 42 = .ok (.iload_n 2, 1) := by decide +kernel
theorem dM_node_43 : decode bM_node 43 = .ok (.ifCond .ne (12), 3) := by decide +kernel
theorem dM_node_46 : decode bM_node 46 = .ok (.aload_n 0, 1) := by decide +kernel
theorem dM_node_47 : decode bM_node 47 = .ok (.getfield 54, 3) := by decide +kernel
theorem dM_node_50 : decode bM_node 50 = .ok (.iload_n 1, 1) := by decide +kernel
theorem dM_node_51 : decode bM_node 51 = .ok (.iaload, 1) := by decide +kernel
theorem dM_node_52 : decode bM_node 52 = .ok (.goto (37), 3) := by decide +kernel
theorem dM_node_55 : decode bM_node 55 = .ok (.iload_n 2, 1) := by decide +kernel
theorem dM_node_56 : decode bM_node 56 = .ok (.iconst 1, 1) := by decide +kernel
theorem dM_node_57 : decode bM_node 57 = .ok (.if_icmp .ne (12), 3) := by decide +kernel
theorem dM_node_60 : decode bM_node 60 = .ok (.aload_n 0, 1) := by decide +kernel
theorem dM_node_61 : decode bM_node 61 = .ok (.getfield 57, 3) := by decide +kernel
theorem dM_node_64 : decode bM_node 64 = .ok (.iload_n 1, 1) := by decide +kernel
theorem dM_node_65 : decode bM_node 65 = .ok (.iaload, 1) := by decide +kernel
theorem dM_node_66 : decode bM_node 66 = .ok (.goto (23), 3) := by decide +kernel
theorem dM_node_69 : decode bM_node 69 = .ok (.iload_n 2, 1) := by decide +kernel
theorem dM_node_70 : decode bM_node 70 = .ok (.iconst 2, 1) := by decide +kernel
theorem dM_node_71 : decode bM_node 71 = .ok (.if_icmp .ne (12), 3) := by decide +kernel
theorem dM_node_74 : decode bM_node 74 = .ok (.aload_n 0, 1) := by decide +kernel
theorem dM_node_75 : decode bM_node 75 = .ok (.getfield 60, 3) := by decide +kernel
theorem dM_node_78 : decode bM_node 78 = .ok (.iload_n 1, 1) := by decide +kernel
theorem dM_node_79 : decode bM_node 79 = .ok (.iaload, 1) := by decide +kernel
theorem dM_node_80 : decode bM_node 80 = .ok (.goto (9), 3) := by decide +kernel
theorem dM_node_83 : decode bM_node 83 = .ok (.aload_n 0, 1) := by decide +kernel
theorem dM_node_84 : decode bM_node 84 = .ok (.getfield 66, 3) := by decide +kernel
theorem dM_node_87 : decode bM_node 87 = .ok (.iload_n 1, 1) := by decide +kernel
theorem dM_node_88 : decode bM_node 88 = .ok (.iaload, 1) := by decide +kernel
theorem dM_node_89 : decode bM_node 89 = .ok (.ireturn, 1) := by decide +kernel
theorem dM_many_0 : decode bM_many 0 = .ok (.aload_n 0, 1) := by decide +kernel
theorem dM_many_1 : decode bM_many 1 = .ok (.aload_n 0, 1) := by decide +kernel
theorem dM_many_2 : decode bM_many 2 = .ok (.iload_n 1, 1) := by decide +kernel
theorem dM_many_3 : decode bM_many 3 = .ok (.invokevirtual 123, 3) := by decide +kernel
theorem dM_many_6 : decode bM_many 6 = .ok (.invokevirtual 83, 3) := by decide +kernel
theorem dM_many_9 : decode bM_many 9 = .ok (.ifCond .eq (5), 3) := by decide +kernel
theorem dM_many_12 : decode bM_many 12 = .ok (.iconst 0, 1) := by decide +kernel
theorem dM_many_13 : decode bM_many 13 = .ok (.ireturn, 1) := by decide +kernel
theorem dM_many_14 : decode bM_many 14 = .ok (.aload_n 0, 1) := by decide +kernel
theorem dM_many_15 : decode bM_many 15 = .ok (.getfield 94, 3) := by decide +kernel
theorem dM_many_18 : decode bM_many 18 = .ok (.ifCond .eq (20), 3) := by decide +kernel
theorem dM_many_21 : decode bM_many 21 = .ok (.iload_n 2, 1) := by decide +kernel
theorem dM_many_22 : decode bM_many 22 = .ok (.ifCond .lt (16), 3) := by decide +kernel
theorem dM_many_25 : decode bM_many 25 = .ok (.iload_n 3, 1) := by decide +kernel
theorem dM_many_26 : decode bM_many 26 = .ok (.aload_n 0, 1) := by decide +kernel
theorem dM_many_27 : decode bM_many 27 = .ok (.getfield 161, 3) := by decide +kernel
theorem dM_many_30 : decode bM_many 30 = .ok (.if_icmp .gt (8), 3) := by decide +kernel
theorem dM_many_33 : decode bM_many 33 = .ok (.iload_n 2, 1) := by decide +kernel
theorem dM_many_34 : decode bM_many 34 = .ok (.iload_n 3, 1) := by decide +kernel
theorem dM_many_35 : decode bM_many 35 = .ok (.if_icmp .lt (9), 3) := by decide +kernel
theorem dM_many_38 : decode bM_many 38 = .ok (.aload_n 0, 1) := by decide +kernel
theorem dM_many_39 : decode bM_many 39 = .ok (.iconst 2, 1) := by decide +kernel
theorem dM_many_40 : decode bM_many 40 = .ok (.invokevirtual 90, 3) := by decide +kernel
theorem dM_many_43 : decode bM_many 43 = .ok (.ireturn, 1) := by decide +kernel
theorem dM_many_44 : decode bM_many 44 = .ok (.aload_n 0, 1) := by decide +kernel
theorem dM_many_45 : decode bM_many 45 = .ok (.getfield 51, 3) := by decide +kernel
theorem dM_many_48 : decode bM_many 48 = .ok (.iload_n 1, 1) := by decide +kernel
theorem dM_many_49 : decode bM_many 49 = .ok (.sipush 225, 3) := by decide +kernel
theorem dM_many_52 : decode bM_many 52 = .ok (.imul, 1) := by decide +kernel
theorem dM_many_53 : decode bM_many 53 = .ok (.iload_n 2, 1) := by decide +kernel
theorem dM_many_54 : decode bM_many 54 = .ok (.iload_n 3, 1) := by decide +kernel
theorem dM_many_55 : decode bM_many 55 = .ok (.invokestatic 129, 3) := by decide +kernel
theorem dM_many_58 : decode bM_many 58 = .ok (.iadd, 1) := by decide +kernel
theorem dM_many_59 : decode bM_many 59 = .ok (.iaload, 1) := by decide +kernel
theorem dM_many_60 : decode bM_many 60 = .ok (.ireturn, 1) := by decide +kernel
theorem dM_count1_0 : decode bM_count1 0 = .ok (.aload_n 0, 1) := by decide +kernel
theorem dM_count1_1 : decode bM_count1 1 = .ok (.iconst 0, 1) := by decide +kernel
theorem dM_count1_2 : decode bM_count1 2 = .ok (.putfield 76, 3) := by decide +kernel
theorem dM_count1_5 : decode bM_count1 5 = .ok (.iload_n 1, 1) := by decide +kernel
theorem dM_count1_6 : decode bM_count1 6 = .ok (.tableswitch 81 0 4 #[34, 39, 44, 49, 65], 34) := by decide +kernel
theorem dM_count1_40 : decode bM_count1 40 = .ok (.aload_n 0, 1) := by decide +kernel
theorem dM_count1_41 : decode bM_count1 41 = .ok (.getfield 101, 3) := by decide +kernel
theorem dM_count1_44 : decode bM_count1 44 = .ok (.ireturn, 1) := by decide +kernel
theorem dM_count1_45 : decode bM_count1 45 = .ok (.aload_n 0, 1) := by decide +kernel
theorem dM_count1_46 : decode bM_count1 46 = .ok (.getfield 72, 3) := by decide +kernel
theorem dM_count1_49 : decode bM_count1 49 = .ok (.ireturn, 1) := by decide +kernel
theorem dM_count1_50 : decode bM_count1 50 = .ok (.aload_n 0, 1) := by decide +kernel
theorem dM_count1_51 : decode bM_count1 51 = .ok (.getfield 87, 3) := by decide +kernel
theorem dM_count1_54 : decode bM_count1 54 = .ok (.ireturn, 1) := by decide +kernel
theorem dM_count1_55 : decode bM_count1 55 = .ok (.aload_n 0, 1) := by decide +kernel
theorem dM_count1_56 : decode bM_count1 56 = .ok (.getfield 98, 3) := by decide +kernel
theorem dM_count1_59 : decode bM_count1 59 = .ok (.ifCond .eq (10), 3) := by decide +kernel
theorem dM_count1_62 : decode bM_count1 62 = .ok (.aload_n 0, 1) := by decide +kernel
theorem dM_count1_63 : decode bM_count1 63 = .ok (.getfield 183, 3) := by decide +kernel
theorem dM_count1_66 : decode bM_count1 66 = .ok (.goto (4), 3) := by decide +kernel
theorem dM_count1_69 : decode bM_count1 69 = .ok (.iconst 0, 1) := by decide +kernel
theorem dM_count1_70 : decode bM_count1 70 = .ok (.ireturn, 1) := by decide +kernel
theorem dM_count1_71 : decode bM_count1 71 = .ok (.aload_n 0, 1) := by decide +kernel
theorem dM_count1_72 : decode bM_count1 72 = .ok (.getfield 94, 3) := by decide +kernel
theorem dM_count1_75 : decode bM_count1 75 = .ok (.ifCond .eq (10), 3) := by decide +kernel
theorem dM_count1_78 : decode bM_count1 78 = .ok (.aload_n 0, 1) := by decide +kernel
theorem dM_count1_79 : decode bM_count1 79 = .ok (.getfield 161, 3) := by decide +kernel
theorem dM_count1_82 : decode bM_count1 82 = .ok (.goto (4), 3) := by decide +kernel
theorem dM_count1_85 : decode bM_count1 85 = .ok (.iconst 0, 1) := by decide +kernel
theorem dM_count1_86 : decode bM_count1 86 = .ok (.ireturn, 1) := by decide +kernel
theorem dM_count1_87 : decode bM_count1 87 = .ok (.iconst (-1), 1) := by decide +kernel
theorem dM_count1_88 : decode bM_count1 88 = .ok (.ireturn, 1) := by decide +kernel
end
section
theorem dL_type_0 : decode bL_type 0 = .ok (.aload_n 3, 1) := by decide +kernel
theorem dL_type_1 : decode bL_type 1 = .ok (.iconst 0, 1) := by decide +kernel
theorem dL_type_2 : decode bL_type 2 = .ok (.aload_n 0, 1) := by decide +kernel
theorem dL_type_3 : decode bL_type 3 = .ok (.lload_n 1, 1) := by decide +kernel
theorem dL_type_4 : decode bL_type 4 = .ok (.invokevirtual 7, 3) := by decide +kernel
theorem dL_type_7 : decode bL_type 7 = .ok (.i2l, 1) := by decide +kernel
theorem dL_type_8 : decode bL_type 8 = .ok (.lastore, 1) := by decide +kernel
theorem dL_type_9 : decode bL_type 9 = .ok (.goto (11), 3) := by decide +kernel
theorem dL_type_12 : decode bL_type 12 = .ok (.astore 4, 2) := by decide +kernel
theorem dL_type_14 : decode bL_type 14 = .ok (.iconst 1, 1) := by decide +kernel
theorem dL_type_15 : decode bL_type 15 = .ok (.ireturn, 1) := by decide +kernel
theorem dL_type_16 : decode bL_type 16 = .ok (.astore 4, 2) := by decide +kernel
theorem dL_type_18 : decode bL_type 18 = .ok (.iconst 2, 1) := by decide +kernel
theorem dL_type_19 : decode bL_type 19 = .ok (.ireturn, 1) := by decide +kernel
theorem dL_type_20 : decode bL_type 20 = .ok (.iconst 0, 1) := by decide +kernel
theorem dL_type_21 : decode bL_type 21 = .ok (.ireturn, 1) := by decide +kernel
theorem dL_rule_0 : decode bL_rule 0 = .ok (.aload_n 3, 1) := by decide +kernel
theorem dL_rule_1 : decode bL_rule 1 = .ok (.iconst 0, 1) := by decide +kernel
theorem dL_rule_2 : decode bL_rule 2 = .ok (.aload_n 0, 1) := by decide +kernel
theorem dL_rule_3 : decode bL_rule 3 = .ok (.dload_n 1, 1) := by decide +kernel
theorem dL_rule_4 : decode bL_rule 4 = .ok (.invokevirtual 17, 3) := by decide +kernel
theorem dL_rule_7 : decode bL_rule 7 = .ok (.i2l, 1) := by decide +kernel
theorem dL_rule_8 : decode bL_rule 8 = .ok (.lastore, 1) := by decide +kernel
theorem dL_rule_9 : decode bL_rule 9 = .ok (.goto (15), 3) := by decide +kernel
theorem dL_rule_12 : decode bL_rule 12 = .ok (.astore 4, 2) := by decide +kernel
theorem dL_rule_14 : decode bL_rule 14 = .ok (.iconst 1, 1) := by decide +kernel
theorem dL_rule_15 : decode bL_rule 15 = .ok (.ireturn, 1) := by decide +kernel
theorem dL_rule_16 : decode bL_rule 16 = .ok (.astore 4, 2) := by decide +kernel
theorem dL_rule_18 : decode bL_rule 18 = .ok (.iconst 2, 1) := by decide +kernel
theorem dL_rule_19 : decode bL_rule 19 = .ok (.ireturn, 1) := by decide +kernel
theorem dL_rule_20 : decode bL_rule 20 = .ok (.astore 4, 2) := by decide +kernel
theorem dL_rule_22 : decode bL_rule 22 = .ok (.iconst 3, 1) := by decide +kernel
theorem dL_rule_23 : decode bL_rule 23 = .ok (.ireturn, 1) := by decide +kernel
theorem dL_rule_24 : decode bL_rule 24 = .ok (.iconst 0, 1) := by decide +kernel
theorem dL_rule_25 : decode bL_rule 25 = .ok (.ireturn, 1) := by decide +kernel
theorem dL_mark_0 : decode bL_mark 0 = .ok (.aload_n 0, 1) := by decide +kernel
theorem dL_mark_1 : decode bL_mark 1 = .ok (.iload_n 1, 1) := by decide +kernel
theorem dL_mark_2 : decode bL_mark 2 = .ok (.iload_n 2, 1) := by decide +kernel
theorem dL_mark_3 : decode bL_mark 3 = .ok (.invokevirtual 23, 3) := by decide +kernel
theorem dL_mark_6 : decode bL_mark 6 = .ok (.goto (6), 3) := by decide +kernel
theorem dL_mark_9 : decode bL_mark 9 = .ok (.astore_n 3, 1) := by decide +kernel
theorem dL_mark_10 : decode bL_mark 10 = .ok (.iconst 1, 1) := by decide +kernel
theorem dL_mark_11 : decode bL_mark 11 = .ok (.ireturn, 1) := by decide +kernel
theorem dL_mark_12 : decode bL_mark 12 = .ok (.iconst 0, 1) := by decide +kernel
theorem dL_mark_13 : decode bL_mark 13 = .ok (.ireturn, 1) := by decide +kernel
theorem dL_bar_0 : decode bL_bar 0 = .ok (.aload_n 0, 1) := by decide +kernel
theorem dL_bar_1 : decode bL_bar 1 = .ok (.iload_n 1, 1) := by decide +kernel
theorem dL_bar_2 : decode bL_bar 2 = .ok (.iload_n 2, 1) := by decide +kernel
theorem dL_bar_3 : decode bL_bar 3 = .ok (.iload_n 3, 1) := by decide +kernel
theorem dL_bar_4 : decode bL_bar 4 = .ok (.invokevirtual 27, 3) := by decide +kernel
theorem dL_bar_7 : decode bL_bar 7 = .ok (.goto (7), 3) := by decide +kernel
theorem dL_bar_10 : decode bL_bar 10 = .ok (.astore 4, 2) := by decide +kernel
theorem dL_bar_12 : decode bL_bar 12 = .ok (.iconst 1, 1) := by decide +kernel
theorem dL_bar_13 : decode bL_bar 13 = .ok (.ireturn, 1) := by decide +kernel
theorem dL_bar_14 : decode bL_bar 14 = .ok (.iconst 0, 1) := by decide +kernel
theorem dL_bar_15 : decode bL_bar 15 = .ok (.ireturn, 1) := by decide +kernel
theorem dL_follow_0 : decode bL_follow 0 = .ok (.aload_n 0, 1) := by decide +kernel
theorem dL_follow_1 : decode bL_follow 1 = .ok (.iload_n 1, 1) := by decide +kernel
theorem dL_follow_2 : decode bL_follow 2 = .ok (.iload_n 2, 1) := by decide +kernel
theorem dL_follow_3 : decode bL_follow 3 = .ok (.iload_n 3, 1) := by decide +kernel
theorem dL_follow_4 : decode bL_follow 4 = .ok (.invokevirtual 31, 3) := by decide +kernel
theorem dL_follow_7 : decode bL_follow 7 = .ok (.goto (7), 3) := by decide +kernel
theorem dL_follow_10 : decode bL_follow 10 = .ok (.astore 4, 2) := by decide +kernel
theorem dL_follow_12 : decode bL_follow 12 = .ok (.iconst 1, 1) := by decide +kernel
theorem dL_follow_13 : decode bL_follow 13 = .ok (.ireturn, 1) := by decide +kernel
theorem dL_follow_14 : decode bL_follow 14 = .ok (.iconst 0, 1) := by decide +kernel
theorem dL_follow_15 : decode bL_follow 15 = .ok (.ireturn, 1) := by decide +kernel
theorem dL_undo_0 : decode bL_undo 0 = .ok (.aload_n 0, 1) := by decide +kernel
theorem dL_undo_1 : decode bL_undo 1 = .ok (.invokevirtual 34, 3) := by decide +kernel
theorem dL_undo_4 : decode bL_undo 4 = .ok (.goto (6), 3) := by decide +kernel
theorem dL_undo_7 : decode bL_undo 7 = .ok (.astore_n 1, 1) := by decide +kernel
theorem dL_undo_8 : decode bL_undo 8 = .ok (.iconst 1, 1) := by decide +kernel
theorem dL_undo_9 : decode bL_undo 9 = .ok (.ireturn, 1) := by decide +kernel
theorem dL_undo_10 : decode bL_undo 10 = .ok (.iconst 0, 1) := by decide +kernel
theorem dL_undo_11 : decode bL_undo 11 = .ok (.ireturn, 1) := by decide +kernel
theorem dL_parse_0 : decode bL_parse 0 = .ok (.aload_n 2, 1) := by decide +kernel
theorem dL_parse_1 : decode bL_parse 1 = .ok (.iconst 0, 1) := by decide +kernel
theorem dL_parse_2 : decode bL_parse 2 = .ok (.aload_n 0, 1) := by decide +kernel
theorem dL_parse_3 : decode bL_parse 3 = .ok (.iload_n 1, 1) := by decide +kernel
theorem dL_parse_4 : decode bL_parse 4 = .ok (.invokevirtual 39, 3) := by decide +kernel
theorem dL_parse_7 : decode bL_parse 7 = .ok (.i2l, 1) := by decide +kernel
theorem dL_parse_8 : decode bL_parse 8 = .ok (.lastore, 1) := by decide +kernel
theorem dL_parse_9 : decode bL_parse 9 = .ok (.goto (9), 3) := by decide +kernel
theorem dL_parse_12 : decode bL_parse 12 = .ok (.astore_n 3, 1) := by decide +kernel
theorem dL_parse_13 : decode bL_parse 13 = .ok (.iconst 1, 1) := by decide +kernel
theorem dL_parse_14 : decode bL_parse 14 = .ok (.ireturn, 1) := by decide +kernel
theorem dL_parse_15 : decode bL_parse 15 = .ok (.astore_n 3, 1) := by decide +kernel
theorem dL_parse_16 : decode bL_parse 16 = .ok (.iconst 2, 1) := by decide +kernel
theorem dL_parse_17 : decode bL_parse 17 = .ok (.ireturn, 1) := by decide +kernel
theorem dL_parse_18 : decode bL_parse 18 = .ok (.iconst 0, 1) := by decide +kernel
theorem dL_parse_19 : decode bL_parse 19 = .ok (.ireturn, 1) := by decide +kernel
theorem dL_weight_0 : decode bL_weight 0 = .ok (.aload_n 1, 1) := by decide +kernel
theorem dL_weight_1 : decode bL_weight 1 = .ok (.iconst 0, 1) := by decide +kernel
theorem dL_weight_2 : decode bL_weight 2 = .ok (.aload_n 0, 1) := by decide +kernel
theorem dL_weight_3 : decode bL_weight 3 = .ok (.invokevirtual 43, 3) := by decide +kernel
theorem dL_weight_6 : decode bL_weight 6 = .ok (.dastore, 1) := by decide +kernel
theorem dL_weight_7 : decode bL_weight 7 = .ok (.goto (6), 3) := by decide +kernel
theorem dL_weight_10 : decode bL_weight 10 = .ok (.astore_n 2, 1) := by decide +kernel
theorem dL_weight_11 : decode bL_weight 11 = .ok (.iconst 1, 1) := by decide +kernel
theorem dL_weight_12 : decode bL_weight 12 = .ok (.ireturn, 1) := by decide +kernel
theorem dL_weight_13 : decode bL_weight 13 = .ok (.iconst 0, 1) := by decide +kernel
theorem dL_weight_14 : decode bL_weight 14 = .ok (.ireturn, 1) := by decide +kernel
theorem dL_node_0 : decode bL_node 0 = .ok (.aload_n 3, 1) := by decide +kernel
theorem dL_node_1 : decode bL_node 1 = .ok (.iconst 0, 1) := by decide +kernel
theorem dL_node_2 : decode bL_node 2 = .ok (.aload_n 0, 1) := by decide +kernel
theorem dL_node_3 : decode bL_node 3 = .ok (.iload_n 1, 1) := by decide +kernel
theorem dL_node_4 : decode bL_node 4 = .ok (.iload_n 2, 1) := by decide +kernel
theorem dL_node_5 : decode bL_node 5 = .ok (.invokevirtual 47, 3) := by decide +kernel
theorem dL_node_8 : decode bL_node 8 = .ok (.i2l, 1) := by decide +kernel
theorem dL_node_9 : decode bL_node 9 = .ok (.lastore, 1) := by decide +kernel
theorem dL_node_10 : decode bL_node 10 = .ok (.goto (11), 3) := by decide +kernel
theorem dL_node_13 : decode bL_node 13 = .ok (.astore 4, 2) := by decide +kernel
theorem dL_node_15 : decode bL_node 15 = .ok (.iconst 1, 1) := by decide +kernel
theorem dL_node_16 : decode bL_node 16 = .ok (.ireturn, 1) := by decide +kernel
theorem dL_node_17 : decode bL_node 17 = .ok (.astore 4, 2) := by decide +kernel
theorem dL_node_19 : decode bL_node 19 = .ok (.iconst 2, 1) := by decide +kernel
theorem dL_node_20 : decode bL_node 20 = .ok (.ireturn, 1) := by decide +kernel
theorem dL_node_21 : decode bL_node 21 = .ok (.iconst 0, 1) := by decide +kernel
theorem dL_node_22 : decode bL_node 22 = .ok (.ireturn, 1) := by decide +kernel
theorem dL_many_0 : decode bL_many 0 = .ok (.aload 4, 2) := by decide +kernel
theorem dL_many_2 : decode bL_many 2 = .ok (.iconst 0, 1) := by decide +kernel
theorem dL_many_3 : decode bL_many 3 = .ok (.aload_n 0, 1) := by decide +kernel
theorem dL_many_4 : decode bL_many 4 = .ok (.iload_n 1, 1) := by decide +kernel
theorem dL_many_5 : decode bL_many 5 = .ok (.iload_n 2, 1) := by decide +kernel
theorem dL_many_6 : decode bL_many 6 = .ok (.iload_n 3, 1) := by decide +kernel
theorem dL_many_7 : decode bL_many 7 = .ok (.invokevirtual 51, 3) := by decide +kernel
theorem dL_many_10 : decode bL_many 10 = .ok (.i2l, 1) := by decide +kernel
theorem dL_many_11 : decode bL_many 11 = .ok (.lastore, 1) := by decide +kernel
theorem dL_many_12 : decode bL_many 12 = .ok (.goto (11), 3) := by decide +kernel
theorem dL_many_15 : decode bL_many 15 = .ok (.astore 5, 2) := by decide +kernel
theorem dL_many_17 : decode bL_many 17 = .ok (.iconst 1, 1) := by decide +kernel
theorem dL_many_18 : decode bL_many 18 = .ok (.ireturn, 1) := by decide +kernel
theorem dL_many_19 : decode bL_many 19 = .ok (.astore 5, 2) := by decide +kernel
theorem dL_many_21 : decode bL_many 21 = .ok (.iconst 2, 1) := by decide +kernel
theorem dL_many_22 : decode bL_many 22 = .ok (.ireturn, 1) := by decide +kernel
theorem dL_many_23 : decode bL_many 23 = .ok (.iconst 0, 1) := by decide +kernel
theorem dL_many_24 : decode bL_many 24 = .ok (.ireturn, 1) := by decide +kernel
theorem dL_law_0 : decode bL_law 0 = .ok (.new 8, 3) := by decide +kernel
theorem dL_law_3 : decode bL_law 3 = .ok (.dup, 1) := by decide +kernel
theorem dL_law_4 : decode bL_law 4 = .ok (.invokespecial 55, 3) := by decide +kernel
theorem dL_law_7 : decode bL_law 7 = .ok (.astore_n 1, 1) := by decide +kernel
theorem dL_law_8 : decode bL_law 8 = .ok (.new 56, 3) := by decide +kernel
theorem dL_law_11 : decode bL_law 11 = .ok (.dup, 1) := by decide +kernel
theorem dL_law_12 : decode bL_law 12 = .ok (.invokespecial 58, 3) := by decide +kernel
theorem dL_law_15 : decode bL_law 15 = .ok (.astore_n 2, 1) := by decide +kernel
theorem dL_law_16 : decode bL_law 16 = .ok (.iconst 1, 1) := by decide +kernel
theorem dL_law_17 : decode bL_law 17 = .ok (.newarray .long, 2) := by decide +kernel
theorem dL_law_19 : decode bL_law 19 = .ok (.astore_n 3, 1) := by decide +kernel
theorem dL_law_20 : decode bL_law 20 = .ok (.iconst 1, 1) := by decide +kernel
theorem dL_law_21 : decode bL_law 21 = .ok (.newarray .double, 2) := by decide +kernel
theorem dL_law_23 : decode bL_law 23 = .ok (.astore 4, 2) := by decide +kernel
theorem dL_law_25 : decode bL_law 25 = .ok (.iconst 0, 1) := by decide +kernel
theorem dL_law_26 : decode bL_law 26 = .ok (.istore 5, 2) := by decide +kernel
theorem dL_law_28 : decode bL_law 28 = .ok (.iload 5, 2) := by decide +kernel
theorem dL_law_30 : decode bL_law 30 = .ok (.aload_n 0, 1) := by decide +kernel
theorem dL_law_31 : decode bL_law 31 = .ok (.arraylength, 1) := by decide +kernel
theorem dL_law_32 : decode bL_law 32 = .ok (.iconst 4, 1) := by decide +kernel
theorem dL_law_33 : decode bL_law 33 = .ok (.isub, 1) := by decide +kernel
theorem dL_law_34 : decode bL_law 34 = .ok (.if_icmp .gt (748), 3) := by decide +kernel
theorem dL_law_37 : decode bL_law 37 = .ok (.aload_n 0, 1) := by decide +kernel
theorem dL_law_38 : decode bL_law 38 = .ok (.iload 5, 2) := by decide +kernel
theorem dL_law_40 : decode bL_law 40 = .ok (.iaload, 1) := by decide +kernel
theorem dL_law_41 : decode bL_law 41 = .ok (.bipush 15, 2) := by decide +kernel
theorem dL_law_43 : decode bL_law 43 = .ok (.iand, 1) := by decide +kernel
theorem dL_law_44 : decode bL_law 44 = .ok (.tableswitch 732 0 10 #[60, 148, 214, 262, 338, 414, 438, 494, 559, 627, 707], 60) := by decide +kernel
theorem dL_law_104 : decode bL_law 104 = .ok (.aload_n 1, 1) := by decide +kernel
theorem dL_law_105 : decode bL_law 105 = .ok (.aload_n 0, 1) := by decide +kernel
theorem dL_law_106 : decode bL_law 106 = .ok (.iload 5, 2) := by decide +kernel
theorem dL_law_108 : decode bL_law 108 = .ok (.iconst 1, 1) := by decide +kernel
theorem dL_law_109 : decode bL_law 109 = .ok (.iadd, 1) := by decide +kernel
theorem dL_law_110 : decode bL_law 110 = .ok (.iaload, 1) := by decide +kernel
theorem dL_law_111 : decode bL_law 111 = .ok (.i2l, 1) := by decide +kernel
theorem dL_law_112 : decode bL_law 112 = .ok (.bipush 32, 2) := by decide +kernel
theorem dL_law_114 : decode bL_law 114 = .ok (.lshl, 1) := by decide +kernel
theorem dL_law_115 : decode bL_law 115 = .ok (.aload_n 0, 1) := by decide +kernel
theorem dL_law_116 : decode bL_law 116 = .ok (.iload 5, 2) := by decide +kernel
theorem dL_law_118 : decode bL_law 118 = .ok (.iconst 2, 1) := by decide +kernel
theorem dL_law_119 : decode bL_law 119 = .ok (.iadd, 1) := by decide +kernel
theorem dL_law_120 : decode bL_law 120 = .ok (.iaload, 1) := by decide +kernel
theorem dL_law_121 : decode bL_law 121 = .ok (.i2l, 1) := by decide +kernel
theorem dL_law_122 : decode bL_law 122 = .ok (.ldc2_w 59, 3) := by decide +kernel
theorem dL_law_125 : decode bL_law 125 = .ok (.land, 1) := by decide +kernel
theorem dL_law_126 : decode bL_law 126 = .ok (.lor, 1) := by decide +kernel
theorem dL_law_127 : decode bL_law 127 = .ok (.aload_n 3, 1) := by decide +kernel
theorem dL_law_128 : decode bL_law 128 = .ok (.invokestatic 61, 3) := by decide +kernel
theorem dL_law_131 : decode bL_law 131 = .ok (.istore 6, 2) := by decide +kernel
theorem dL_law_133 : decode bL_law 133 = .ok (.aload_n 2, 1) := by decide +kernel
theorem dL_law_134 : decode bL_law 134 = .ok (.aload_n 0, 1) := by decide +kernel
theorem dL_law_135 : decode bL_law 135 = .ok (.iload 5, 2) := by decide +kernel
theorem dL_law_137 : decode bL_law 137 = .ok (.iconst 1, 1) := by decide +kernel
theorem dL_law_138 : decode bL_law 138 = .ok (.iadd, 1) := by decide +kernel
theorem dL_law_139 : decode bL_law 139 = .ok (.iaload, 1) := by decide +kernel
theorem dL_law_140 : decode bL_law 140 = .ok (.i2l, 1) := by decide +kernel
theorem dL_law_141 : decode bL_law 141 = .ok (.bipush 32, 2) := by decide +kernel
theorem dL_law_143 : decode bL_law 143 = .ok (.lshl, 1) := by decide +kernel
theorem dL_law_144 : decode bL_law 144 = .ok (.aload_n 0, 1) := by decide +kernel
theorem dL_law_145 : decode bL_law 145 = .ok (.iload 5, 2) := by decide +kernel
theorem dL_law_147 : decode bL_law 147 = .ok (.iconst 2, 1) := by decide +kernel
theorem dL_law_148 : decode bL_law 148 = .ok (.iadd, 1) := by decide +kernel
theorem dL_law_149 : decode bL_law 149 = .ok (.iaload, 1) := by decide +kernel
theorem dL_law_150 : decode bL_law 150 = .ok (.i2l, 1) := by decide +kernel
theorem dL_law_151 : decode bL_law 151 = .ok (.ldc2_w 59, 3) := by decide +kernel
theorem dL_law_154 : decode bL_law 154 = .ok (.land, 1) := by decide +kernel
theorem dL_law_155 : decode bL_law 155 = .ok (.lor, 1) := by decide +kernel
theorem dL_law_156 : decode bL_law 156 = .ok (.invokevirtual 66, 3) := by decide +kernel
theorem dL_law_159 : decode bL_law 159 = .ok (.istore 7, 2) := by decide +kernel
theorem dL_law_161 : decode bL_law 161 = .ok (.aload_n 2, 1) := by decide +kernel
theorem dL_law_162 : decode bL_law 162 = .ok (.invokevirtual 67, 3) := by decide +kernel
theorem dL_law_165 : decode bL_law 165 = .ok (.iload 6, 2) := by decide +kernel
theorem dL_law_167 : decode bL_law 167 = .ok (.if_icmp .eq (5), 3) := by decide +kernel
theorem dL_law_170 : decode bL_law 170 = .ok (.iconst 0, 1) := by decide +kernel
theorem dL_law_171 : decode bL_law 171 = .ok (.ireturn, 1) := by decide +kernel
theorem dL_law_172 : decode bL_law 172 = .ok (.iload 6, 2) := by decide +kernel
theorem dL_law_174 : decode bL_law 174 = .ok (.ifCond .ne (15), 3) := by decide +kernel
theorem dL_law_177 : decode bL_law 177 = .ok (.aload_n 3, 1) := by decide +kernel
theorem dL_law_178 : decode bL_law 178 = .ok (.iconst 0, 1) := by decide +kernel
theorem dL_law_179 : decode bL_law 179 = .ok (.laload, 1) := by decide +kernel
theorem dL_law_180 : decode bL_law 180 = .ok (.iload 7, 2) := by decide +kernel
theorem dL_law_182 : decode bL_law 182 = .ok (.i2l, 1) := by decide +kernel
theorem dL_law_183 : decode bL_law 183 = .ok (.lcmp, 1) := by decide +kernel
theorem dL_law_184 : decode bL_law 184 = .ok (.ifCond .eq (5), 3) := by decide +kernel
theorem dL_law_187 : decode bL_law 187 = .ok (.iconst 0, 1) := by decide +kernel
theorem dL_law_188 : decode bL_law 188 = .ok (.ireturn, 1) := by decide +kernel
theorem dL_law_189 : decode bL_law 189 = .ok (.goto (587), 3) := by decide +kernel
theorem dL_law_192 : decode bL_law 192 = .ok (.aload_n 1, 1) := by decide +kernel
theorem dL_law_193 : decode bL_law 193 = .ok (.aload_n 0, 1) := by decide +kernel
theorem dL_law_194 : decode bL_law 194 = .ok (.iload 5, 2) := by decide +kernel
theorem dL_law_196 : decode bL_law 196 = .ok (.iconst 1, 1) := by decide +kernel
theorem dL_law_197 : decode bL_law 197 = .ok (.iadd, 1) := by decide +kernel
theorem dL_law_198 : decode bL_law 198 = .ok (.iaload, 1) := by decide +kernel
theorem dL_law_199 : decode bL_law 199 = .ok (.i2d, 1) := by decide +kernel
theorem dL_law_200 : decode bL_law 200 = .ok (.ldc2_w 71, 3) := by decide +kernel
theorem dL_law_203 : decode bL_law 203 = .ok (.dmul, 1) := by decide +kernel
theorem dL_law_204 : decode bL_law 204 = .ok (.aload_n 3, 1) := by decide +kernel
theorem dL_law_205 : decode bL_law 205 = .ok (.invokestatic 73, 3) := by decide +kernel
theorem dL_law_208 : decode bL_law 208 = .ok (.istore 6, 2) := by decide +kernel
theorem dL_law_210 : decode bL_law 210 = .ok (.aload_n 2, 1) := by decide +kernel
theorem dL_law_211 : decode bL_law 211 = .ok (.aload_n 0, 1) := by decide +kernel
theorem dL_law_212 : decode bL_law 212 = .ok (.iload 5, 2) := by decide +kernel
theorem dL_law_214 : decode bL_law 214 = .ok (.iconst 1, 1) := by decide +kernel
theorem dL_law_215 : decode bL_law 215 = .ok (.iadd, 1) := by decide +kernel
theorem dL_law_216 : decode bL_law 216 = .ok (.iaload, 1) := by decide +kernel
theorem dL_law_217 : decode bL_law 217 = .ok (.i2d, 1) := by decide +kernel
theorem dL_law_218 : decode bL_law 218 = .ok (.ldc2_w 71, 3) := by decide +kernel
theorem dL_law_221 : decode bL_law 221 = .ok (.dmul, 1) := by decide +kernel
theorem dL_law_222 : decode bL_law 222 = .ok (.invokevirtual 76, 3) := by decide +kernel
theorem dL_law_225 : decode bL_law 225 = .ok (.istore 7, 2) := by decide +kernel
theorem dL_law_227 : decode bL_law 227 = .ok (.aload_n 2, 1) := by decide +kernel
theorem dL_law_228 : decode bL_law 228 = .ok (.invokevirtual 67, 3) := by decide +kernel
theorem dL_law_231 : decode bL_law 231 = .ok (.iload 6, 2) := by decide +kernel
theorem dL_law_233 : decode bL_law 233 = .ok (.if_icmp .eq (5), 3) := by decide +kernel
theorem dL_law_236 : decode bL_law 236 = .ok (.iconst 0, 1) := by decide +kernel
theorem dL_law_237 : decode bL_law 237 = .ok (.ireturn, 1) := by decide +kernel
theorem dL_law_238 : decode bL_law 238 = .ok (.iload 6, 2) := by decide +kernel
theorem dL_law_240 : decode bL_law 240 = .ok (.ifCond .ne (15), 3) := by decide +kernel
theorem dL_law_243 : decode bL_law 243 = .ok (.aload_n 3, 1) := by decide +kernel
theorem dL_law_244 : decode bL_law 244 = .ok (.iconst 0, 1) := by decide +kernel
theorem dL_law_245 : decode bL_law 245 = .ok (.laload, 1) := by decide +kernel
theorem dL_law_246 : decode bL_law 246 = .ok (.iload 7, 2) := by decide +kernel
theorem dL_law_248 : decode bL_law 248 = .ok (.i2l, 1) := by decide +kernel
theorem dL_law_249 : decode bL_law 249 = .ok (.lcmp, 1) := by decide +kernel
theorem dL_law_250 : decode bL_law 250 = .ok (.ifCond .eq (5), 3) := by decide +kernel
theorem dL_law_253 : decode bL_law 253 = .ok (.iconst 0, 1) := by decide +kernel
theorem dL_law_254 : decode bL_law 254 = .ok (.ireturn, 1) := by decide +kernel
theorem dL_law_255 : decode bL_law 255 = .ok (.goto (521), 3) := by decide +kernel
theorem dL_law_258 : decode bL_law 258 = .ok (.aload_n 1, 1) := by decide +kernel
theorem dL_law_259 : decode bL_law 259 = .ok (.aload_n 0, 1) := by decide +kernel
theorem dL_law_260 : decode bL_law 260 = .ok (.iload 5, 2) := by decide +kernel
theorem dL_law_262 : decode bL_law 262 = .ok (.iconst 1, 1) := by decide +kernel
theorem dL_law_263 : decode bL_law 263 = .ok (.iadd, 1) := by decide +kernel
theorem dL_law_264 : decode bL_law 264 = .ok (.iaload, 1) := by decide +kernel
theorem dL_law_265 : decode bL_law 265 = .ok (.aload_n 0, 1) := by decide +kernel
theorem dL_law_266 : decode bL_law 266 = .ok (.iload 5, 2) := by decide +kernel
theorem dL_law_268 : decode bL_law 268 = .ok (.iconst 2, 1) := by decide +kernel
theorem dL_law_269 : decode bL_law 269 = .ok (.iadd, 1) := by decide +kernel
theorem dL_law_270 : decode bL_law 270 = .ok (.iaload, 1) := by decide +kernel
theorem dL_law_271 : decode bL_law 271 = .ok (.invokestatic 77, 3) := by decide +kernel
theorem dL_law_274 : decode bL_law 274 = .ok (.istore 6, 2) := by decide +kernel
theorem dL_law_276 : decode bL_law 276 = .ok (.aload_n 2, 1) := by decide +kernel
theorem dL_law_277 : decode bL_law 277 = .ok (.aload_n 0, 1) := by decide +kernel
theorem dL_law_278 : decode bL_law 278 = .ok (.iload 5, 2) := by decide +kernel
theorem dL_law_280 : decode bL_law 280 = .ok (.iconst 1, 1) := by decide +kernel
theorem dL_law_281 : decode bL_law 281 = .ok (.iadd, 1) := by decide +kernel
theorem dL_law_282 : decode bL_law 282 = .ok (.iaload, 1) := by decide +kernel
theorem dL_law_283 : decode bL_law 283 = .ok (.aload_n 0, 1) := by decide +kernel
theorem dL_law_284 : decode bL_law 284 = .ok (.iload 5, 2) := by decide +kernel
theorem dL_law_286 : decode bL_law 286 = .ok (.iconst 2, 1) := by decide +kernel
theorem dL_law_287 : decode bL_law 287 = .ok (.iadd, 1) := by decide +kernel
theorem dL_law_288 : decode bL_law 288 = .ok (.iaload, 1) := by decide +kernel
theorem dL_law_289 : decode bL_law 289 = .ok (.invokevirtual 80, 3) := by decide +kernel
theorem dL_law_292 : decode bL_law 292 = .ok (.aload_n 2, 1) := by decide +kernel
theorem dL_law_293 : decode bL_law 293 = .ok (.invokevirtual 67, 3) := by decide +kernel
theorem dL_law_296 : decode bL_law 296 = .ok (.iload 6, 2) := by decide +kernel
theorem dL_law_298 : decode bL_law 298 = .ok (.if_icmp .eq (5), 3) := by decide +kernel
theorem dL_law_301 : decode bL_law 301 = .ok (.iconst 0, 1) := by decide +kernel
theorem dL_law_302 : decode bL_law 302 = .ok (.ireturn, 1) := by decide +kernel
theorem dL_law_303 : decode bL_law 303 = .ok (.goto (473), 3) := by decide +kernel
theorem dL_law_306 : decode bL_law 306 = .ok (.aload_n 1, 1) := by decide +kernel
theorem dL_law_307 : decode bL_law 307 = .ok (.aload_n 0, 1) := by decide +kernel
theorem dL_law_308 : decode bL_law 308 = .ok (.iload 5, 2) := by decide +kernel
theorem dL_law_310 : decode bL_law 310 = .ok (.iconst 1, 1) := by decide +kernel
theorem dL_law_311 : decode bL_law 311 = .ok (.iadd, 1) := by decide +kernel
theorem dL_law_312 : decode bL_law 312 = .ok (.iaload, 1) := by decide +kernel
theorem dL_law_313 : decode bL_law 313 = .ok (.aload_n 0, 1) := by decide +kernel
theorem dL_law_314 : decode bL_law 314 = .ok (.iload 5, 2) := by decide +kernel
theorem dL_law_316 : decode bL_law 316 = .ok (.iconst 2, 1) := by decide +kernel
theorem dL_law_317 : decode bL_law 317 = .ok (.iadd, 1) := by decide +kernel
theorem dL_law_318 : decode bL_law 318 = .ok (.iaload, 1) := by decide +kernel
theorem dL_law_319 : decode bL_law 319 = .ok (.aload_n 0, 1) := by decide +kernel
theorem dL_law_320 : decode bL_law 320 = .ok (.iload 5, 2) := by decide +kernel
theorem dL_law_322 : decode bL_law 322 = .ok (.iconst 3, 1) := by decide +kernel
theorem dL_law_323 : decode bL_law 323 = .ok (.iadd, 1) := by decide +kernel
theorem dL_law_324 : decode bL_law 324 = .ok (.iaload, 1) := by decide +kernel
theorem dL_law_325 : decode bL_law 325 = .ok (.ifCond .eq (7), 3) := by decide +kernel
theorem dL_law_328 : decode bL_law 328 = .ok (.iconst 1, 1) := by decide +kernel
theorem dL_law_329 : decode bL_law 329 = .ok (.goto (4), 3) := by decide +kernel
theorem dL_law_332 : decode bL_law 332 = .ok (.iconst 0, 1) := by decide +kernel
theorem dL_law_333 : decode bL_law 333 = .ok (.invokestatic 81, 3) := by decide +kernel
theorem dL_law_336 : decode bL_law 336 = .ok (.istore 6, 2) := by decide +kernel
theorem dL_law_338 : decode bL_law 338 = .ok (.aload_n 2, 1) := by decide +kernel
theorem dL_law_339 : decode bL_law 339 = .ok (.aload_n 0, 1) := by decide +kernel
theorem dL_law_340 : decode bL_law 340 = .ok (.iload 5, 2) := by decide +kernel
theorem dL_law_342 : decode bL_law 342 = .ok (.iconst 1, 1) := by decide +kernel
theorem dL_law_343 : decode bL_law 343 = .ok (.iadd, 1) := by decide +kernel
theorem dL_law_344 : decode bL_law 344 = .ok (.iaload, 1) := by decide +kernel
theorem dL_law_345 : decode bL_law 345 = .ok (.aload_n 0, 1) := by decide +kernel
theorem dL_law_346 : decode bL_law 346 = .ok (.iload 5, 2) := by decide +kernel
theorem dL_law_348 : decode bL_law 348 = .ok (.iconst 2, 1) := by decide +kernel
theorem dL_law_349 : decode bL_law 349 = .ok (.iadd, 1) := by decide +kernel
theorem dL_law_350 : decode bL_law 350 = .ok (.iaload, 1) := by decide +kernel
theorem dL_law_351 : decode bL_law 351 = .ok (.aload_n 0, 1) := by decide +kernel
theorem dL_law_352 : decode bL_law 352 = .ok (.iload 5, 2) := by decide +kernel
theorem dL_law_354 : decode bL_law 354 = .ok (.iconst 3, 1) := by decide +kernel
theorem dL_law_355 : decode bL_law 355 = .ok (.iadd, 1) := by decide +kernel
theorem dL_law_356 : decode bL_law 356 = .ok (.iaload, 1) := by decide +kernel
theorem dL_law_357 : decode bL_law 357 = .ok (.ifCond .eq (7), 3) := by decide +kernel
theorem dL_law_360 : decode bL_law 360 = .ok (.iconst 1, 1) := by decide +kernel
theorem dL_law_361 : decode bL_law 361 = .ok (.goto (4), 3) := by decide +kernel
theorem dL_law_364 : decode bL_law 364 = .ok (.iconst 0, 1) := by decide +kernel
theorem dL_law_365 : decode bL_law 365 = .ok (.invokevirtual 84, 3) := by decide +kernel
theorem dL_law_368 : decode bL_law 368 = .ok (.aload_n 2, 1) := by decide +kernel
theorem dL_law_369 : decode bL_law 369 = .ok (.invokevirtual 67, 3) := by decide +kernel
theorem dL_law_372 : decode bL_law 372 = .ok (.iload 6, 2) := by decide +kernel
theorem dL_law_374 : decode bL_law 374 = .ok (.if_icmp .eq (5), 3) := by decide +kernel
theorem dL_law_377 : decode bL_law 377 = .ok (.iconst 0, 1) := by decide +kernel
theorem dL_law_378 : decode bL_law 378 = .ok (.ireturn, 1) := by decide +kernel
theorem dL_law_379 : decode bL_law 379 = .ok (.goto (397), 3) := by decide +kernel
theorem dL_law_382 : decode bL_law 382 = .ok (.aload_n 1, 1) := by decide +kernel
theorem dL_law_383 : decode bL_law 383 = .ok (.aload_n 0, 1) := by decide +kernel
theorem dL_law_384 : decode bL_law 384 = .ok (.iload 5, 2) := by decide +kernel
theorem dL_law_386 : decode bL_law 386 = .ok (.iconst 1, 1) := by decide +kernel
theorem dL_law_387 : decode bL_law 387 = .ok (.iadd, 1) := by decide +kernel
theorem dL_law_388 : decode bL_law 388 = .ok (.iaload, 1) := by decide +kernel
theorem dL_law_389 : decode bL_law 389 = .ok (.aload_n 0, 1) := by decide +kernel
theorem dL_law_390 : decode bL_law 390 = .ok (.iload 5, 2) := by decide +kernel
theorem dL_law_392 : decode bL_law 392 = .ok (.iconst 2, 1) := by decide +kernel
theorem dL_law_393 : decode bL_law 393 = .ok (.iadd, 1) := by decide +kernel
theorem dL_law_394 : decode bL_law 394 = .ok (.iaload, 1) := by decide +kernel
theorem dL_law_395 : decode bL_law 395 = .ok (.aload_n 0, 1) := by decide +kernel
theorem dL_law_396 : decode bL_law 396 = .ok (.iload 5, 2) := by decide +kernel
theorem dL_law_398 : decode bL_law 398 = .ok (.iconst 3, 1) := by decide +kernel
theorem dL_law_399 : decode bL_law 399 = .ok (.iadd, 1) := by decide +kernel
theorem dL_law_400 : decode bL_law 400 = .ok (.iaload, 1) := by decide +kernel
theorem dL_law_401 : decode bL_law 401 = .ok (.ifCond .eq (7), 3) := by decide +kernel
theorem dL_law_404 : decode bL_law 404 = .ok (.iconst 1, 1) := by decide +kernel
theorem dL_law_405 : decode bL_law 405 = .ok (.goto (4), 3) := by decide +kernel
theorem dL_law_408 : decode bL_law 408 = .ok (.iconst 0, 1) := by decide +kernel
theorem dL_law_409 : decode bL_law 409 = .ok (.invokestatic 85, 3) := by decide +kernel
theorem dL_law_412 : decode bL_law 412 = .ok (.istore 6, 2) := by decide +kernel
theorem dL_law_414 : decode bL_law 414 = .ok (.aload_n 2, 1) := by decide +kernel
theorem dL_law_415 : decode bL_law 415 = .ok (.aload_n 0, 1) := by decide +kernel
theorem dL_law_416 : decode bL_law 416 = .ok (.iload 5, 2) := by decide +kernel
theorem dL_law_418 : decode bL_law 418 = .ok (.iconst 1, 1) := by decide +kernel
theorem dL_law_419 : decode bL_law 419 = .ok (.iadd, 1) := by decide +kernel
theorem dL_law_420 : decode bL_law 420 = .ok (.iaload, 1) := by decide +kernel
theorem dL_law_421 : decode bL_law 421 = .ok (.aload_n 0, 1) := by decide +kernel
theorem dL_law_422 : decode bL_law 422 = .ok (.iload 5, 2) := by decide +kernel
theorem dL_law_424 : decode bL_law 424 = .ok (.iconst 2, 1) := by decide +kernel
theorem dL_law_425 : decode bL_law 425 = .ok (.iadd, 1) := by decide +kernel
theorem dL_law_426 : decode bL_law 426 = .ok (.iaload, 1) := by decide +kernel
theorem dL_law_427 : decode bL_law 427 = .ok (.aload_n 0, 1) := by decide +kernel
theorem dL_law_428 : decode bL_law 428 = .ok (.iload 5, 2) := by decide +kernel
theorem dL_law_430 : decode bL_law 430 = .ok (.iconst 3, 1) := by decide +kernel
theorem dL_law_431 : decode bL_law 431 = .ok (.iadd, 1) := by decide +kernel
theorem dL_law_432 : decode bL_law 432 = .ok (.iaload, 1) := by decide +kernel
theorem dL_law_433 : decode bL_law 433 = .ok (.ifCond .eq (7), 3) := by decide +kernel
theorem dL_law_436 : decode bL_law 436 = .ok (.iconst 1, 1) := by decide +kernel
theorem dL_law_437 : decode bL_law 437 = .ok (.goto (4), 3) := by decide +kernel
theorem dL_law_440 : decode bL_law 440 = .ok (.iconst 0, 1) := by decide +kernel
theorem dL_law_441 : decode bL_law 441 = .ok (.invokevirtual 87, 3) := by decide +kernel
theorem dL_law_444 : decode bL_law 444 = .ok (.aload_n 2, 1) := by decide +kernel
theorem dL_law_445 : decode bL_law 445 = .ok (.invokevirtual 67, 3) := by decide +kernel
theorem dL_law_448 : decode bL_law 448 = .ok (.iload 6, 2) := by decide +kernel
theorem dL_law_450 : decode bL_law 450 = .ok (.if_icmp .eq (5), 3) := by decide +kernel
theorem dL_law_453 : decode bL_law 453 = .ok (.iconst 0, 1) := by decide +kernel
theorem dL_law_454 : decode bL_law 454 = .ok (.ireturn, 1) := by decide +kernel
theorem dL_law_455 : decode bL_law 455 = .ok (.goto (321), 3) := by decide +kernel
theorem dL_law_458 : decode bL_law 458 = .ok (.aload_n 1, 1) := by decide +kernel
theorem dL_law_459 : decode bL_law 459 = .ok (.invokestatic 88, 3) := by decide +kernel
theorem dL_law_462 : decode bL_law 462 = .ok (.istore 6, 2) := by decide +kernel
theorem dL_law_464 : decode bL_law 464 = .ok (.aload_n 2, 1) := by decide +kernel
theorem dL_law_465 : decode bL_law 465 = .ok (.invokevirtual 91, 3) := by decide +kernel
theorem dL_law_468 : decode bL_law 468 = .ok (.aload_n 2, 1) := by decide +kernel
theorem dL_law_469 : decode bL_law 469 = .ok (.invokevirtual 67, 3) := by decide +kernel
theorem dL_law_472 : decode bL_law 472 = .ok (.iload 6, 2) := by decide +kernel
theorem dL_law_474 : decode bL_law 474 = .ok (.if_icmp .eq (5), 3) := by decide +kernel
theorem dL_law_477 : decode bL_law 477 = .ok (.iconst 0, 1) := by decide +kernel
theorem dL_law_478 : decode bL_law 478 = .ok (.ireturn, 1) := by decide +kernel
theorem dL_law_479 : decode bL_law 479 = .ok (.goto (297), 3) := by decide +kernel
theorem dL_law_482 : decode bL_law 482 = .ok (.aload_n 1, 1) := by decide +kernel
theorem dL_law_483 : decode bL_law 483 = .ok (.aload_n 0, 1) := by decide +kernel
theorem dL_law_484 : decode bL_law 484 = .ok (.iload 5, 2) := by decide +kernel
theorem dL_law_486 : decode bL_law 486 = .ok (.iconst 1, 1) := by decide +kernel
theorem dL_law_487 : decode bL_law 487 = .ok (.iadd, 1) := by decide +kernel
theorem dL_law_488 : decode bL_law 488 = .ok (.iaload, 1) := by decide +kernel
theorem dL_law_489 : decode bL_law 489 = .ok (.aload_n 3, 1) := by decide +kernel
theorem dL_law_490 : decode bL_law 490 = .ok (.invokestatic 92, 3) := by decide +kernel
theorem dL_law_493 : decode bL_law 493 = .ok (.istore 6, 2) := by decide +kernel
theorem dL_law_495 : decode bL_law 495 = .ok (.aload_n 2, 1) := by decide +kernel
theorem dL_law_496 : decode bL_law 496 = .ok (.aload_n 0, 1) := by decide +kernel
theorem dL_law_497 : decode bL_law 497 = .ok (.iload 5, 2) := by decide +kernel
theorem dL_law_499 : decode bL_law 499 = .ok (.iconst 1, 1) := by decide +kernel
theorem dL_law_500 : decode bL_law 500 = .ok (.iadd, 1) := by decide +kernel
theorem dL_law_501 : decode bL_law 501 = .ok (.iaload, 1) := by decide +kernel
theorem dL_law_502 : decode bL_law 502 = .ok (.invokevirtual 95, 3) := by decide +kernel
theorem dL_law_505 : decode bL_law 505 = .ok (.istore 7, 2) := by decide +kernel
theorem dL_law_507 : decode bL_law 507 = .ok (.aload_n 2, 1) := by decide +kernel
theorem dL_law_508 : decode bL_law 508 = .ok (.invokevirtual 67, 3) := by decide +kernel
theorem dL_law_511 : decode bL_law 511 = .ok (.iload 6, 2) := by decide +kernel
theorem dL_law_513 : decode bL_law 513 = .ok (.if_icmp .eq (5), 3) := by decide +kernel
theorem dL_law_516 : decode bL_law 516 = .ok (.iconst 0, 1) := by decide +kernel
theorem dL_law_517 : decode bL_law 517 = .ok (.ireturn, 1) := by decide +kernel
theorem dL_law_518 : decode bL_law 518 = .ok (.iload 6, 2) := by decide +kernel
theorem dL_law_520 : decode bL_law 520 = .ok (.ifCond .ne (15), 3) := by decide +kernel
theorem dL_law_523 : decode bL_law 523 = .ok (.aload_n 3, 1) := by decide +kernel
theorem dL_law_524 : decode bL_law 524 = .ok (.iconst 0, 1) := by decide +kernel
theorem dL_law_525 : decode bL_law 525 = .ok (.laload, 1) := by decide +kernel
theorem dL_law_526 : decode bL_law 526 = .ok (.iload 7, 2) := by decide +kernel
theorem dL_law_528 : decode bL_law 528 = .ok (.i2l, 1) := by decide +kernel
theorem dL_law_529 : decode bL_law 529 = .ok (.lcmp, 1) := by decide +kernel
theorem dL_law_530 : decode bL_law 530 = .ok (.ifCond .eq (5), 3) := by decide +kernel
theorem dL_law_533 : decode bL_law 533 = .ok (.iconst 0, 1) := by decide +kernel
theorem dL_law_534 : decode bL_law 534 = .ok (.ireturn, 1) := by decide +kernel
theorem dL_law_535 : decode bL_law 535 = .ok (.goto (241), 3) := by decide +kernel
theorem dL_law_538 : decode bL_law 538 = .ok (.aload_n 1, 1) := by decide +kernel
theorem dL_law_539 : decode bL_law 539 = .ok (.aload 4, 2) := by decide +kernel
theorem dL_law_541 : decode bL_law 541 = .ok (.invokestatic 96, 3) := by decide +kernel
theorem dL_law_544 : decode bL_law 544 = .ok (.istore 6, 2) := by decide +kernel
theorem dL_law_546 : decode bL_law 546 = .ok (.aload_n 2, 1) := by decide +kernel
theorem dL_law_547 : decode bL_law 547 = .ok (.invokevirtual 99, 3) := by decide +kernel
theorem dL_law_550 : decode bL_law 550 = .ok (.dstore 7, 2) := by decide +kernel
theorem dL_law_552 : decode bL_law 552 = .ok (.aload_n 2, 1) := by decide +kernel
theorem dL_law_553 : decode bL_law 553 = .ok (.invokevirtual 67, 3) := by decide +kernel
theorem dL_law_556 : decode bL_law 556 = .ok (.iload 6, 2) := by decide +kernel
theorem dL_law_558 : decode bL_law 558 = .ok (.if_icmp .eq (5), 3) := by decide +kernel
theorem dL_law_561 : decode bL_law 561 = .ok (.iconst 0, 1) := by decide +kernel
theorem dL_law_562 : decode bL_law 562 = .ok (.ireturn, 1) := by decide +kernel
theorem dL_law_563 : decode bL_law 563 = .ok (.iload 6, 2) := by decide +kernel
theorem dL_law_565 : decode bL_law 565 = .ok (.ifCond .ne (35), 3) := by decide +kernel
theorem dL_law_568 : decode bL_law 568 = .ok (.aload 4, 2) := by decide +kernel
theorem dL_law_570 : decode bL_law 570 = .ok (.iconst 0, 1) := by decide +kernel
theorem dL_law_571 : decode bL_law 571 = .ok (.daload, 1) := by decide +kernel
theorem dL_law_572 : decode bL_law 572 = .ok (.dload 7, 2) := by decide +kernel
theorem dL_law_574 : decode bL_law 574 = .ok (.dcmp .l, 1) := by decide +kernel
theorem dL_law_575 : decode bL_law 575 = .ok (.ifCond .eq (25), 3) := by decide +kernel
theorem dL_law_578 : decode bL_law 578 = .ok (.aload 4, 2) := by decide +kernel
theorem dL_law_580 : decode bL_law 580 = .ok (.iconst 0, 1) := by decide +kernel
theorem dL_law_581 : decode bL_law 581 = .ok (.daload, 1) := by decide +kernel
theorem dL_law_582 : decode bL_law 582 = .ok (.aload 4, 2) := by decide +kernel
theorem dL_law_584 : decode bL_law 584 = .ok (.iconst 0, 1) := by decide +kernel
theorem dL_law_585 : decode bL_law 585 = .ok (.daload, 1) := by decide +kernel
theorem dL_law_586 : decode bL_law 586 = .ok (.dcmp .l, 1) := by decide +kernel
theorem dL_law_587 : decode bL_law 587 = .ok (.ifCond .eq (11), 3) := by decide +kernel
theorem dL_law_590 : decode bL_law 590 = .ok (.dload 7, 2) := by decide +kernel
theorem dL_law_592 : decode bL_law 592 = .ok (.dload 7, 2) := by decide +kernel
theorem dL_law_594 : decode bL_law 594 = .ok (.dcmp .l, 1) := by decide +kernel
theorem dL_law_595 : decode bL_law 595 = .ok (.ifCond .ne (5), 3) := by decide +kernel
theorem dL_law_598 : decode bL_law 598 = .ok (.iconst 0, 1) := by decide +kernel
theorem dL_law_599 : decode bL_law 599 = .ok (.ireturn, 1) := by decide +kernel
theorem dL_law_600 : decode bL_law 600 = .ok (.goto (176), 3) := by decide +kernel
theorem dL_law_603 : decode bL_law 603 = .ok (.aload_n 1, 1) := by decide +kernel
theorem dL_law_604 : decode bL_law 604 = .ok (.aload_n 0, 1) := by decide +kernel
theorem dL_law_605 : decode bL_law 605 = .ok (.iload 5, 2) := by decide +kernel
theorem dL_law_607 : decode bL_law 607 = .ok (.iconst 1, 1) := by decide +kernel
theorem dL_law_608 : decode bL_law 608 = .ok (.iadd, 1) := by decide +kernel
theorem dL_law_609 : decode bL_law 609 = .ok (.iaload, 1) := by decide +kernel
theorem dL_law_610 : decode bL_law 610 = .ok (.aload_n 0, 1) := by decide +kernel
theorem dL_law_611 : decode bL_law 611 = .ok (.iload 5, 2) := by decide +kernel
theorem dL_law_613 : decode bL_law 613 = .ok (.iconst 2, 1) := by decide +kernel
theorem dL_law_614 : decode bL_law 614 = .ok (.iadd, 1) := by decide +kernel
theorem dL_law_615 : decode bL_law 615 = .ok (.iaload, 1) := by decide +kernel
theorem dL_law_616 : decode bL_law 616 = .ok (.aload_n 3, 1) := by decide +kernel
theorem dL_law_617 : decode bL_law 617 = .ok (.invokestatic 100, 3) := by decide +kernel
theorem dL_law_620 : decode bL_law 620 = .ok (.istore 6, 2) := by decide +kernel
theorem dL_law_622 : decode bL_law 622 = .ok (.aload_n 2, 1) := by decide +kernel
theorem dL_law_623 : decode bL_law 623 = .ok (.aload_n 0, 1) := by decide +kernel
theorem dL_law_624 : decode bL_law 624 = .ok (.iload 5, 2) := by decide +kernel
theorem dL_law_626 : decode bL_law 626 = .ok (.iconst 1, 1) := by decide +kernel
theorem dL_law_627 : decode bL_law 627 = .ok (.iadd, 1) := by decide +kernel
theorem dL_law_628 : decode bL_law 628 = .ok (.iaload, 1) := by decide +kernel
theorem dL_law_629 : decode bL_law 629 = .ok (.aload_n 0, 1) := by decide +kernel
theorem dL_law_630 : decode bL_law 630 = .ok (.iload 5, 2) := by decide +kernel
theorem dL_law_632 : decode bL_law 632 = .ok (.iconst 2, 1) := by decide +kernel
theorem dL_law_633 : decode bL_law 633 = .ok (.iadd, 1) := by decide +kernel
theorem dL_law_634 : decode bL_law 634 = .ok (.iaload, 1) := by decide +kernel
theorem dL_law_635 : decode bL_law 635 = .ok (.invokevirtual 103, 3) := by decide +kernel
theorem dL_law_638 : decode bL_law 638 = .ok (.istore 7, 2) := by decide +kernel
theorem dL_law_640 : decode bL_law 640 = .ok (.aload_n 2, 1) := by decide +kernel
theorem dL_law_641 : decode bL_law 641 = .ok (.invokevirtual 67, 3) := by decide +kernel
theorem dL_law_644 : decode bL_law 644 = .ok (.iload 6, 2) := by decide +kernel
theorem dL_law_646 : decode bL_law 646 = .ok (.if_icmp .eq (5), 3) := by decide +kernel
theorem dL_law_649 : decode bL_law 649 = .ok (.iconst 0, 1) := by decide +kernel
theorem dL_law_650 : decode bL_law 650 = .ok (.ireturn, 1) := by decide +kernel
theorem dL_law_651 : decode bL_law 651 = .ok (.iload 6, 2) := by decide +kernel
theorem dL_law_653 : decode bL_law 653 = .ok (.ifCond .ne (15), 3) := by decide +kernel
theorem dL_law_656 : decode bL_law 656 = .ok (.aload_n 3, 1) := by decide +kernel
theorem dL_law_657 : decode bL_law 657 = .ok (.iconst 0, 1) := by decide +kernel
theorem dL_law_658 : decode bL_law 658 = .ok (.laload, 1) := by decide +kernel
theorem dL_law_659 : decode bL_law 659 = .ok (.iload 7, 2) := by decide +kernel
theorem dL_law_661 : decode bL_law 661 = .ok (.i2l, 1) := by decide +kernel
theorem dL_law_662 : decode bL_law 662 = .ok (.lcmp, 1) := by decide +kernel
theorem dL_law_663 : decode bL_law 663 = .ok (.ifCond .eq (5), 3) := by decide +kernel
theorem dL_law_666 : decode bL_law 666 = .ok (.iconst 0, 1) := by decide +kernel
theorem dL_law_667 : decode bL_law 667 = .ok (.ireturn, 1) := by decide +kernel
theorem dL_law_668 : decode bL_law 668 = .ok (.goto (108), 3) := by decide +kernel
theorem dL_law_671 : decode bL_law 671 = .ok (.aload_n 1, 1) := by decide +kernel
theorem dL_law_672 : decode bL_law 672 = .ok (.aload_n 0, 1) := by decide +kernel
theorem dL_law_673 : decode bL_law 673 = .ok (.iload 5, 2) := by decide +kernel
theorem dL_law_675 : decode bL_law 675 = .ok (.iconst 1, 1) := by decide +kernel
theorem dL_law_676 : decode bL_law 676 = .ok (.iadd, 1) := by decide +kernel
theorem dL_law_677 : decode bL_law 677 = .ok (.iaload, 1) := by decide +kernel
theorem dL_law_678 : decode bL_law 678 = .ok (.aload_n 0, 1) := by decide +kernel
theorem dL_law_679 : decode bL_law 679 = .ok (.iload 5, 2) := by decide +kernel
theorem dL_law_681 : decode bL_law 681 = .ok (.iconst 2, 1) := by decide +kernel
theorem dL_law_682 : decode bL_law 682 = .ok (.iadd, 1) := by decide +kernel
theorem dL_law_683 : decode bL_law 683 = .ok (.iaload, 1) := by decide +kernel
theorem dL_law_684 : decode bL_law 684 = .ok (.aload_n 0, 1) := by decide +kernel
theorem dL_law_685 : decode bL_law 685 = .ok (.iload 5, 2) := by decide +kernel
theorem dL_law_687 : decode bL_law 687 = .ok (.iconst 3, 1) := by decide +kernel
theorem dL_law_688 : decode bL_law 688 = .ok (.iadd, 1) := by decide +kernel
theorem dL_law_689 : decode bL_law 689 = .ok (.iaload, 1) := by decide +kernel
theorem dL_law_690 : decode bL_law 690 = .ok (.aload_n 3, 1) := by decide +kernel
theorem dL_law_691 : decode bL_law 691 = .ok (.invokestatic 104, 3) := by decide +kernel
theorem dL_law_694 : decode bL_law 694 = .ok (.istore 6, 2) := by decide +kernel
theorem dL_law_696 : decode bL_law 696 = .ok (.aload_n 2, 1) := by decide +kernel
theorem dL_law_697 : decode bL_law 697 = .ok (.aload_n 0, 1) := by decide +kernel
theorem dL_law_698 : decode bL_law 698 = .ok (.iload 5, 2) := by decide +kernel
theorem dL_law_700 : decode bL_law 700 = .ok (.iconst 1, 1) := by decide +kernel
theorem dL_law_701 : decode bL_law 701 = .ok (.iadd, 1) := by decide +kernel
theorem dL_law_702 : decode bL_law 702 = .ok (.iaload, 1) := by decide +kernel
theorem dL_law_703 : decode bL_law 703 = .ok (.aload_n 0, 1) := by decide +kernel
theorem dL_law_704 : decode bL_law 704 = .ok (.iload 5, 2) := by decide +kernel
theorem dL_law_706 : decode bL_law 706 = .ok (.iconst 2, 1) := by decide +kernel
theorem dL_law_707 : decode bL_law 707 = .ok (.iadd, 1) := by decide +kernel
theorem dL_law_708 : decode bL_law 708 = .ok (.iaload, 1) := by decide +kernel
theorem dL_law_709 : decode bL_law 709 = .ok (.aload_n 0, 1) := by decide +kernel
theorem dL_law_710 : decode bL_law 710 = .ok (.iload 5, 2) := by decide +kernel
theorem dL_law_712 : decode bL_law 712 = .ok (.iconst 3, 1) := by decide +kernel
theorem dL_law_713 : decode bL_law 713 = .ok (.iadd, 1) := by decide +kernel
theorem dL_law_714 : decode bL_law 714 = .ok (.iaload, 1) := by decide +kernel
theorem dL_law_715 : decode bL_law 715 = .ok (.invokevirtual 107, 3) := by decide +kernel
theorem dL_law_718 : decode bL_law 718 = .ok (.istore 7, 2) := by decide +kernel
theorem dL_law_720 : decode bL_law 720 = .ok (.aload_n 2, 1) := by decide +kernel
theorem dL_law_721 : decode bL_law 721 = .ok (.invokevirtual 67, 3) := by decide +kernel
theorem dL_law_724 : decode bL_law 724 = .ok (.iload 6, 2) := by decide +kernel
theorem dL_law_726 : decode bL_law 726 = .ok (.if_icmp .eq (5), 3) := by decide +kernel
theorem dL_law_729 : decode bL_law 729 = .ok (.iconst 0, 1) := by decide +kernel
theorem dL_law_730 : decode bL_law 730 = .ok (.ireturn, 1) := by decide +kernel
theorem dL_law_731 : decode bL_law 731 = .ok (.iload 6, 2) := by decide +kernel
theorem dL_law_733 : decode bL_law 733 = .ok (.ifCond .ne (15), 3) := by decide +kernel
theorem dL_law_736 : decode bL_law 736 = .ok (.aload_n 3, 1) := by decide +kernel
theorem dL_law_737 : decode bL_law 737 = .ok (.iconst 0, 1) := by decide +kernel
theorem dL_law_738 : decode bL_law 738 = .ok (.laload, 1) := by decide +kernel
theorem dL_law_739 : decode bL_law 739 = .ok (.iload 7, 2) := by decide +kernel
theorem dL_law_741 : decode bL_law 741 = .ok (.i2l, 1) := by decide +kernel
theorem dL_law_742 : decode bL_law 742 = .ok (.lcmp, 1) := by decide +kernel
theorem dL_law_743 : decode bL_law 743 = .ok (.ifCond .eq (5), 3) := by decide +kernel
theorem dL_law_746 : decode bL_law 746 = .ok (.iconst 0, 1) := by decide +kernel
theorem dL_law_747 : decode bL_law 747 = .ok (.ireturn, 1) := by decide +kernel
theorem dL_law_748 : decode bL_law 748 = .ok (.goto (28), 3) := by decide +kernel
theorem dL_law_751 : decode bL_law 751 = .ok (.aload_n 1, 1) := by decide +kernel
theorem dL_law_752 : decode bL_law 752 = .ok (.aload_n 0, 1) := by decide +kernel
theorem dL_law_753 : decode bL_law 753 = .ok (.iload 5, 2) := by decide +kernel
theorem dL_law_755 : decode bL_law 755 = .ok (.iconst 1, 1) := by decide +kernel
theorem dL_law_756 : decode bL_law 756 = .ok (.iadd, 1) := by decide +kernel
theorem dL_law_757 : decode bL_law 757 = .ok (.iaload, 1) := by decide +kernel
theorem dL_law_758 : decode bL_law 758 = .ok (.invokevirtual 108, 3) := by decide +kernel
theorem dL_law_761 : decode bL_law 761 = .ok (.aload_n 2, 1) := by decide +kernel
theorem dL_law_762 : decode bL_law 762 = .ok (.aload_n 0, 1) := by decide +kernel
theorem dL_law_763 : decode bL_law 763 = .ok (.iload 5, 2) := by decide +kernel
theorem dL_law_765 : decode bL_law 765 = .ok (.iconst 1, 1) := by decide +kernel
theorem dL_law_766 : decode bL_law 766 = .ok (.iadd, 1) := by decide +kernel
theorem dL_law_767 : decode bL_law 767 = .ok (.iaload, 1) := by decide +kernel
theorem dL_law_768 : decode bL_law 768 = .ok (.invokevirtual 111, 3) := by decide +kernel
theorem dL_law_771 : decode bL_law 771 = .ok (.if_icmp .eq (5), 3) := by decide +kernel
theorem dL_law_774 : decode bL_law 774 = .ok (.iconst 0, 1) := by decide +kernel
theorem dL_law_775 : decode bL_law 775 = .ok (.ireturn, 1) := by decide +kernel
theorem dL_law_776 : decode bL_law 776 = .ok (.iinc 5 (4), 3) := by decide +kernel
theorem dL_law_779 : decode bL_law 779 = .ok (.goto (-751), 3) := by decide +kernel
theorem dL_law_782 : decode bL_law 782 = .ok (.iconst 1, 1) := by decide +kernel
theorem dL_law_783 : decode bL_law 783 = .ok (.ireturn, 1) := by decide +kernel
end
section
section SLOTS
variable {K : KX} {cc : ByteArray} {own : String} {tys : List (ClassId × FieldType)} {ws : va_W} {pc lv : Nat} {S : List Value} {t : List (Option Value)}
theorem ist_0 {x0 : Option Value} {v : Int32} (C : CT K cc own tys lv) (d : decode cc pc = .ok (.istore 0, 2)) (hn : 0 < kn K) (k : WA K ws (some (.int v) :: t) (pc + 2) S) : WA K ws (x0 :: t) pc (.int v :: S) := a_ist C d hn rfl (Or.inr rfl) k
theorem istn_0 {x0 : Option Value} {v : Int32} (C : CT K cc own tys lv) (d : decode cc pc = .ok (.istore_n 0, 1)) (hn : 0 < kn K) (k : WA K ws (some (.int v) :: t) (pc + 1) S) : WA K ws (x0 :: t) pc (.int v :: S) := a_istn C d rfl hn rfl (Or.inr rfl) k
theorem ast_0 {x0 : Option Value} {v : Nat} (C : CT K cc own tys lv) (d : decode cc pc = .ok (.astore 0, 2)) (hn : 0 < kn K) (k : WA K ws (some (.ref v) :: t) (pc + 2) S) : WA K ws (x0 :: t) pc (.ref v :: S) := a_ast C d hn rfl (Or.inr rfl) k
theorem astn_0 {x0 : Option Value} {v : Nat} (C : CT K cc own tys lv) (d : decode cc pc = .ok (.astore_n 0, 1)) (hn : 0 < kn K) (k : WA K ws (some (.ref v) :: t) (pc + 1) S) : WA K ws (x0 :: t) pc (.ref v :: S) := a_astn C d rfl hn rfl (Or.inr rfl) k
theorem lst_0 {x0 y : Option Value} {v : Int64} (C : CT K cc own tys lv) (d : decode cc pc = .ok (.lstore 0, 2)) (hn : 0 + 1 < kn K) (k : WA K ws (some (.long v) :: none :: t) (pc + 2) S) : WA K ws (x0 :: y :: t) pc (.long v :: S) := a_lst C d hn rfl (Or.inr rfl) k
theorem lstn_0 {x0 y : Option Value} {v : Int64} (C : CT K cc own tys lv) (d : decode cc pc = .ok (.lstore_n 0, 1)) (hn : 0 + 1 < kn K) (k : WA K ws (some (.long v) :: none :: t) (pc + 1) S) : WA K ws (x0 :: y :: t) pc (.long v :: S) := a_lstn C d rfl hn rfl (Or.inr rfl) k
theorem dst_0 {x0 y : Option Value} {v : UInt64} (C : CT K cc own tys lv) (d : decode cc pc = .ok (.dstore 0, 2)) (hn : 0 + 1 < kn K) (k : WA K ws (some (.double v) :: none :: t) (pc + 2) S) : WA K ws (x0 :: y :: t) pc (.double v :: S) := a_dst C d hn rfl (Or.inr rfl) k
theorem dstn_0 {x0 y : Option Value} {v : UInt64} (C : CT K cc own tys lv) (d : decode cc pc = .ok (.dstore_n 0, 1)) (hn : 0 + 1 < kn K) (k : WA K ws (some (.double v) :: none :: t) (pc + 1) S) : WA K ws (x0 :: y :: t) pc (.double v :: S) := a_dstn C d rfl hn rfl (Or.inr rfl) k
theorem inc_0 {x0 : Option Value} {n : Int} {a v : Nat} (C : CT K cc own tys lv) (d : decode cc pc = .ok (.iinc 0 n, 3)) (hx : x0 = some (.int (nI a))) (hv : nI a + Int32.ofInt n = nI v) (hn : 0 < kn K) (k : WA K ws (some (.int (nI v)) :: t) (pc + 3) S) : WA K ws (x0 :: t) pc S := a_iinc C d (by rw [hx]; rfl) hv hn rfl (Or.inr rfl) k
theorem ist_1 {x0 x1 : Option Value} {v : Int32} (C : CT K cc own tys lv) (d : decode cc pc = .ok (.istore 1, 2)) (hn : 1 < kn K) (hc : c1 x0 = true) (k : WA K ws (x0 :: some (.int v) :: t) (pc + 2) S) : WA K ws (x0 :: x1 :: t) pc (.int v :: S) := a_ist C d hn rfl (Or.inl hc) k
theorem istn_1 {x0 x1 : Option Value} {v : Int32} (C : CT K cc own tys lv) (d : decode cc pc = .ok (.istore_n 1, 1)) (hn : 1 < kn K) (hc : c1 x0 = true) (k : WA K ws (x0 :: some (.int v) :: t) (pc + 1) S) : WA K ws (x0 :: x1 :: t) pc (.int v :: S) := a_istn C d rfl hn rfl (Or.inl hc) k
theorem ast_1 {x0 x1 : Option Value} {v : Nat} (C : CT K cc own tys lv) (d : decode cc pc = .ok (.astore 1, 2)) (hn : 1 < kn K) (hc : c1 x0 = true) (k : WA K ws (x0 :: some (.ref v) :: t) (pc + 2) S) : WA K ws (x0 :: x1 :: t) pc (.ref v :: S) := a_ast C d hn rfl (Or.inl hc) k
theorem astn_1 {x0 x1 : Option Value} {v : Nat} (C : CT K cc own tys lv) (d : decode cc pc = .ok (.astore_n 1, 1)) (hn : 1 < kn K) (hc : c1 x0 = true) (k : WA K ws (x0 :: some (.ref v) :: t) (pc + 1) S) : WA K ws (x0 :: x1 :: t) pc (.ref v :: S) := a_astn C d rfl hn rfl (Or.inl hc) k
theorem lst_1 {x0 x1 y : Option Value} {v : Int64} (C : CT K cc own tys lv) (d : decode cc pc = .ok (.lstore 1, 2)) (hn : 1 + 1 < kn K) (hc : c1 x0 = true) (k : WA K ws (x0 :: some (.long v) :: none :: t) (pc + 2) S) : WA K ws (x0 :: x1 :: y :: t) pc (.long v :: S) := a_lst C d hn rfl (Or.inl hc) k
theorem lstn_1 {x0 x1 y : Option Value} {v : Int64} (C : CT K cc own tys lv) (d : decode cc pc = .ok (.lstore_n 1, 1)) (hn : 1 + 1 < kn K) (hc : c1 x0 = true) (k : WA K ws (x0 :: some (.long v) :: none :: t) (pc + 1) S) : WA K ws (x0 :: x1 :: y :: t) pc (.long v :: S) := a_lstn C d rfl hn rfl (Or.inl hc) k
theorem dst_1 {x0 x1 y : Option Value} {v : UInt64} (C : CT K cc own tys lv) (d : decode cc pc = .ok (.dstore 1, 2)) (hn : 1 + 1 < kn K) (hc : c1 x0 = true) (k : WA K ws (x0 :: some (.double v) :: none :: t) (pc + 2) S) : WA K ws (x0 :: x1 :: y :: t) pc (.double v :: S) := a_dst C d hn rfl (Or.inl hc) k
theorem dstn_1 {x0 x1 y : Option Value} {v : UInt64} (C : CT K cc own tys lv) (d : decode cc pc = .ok (.dstore_n 1, 1)) (hn : 1 + 1 < kn K) (hc : c1 x0 = true) (k : WA K ws (x0 :: some (.double v) :: none :: t) (pc + 1) S) : WA K ws (x0 :: x1 :: y :: t) pc (.double v :: S) := a_dstn C d rfl hn rfl (Or.inl hc) k
theorem inc_1 {x0 x1 : Option Value} {n : Int} {a v : Nat} (C : CT K cc own tys lv) (d : decode cc pc = .ok (.iinc 1 n, 3)) (hx : x1 = some (.int (nI a))) (hv : nI a + Int32.ofInt n = nI v) (hn : 1 < kn K) (hc : c1 x0 = true) (k : WA K ws (x0 :: some (.int (nI v)) :: t) (pc + 3) S) : WA K ws (x0 :: x1 :: t) pc S := a_iinc C d (by rw [hx]; rfl) hv hn rfl (Or.inl hc) k
theorem ist_2 {x0 x1 x2 : Option Value} {v : Int32} (C : CT K cc own tys lv) (d : decode cc pc = .ok (.istore 2, 2)) (hn : 2 < kn K) (hc : c1 x1 = true) (k : WA K ws (x0 :: x1 :: some (.int v) :: t) (pc + 2) S) : WA K ws (x0 :: x1 :: x2 :: t) pc (.int v :: S) := a_ist C d hn rfl (Or.inl hc) k
theorem istn_2 {x0 x1 x2 : Option Value} {v : Int32} (C : CT K cc own tys lv) (d : decode cc pc = .ok (.istore_n 2, 1)) (hn : 2 < kn K) (hc : c1 x1 = true) (k : WA K ws (x0 :: x1 :: some (.int v) :: t) (pc + 1) S) : WA K ws (x0 :: x1 :: x2 :: t) pc (.int v :: S) := a_istn C d rfl hn rfl (Or.inl hc) k
theorem ast_2 {x0 x1 x2 : Option Value} {v : Nat} (C : CT K cc own tys lv) (d : decode cc pc = .ok (.astore 2, 2)) (hn : 2 < kn K) (hc : c1 x1 = true) (k : WA K ws (x0 :: x1 :: some (.ref v) :: t) (pc + 2) S) : WA K ws (x0 :: x1 :: x2 :: t) pc (.ref v :: S) := a_ast C d hn rfl (Or.inl hc) k
theorem astn_2 {x0 x1 x2 : Option Value} {v : Nat} (C : CT K cc own tys lv) (d : decode cc pc = .ok (.astore_n 2, 1)) (hn : 2 < kn K) (hc : c1 x1 = true) (k : WA K ws (x0 :: x1 :: some (.ref v) :: t) (pc + 1) S) : WA K ws (x0 :: x1 :: x2 :: t) pc (.ref v :: S) := a_astn C d rfl hn rfl (Or.inl hc) k
theorem lst_2 {x0 x1 x2 y : Option Value} {v : Int64} (C : CT K cc own tys lv) (d : decode cc pc = .ok (.lstore 2, 2)) (hn : 2 + 1 < kn K) (hc : c1 x1 = true) (k : WA K ws (x0 :: x1 :: some (.long v) :: none :: t) (pc + 2) S) : WA K ws (x0 :: x1 :: x2 :: y :: t) pc (.long v :: S) := a_lst C d hn rfl (Or.inl hc) k
theorem lstn_2 {x0 x1 x2 y : Option Value} {v : Int64} (C : CT K cc own tys lv) (d : decode cc pc = .ok (.lstore_n 2, 1)) (hn : 2 + 1 < kn K) (hc : c1 x1 = true) (k : WA K ws (x0 :: x1 :: some (.long v) :: none :: t) (pc + 1) S) : WA K ws (x0 :: x1 :: x2 :: y :: t) pc (.long v :: S) := a_lstn C d rfl hn rfl (Or.inl hc) k
theorem dst_2 {x0 x1 x2 y : Option Value} {v : UInt64} (C : CT K cc own tys lv) (d : decode cc pc = .ok (.dstore 2, 2)) (hn : 2 + 1 < kn K) (hc : c1 x1 = true) (k : WA K ws (x0 :: x1 :: some (.double v) :: none :: t) (pc + 2) S) : WA K ws (x0 :: x1 :: x2 :: y :: t) pc (.double v :: S) := a_dst C d hn rfl (Or.inl hc) k
theorem dstn_2 {x0 x1 x2 y : Option Value} {v : UInt64} (C : CT K cc own tys lv) (d : decode cc pc = .ok (.dstore_n 2, 1)) (hn : 2 + 1 < kn K) (hc : c1 x1 = true) (k : WA K ws (x0 :: x1 :: some (.double v) :: none :: t) (pc + 1) S) : WA K ws (x0 :: x1 :: x2 :: y :: t) pc (.double v :: S) := a_dstn C d rfl hn rfl (Or.inl hc) k
theorem inc_2 {x0 x1 x2 : Option Value} {n : Int} {a v : Nat} (C : CT K cc own tys lv) (d : decode cc pc = .ok (.iinc 2 n, 3)) (hx : x2 = some (.int (nI a))) (hv : nI a + Int32.ofInt n = nI v) (hn : 2 < kn K) (hc : c1 x1 = true) (k : WA K ws (x0 :: x1 :: some (.int (nI v)) :: t) (pc + 3) S) : WA K ws (x0 :: x1 :: x2 :: t) pc S := a_iinc C d (by rw [hx]; rfl) hv hn rfl (Or.inl hc) k
theorem ist_3 {x0 x1 x2 x3 : Option Value} {v : Int32} (C : CT K cc own tys lv) (d : decode cc pc = .ok (.istore 3, 2)) (hn : 3 < kn K) (hc : c1 x2 = true) (k : WA K ws (x0 :: x1 :: x2 :: some (.int v) :: t) (pc + 2) S) : WA K ws (x0 :: x1 :: x2 :: x3 :: t) pc (.int v :: S) := a_ist C d hn rfl (Or.inl hc) k
theorem istn_3 {x0 x1 x2 x3 : Option Value} {v : Int32} (C : CT K cc own tys lv) (d : decode cc pc = .ok (.istore_n 3, 1)) (hn : 3 < kn K) (hc : c1 x2 = true) (k : WA K ws (x0 :: x1 :: x2 :: some (.int v) :: t) (pc + 1) S) : WA K ws (x0 :: x1 :: x2 :: x3 :: t) pc (.int v :: S) := a_istn C d rfl hn rfl (Or.inl hc) k
theorem ast_3 {x0 x1 x2 x3 : Option Value} {v : Nat} (C : CT K cc own tys lv) (d : decode cc pc = .ok (.astore 3, 2)) (hn : 3 < kn K) (hc : c1 x2 = true) (k : WA K ws (x0 :: x1 :: x2 :: some (.ref v) :: t) (pc + 2) S) : WA K ws (x0 :: x1 :: x2 :: x3 :: t) pc (.ref v :: S) := a_ast C d hn rfl (Or.inl hc) k
theorem astn_3 {x0 x1 x2 x3 : Option Value} {v : Nat} (C : CT K cc own tys lv) (d : decode cc pc = .ok (.astore_n 3, 1)) (hn : 3 < kn K) (hc : c1 x2 = true) (k : WA K ws (x0 :: x1 :: x2 :: some (.ref v) :: t) (pc + 1) S) : WA K ws (x0 :: x1 :: x2 :: x3 :: t) pc (.ref v :: S) := a_astn C d rfl hn rfl (Or.inl hc) k
theorem lst_3 {x0 x1 x2 x3 y : Option Value} {v : Int64} (C : CT K cc own tys lv) (d : decode cc pc = .ok (.lstore 3, 2)) (hn : 3 + 1 < kn K) (hc : c1 x2 = true) (k : WA K ws (x0 :: x1 :: x2 :: some (.long v) :: none :: t) (pc + 2) S) : WA K ws (x0 :: x1 :: x2 :: x3 :: y :: t) pc (.long v :: S) := a_lst C d hn rfl (Or.inl hc) k
theorem lstn_3 {x0 x1 x2 x3 y : Option Value} {v : Int64} (C : CT K cc own tys lv) (d : decode cc pc = .ok (.lstore_n 3, 1)) (hn : 3 + 1 < kn K) (hc : c1 x2 = true) (k : WA K ws (x0 :: x1 :: x2 :: some (.long v) :: none :: t) (pc + 1) S) : WA K ws (x0 :: x1 :: x2 :: x3 :: y :: t) pc (.long v :: S) := a_lstn C d rfl hn rfl (Or.inl hc) k
theorem dst_3 {x0 x1 x2 x3 y : Option Value} {v : UInt64} (C : CT K cc own tys lv) (d : decode cc pc = .ok (.dstore 3, 2)) (hn : 3 + 1 < kn K) (hc : c1 x2 = true) (k : WA K ws (x0 :: x1 :: x2 :: some (.double v) :: none :: t) (pc + 2) S) : WA K ws (x0 :: x1 :: x2 :: x3 :: y :: t) pc (.double v :: S) := a_dst C d hn rfl (Or.inl hc) k
theorem dstn_3 {x0 x1 x2 x3 y : Option Value} {v : UInt64} (C : CT K cc own tys lv) (d : decode cc pc = .ok (.dstore_n 3, 1)) (hn : 3 + 1 < kn K) (hc : c1 x2 = true) (k : WA K ws (x0 :: x1 :: x2 :: some (.double v) :: none :: t) (pc + 1) S) : WA K ws (x0 :: x1 :: x2 :: x3 :: y :: t) pc (.double v :: S) := a_dstn C d rfl hn rfl (Or.inl hc) k
theorem inc_3 {x0 x1 x2 x3 : Option Value} {n : Int} {a v : Nat} (C : CT K cc own tys lv) (d : decode cc pc = .ok (.iinc 3 n, 3)) (hx : x3 = some (.int (nI a))) (hv : nI a + Int32.ofInt n = nI v) (hn : 3 < kn K) (hc : c1 x2 = true) (k : WA K ws (x0 :: x1 :: x2 :: some (.int (nI v)) :: t) (pc + 3) S) : WA K ws (x0 :: x1 :: x2 :: x3 :: t) pc S := a_iinc C d (by rw [hx]; rfl) hv hn rfl (Or.inl hc) k
theorem ist_4 {x0 x1 x2 x3 x4 : Option Value} {v : Int32} (C : CT K cc own tys lv) (d : decode cc pc = .ok (.istore 4, 2)) (hn : 4 < kn K) (hc : c1 x3 = true) (k : WA K ws (x0 :: x1 :: x2 :: x3 :: some (.int v) :: t) (pc + 2) S) : WA K ws (x0 :: x1 :: x2 :: x3 :: x4 :: t) pc (.int v :: S) := a_ist C d hn rfl (Or.inl hc) k
theorem ast_4 {x0 x1 x2 x3 x4 : Option Value} {v : Nat} (C : CT K cc own tys lv) (d : decode cc pc = .ok (.astore 4, 2)) (hn : 4 < kn K) (hc : c1 x3 = true) (k : WA K ws (x0 :: x1 :: x2 :: x3 :: some (.ref v) :: t) (pc + 2) S) : WA K ws (x0 :: x1 :: x2 :: x3 :: x4 :: t) pc (.ref v :: S) := a_ast C d hn rfl (Or.inl hc) k
theorem lst_4 {x0 x1 x2 x3 x4 y : Option Value} {v : Int64} (C : CT K cc own tys lv) (d : decode cc pc = .ok (.lstore 4, 2)) (hn : 4 + 1 < kn K) (hc : c1 x3 = true) (k : WA K ws (x0 :: x1 :: x2 :: x3 :: some (.long v) :: none :: t) (pc + 2) S) : WA K ws (x0 :: x1 :: x2 :: x3 :: x4 :: y :: t) pc (.long v :: S) := a_lst C d hn rfl (Or.inl hc) k
theorem dst_4 {x0 x1 x2 x3 x4 y : Option Value} {v : UInt64} (C : CT K cc own tys lv) (d : decode cc pc = .ok (.dstore 4, 2)) (hn : 4 + 1 < kn K) (hc : c1 x3 = true) (k : WA K ws (x0 :: x1 :: x2 :: x3 :: some (.double v) :: none :: t) (pc + 2) S) : WA K ws (x0 :: x1 :: x2 :: x3 :: x4 :: y :: t) pc (.double v :: S) := a_dst C d hn rfl (Or.inl hc) k
theorem inc_4 {x0 x1 x2 x3 x4 : Option Value} {n : Int} {a v : Nat} (C : CT K cc own tys lv) (d : decode cc pc = .ok (.iinc 4 n, 3)) (hx : x4 = some (.int (nI a))) (hv : nI a + Int32.ofInt n = nI v) (hn : 4 < kn K) (hc : c1 x3 = true) (k : WA K ws (x0 :: x1 :: x2 :: x3 :: some (.int (nI v)) :: t) (pc + 3) S) : WA K ws (x0 :: x1 :: x2 :: x3 :: x4 :: t) pc S := a_iinc C d (by rw [hx]; rfl) hv hn rfl (Or.inl hc) k
theorem ist_5 {x0 x1 x2 x3 x4 x5 : Option Value} {v : Int32} (C : CT K cc own tys lv) (d : decode cc pc = .ok (.istore 5, 2)) (hn : 5 < kn K) (hc : c1 x4 = true) (k : WA K ws (x0 :: x1 :: x2 :: x3 :: x4 :: some (.int v) :: t) (pc + 2) S) : WA K ws (x0 :: x1 :: x2 :: x3 :: x4 :: x5 :: t) pc (.int v :: S) := a_ist C d hn rfl (Or.inl hc) k
theorem ast_5 {x0 x1 x2 x3 x4 x5 : Option Value} {v : Nat} (C : CT K cc own tys lv) (d : decode cc pc = .ok (.astore 5, 2)) (hn : 5 < kn K) (hc : c1 x4 = true) (k : WA K ws (x0 :: x1 :: x2 :: x3 :: x4 :: some (.ref v) :: t) (pc + 2) S) : WA K ws (x0 :: x1 :: x2 :: x3 :: x4 :: x5 :: t) pc (.ref v :: S) := a_ast C d hn rfl (Or.inl hc) k
theorem lst_5 {x0 x1 x2 x3 x4 x5 y : Option Value} {v : Int64} (C : CT K cc own tys lv) (d : decode cc pc = .ok (.lstore 5, 2)) (hn : 5 + 1 < kn K) (hc : c1 x4 = true) (k : WA K ws (x0 :: x1 :: x2 :: x3 :: x4 :: some (.long v) :: none :: t) (pc + 2) S) : WA K ws (x0 :: x1 :: x2 :: x3 :: x4 :: x5 :: y :: t) pc (.long v :: S) := a_lst C d hn rfl (Or.inl hc) k
theorem dst_5 {x0 x1 x2 x3 x4 x5 y : Option Value} {v : UInt64} (C : CT K cc own tys lv) (d : decode cc pc = .ok (.dstore 5, 2)) (hn : 5 + 1 < kn K) (hc : c1 x4 = true) (k : WA K ws (x0 :: x1 :: x2 :: x3 :: x4 :: some (.double v) :: none :: t) (pc + 2) S) : WA K ws (x0 :: x1 :: x2 :: x3 :: x4 :: x5 :: y :: t) pc (.double v :: S) := a_dst C d hn rfl (Or.inl hc) k
theorem inc_5 {x0 x1 x2 x3 x4 x5 : Option Value} {n : Int} {a v : Nat} (C : CT K cc own tys lv) (d : decode cc pc = .ok (.iinc 5 n, 3)) (hx : x5 = some (.int (nI a))) (hv : nI a + Int32.ofInt n = nI v) (hn : 5 < kn K) (hc : c1 x4 = true) (k : WA K ws (x0 :: x1 :: x2 :: x3 :: x4 :: some (.int (nI v)) :: t) (pc + 3) S) : WA K ws (x0 :: x1 :: x2 :: x3 :: x4 :: x5 :: t) pc S := a_iinc C d (by rw [hx]; rfl) hv hn rfl (Or.inl hc) k
theorem ist_6 {x0 x1 x2 x3 x4 x5 x6 : Option Value} {v : Int32} (C : CT K cc own tys lv) (d : decode cc pc = .ok (.istore 6, 2)) (hn : 6 < kn K) (hc : c1 x5 = true) (k : WA K ws (x0 :: x1 :: x2 :: x3 :: x4 :: x5 :: some (.int v) :: t) (pc + 2) S) : WA K ws (x0 :: x1 :: x2 :: x3 :: x4 :: x5 :: x6 :: t) pc (.int v :: S) := a_ist C d hn rfl (Or.inl hc) k
theorem ast_6 {x0 x1 x2 x3 x4 x5 x6 : Option Value} {v : Nat} (C : CT K cc own tys lv) (d : decode cc pc = .ok (.astore 6, 2)) (hn : 6 < kn K) (hc : c1 x5 = true) (k : WA K ws (x0 :: x1 :: x2 :: x3 :: x4 :: x5 :: some (.ref v) :: t) (pc + 2) S) : WA K ws (x0 :: x1 :: x2 :: x3 :: x4 :: x5 :: x6 :: t) pc (.ref v :: S) := a_ast C d hn rfl (Or.inl hc) k
theorem lst_6 {x0 x1 x2 x3 x4 x5 x6 y : Option Value} {v : Int64} (C : CT K cc own tys lv) (d : decode cc pc = .ok (.lstore 6, 2)) (hn : 6 + 1 < kn K) (hc : c1 x5 = true) (k : WA K ws (x0 :: x1 :: x2 :: x3 :: x4 :: x5 :: some (.long v) :: none :: t) (pc + 2) S) : WA K ws (x0 :: x1 :: x2 :: x3 :: x4 :: x5 :: x6 :: y :: t) pc (.long v :: S) := a_lst C d hn rfl (Or.inl hc) k
theorem dst_6 {x0 x1 x2 x3 x4 x5 x6 y : Option Value} {v : UInt64} (C : CT K cc own tys lv) (d : decode cc pc = .ok (.dstore 6, 2)) (hn : 6 + 1 < kn K) (hc : c1 x5 = true) (k : WA K ws (x0 :: x1 :: x2 :: x3 :: x4 :: x5 :: some (.double v) :: none :: t) (pc + 2) S) : WA K ws (x0 :: x1 :: x2 :: x3 :: x4 :: x5 :: x6 :: y :: t) pc (.double v :: S) := a_dst C d hn rfl (Or.inl hc) k
theorem inc_6 {x0 x1 x2 x3 x4 x5 x6 : Option Value} {n : Int} {a v : Nat} (C : CT K cc own tys lv) (d : decode cc pc = .ok (.iinc 6 n, 3)) (hx : x6 = some (.int (nI a))) (hv : nI a + Int32.ofInt n = nI v) (hn : 6 < kn K) (hc : c1 x5 = true) (k : WA K ws (x0 :: x1 :: x2 :: x3 :: x4 :: x5 :: some (.int (nI v)) :: t) (pc + 3) S) : WA K ws (x0 :: x1 :: x2 :: x3 :: x4 :: x5 :: x6 :: t) pc S := a_iinc C d (by rw [hx]; rfl) hv hn rfl (Or.inl hc) k
theorem ist_7 {x0 x1 x2 x3 x4 x5 x6 x7 : Option Value} {v : Int32} (C : CT K cc own tys lv) (d : decode cc pc = .ok (.istore 7, 2)) (hn : 7 < kn K) (hc : c1 x6 = true) (k : WA K ws (x0 :: x1 :: x2 :: x3 :: x4 :: x5 :: x6 :: some (.int v) :: t) (pc + 2) S) : WA K ws (x0 :: x1 :: x2 :: x3 :: x4 :: x5 :: x6 :: x7 :: t) pc (.int v :: S) := a_ist C d hn rfl (Or.inl hc) k
theorem ast_7 {x0 x1 x2 x3 x4 x5 x6 x7 : Option Value} {v : Nat} (C : CT K cc own tys lv) (d : decode cc pc = .ok (.astore 7, 2)) (hn : 7 < kn K) (hc : c1 x6 = true) (k : WA K ws (x0 :: x1 :: x2 :: x3 :: x4 :: x5 :: x6 :: some (.ref v) :: t) (pc + 2) S) : WA K ws (x0 :: x1 :: x2 :: x3 :: x4 :: x5 :: x6 :: x7 :: t) pc (.ref v :: S) := a_ast C d hn rfl (Or.inl hc) k
theorem lst_7 {x0 x1 x2 x3 x4 x5 x6 x7 y : Option Value} {v : Int64} (C : CT K cc own tys lv) (d : decode cc pc = .ok (.lstore 7, 2)) (hn : 7 + 1 < kn K) (hc : c1 x6 = true) (k : WA K ws (x0 :: x1 :: x2 :: x3 :: x4 :: x5 :: x6 :: some (.long v) :: none :: t) (pc + 2) S) : WA K ws (x0 :: x1 :: x2 :: x3 :: x4 :: x5 :: x6 :: x7 :: y :: t) pc (.long v :: S) := a_lst C d hn rfl (Or.inl hc) k
theorem dst_7 {x0 x1 x2 x3 x4 x5 x6 x7 y : Option Value} {v : UInt64} (C : CT K cc own tys lv) (d : decode cc pc = .ok (.dstore 7, 2)) (hn : 7 + 1 < kn K) (hc : c1 x6 = true) (k : WA K ws (x0 :: x1 :: x2 :: x3 :: x4 :: x5 :: x6 :: some (.double v) :: none :: t) (pc + 2) S) : WA K ws (x0 :: x1 :: x2 :: x3 :: x4 :: x5 :: x6 :: x7 :: y :: t) pc (.double v :: S) := a_dst C d hn rfl (Or.inl hc) k
theorem inc_7 {x0 x1 x2 x3 x4 x5 x6 x7 : Option Value} {n : Int} {a v : Nat} (C : CT K cc own tys lv) (d : decode cc pc = .ok (.iinc 7 n, 3)) (hx : x7 = some (.int (nI a))) (hv : nI a + Int32.ofInt n = nI v) (hn : 7 < kn K) (hc : c1 x6 = true) (k : WA K ws (x0 :: x1 :: x2 :: x3 :: x4 :: x5 :: x6 :: some (.int (nI v)) :: t) (pc + 3) S) : WA K ws (x0 :: x1 :: x2 :: x3 :: x4 :: x5 :: x6 :: x7 :: t) pc S := a_iinc C d (by rw [hx]; rfl) hv hn rfl (Or.inl hc) k
theorem ist_8 {x0 x1 x2 x3 x4 x5 x6 x7 x8 : Option Value} {v : Int32} (C : CT K cc own tys lv) (d : decode cc pc = .ok (.istore 8, 2)) (hn : 8 < kn K) (hc : c1 x7 = true) (k : WA K ws (x0 :: x1 :: x2 :: x3 :: x4 :: x5 :: x6 :: x7 :: some (.int v) :: t) (pc + 2) S) : WA K ws (x0 :: x1 :: x2 :: x3 :: x4 :: x5 :: x6 :: x7 :: x8 :: t) pc (.int v :: S) := a_ist C d hn rfl (Or.inl hc) k
theorem ast_8 {x0 x1 x2 x3 x4 x5 x6 x7 x8 : Option Value} {v : Nat} (C : CT K cc own tys lv) (d : decode cc pc = .ok (.astore 8, 2)) (hn : 8 < kn K) (hc : c1 x7 = true) (k : WA K ws (x0 :: x1 :: x2 :: x3 :: x4 :: x5 :: x6 :: x7 :: some (.ref v) :: t) (pc + 2) S) : WA K ws (x0 :: x1 :: x2 :: x3 :: x4 :: x5 :: x6 :: x7 :: x8 :: t) pc (.ref v :: S) := a_ast C d hn rfl (Or.inl hc) k
theorem lst_8 {x0 x1 x2 x3 x4 x5 x6 x7 x8 y : Option Value} {v : Int64} (C : CT K cc own tys lv) (d : decode cc pc = .ok (.lstore 8, 2)) (hn : 8 + 1 < kn K) (hc : c1 x7 = true) (k : WA K ws (x0 :: x1 :: x2 :: x3 :: x4 :: x5 :: x6 :: x7 :: some (.long v) :: none :: t) (pc + 2) S) : WA K ws (x0 :: x1 :: x2 :: x3 :: x4 :: x5 :: x6 :: x7 :: x8 :: y :: t) pc (.long v :: S) := a_lst C d hn rfl (Or.inl hc) k
theorem dst_8 {x0 x1 x2 x3 x4 x5 x6 x7 x8 y : Option Value} {v : UInt64} (C : CT K cc own tys lv) (d : decode cc pc = .ok (.dstore 8, 2)) (hn : 8 + 1 < kn K) (hc : c1 x7 = true) (k : WA K ws (x0 :: x1 :: x2 :: x3 :: x4 :: x5 :: x6 :: x7 :: some (.double v) :: none :: t) (pc + 2) S) : WA K ws (x0 :: x1 :: x2 :: x3 :: x4 :: x5 :: x6 :: x7 :: x8 :: y :: t) pc (.double v :: S) := a_dst C d hn rfl (Or.inl hc) k
theorem inc_8 {x0 x1 x2 x3 x4 x5 x6 x7 x8 : Option Value} {n : Int} {a v : Nat} (C : CT K cc own tys lv) (d : decode cc pc = .ok (.iinc 8 n, 3)) (hx : x8 = some (.int (nI a))) (hv : nI a + Int32.ofInt n = nI v) (hn : 8 < kn K) (hc : c1 x7 = true) (k : WA K ws (x0 :: x1 :: x2 :: x3 :: x4 :: x5 :: x6 :: x7 :: some (.int (nI v)) :: t) (pc + 3) S) : WA K ws (x0 :: x1 :: x2 :: x3 :: x4 :: x5 :: x6 :: x7 :: x8 :: t) pc S := a_iinc C d (by rw [hx]; rfl) hv hn rfl (Or.inl hc) k
theorem ist_9 {x0 x1 x2 x3 x4 x5 x6 x7 x8 x9 : Option Value} {v : Int32} (C : CT K cc own tys lv) (d : decode cc pc = .ok (.istore 9, 2)) (hn : 9 < kn K) (hc : c1 x8 = true) (k : WA K ws (x0 :: x1 :: x2 :: x3 :: x4 :: x5 :: x6 :: x7 :: x8 :: some (.int v) :: t) (pc + 2) S) : WA K ws (x0 :: x1 :: x2 :: x3 :: x4 :: x5 :: x6 :: x7 :: x8 :: x9 :: t) pc (.int v :: S) := a_ist C d hn rfl (Or.inl hc) k
theorem ast_9 {x0 x1 x2 x3 x4 x5 x6 x7 x8 x9 : Option Value} {v : Nat} (C : CT K cc own tys lv) (d : decode cc pc = .ok (.astore 9, 2)) (hn : 9 < kn K) (hc : c1 x8 = true) (k : WA K ws (x0 :: x1 :: x2 :: x3 :: x4 :: x5 :: x6 :: x7 :: x8 :: some (.ref v) :: t) (pc + 2) S) : WA K ws (x0 :: x1 :: x2 :: x3 :: x4 :: x5 :: x6 :: x7 :: x8 :: x9 :: t) pc (.ref v :: S) := a_ast C d hn rfl (Or.inl hc) k
theorem lst_9 {x0 x1 x2 x3 x4 x5 x6 x7 x8 x9 y : Option Value} {v : Int64} (C : CT K cc own tys lv) (d : decode cc pc = .ok (.lstore 9, 2)) (hn : 9 + 1 < kn K) (hc : c1 x8 = true) (k : WA K ws (x0 :: x1 :: x2 :: x3 :: x4 :: x5 :: x6 :: x7 :: x8 :: some (.long v) :: none :: t) (pc + 2) S) : WA K ws (x0 :: x1 :: x2 :: x3 :: x4 :: x5 :: x6 :: x7 :: x8 :: x9 :: y :: t) pc (.long v :: S) := a_lst C d hn rfl (Or.inl hc) k
theorem dst_9 {x0 x1 x2 x3 x4 x5 x6 x7 x8 x9 y : Option Value} {v : UInt64} (C : CT K cc own tys lv) (d : decode cc pc = .ok (.dstore 9, 2)) (hn : 9 + 1 < kn K) (hc : c1 x8 = true) (k : WA K ws (x0 :: x1 :: x2 :: x3 :: x4 :: x5 :: x6 :: x7 :: x8 :: some (.double v) :: none :: t) (pc + 2) S) : WA K ws (x0 :: x1 :: x2 :: x3 :: x4 :: x5 :: x6 :: x7 :: x8 :: x9 :: y :: t) pc (.double v :: S) := a_dst C d hn rfl (Or.inl hc) k
theorem inc_9 {x0 x1 x2 x3 x4 x5 x6 x7 x8 x9 : Option Value} {n : Int} {a v : Nat} (C : CT K cc own tys lv) (d : decode cc pc = .ok (.iinc 9 n, 3)) (hx : x9 = some (.int (nI a))) (hv : nI a + Int32.ofInt n = nI v) (hn : 9 < kn K) (hc : c1 x8 = true) (k : WA K ws (x0 :: x1 :: x2 :: x3 :: x4 :: x5 :: x6 :: x7 :: x8 :: some (.int (nI v)) :: t) (pc + 3) S) : WA K ws (x0 :: x1 :: x2 :: x3 :: x4 :: x5 :: x6 :: x7 :: x8 :: x9 :: t) pc S := a_iinc C d (by rw [hx]; rfl) hv hn rfl (Or.inl hc) k
theorem ist_10 {x0 x1 x2 x3 x4 x5 x6 x7 x8 x9 x10 : Option Value} {v : Int32} (C : CT K cc own tys lv) (d : decode cc pc = .ok (.istore 10, 2)) (hn : 10 < kn K) (hc : c1 x9 = true) (k : WA K ws (x0 :: x1 :: x2 :: x3 :: x4 :: x5 :: x6 :: x7 :: x8 :: x9 :: some (.int v) :: t) (pc + 2) S) : WA K ws (x0 :: x1 :: x2 :: x3 :: x4 :: x5 :: x6 :: x7 :: x8 :: x9 :: x10 :: t) pc (.int v :: S) := a_ist C d hn rfl (Or.inl hc) k
theorem ast_10 {x0 x1 x2 x3 x4 x5 x6 x7 x8 x9 x10 : Option Value} {v : Nat} (C : CT K cc own tys lv) (d : decode cc pc = .ok (.astore 10, 2)) (hn : 10 < kn K) (hc : c1 x9 = true) (k : WA K ws (x0 :: x1 :: x2 :: x3 :: x4 :: x5 :: x6 :: x7 :: x8 :: x9 :: some (.ref v) :: t) (pc + 2) S) : WA K ws (x0 :: x1 :: x2 :: x3 :: x4 :: x5 :: x6 :: x7 :: x8 :: x9 :: x10 :: t) pc (.ref v :: S) := a_ast C d hn rfl (Or.inl hc) k
theorem lst_10 {x0 x1 x2 x3 x4 x5 x6 x7 x8 x9 x10 y : Option Value} {v : Int64} (C : CT K cc own tys lv) (d : decode cc pc = .ok (.lstore 10, 2)) (hn : 10 + 1 < kn K) (hc : c1 x9 = true) (k : WA K ws (x0 :: x1 :: x2 :: x3 :: x4 :: x5 :: x6 :: x7 :: x8 :: x9 :: some (.long v) :: none :: t) (pc + 2) S) : WA K ws (x0 :: x1 :: x2 :: x3 :: x4 :: x5 :: x6 :: x7 :: x8 :: x9 :: x10 :: y :: t) pc (.long v :: S) := a_lst C d hn rfl (Or.inl hc) k
theorem dst_10 {x0 x1 x2 x3 x4 x5 x6 x7 x8 x9 x10 y : Option Value} {v : UInt64} (C : CT K cc own tys lv) (d : decode cc pc = .ok (.dstore 10, 2)) (hn : 10 + 1 < kn K) (hc : c1 x9 = true) (k : WA K ws (x0 :: x1 :: x2 :: x3 :: x4 :: x5 :: x6 :: x7 :: x8 :: x9 :: some (.double v) :: none :: t) (pc + 2) S) : WA K ws (x0 :: x1 :: x2 :: x3 :: x4 :: x5 :: x6 :: x7 :: x8 :: x9 :: x10 :: y :: t) pc (.double v :: S) := a_dst C d hn rfl (Or.inl hc) k
theorem inc_10 {x0 x1 x2 x3 x4 x5 x6 x7 x8 x9 x10 : Option Value} {n : Int} {a v : Nat} (C : CT K cc own tys lv) (d : decode cc pc = .ok (.iinc 10 n, 3)) (hx : x10 = some (.int (nI a))) (hv : nI a + Int32.ofInt n = nI v) (hn : 10 < kn K) (hc : c1 x9 = true) (k : WA K ws (x0 :: x1 :: x2 :: x3 :: x4 :: x5 :: x6 :: x7 :: x8 :: x9 :: some (.int (nI v)) :: t) (pc + 3) S) : WA K ws (x0 :: x1 :: x2 :: x3 :: x4 :: x5 :: x6 :: x7 :: x8 :: x9 :: x10 :: t) pc S := a_iinc C d (by rw [hx]; rfl) hv hn rfl (Or.inl hc) k
theorem ist_11 {x0 x1 x2 x3 x4 x5 x6 x7 x8 x9 x10 x11 : Option Value} {v : Int32} (C : CT K cc own tys lv) (d : decode cc pc = .ok (.istore 11, 2)) (hn : 11 < kn K) (hc : c1 x10 = true) (k : WA K ws (x0 :: x1 :: x2 :: x3 :: x4 :: x5 :: x6 :: x7 :: x8 :: x9 :: x10 :: some (.int v) :: t) (pc + 2) S) : WA K ws (x0 :: x1 :: x2 :: x3 :: x4 :: x5 :: x6 :: x7 :: x8 :: x9 :: x10 :: x11 :: t) pc (.int v :: S) := a_ist C d hn rfl (Or.inl hc) k
theorem ast_11 {x0 x1 x2 x3 x4 x5 x6 x7 x8 x9 x10 x11 : Option Value} {v : Nat} (C : CT K cc own tys lv) (d : decode cc pc = .ok (.astore 11, 2)) (hn : 11 < kn K) (hc : c1 x10 = true) (k : WA K ws (x0 :: x1 :: x2 :: x3 :: x4 :: x5 :: x6 :: x7 :: x8 :: x9 :: x10 :: some (.ref v) :: t) (pc + 2) S) : WA K ws (x0 :: x1 :: x2 :: x3 :: x4 :: x5 :: x6 :: x7 :: x8 :: x9 :: x10 :: x11 :: t) pc (.ref v :: S) := a_ast C d hn rfl (Or.inl hc) k
theorem lst_11 {x0 x1 x2 x3 x4 x5 x6 x7 x8 x9 x10 x11 y : Option Value} {v : Int64} (C : CT K cc own tys lv) (d : decode cc pc = .ok (.lstore 11, 2)) (hn : 11 + 1 < kn K) (hc : c1 x10 = true) (k : WA K ws (x0 :: x1 :: x2 :: x3 :: x4 :: x5 :: x6 :: x7 :: x8 :: x9 :: x10 :: some (.long v) :: none :: t) (pc + 2) S) : WA K ws (x0 :: x1 :: x2 :: x3 :: x4 :: x5 :: x6 :: x7 :: x8 :: x9 :: x10 :: x11 :: y :: t) pc (.long v :: S) := a_lst C d hn rfl (Or.inl hc) k
theorem dst_11 {x0 x1 x2 x3 x4 x5 x6 x7 x8 x9 x10 x11 y : Option Value} {v : UInt64} (C : CT K cc own tys lv) (d : decode cc pc = .ok (.dstore 11, 2)) (hn : 11 + 1 < kn K) (hc : c1 x10 = true) (k : WA K ws (x0 :: x1 :: x2 :: x3 :: x4 :: x5 :: x6 :: x7 :: x8 :: x9 :: x10 :: some (.double v) :: none :: t) (pc + 2) S) : WA K ws (x0 :: x1 :: x2 :: x3 :: x4 :: x5 :: x6 :: x7 :: x8 :: x9 :: x10 :: x11 :: y :: t) pc (.double v :: S) := a_dst C d hn rfl (Or.inl hc) k
theorem inc_11 {x0 x1 x2 x3 x4 x5 x6 x7 x8 x9 x10 x11 : Option Value} {n : Int} {a v : Nat} (C : CT K cc own tys lv) (d : decode cc pc = .ok (.iinc 11 n, 3)) (hx : x11 = some (.int (nI a))) (hv : nI a + Int32.ofInt n = nI v) (hn : 11 < kn K) (hc : c1 x10 = true) (k : WA K ws (x0 :: x1 :: x2 :: x3 :: x4 :: x5 :: x6 :: x7 :: x8 :: x9 :: x10 :: some (.int (nI v)) :: t) (pc + 3) S) : WA K ws (x0 :: x1 :: x2 :: x3 :: x4 :: x5 :: x6 :: x7 :: x8 :: x9 :: x10 :: x11 :: t) pc S := a_iinc C d (by rw [hx]; rfl) hv hn rfl (Or.inl hc) k
theorem ist_12 {x0 x1 x2 x3 x4 x5 x6 x7 x8 x9 x10 x11 x12 : Option Value} {v : Int32} (C : CT K cc own tys lv) (d : decode cc pc = .ok (.istore 12, 2)) (hn : 12 < kn K) (hc : c1 x11 = true) (k : WA K ws (x0 :: x1 :: x2 :: x3 :: x4 :: x5 :: x6 :: x7 :: x8 :: x9 :: x10 :: x11 :: some (.int v) :: t) (pc + 2) S) : WA K ws (x0 :: x1 :: x2 :: x3 :: x4 :: x5 :: x6 :: x7 :: x8 :: x9 :: x10 :: x11 :: x12 :: t) pc (.int v :: S) := a_ist C d hn rfl (Or.inl hc) k
theorem ast_12 {x0 x1 x2 x3 x4 x5 x6 x7 x8 x9 x10 x11 x12 : Option Value} {v : Nat} (C : CT K cc own tys lv) (d : decode cc pc = .ok (.astore 12, 2)) (hn : 12 < kn K) (hc : c1 x11 = true) (k : WA K ws (x0 :: x1 :: x2 :: x3 :: x4 :: x5 :: x6 :: x7 :: x8 :: x9 :: x10 :: x11 :: some (.ref v) :: t) (pc + 2) S) : WA K ws (x0 :: x1 :: x2 :: x3 :: x4 :: x5 :: x6 :: x7 :: x8 :: x9 :: x10 :: x11 :: x12 :: t) pc (.ref v :: S) := a_ast C d hn rfl (Or.inl hc) k
theorem lst_12 {x0 x1 x2 x3 x4 x5 x6 x7 x8 x9 x10 x11 x12 y : Option Value} {v : Int64} (C : CT K cc own tys lv) (d : decode cc pc = .ok (.lstore 12, 2)) (hn : 12 + 1 < kn K) (hc : c1 x11 = true) (k : WA K ws (x0 :: x1 :: x2 :: x3 :: x4 :: x5 :: x6 :: x7 :: x8 :: x9 :: x10 :: x11 :: some (.long v) :: none :: t) (pc + 2) S) : WA K ws (x0 :: x1 :: x2 :: x3 :: x4 :: x5 :: x6 :: x7 :: x8 :: x9 :: x10 :: x11 :: x12 :: y :: t) pc (.long v :: S) := a_lst C d hn rfl (Or.inl hc) k
theorem dst_12 {x0 x1 x2 x3 x4 x5 x6 x7 x8 x9 x10 x11 x12 y : Option Value} {v : UInt64} (C : CT K cc own tys lv) (d : decode cc pc = .ok (.dstore 12, 2)) (hn : 12 + 1 < kn K) (hc : c1 x11 = true) (k : WA K ws (x0 :: x1 :: x2 :: x3 :: x4 :: x5 :: x6 :: x7 :: x8 :: x9 :: x10 :: x11 :: some (.double v) :: none :: t) (pc + 2) S) : WA K ws (x0 :: x1 :: x2 :: x3 :: x4 :: x5 :: x6 :: x7 :: x8 :: x9 :: x10 :: x11 :: x12 :: y :: t) pc (.double v :: S) := a_dst C d hn rfl (Or.inl hc) k
theorem inc_12 {x0 x1 x2 x3 x4 x5 x6 x7 x8 x9 x10 x11 x12 : Option Value} {n : Int} {a v : Nat} (C : CT K cc own tys lv) (d : decode cc pc = .ok (.iinc 12 n, 3)) (hx : x12 = some (.int (nI a))) (hv : nI a + Int32.ofInt n = nI v) (hn : 12 < kn K) (hc : c1 x11 = true) (k : WA K ws (x0 :: x1 :: x2 :: x3 :: x4 :: x5 :: x6 :: x7 :: x8 :: x9 :: x10 :: x11 :: some (.int (nI v)) :: t) (pc + 3) S) : WA K ws (x0 :: x1 :: x2 :: x3 :: x4 :: x5 :: x6 :: x7 :: x8 :: x9 :: x10 :: x11 :: x12 :: t) pc S := a_iinc C d (by rw [hx]; rfl) hv hn rfl (Or.inl hc) k
theorem ist_13 {x0 x1 x2 x3 x4 x5 x6 x7 x8 x9 x10 x11 x12 x13 : Option Value} {v : Int32} (C : CT K cc own tys lv) (d : decode cc pc = .ok (.istore 13, 2)) (hn : 13 < kn K) (hc : c1 x12 = true) (k : WA K ws (x0 :: x1 :: x2 :: x3 :: x4 :: x5 :: x6 :: x7 :: x8 :: x9 :: x10 :: x11 :: x12 :: some (.int v) :: t) (pc + 2) S) : WA K ws (x0 :: x1 :: x2 :: x3 :: x4 :: x5 :: x6 :: x7 :: x8 :: x9 :: x10 :: x11 :: x12 :: x13 :: t) pc (.int v :: S) := a_ist C d hn rfl (Or.inl hc) k
theorem ast_13 {x0 x1 x2 x3 x4 x5 x6 x7 x8 x9 x10 x11 x12 x13 : Option Value} {v : Nat} (C : CT K cc own tys lv) (d : decode cc pc = .ok (.astore 13, 2)) (hn : 13 < kn K) (hc : c1 x12 = true) (k : WA K ws (x0 :: x1 :: x2 :: x3 :: x4 :: x5 :: x6 :: x7 :: x8 :: x9 :: x10 :: x11 :: x12 :: some (.ref v) :: t) (pc + 2) S) : WA K ws (x0 :: x1 :: x2 :: x3 :: x4 :: x5 :: x6 :: x7 :: x8 :: x9 :: x10 :: x11 :: x12 :: x13 :: t) pc (.ref v :: S) := a_ast C d hn rfl (Or.inl hc) k
theorem lst_13 {x0 x1 x2 x3 x4 x5 x6 x7 x8 x9 x10 x11 x12 x13 y : Option Value} {v : Int64} (C : CT K cc own tys lv) (d : decode cc pc = .ok (.lstore 13, 2)) (hn : 13 + 1 < kn K) (hc : c1 x12 = true) (k : WA K ws (x0 :: x1 :: x2 :: x3 :: x4 :: x5 :: x6 :: x7 :: x8 :: x9 :: x10 :: x11 :: x12 :: some (.long v) :: none :: t) (pc + 2) S) : WA K ws (x0 :: x1 :: x2 :: x3 :: x4 :: x5 :: x6 :: x7 :: x8 :: x9 :: x10 :: x11 :: x12 :: x13 :: y :: t) pc (.long v :: S) := a_lst C d hn rfl (Or.inl hc) k
theorem dst_13 {x0 x1 x2 x3 x4 x5 x6 x7 x8 x9 x10 x11 x12 x13 y : Option Value} {v : UInt64} (C : CT K cc own tys lv) (d : decode cc pc = .ok (.dstore 13, 2)) (hn : 13 + 1 < kn K) (hc : c1 x12 = true) (k : WA K ws (x0 :: x1 :: x2 :: x3 :: x4 :: x5 :: x6 :: x7 :: x8 :: x9 :: x10 :: x11 :: x12 :: some (.double v) :: none :: t) (pc + 2) S) : WA K ws (x0 :: x1 :: x2 :: x3 :: x4 :: x5 :: x6 :: x7 :: x8 :: x9 :: x10 :: x11 :: x12 :: x13 :: y :: t) pc (.double v :: S) := a_dst C d hn rfl (Or.inl hc) k
theorem inc_13 {x0 x1 x2 x3 x4 x5 x6 x7 x8 x9 x10 x11 x12 x13 : Option Value} {n : Int} {a v : Nat} (C : CT K cc own tys lv) (d : decode cc pc = .ok (.iinc 13 n, 3)) (hx : x13 = some (.int (nI a))) (hv : nI a + Int32.ofInt n = nI v) (hn : 13 < kn K) (hc : c1 x12 = true) (k : WA K ws (x0 :: x1 :: x2 :: x3 :: x4 :: x5 :: x6 :: x7 :: x8 :: x9 :: x10 :: x11 :: x12 :: some (.int (nI v)) :: t) (pc + 3) S) : WA K ws (x0 :: x1 :: x2 :: x3 :: x4 :: x5 :: x6 :: x7 :: x8 :: x9 :: x10 :: x11 :: x12 :: x13 :: t) pc S := a_iinc C d (by rw [hx]; rfl) hv hn rfl (Or.inl hc) k
theorem ist_14 {x0 x1 x2 x3 x4 x5 x6 x7 x8 x9 x10 x11 x12 x13 x14 : Option Value} {v : Int32} (C : CT K cc own tys lv) (d : decode cc pc = .ok (.istore 14, 2)) (hn : 14 < kn K) (hc : c1 x13 = true) (k : WA K ws (x0 :: x1 :: x2 :: x3 :: x4 :: x5 :: x6 :: x7 :: x8 :: x9 :: x10 :: x11 :: x12 :: x13 :: some (.int v) :: t) (pc + 2) S) : WA K ws (x0 :: x1 :: x2 :: x3 :: x4 :: x5 :: x6 :: x7 :: x8 :: x9 :: x10 :: x11 :: x12 :: x13 :: x14 :: t) pc (.int v :: S) := a_ist C d hn rfl (Or.inl hc) k
theorem ast_14 {x0 x1 x2 x3 x4 x5 x6 x7 x8 x9 x10 x11 x12 x13 x14 : Option Value} {v : Nat} (C : CT K cc own tys lv) (d : decode cc pc = .ok (.astore 14, 2)) (hn : 14 < kn K) (hc : c1 x13 = true) (k : WA K ws (x0 :: x1 :: x2 :: x3 :: x4 :: x5 :: x6 :: x7 :: x8 :: x9 :: x10 :: x11 :: x12 :: x13 :: some (.ref v) :: t) (pc + 2) S) : WA K ws (x0 :: x1 :: x2 :: x3 :: x4 :: x5 :: x6 :: x7 :: x8 :: x9 :: x10 :: x11 :: x12 :: x13 :: x14 :: t) pc (.ref v :: S) := a_ast C d hn rfl (Or.inl hc) k
theorem lst_14 {x0 x1 x2 x3 x4 x5 x6 x7 x8 x9 x10 x11 x12 x13 x14 y : Option Value} {v : Int64} (C : CT K cc own tys lv) (d : decode cc pc = .ok (.lstore 14, 2)) (hn : 14 + 1 < kn K) (hc : c1 x13 = true) (k : WA K ws (x0 :: x1 :: x2 :: x3 :: x4 :: x5 :: x6 :: x7 :: x8 :: x9 :: x10 :: x11 :: x12 :: x13 :: some (.long v) :: none :: t) (pc + 2) S) : WA K ws (x0 :: x1 :: x2 :: x3 :: x4 :: x5 :: x6 :: x7 :: x8 :: x9 :: x10 :: x11 :: x12 :: x13 :: x14 :: y :: t) pc (.long v :: S) := a_lst C d hn rfl (Or.inl hc) k
theorem dst_14 {x0 x1 x2 x3 x4 x5 x6 x7 x8 x9 x10 x11 x12 x13 x14 y : Option Value} {v : UInt64} (C : CT K cc own tys lv) (d : decode cc pc = .ok (.dstore 14, 2)) (hn : 14 + 1 < kn K) (hc : c1 x13 = true) (k : WA K ws (x0 :: x1 :: x2 :: x3 :: x4 :: x5 :: x6 :: x7 :: x8 :: x9 :: x10 :: x11 :: x12 :: x13 :: some (.double v) :: none :: t) (pc + 2) S) : WA K ws (x0 :: x1 :: x2 :: x3 :: x4 :: x5 :: x6 :: x7 :: x8 :: x9 :: x10 :: x11 :: x12 :: x13 :: x14 :: y :: t) pc (.double v :: S) := a_dst C d hn rfl (Or.inl hc) k
theorem inc_14 {x0 x1 x2 x3 x4 x5 x6 x7 x8 x9 x10 x11 x12 x13 x14 : Option Value} {n : Int} {a v : Nat} (C : CT K cc own tys lv) (d : decode cc pc = .ok (.iinc 14 n, 3)) (hx : x14 = some (.int (nI a))) (hv : nI a + Int32.ofInt n = nI v) (hn : 14 < kn K) (hc : c1 x13 = true) (k : WA K ws (x0 :: x1 :: x2 :: x3 :: x4 :: x5 :: x6 :: x7 :: x8 :: x9 :: x10 :: x11 :: x12 :: x13 :: some (.int (nI v)) :: t) (pc + 3) S) : WA K ws (x0 :: x1 :: x2 :: x3 :: x4 :: x5 :: x6 :: x7 :: x8 :: x9 :: x10 :: x11 :: x12 :: x13 :: x14 :: t) pc S := a_iinc C d (by rw [hx]; rfl) hv hn rfl (Or.inl hc) k
theorem ist_15 {x0 x1 x2 x3 x4 x5 x6 x7 x8 x9 x10 x11 x12 x13 x14 x15 : Option Value} {v : Int32} (C : CT K cc own tys lv) (d : decode cc pc = .ok (.istore 15, 2)) (hn : 15 < kn K) (hc : c1 x14 = true) (k : WA K ws (x0 :: x1 :: x2 :: x3 :: x4 :: x5 :: x6 :: x7 :: x8 :: x9 :: x10 :: x11 :: x12 :: x13 :: x14 :: some (.int v) :: t) (pc + 2) S) : WA K ws (x0 :: x1 :: x2 :: x3 :: x4 :: x5 :: x6 :: x7 :: x8 :: x9 :: x10 :: x11 :: x12 :: x13 :: x14 :: x15 :: t) pc (.int v :: S) := a_ist C d hn rfl (Or.inl hc) k
theorem ast_15 {x0 x1 x2 x3 x4 x5 x6 x7 x8 x9 x10 x11 x12 x13 x14 x15 : Option Value} {v : Nat} (C : CT K cc own tys lv) (d : decode cc pc = .ok (.astore 15, 2)) (hn : 15 < kn K) (hc : c1 x14 = true) (k : WA K ws (x0 :: x1 :: x2 :: x3 :: x4 :: x5 :: x6 :: x7 :: x8 :: x9 :: x10 :: x11 :: x12 :: x13 :: x14 :: some (.ref v) :: t) (pc + 2) S) : WA K ws (x0 :: x1 :: x2 :: x3 :: x4 :: x5 :: x6 :: x7 :: x8 :: x9 :: x10 :: x11 :: x12 :: x13 :: x14 :: x15 :: t) pc (.ref v :: S) := a_ast C d hn rfl (Or.inl hc) k
theorem lst_15 {x0 x1 x2 x3 x4 x5 x6 x7 x8 x9 x10 x11 x12 x13 x14 x15 y : Option Value} {v : Int64} (C : CT K cc own tys lv) (d : decode cc pc = .ok (.lstore 15, 2)) (hn : 15 + 1 < kn K) (hc : c1 x14 = true) (k : WA K ws (x0 :: x1 :: x2 :: x3 :: x4 :: x5 :: x6 :: x7 :: x8 :: x9 :: x10 :: x11 :: x12 :: x13 :: x14 :: some (.long v) :: none :: t) (pc + 2) S) : WA K ws (x0 :: x1 :: x2 :: x3 :: x4 :: x5 :: x6 :: x7 :: x8 :: x9 :: x10 :: x11 :: x12 :: x13 :: x14 :: x15 :: y :: t) pc (.long v :: S) := a_lst C d hn rfl (Or.inl hc) k
theorem dst_15 {x0 x1 x2 x3 x4 x5 x6 x7 x8 x9 x10 x11 x12 x13 x14 x15 y : Option Value} {v : UInt64} (C : CT K cc own tys lv) (d : decode cc pc = .ok (.dstore 15, 2)) (hn : 15 + 1 < kn K) (hc : c1 x14 = true) (k : WA K ws (x0 :: x1 :: x2 :: x3 :: x4 :: x5 :: x6 :: x7 :: x8 :: x9 :: x10 :: x11 :: x12 :: x13 :: x14 :: some (.double v) :: none :: t) (pc + 2) S) : WA K ws (x0 :: x1 :: x2 :: x3 :: x4 :: x5 :: x6 :: x7 :: x8 :: x9 :: x10 :: x11 :: x12 :: x13 :: x14 :: x15 :: y :: t) pc (.double v :: S) := a_dst C d hn rfl (Or.inl hc) k
theorem inc_15 {x0 x1 x2 x3 x4 x5 x6 x7 x8 x9 x10 x11 x12 x13 x14 x15 : Option Value} {n : Int} {a v : Nat} (C : CT K cc own tys lv) (d : decode cc pc = .ok (.iinc 15 n, 3)) (hx : x15 = some (.int (nI a))) (hv : nI a + Int32.ofInt n = nI v) (hn : 15 < kn K) (hc : c1 x14 = true) (k : WA K ws (x0 :: x1 :: x2 :: x3 :: x4 :: x5 :: x6 :: x7 :: x8 :: x9 :: x10 :: x11 :: x12 :: x13 :: x14 :: some (.int (nI v)) :: t) (pc + 3) S) : WA K ws (x0 :: x1 :: x2 :: x3 :: x4 :: x5 :: x6 :: x7 :: x8 :: x9 :: x10 :: x11 :: x12 :: x13 :: x14 :: x15 :: t) pc S := a_iinc C d (by rw [hx]; rfl) hv hn rfl (Or.inl hc) k
theorem ist_16 {x0 x1 x2 x3 x4 x5 x6 x7 x8 x9 x10 x11 x12 x13 x14 x15 x16 : Option Value} {v : Int32} (C : CT K cc own tys lv) (d : decode cc pc = .ok (.istore 16, 2)) (hn : 16 < kn K) (hc : c1 x15 = true) (k : WA K ws (x0 :: x1 :: x2 :: x3 :: x4 :: x5 :: x6 :: x7 :: x8 :: x9 :: x10 :: x11 :: x12 :: x13 :: x14 :: x15 :: some (.int v) :: t) (pc + 2) S) : WA K ws (x0 :: x1 :: x2 :: x3 :: x4 :: x5 :: x6 :: x7 :: x8 :: x9 :: x10 :: x11 :: x12 :: x13 :: x14 :: x15 :: x16 :: t) pc (.int v :: S) := a_ist C d hn rfl (Or.inl hc) k
theorem ast_16 {x0 x1 x2 x3 x4 x5 x6 x7 x8 x9 x10 x11 x12 x13 x14 x15 x16 : Option Value} {v : Nat} (C : CT K cc own tys lv) (d : decode cc pc = .ok (.astore 16, 2)) (hn : 16 < kn K) (hc : c1 x15 = true) (k : WA K ws (x0 :: x1 :: x2 :: x3 :: x4 :: x5 :: x6 :: x7 :: x8 :: x9 :: x10 :: x11 :: x12 :: x13 :: x14 :: x15 :: some (.ref v) :: t) (pc + 2) S) : WA K ws (x0 :: x1 :: x2 :: x3 :: x4 :: x5 :: x6 :: x7 :: x8 :: x9 :: x10 :: x11 :: x12 :: x13 :: x14 :: x15 :: x16 :: t) pc (.ref v :: S) := a_ast C d hn rfl (Or.inl hc) k
theorem lst_16 {x0 x1 x2 x3 x4 x5 x6 x7 x8 x9 x10 x11 x12 x13 x14 x15 x16 y : Option Value} {v : Int64} (C : CT K cc own tys lv) (d : decode cc pc = .ok (.lstore 16, 2)) (hn : 16 + 1 < kn K) (hc : c1 x15 = true) (k : WA K ws (x0 :: x1 :: x2 :: x3 :: x4 :: x5 :: x6 :: x7 :: x8 :: x9 :: x10 :: x11 :: x12 :: x13 :: x14 :: x15 :: some (.long v) :: none :: t) (pc + 2) S) : WA K ws (x0 :: x1 :: x2 :: x3 :: x4 :: x5 :: x6 :: x7 :: x8 :: x9 :: x10 :: x11 :: x12 :: x13 :: x14 :: x15 :: x16 :: y :: t) pc (.long v :: S) := a_lst C d hn rfl (Or.inl hc) k
theorem dst_16 {x0 x1 x2 x3 x4 x5 x6 x7 x8 x9 x10 x11 x12 x13 x14 x15 x16 y : Option Value} {v : UInt64} (C : CT K cc own tys lv) (d : decode cc pc = .ok (.dstore 16, 2)) (hn : 16 + 1 < kn K) (hc : c1 x15 = true) (k : WA K ws (x0 :: x1 :: x2 :: x3 :: x4 :: x5 :: x6 :: x7 :: x8 :: x9 :: x10 :: x11 :: x12 :: x13 :: x14 :: x15 :: some (.double v) :: none :: t) (pc + 2) S) : WA K ws (x0 :: x1 :: x2 :: x3 :: x4 :: x5 :: x6 :: x7 :: x8 :: x9 :: x10 :: x11 :: x12 :: x13 :: x14 :: x15 :: x16 :: y :: t) pc (.double v :: S) := a_dst C d hn rfl (Or.inl hc) k
theorem inc_16 {x0 x1 x2 x3 x4 x5 x6 x7 x8 x9 x10 x11 x12 x13 x14 x15 x16 : Option Value} {n : Int} {a v : Nat} (C : CT K cc own tys lv) (d : decode cc pc = .ok (.iinc 16 n, 3)) (hx : x16 = some (.int (nI a))) (hv : nI a + Int32.ofInt n = nI v) (hn : 16 < kn K) (hc : c1 x15 = true) (k : WA K ws (x0 :: x1 :: x2 :: x3 :: x4 :: x5 :: x6 :: x7 :: x8 :: x9 :: x10 :: x11 :: x12 :: x13 :: x14 :: x15 :: some (.int (nI v)) :: t) (pc + 3) S) : WA K ws (x0 :: x1 :: x2 :: x3 :: x4 :: x5 :: x6 :: x7 :: x8 :: x9 :: x10 :: x11 :: x12 :: x13 :: x14 :: x15 :: x16 :: t) pc S := a_iinc C d (by rw [hx]; rfl) hv hn rfl (Or.inl hc) k
theorem ist_17 {x0 x1 x2 x3 x4 x5 x6 x7 x8 x9 x10 x11 x12 x13 x14 x15 x16 x17 : Option Value} {v : Int32} (C : CT K cc own tys lv) (d : decode cc pc = .ok (.istore 17, 2)) (hn : 17 < kn K) (hc : c1 x16 = true) (k : WA K ws (x0 :: x1 :: x2 :: x3 :: x4 :: x5 :: x6 :: x7 :: x8 :: x9 :: x10 :: x11 :: x12 :: x13 :: x14 :: x15 :: x16 :: some (.int v) :: t) (pc + 2) S) : WA K ws (x0 :: x1 :: x2 :: x3 :: x4 :: x5 :: x6 :: x7 :: x8 :: x9 :: x10 :: x11 :: x12 :: x13 :: x14 :: x15 :: x16 :: x17 :: t) pc (.int v :: S) := a_ist C d hn rfl (Or.inl hc) k
theorem ast_17 {x0 x1 x2 x3 x4 x5 x6 x7 x8 x9 x10 x11 x12 x13 x14 x15 x16 x17 : Option Value} {v : Nat} (C : CT K cc own tys lv) (d : decode cc pc = .ok (.astore 17, 2)) (hn : 17 < kn K) (hc : c1 x16 = true) (k : WA K ws (x0 :: x1 :: x2 :: x3 :: x4 :: x5 :: x6 :: x7 :: x8 :: x9 :: x10 :: x11 :: x12 :: x13 :: x14 :: x15 :: x16 :: some (.ref v) :: t) (pc + 2) S) : WA K ws (x0 :: x1 :: x2 :: x3 :: x4 :: x5 :: x6 :: x7 :: x8 :: x9 :: x10 :: x11 :: x12 :: x13 :: x14 :: x15 :: x16 :: x17 :: t) pc (.ref v :: S) := a_ast C d hn rfl (Or.inl hc) k
theorem lst_17 {x0 x1 x2 x3 x4 x5 x6 x7 x8 x9 x10 x11 x12 x13 x14 x15 x16 x17 y : Option Value} {v : Int64} (C : CT K cc own tys lv) (d : decode cc pc = .ok (.lstore 17, 2)) (hn : 17 + 1 < kn K) (hc : c1 x16 = true) (k : WA K ws (x0 :: x1 :: x2 :: x3 :: x4 :: x5 :: x6 :: x7 :: x8 :: x9 :: x10 :: x11 :: x12 :: x13 :: x14 :: x15 :: x16 :: some (.long v) :: none :: t) (pc + 2) S) : WA K ws (x0 :: x1 :: x2 :: x3 :: x4 :: x5 :: x6 :: x7 :: x8 :: x9 :: x10 :: x11 :: x12 :: x13 :: x14 :: x15 :: x16 :: x17 :: y :: t) pc (.long v :: S) := a_lst C d hn rfl (Or.inl hc) k
theorem dst_17 {x0 x1 x2 x3 x4 x5 x6 x7 x8 x9 x10 x11 x12 x13 x14 x15 x16 x17 y : Option Value} {v : UInt64} (C : CT K cc own tys lv) (d : decode cc pc = .ok (.dstore 17, 2)) (hn : 17 + 1 < kn K) (hc : c1 x16 = true) (k : WA K ws (x0 :: x1 :: x2 :: x3 :: x4 :: x5 :: x6 :: x7 :: x8 :: x9 :: x10 :: x11 :: x12 :: x13 :: x14 :: x15 :: x16 :: some (.double v) :: none :: t) (pc + 2) S) : WA K ws (x0 :: x1 :: x2 :: x3 :: x4 :: x5 :: x6 :: x7 :: x8 :: x9 :: x10 :: x11 :: x12 :: x13 :: x14 :: x15 :: x16 :: x17 :: y :: t) pc (.double v :: S) := a_dst C d hn rfl (Or.inl hc) k
theorem inc_17 {x0 x1 x2 x3 x4 x5 x6 x7 x8 x9 x10 x11 x12 x13 x14 x15 x16 x17 : Option Value} {n : Int} {a v : Nat} (C : CT K cc own tys lv) (d : decode cc pc = .ok (.iinc 17 n, 3)) (hx : x17 = some (.int (nI a))) (hv : nI a + Int32.ofInt n = nI v) (hn : 17 < kn K) (hc : c1 x16 = true) (k : WA K ws (x0 :: x1 :: x2 :: x3 :: x4 :: x5 :: x6 :: x7 :: x8 :: x9 :: x10 :: x11 :: x12 :: x13 :: x14 :: x15 :: x16 :: some (.int (nI v)) :: t) (pc + 3) S) : WA K ws (x0 :: x1 :: x2 :: x3 :: x4 :: x5 :: x6 :: x7 :: x8 :: x9 :: x10 :: x11 :: x12 :: x13 :: x14 :: x15 :: x16 :: x17 :: t) pc S := a_iinc C d (by rw [hx]; rfl) hv hn rfl (Or.inl hc) k
theorem ist_18 {x0 x1 x2 x3 x4 x5 x6 x7 x8 x9 x10 x11 x12 x13 x14 x15 x16 x17 x18 : Option Value} {v : Int32} (C : CT K cc own tys lv) (d : decode cc pc = .ok (.istore 18, 2)) (hn : 18 < kn K) (hc : c1 x17 = true) (k : WA K ws (x0 :: x1 :: x2 :: x3 :: x4 :: x5 :: x6 :: x7 :: x8 :: x9 :: x10 :: x11 :: x12 :: x13 :: x14 :: x15 :: x16 :: x17 :: some (.int v) :: t) (pc + 2) S) : WA K ws (x0 :: x1 :: x2 :: x3 :: x4 :: x5 :: x6 :: x7 :: x8 :: x9 :: x10 :: x11 :: x12 :: x13 :: x14 :: x15 :: x16 :: x17 :: x18 :: t) pc (.int v :: S) := a_ist C d hn rfl (Or.inl hc) k
theorem ast_18 {x0 x1 x2 x3 x4 x5 x6 x7 x8 x9 x10 x11 x12 x13 x14 x15 x16 x17 x18 : Option Value} {v : Nat} (C : CT K cc own tys lv) (d : decode cc pc = .ok (.astore 18, 2)) (hn : 18 < kn K) (hc : c1 x17 = true) (k : WA K ws (x0 :: x1 :: x2 :: x3 :: x4 :: x5 :: x6 :: x7 :: x8 :: x9 :: x10 :: x11 :: x12 :: x13 :: x14 :: x15 :: x16 :: x17 :: some (.ref v) :: t) (pc + 2) S) : WA K ws (x0 :: x1 :: x2 :: x3 :: x4 :: x5 :: x6 :: x7 :: x8 :: x9 :: x10 :: x11 :: x12 :: x13 :: x14 :: x15 :: x16 :: x17 :: x18 :: t) pc (.ref v :: S) := a_ast C d hn rfl (Or.inl hc) k
theorem lst_18 {x0 x1 x2 x3 x4 x5 x6 x7 x8 x9 x10 x11 x12 x13 x14 x15 x16 x17 x18 y : Option Value} {v : Int64} (C : CT K cc own tys lv) (d : decode cc pc = .ok (.lstore 18, 2)) (hn : 18 + 1 < kn K) (hc : c1 x17 = true) (k : WA K ws (x0 :: x1 :: x2 :: x3 :: x4 :: x5 :: x6 :: x7 :: x8 :: x9 :: x10 :: x11 :: x12 :: x13 :: x14 :: x15 :: x16 :: x17 :: some (.long v) :: none :: t) (pc + 2) S) : WA K ws (x0 :: x1 :: x2 :: x3 :: x4 :: x5 :: x6 :: x7 :: x8 :: x9 :: x10 :: x11 :: x12 :: x13 :: x14 :: x15 :: x16 :: x17 :: x18 :: y :: t) pc (.long v :: S) := a_lst C d hn rfl (Or.inl hc) k
theorem dst_18 {x0 x1 x2 x3 x4 x5 x6 x7 x8 x9 x10 x11 x12 x13 x14 x15 x16 x17 x18 y : Option Value} {v : UInt64} (C : CT K cc own tys lv) (d : decode cc pc = .ok (.dstore 18, 2)) (hn : 18 + 1 < kn K) (hc : c1 x17 = true) (k : WA K ws (x0 :: x1 :: x2 :: x3 :: x4 :: x5 :: x6 :: x7 :: x8 :: x9 :: x10 :: x11 :: x12 :: x13 :: x14 :: x15 :: x16 :: x17 :: some (.double v) :: none :: t) (pc + 2) S) : WA K ws (x0 :: x1 :: x2 :: x3 :: x4 :: x5 :: x6 :: x7 :: x8 :: x9 :: x10 :: x11 :: x12 :: x13 :: x14 :: x15 :: x16 :: x17 :: x18 :: y :: t) pc (.double v :: S) := a_dst C d hn rfl (Or.inl hc) k
theorem inc_18 {x0 x1 x2 x3 x4 x5 x6 x7 x8 x9 x10 x11 x12 x13 x14 x15 x16 x17 x18 : Option Value} {n : Int} {a v : Nat} (C : CT K cc own tys lv) (d : decode cc pc = .ok (.iinc 18 n, 3)) (hx : x18 = some (.int (nI a))) (hv : nI a + Int32.ofInt n = nI v) (hn : 18 < kn K) (hc : c1 x17 = true) (k : WA K ws (x0 :: x1 :: x2 :: x3 :: x4 :: x5 :: x6 :: x7 :: x8 :: x9 :: x10 :: x11 :: x12 :: x13 :: x14 :: x15 :: x16 :: x17 :: some (.int (nI v)) :: t) (pc + 3) S) : WA K ws (x0 :: x1 :: x2 :: x3 :: x4 :: x5 :: x6 :: x7 :: x8 :: x9 :: x10 :: x11 :: x12 :: x13 :: x14 :: x15 :: x16 :: x17 :: x18 :: t) pc S := a_iinc C d (by rw [hx]; rfl) hv hn rfl (Or.inl hc) k
theorem ist_19 {x0 x1 x2 x3 x4 x5 x6 x7 x8 x9 x10 x11 x12 x13 x14 x15 x16 x17 x18 x19 : Option Value} {v : Int32} (C : CT K cc own tys lv) (d : decode cc pc = .ok (.istore 19, 2)) (hn : 19 < kn K) (hc : c1 x18 = true) (k : WA K ws (x0 :: x1 :: x2 :: x3 :: x4 :: x5 :: x6 :: x7 :: x8 :: x9 :: x10 :: x11 :: x12 :: x13 :: x14 :: x15 :: x16 :: x17 :: x18 :: some (.int v) :: t) (pc + 2) S) : WA K ws (x0 :: x1 :: x2 :: x3 :: x4 :: x5 :: x6 :: x7 :: x8 :: x9 :: x10 :: x11 :: x12 :: x13 :: x14 :: x15 :: x16 :: x17 :: x18 :: x19 :: t) pc (.int v :: S) := a_ist C d hn rfl (Or.inl hc) k
theorem ast_19 {x0 x1 x2 x3 x4 x5 x6 x7 x8 x9 x10 x11 x12 x13 x14 x15 x16 x17 x18 x19 : Option Value} {v : Nat} (C : CT K cc own tys lv) (d : decode cc pc = .ok (.astore 19, 2)) (hn : 19 < kn K) (hc : c1 x18 = true) (k : WA K ws (x0 :: x1 :: x2 :: x3 :: x4 :: x5 :: x6 :: x7 :: x8 :: x9 :: x10 :: x11 :: x12 :: x13 :: x14 :: x15 :: x16 :: x17 :: x18 :: some (.ref v) :: t) (pc + 2) S) : WA K ws (x0 :: x1 :: x2 :: x3 :: x4 :: x5 :: x6 :: x7 :: x8 :: x9 :: x10 :: x11 :: x12 :: x13 :: x14 :: x15 :: x16 :: x17 :: x18 :: x19 :: t) pc (.ref v :: S) := a_ast C d hn rfl (Or.inl hc) k
theorem lst_19 {x0 x1 x2 x3 x4 x5 x6 x7 x8 x9 x10 x11 x12 x13 x14 x15 x16 x17 x18 x19 y : Option Value} {v : Int64} (C : CT K cc own tys lv) (d : decode cc pc = .ok (.lstore 19, 2)) (hn : 19 + 1 < kn K) (hc : c1 x18 = true) (k : WA K ws (x0 :: x1 :: x2 :: x3 :: x4 :: x5 :: x6 :: x7 :: x8 :: x9 :: x10 :: x11 :: x12 :: x13 :: x14 :: x15 :: x16 :: x17 :: x18 :: some (.long v) :: none :: t) (pc + 2) S) : WA K ws (x0 :: x1 :: x2 :: x3 :: x4 :: x5 :: x6 :: x7 :: x8 :: x9 :: x10 :: x11 :: x12 :: x13 :: x14 :: x15 :: x16 :: x17 :: x18 :: x19 :: y :: t) pc (.long v :: S) := a_lst C d hn rfl (Or.inl hc) k
theorem dst_19 {x0 x1 x2 x3 x4 x5 x6 x7 x8 x9 x10 x11 x12 x13 x14 x15 x16 x17 x18 x19 y : Option Value} {v : UInt64} (C : CT K cc own tys lv) (d : decode cc pc = .ok (.dstore 19, 2)) (hn : 19 + 1 < kn K) (hc : c1 x18 = true) (k : WA K ws (x0 :: x1 :: x2 :: x3 :: x4 :: x5 :: x6 :: x7 :: x8 :: x9 :: x10 :: x11 :: x12 :: x13 :: x14 :: x15 :: x16 :: x17 :: x18 :: some (.double v) :: none :: t) (pc + 2) S) : WA K ws (x0 :: x1 :: x2 :: x3 :: x4 :: x5 :: x6 :: x7 :: x8 :: x9 :: x10 :: x11 :: x12 :: x13 :: x14 :: x15 :: x16 :: x17 :: x18 :: x19 :: y :: t) pc (.double v :: S) := a_dst C d hn rfl (Or.inl hc) k
theorem inc_19 {x0 x1 x2 x3 x4 x5 x6 x7 x8 x9 x10 x11 x12 x13 x14 x15 x16 x17 x18 x19 : Option Value} {n : Int} {a v : Nat} (C : CT K cc own tys lv) (d : decode cc pc = .ok (.iinc 19 n, 3)) (hx : x19 = some (.int (nI a))) (hv : nI a + Int32.ofInt n = nI v) (hn : 19 < kn K) (hc : c1 x18 = true) (k : WA K ws (x0 :: x1 :: x2 :: x3 :: x4 :: x5 :: x6 :: x7 :: x8 :: x9 :: x10 :: x11 :: x12 :: x13 :: x14 :: x15 :: x16 :: x17 :: x18 :: some (.int (nI v)) :: t) (pc + 3) S) : WA K ws (x0 :: x1 :: x2 :: x3 :: x4 :: x5 :: x6 :: x7 :: x8 :: x9 :: x10 :: x11 :: x12 :: x13 :: x14 :: x15 :: x16 :: x17 :: x18 :: x19 :: t) pc S := a_iinc C d (by rw [hx]; rfl) hv hn rfl (Or.inl hc) k
end SLOTS
def ty4 (cI cD cZ cJ : ClassId) : List (ClassId × FieldType) := [(cI, .int), (cD, .double), (cZ, .boolean), (cJ, .long)]
/-- the class's world: 23 cells -/
def WS (ad : Nat → Nat) (cI cD cZ : ClassId) (x : ST) : va_W := [(ad 0, .inr (4, [.ref (ad 1), .ref (ad 3), .ref (ad 11), .ref (ad 19), .int (nI (x.1 0)), .int (nI (x.1 1)), .double x.2.2.2])), (ad 1, .inr (2, [.ref (ad 2), .int (nI (x.1 2))])), (ad 2, .inl (cI, 14, .inl (nf (x.2.1 2)))), (ad 3, .inr (1, [.ref (ad 4), .ref (ad 5), .ref (ad 6), .ref (ad 7), .ref (ad 8), .ref (ad 9), .ref (ad 10), .int (nI (x.1 3))])), (ad 4, .inl (cI, 16, .inl (nf (x.2.1 4)))), (ad 5, .inl (cI, 16, .inl (nf (x.2.1 5)))), (ad 6, .inl (cI, 64, .inl (nf (x.2.1 6)))), (ad 7, .inl (cD, 16, .inr (.inr (.inr (.inl (x.2.2.1 7)))))), (ad 8, .inl (cI, 16, .inl (nf (x.2.1 8)))), (ad 9, .inl (cI, 16, .inl (nf (x.2.1 9)))), (ad 10, .inl (cZ, 564, .inl (nf (x.2.1 10)))), (ad 11, .inr (0, [.ref (ad 12), .ref (ad 13), .ref (ad 14), .ref (ad 15), .ref (ad 16), .ref (ad 17), .ref (ad 18)])), (ad 12, .inl (cI, 1680, .inl (nf (x.2.1 12)))), (ad 13, .inl (cD, 1680, .inr (.inr (.inr (.inl (x.2.2.1 13)))))), (ad 14, .inl (cI, 1680, .inl (nf (x.2.1 14)))), (ad 15, .inl (cI, 6720, .inl (nf (x.2.1 15)))), (ad 16, .inl (cI, 6720, .inl (nf (x.2.1 16)))), (ad 17, .inl (cI, 6, .inl (nf (x.2.1 17)))), (ad 18, .inl (cI, 4, .inl (nf (x.2.1 18)))), (ad 19, .inr (3, [.ref (ad 20), .ref (ad 21), .ref (ad 22), .int (nI (x.1 4))])), (ad 20, .inl (cI, 162, .inl (nf (x.2.1 20)))), (ad 21, .inl (cI, 162, .inl (nf (x.2.1 21)))), (ad 22, .inl (cI, 162, .inl (nf (x.2.1 22))))]
/-- the reference's world: 21 cells -/
def WM (ad : Nat → Nat) (cI cD cZ : ClassId) (x : ST) : va_W := [(ad 0, .inr (5, [.ref (ad 1), .ref (ad 2), .ref (ad 3), .ref (ad 4), .ref (ad 5), .ref (ad 6), .ref (ad 7), .ref (ad 8), .ref (ad 9), .ref (ad 10), .ref (ad 11), .ref (ad 12), .ref (ad 13), .ref (ad 14), .ref (ad 15), .ref (ad 16), .ref (ad 17), .ref (ad 18), .ref (ad 19), .ref (ad 20), .int (nI (x.1 0)), .int (nI (x.1 1)), .int (nI (x.1 2)), .int (nI (x.1 3)), .int (nI (x.1 4)), .int (nI (x.1 5)), .int (nI (x.1 6)), .int (nI (x.1 7)), .double x.2.2.2])), (ad 1, .inl (cI, 14, .inl (nf (x.2.1 1)))), (ad 2, .inl (cI, 14, .inl (nf (x.2.1 2)))), (ad 3, .inl (cI, 16, .inl (nf (x.2.1 3)))), (ad 4, .inl (cI, 16, .inl (nf (x.2.1 4)))), (ad 5, .inl (cI, 64, .inl (nf (x.2.1 5)))), (ad 6, .inl (cI, 16, .inl (nf (x.2.1 6)))), (ad 7, .inl (cI, 5, .inl (nf (x.2.1 7)))), (ad 8, .inl (cI, 5, .inl (nf (x.2.1 8)))), (ad 9, .inl (cD, 16, .inr (.inr (.inr (.inl (x.2.2.1 9)))))), (ad 10, .inl (cD, 3600, .inr (.inr (.inr (.inl (x.2.2.1 10)))))), (ad 11, .inl (cZ, 256, .inl (nf (x.2.1 11)))), (ad 12, .inl (cZ, 762, .inl (nf (x.2.1 12)))), (ad 13, .inl (cZ, 1350, .inl (nf (x.2.1 13)))), (ad 14, .inl (cI, 3600, .inl (nf (x.2.1 14)))), (ad 15, .inl (cI, 400, .inl (nf (x.2.1 15)))), (ad 16, .inl (cI, 400, .inl (nf (x.2.1 16)))), (ad 17, .inl (cI, 400, .inl (nf (x.2.1 17)))), (ad 18, .inl (cI, 400, .inl (nf (x.2.1 18)))), (ad 19, .inl (cI, 400, .inl (nf (x.2.1 19)))), (ad 20, .inl (cI, 1600, .inl (nf (x.2.1 20))))]
section WORLDS
variable {K : KX} {cc : ByteArray} {own : String} {cI cD cZ cJ : ClassId} {ad : Nat → Nat} {x : ST} {L : List (Option Value)} {pc lv i v : Nat} {S : List Value}
theorem ldS_2 (C : CT K cc own (ty4 cI cD cZ cJ) lv) (d : decode cc pc = .ok (.iaload, 1)) (hi : i < 14) (k : WA K (WS ad cI cD cZ x) L (pc + 1) (.int (nI (x.2.1 2 i)) :: S)) : WA K (WS ad cI cD cZ x) L pc (.int (nI i) :: .ref (ad 2) :: S) := a_iald C d (q0 := 2) (t0 := 0) rfl rfl hi (by decide) k
theorem stS_2 (C : CT K cc own (ty4 cI cD cZ cJ) lv) (d : decode cc pc = .ok (.iastore, 1)) (hi : i < 14) (k : WA K (WS ad cI cD cZ (sA x 2 i v)) L (pc + 1) S) : WA K (WS ad cI cD cZ x) L pc (.int (nI v) :: .int (nI i) :: .ref (ad 2) :: S) := a_iast C d (q0 := 2) (t0 := 0) rfl rfl hi (by decide) rfl k
theorem ldS_4 (C : CT K cc own (ty4 cI cD cZ cJ) lv) (d : decode cc pc = .ok (.iaload, 1)) (hi : i < 16) (k : WA K (WS ad cI cD cZ x) L (pc + 1) (.int (nI (x.2.1 4 i)) :: S)) : WA K (WS ad cI cD cZ x) L pc (.int (nI i) :: .ref (ad 4) :: S) := a_iald C d (q0 := 4) (t0 := 0) rfl rfl hi (by decide) k
theorem stS_4 (C : CT K cc own (ty4 cI cD cZ cJ) lv) (d : decode cc pc = .ok (.iastore, 1)) (hi : i < 16) (k : WA K (WS ad cI cD cZ (sA x 4 i v)) L (pc + 1) S) : WA K (WS ad cI cD cZ x) L pc (.int (nI v) :: .int (nI i) :: .ref (ad 4) :: S) := a_iast C d (q0 := 4) (t0 := 0) rfl rfl hi (by decide) rfl k
theorem ldS_5 (C : CT K cc own (ty4 cI cD cZ cJ) lv) (d : decode cc pc = .ok (.iaload, 1)) (hi : i < 16) (k : WA K (WS ad cI cD cZ x) L (pc + 1) (.int (nI (x.2.1 5 i)) :: S)) : WA K (WS ad cI cD cZ x) L pc (.int (nI i) :: .ref (ad 5) :: S) := a_iald C d (q0 := 5) (t0 := 0) rfl rfl hi (by decide) k
theorem stS_5 (C : CT K cc own (ty4 cI cD cZ cJ) lv) (d : decode cc pc = .ok (.iastore, 1)) (hi : i < 16) (k : WA K (WS ad cI cD cZ (sA x 5 i v)) L (pc + 1) S) : WA K (WS ad cI cD cZ x) L pc (.int (nI v) :: .int (nI i) :: .ref (ad 5) :: S) := a_iast C d (q0 := 5) (t0 := 0) rfl rfl hi (by decide) rfl k
theorem ldS_6 (C : CT K cc own (ty4 cI cD cZ cJ) lv) (d : decode cc pc = .ok (.iaload, 1)) (hi : i < 64) (k : WA K (WS ad cI cD cZ x) L (pc + 1) (.int (nI (x.2.1 6 i)) :: S)) : WA K (WS ad cI cD cZ x) L pc (.int (nI i) :: .ref (ad 6) :: S) := a_iald C d (q0 := 6) (t0 := 0) rfl rfl hi (by decide) k
theorem stS_6 (C : CT K cc own (ty4 cI cD cZ cJ) lv) (d : decode cc pc = .ok (.iastore, 1)) (hi : i < 64) (k : WA K (WS ad cI cD cZ (sA x 6 i v)) L (pc + 1) S) : WA K (WS ad cI cD cZ x) L pc (.int (nI v) :: .int (nI i) :: .ref (ad 6) :: S) := a_iast C d (q0 := 6) (t0 := 0) rfl rfl hi (by decide) rfl k
theorem ldS_7 (C : CT K cc own (ty4 cI cD cZ cJ) lv) (d : decode cc pc = .ok (.daload, 1)) (hi : i < 16) (k : WA K (WS ad cI cD cZ x) L (pc + 1) (.double (x.2.2.1 7 i) :: S)) : WA K (WS ad cI cD cZ x) L pc (.int (nI i) :: .ref (ad 7) :: S) := a_dald C d (q0 := 7) (t0 := 1) rfl rfl hi (by decide) k
theorem stS_7 {v : UInt64} (C : CT K cc own (ty4 cI cD cZ cJ) lv) (d : decode cc pc = .ok (.dastore, 1)) (hi : i < 16) (k : WA K (WS ad cI cD cZ (sD x 7 i v)) L (pc + 1) S) : WA K (WS ad cI cD cZ x) L pc (.double v :: .int (nI i) :: .ref (ad 7) :: S) := a_dast C d (q0 := 7) (t0 := 1) rfl rfl hi (by decide) rfl k
theorem ldS_8 (C : CT K cc own (ty4 cI cD cZ cJ) lv) (d : decode cc pc = .ok (.iaload, 1)) (hi : i < 16) (k : WA K (WS ad cI cD cZ x) L (pc + 1) (.int (nI (x.2.1 8 i)) :: S)) : WA K (WS ad cI cD cZ x) L pc (.int (nI i) :: .ref (ad 8) :: S) := a_iald C d (q0 := 8) (t0 := 0) rfl rfl hi (by decide) k
theorem stS_8 (C : CT K cc own (ty4 cI cD cZ cJ) lv) (d : decode cc pc = .ok (.iastore, 1)) (hi : i < 16) (k : WA K (WS ad cI cD cZ (sA x 8 i v)) L (pc + 1) S) : WA K (WS ad cI cD cZ x) L pc (.int (nI v) :: .int (nI i) :: .ref (ad 8) :: S) := a_iast C d (q0 := 8) (t0 := 0) rfl rfl hi (by decide) rfl k
theorem ldS_9 (C : CT K cc own (ty4 cI cD cZ cJ) lv) (d : decode cc pc = .ok (.iaload, 1)) (hi : i < 16) (k : WA K (WS ad cI cD cZ x) L (pc + 1) (.int (nI (x.2.1 9 i)) :: S)) : WA K (WS ad cI cD cZ x) L pc (.int (nI i) :: .ref (ad 9) :: S) := a_iald C d (q0 := 9) (t0 := 0) rfl rfl hi (by decide) k
theorem stS_9 (C : CT K cc own (ty4 cI cD cZ cJ) lv) (d : decode cc pc = .ok (.iastore, 1)) (hi : i < 16) (k : WA K (WS ad cI cD cZ (sA x 9 i v)) L (pc + 1) S) : WA K (WS ad cI cD cZ x) L pc (.int (nI v) :: .int (nI i) :: .ref (ad 9) :: S) := a_iast C d (q0 := 9) (t0 := 0) rfl rfl hi (by decide) rfl k
theorem ldS_10 (C : CT K cc own (ty4 cI cD cZ cJ) lv) (d : decode cc pc = .ok (.baload, 1)) (hi : i < 564) (k : WA K (WS ad cI cD cZ x) L (pc + 1) (.int (nI (x.2.1 10 i)) :: S)) : WA K (WS ad cI cD cZ x) L pc (.int (nI i) :: .ref (ad 10) :: S) := a_zald C d (q0 := 10) (t0 := 2) rfl rfl hi (by decide) k
theorem stS_10 (C : CT K cc own (ty4 cI cD cZ cJ) lv) (d : decode cc pc = .ok (.bastore, 1)) (hi : i < 564) (hv : v ≤ 1) (k : WA K (WS ad cI cD cZ (sA x 10 i v)) L (pc + 1) S) : WA K (WS ad cI cD cZ x) L pc (.int (nI v) :: .int (nI i) :: .ref (ad 10) :: S) := a_zast C d (q0 := 10) (t0 := 2) rfl rfl hi (by decide) hv rfl k
theorem ldS_12 (C : CT K cc own (ty4 cI cD cZ cJ) lv) (d : decode cc pc = .ok (.iaload, 1)) (hi : i < 1680) (k : WA K (WS ad cI cD cZ x) L (pc + 1) (.int (nI (x.2.1 12 i)) :: S)) : WA K (WS ad cI cD cZ x) L pc (.int (nI i) :: .ref (ad 12) :: S) := a_iald C d (q0 := 12) (t0 := 0) rfl rfl hi (by decide) k
theorem stS_12 (C : CT K cc own (ty4 cI cD cZ cJ) lv) (d : decode cc pc = .ok (.iastore, 1)) (hi : i < 1680) (k : WA K (WS ad cI cD cZ (sA x 12 i v)) L (pc + 1) S) : WA K (WS ad cI cD cZ x) L pc (.int (nI v) :: .int (nI i) :: .ref (ad 12) :: S) := a_iast C d (q0 := 12) (t0 := 0) rfl rfl hi (by decide) rfl k
theorem ldS_13 (C : CT K cc own (ty4 cI cD cZ cJ) lv) (d : decode cc pc = .ok (.daload, 1)) (hi : i < 1680) (k : WA K (WS ad cI cD cZ x) L (pc + 1) (.double (x.2.2.1 13 i) :: S)) : WA K (WS ad cI cD cZ x) L pc (.int (nI i) :: .ref (ad 13) :: S) := a_dald C d (q0 := 13) (t0 := 1) rfl rfl hi (by decide) k
theorem stS_13 {v : UInt64} (C : CT K cc own (ty4 cI cD cZ cJ) lv) (d : decode cc pc = .ok (.dastore, 1)) (hi : i < 1680) (k : WA K (WS ad cI cD cZ (sD x 13 i v)) L (pc + 1) S) : WA K (WS ad cI cD cZ x) L pc (.double v :: .int (nI i) :: .ref (ad 13) :: S) := a_dast C d (q0 := 13) (t0 := 1) rfl rfl hi (by decide) rfl k
theorem ldS_14 (C : CT K cc own (ty4 cI cD cZ cJ) lv) (d : decode cc pc = .ok (.iaload, 1)) (hi : i < 1680) (k : WA K (WS ad cI cD cZ x) L (pc + 1) (.int (nI (x.2.1 14 i)) :: S)) : WA K (WS ad cI cD cZ x) L pc (.int (nI i) :: .ref (ad 14) :: S) := a_iald C d (q0 := 14) (t0 := 0) rfl rfl hi (by decide) k
theorem stS_14 (C : CT K cc own (ty4 cI cD cZ cJ) lv) (d : decode cc pc = .ok (.iastore, 1)) (hi : i < 1680) (k : WA K (WS ad cI cD cZ (sA x 14 i v)) L (pc + 1) S) : WA K (WS ad cI cD cZ x) L pc (.int (nI v) :: .int (nI i) :: .ref (ad 14) :: S) := a_iast C d (q0 := 14) (t0 := 0) rfl rfl hi (by decide) rfl k
theorem ldS_15 (C : CT K cc own (ty4 cI cD cZ cJ) lv) (d : decode cc pc = .ok (.iaload, 1)) (hi : i < 6720) (k : WA K (WS ad cI cD cZ x) L (pc + 1) (.int (nI (x.2.1 15 i)) :: S)) : WA K (WS ad cI cD cZ x) L pc (.int (nI i) :: .ref (ad 15) :: S) := a_iald C d (q0 := 15) (t0 := 0) rfl rfl hi (by decide) k
theorem stS_15 (C : CT K cc own (ty4 cI cD cZ cJ) lv) (d : decode cc pc = .ok (.iastore, 1)) (hi : i < 6720) (k : WA K (WS ad cI cD cZ (sA x 15 i v)) L (pc + 1) S) : WA K (WS ad cI cD cZ x) L pc (.int (nI v) :: .int (nI i) :: .ref (ad 15) :: S) := a_iast C d (q0 := 15) (t0 := 0) rfl rfl hi (by decide) rfl k
theorem ldS_16 (C : CT K cc own (ty4 cI cD cZ cJ) lv) (d : decode cc pc = .ok (.iaload, 1)) (hi : i < 6720) (k : WA K (WS ad cI cD cZ x) L (pc + 1) (.int (nI (x.2.1 16 i)) :: S)) : WA K (WS ad cI cD cZ x) L pc (.int (nI i) :: .ref (ad 16) :: S) := a_iald C d (q0 := 16) (t0 := 0) rfl rfl hi (by decide) k
theorem stS_16 (C : CT K cc own (ty4 cI cD cZ cJ) lv) (d : decode cc pc = .ok (.iastore, 1)) (hi : i < 6720) (k : WA K (WS ad cI cD cZ (sA x 16 i v)) L (pc + 1) S) : WA K (WS ad cI cD cZ x) L pc (.int (nI v) :: .int (nI i) :: .ref (ad 16) :: S) := a_iast C d (q0 := 16) (t0 := 0) rfl rfl hi (by decide) rfl k
theorem ldS_17 (C : CT K cc own (ty4 cI cD cZ cJ) lv) (d : decode cc pc = .ok (.iaload, 1)) (hi : i < 6) (k : WA K (WS ad cI cD cZ x) L (pc + 1) (.int (nI (x.2.1 17 i)) :: S)) : WA K (WS ad cI cD cZ x) L pc (.int (nI i) :: .ref (ad 17) :: S) := a_iald C d (q0 := 17) (t0 := 0) rfl rfl hi (by decide) k
theorem stS_17 (C : CT K cc own (ty4 cI cD cZ cJ) lv) (d : decode cc pc = .ok (.iastore, 1)) (hi : i < 6) (k : WA K (WS ad cI cD cZ (sA x 17 i v)) L (pc + 1) S) : WA K (WS ad cI cD cZ x) L pc (.int (nI v) :: .int (nI i) :: .ref (ad 17) :: S) := a_iast C d (q0 := 17) (t0 := 0) rfl rfl hi (by decide) rfl k
theorem ldS_18 (C : CT K cc own (ty4 cI cD cZ cJ) lv) (d : decode cc pc = .ok (.iaload, 1)) (hi : i < 4) (k : WA K (WS ad cI cD cZ x) L (pc + 1) (.int (nI (x.2.1 18 i)) :: S)) : WA K (WS ad cI cD cZ x) L pc (.int (nI i) :: .ref (ad 18) :: S) := a_iald C d (q0 := 18) (t0 := 0) rfl rfl hi (by decide) k
theorem stS_18 (C : CT K cc own (ty4 cI cD cZ cJ) lv) (d : decode cc pc = .ok (.iastore, 1)) (hi : i < 4) (k : WA K (WS ad cI cD cZ (sA x 18 i v)) L (pc + 1) S) : WA K (WS ad cI cD cZ x) L pc (.int (nI v) :: .int (nI i) :: .ref (ad 18) :: S) := a_iast C d (q0 := 18) (t0 := 0) rfl rfl hi (by decide) rfl k
theorem ldS_20 (C : CT K cc own (ty4 cI cD cZ cJ) lv) (d : decode cc pc = .ok (.iaload, 1)) (hi : i < 162) (k : WA K (WS ad cI cD cZ x) L (pc + 1) (.int (nI (x.2.1 20 i)) :: S)) : WA K (WS ad cI cD cZ x) L pc (.int (nI i) :: .ref (ad 20) :: S) := a_iald C d (q0 := 20) (t0 := 0) rfl rfl hi (by decide) k
theorem stS_20 (C : CT K cc own (ty4 cI cD cZ cJ) lv) (d : decode cc pc = .ok (.iastore, 1)) (hi : i < 162) (k : WA K (WS ad cI cD cZ (sA x 20 i v)) L (pc + 1) S) : WA K (WS ad cI cD cZ x) L pc (.int (nI v) :: .int (nI i) :: .ref (ad 20) :: S) := a_iast C d (q0 := 20) (t0 := 0) rfl rfl hi (by decide) rfl k
theorem ldS_21 (C : CT K cc own (ty4 cI cD cZ cJ) lv) (d : decode cc pc = .ok (.iaload, 1)) (hi : i < 162) (k : WA K (WS ad cI cD cZ x) L (pc + 1) (.int (nI (x.2.1 21 i)) :: S)) : WA K (WS ad cI cD cZ x) L pc (.int (nI i) :: .ref (ad 21) :: S) := a_iald C d (q0 := 21) (t0 := 0) rfl rfl hi (by decide) k
theorem stS_21 (C : CT K cc own (ty4 cI cD cZ cJ) lv) (d : decode cc pc = .ok (.iastore, 1)) (hi : i < 162) (k : WA K (WS ad cI cD cZ (sA x 21 i v)) L (pc + 1) S) : WA K (WS ad cI cD cZ x) L pc (.int (nI v) :: .int (nI i) :: .ref (ad 21) :: S) := a_iast C d (q0 := 21) (t0 := 0) rfl rfl hi (by decide) rfl k
theorem ldS_22 (C : CT K cc own (ty4 cI cD cZ cJ) lv) (d : decode cc pc = .ok (.iaload, 1)) (hi : i < 162) (k : WA K (WS ad cI cD cZ x) L (pc + 1) (.int (nI (x.2.1 22 i)) :: S)) : WA K (WS ad cI cD cZ x) L pc (.int (nI i) :: .ref (ad 22) :: S) := a_iald C d (q0 := 22) (t0 := 0) rfl rfl hi (by decide) k
theorem stS_22 (C : CT K cc own (ty4 cI cD cZ cJ) lv) (d : decode cc pc = .ok (.iastore, 1)) (hi : i < 162) (k : WA K (WS ad cI cD cZ (sA x 22 i v)) L (pc + 1) S) : WA K (WS ad cI cD cZ x) L pc (.int (nI v) :: .int (nI i) :: .ref (ad 22) :: S) := a_iast C d (q0 := 22) (t0 := 0) rfl rfl hi (by decide) rfl k
theorem ldM_1 (C : CT K cc own (ty4 cI cD cZ cJ) lv) (d : decode cc pc = .ok (.iaload, 1)) (hi : i < 14) (k : WA K (WM ad cI cD cZ x) L (pc + 1) (.int (nI (x.2.1 1 i)) :: S)) : WA K (WM ad cI cD cZ x) L pc (.int (nI i) :: .ref (ad 1) :: S) := a_iald C d (q0 := 1) (t0 := 0) rfl rfl hi (by decide) k
theorem stM_1 (C : CT K cc own (ty4 cI cD cZ cJ) lv) (d : decode cc pc = .ok (.iastore, 1)) (hi : i < 14) (k : WA K (WM ad cI cD cZ (sA x 1 i v)) L (pc + 1) S) : WA K (WM ad cI cD cZ x) L pc (.int (nI v) :: .int (nI i) :: .ref (ad 1) :: S) := a_iast C d (q0 := 1) (t0 := 0) rfl rfl hi (by decide) rfl k
theorem ldM_2 (C : CT K cc own (ty4 cI cD cZ cJ) lv) (d : decode cc pc = .ok (.iaload, 1)) (hi : i < 14) (k : WA K (WM ad cI cD cZ x) L (pc + 1) (.int (nI (x.2.1 2 i)) :: S)) : WA K (WM ad cI cD cZ x) L pc (.int (nI i) :: .ref (ad 2) :: S) := a_iald C d (q0 := 2) (t0 := 0) rfl rfl hi (by decide) k
theorem stM_2 (C : CT K cc own (ty4 cI cD cZ cJ) lv) (d : decode cc pc = .ok (.iastore, 1)) (hi : i < 14) (k : WA K (WM ad cI cD cZ (sA x 2 i v)) L (pc + 1) S) : WA K (WM ad cI cD cZ x) L pc (.int (nI v) :: .int (nI i) :: .ref (ad 2) :: S) := a_iast C d (q0 := 2) (t0 := 0) rfl rfl hi (by decide) rfl k
theorem ldM_3 (C : CT K cc own (ty4 cI cD cZ cJ) lv) (d : decode cc pc = .ok (.iaload, 1)) (hi : i < 16) (k : WA K (WM ad cI cD cZ x) L (pc + 1) (.int (nI (x.2.1 3 i)) :: S)) : WA K (WM ad cI cD cZ x) L pc (.int (nI i) :: .ref (ad 3) :: S) := a_iald C d (q0 := 3) (t0 := 0) rfl rfl hi (by decide) k
theorem stM_3 (C : CT K cc own (ty4 cI cD cZ cJ) lv) (d : decode cc pc = .ok (.iastore, 1)) (hi : i < 16) (k : WA K (WM ad cI cD cZ (sA x 3 i v)) L (pc + 1) S) : WA K (WM ad cI cD cZ x) L pc (.int (nI v) :: .int (nI i) :: .ref (ad 3) :: S) := a_iast C d (q0 := 3) (t0 := 0) rfl rfl hi (by decide) rfl k
theorem ldM_4 (C : CT K cc own (ty4 cI cD cZ cJ) lv) (d : decode cc pc = .ok (.iaload, 1)) (hi : i < 16) (k : WA K (WM ad cI cD cZ x) L (pc + 1) (.int (nI (x.2.1 4 i)) :: S)) : WA K (WM ad cI cD cZ x) L pc (.int (nI i) :: .ref (ad 4) :: S) := a_iald C d (q0 := 4) (t0 := 0) rfl rfl hi (by decide) k
theorem stM_4 (C : CT K cc own (ty4 cI cD cZ cJ) lv) (d : decode cc pc = .ok (.iastore, 1)) (hi : i < 16) (k : WA K (WM ad cI cD cZ (sA x 4 i v)) L (pc + 1) S) : WA K (WM ad cI cD cZ x) L pc (.int (nI v) :: .int (nI i) :: .ref (ad 4) :: S) := a_iast C d (q0 := 4) (t0 := 0) rfl rfl hi (by decide) rfl k
theorem ldM_5 (C : CT K cc own (ty4 cI cD cZ cJ) lv) (d : decode cc pc = .ok (.iaload, 1)) (hi : i < 64) (k : WA K (WM ad cI cD cZ x) L (pc + 1) (.int (nI (x.2.1 5 i)) :: S)) : WA K (WM ad cI cD cZ x) L pc (.int (nI i) :: .ref (ad 5) :: S) := a_iald C d (q0 := 5) (t0 := 0) rfl rfl hi (by decide) k
theorem stM_5 (C : CT K cc own (ty4 cI cD cZ cJ) lv) (d : decode cc pc = .ok (.iastore, 1)) (hi : i < 64) (k : WA K (WM ad cI cD cZ (sA x 5 i v)) L (pc + 1) S) : WA K (WM ad cI cD cZ x) L pc (.int (nI v) :: .int (nI i) :: .ref (ad 5) :: S) := a_iast C d (q0 := 5) (t0 := 0) rfl rfl hi (by decide) rfl k
theorem ldM_6 (C : CT K cc own (ty4 cI cD cZ cJ) lv) (d : decode cc pc = .ok (.iaload, 1)) (hi : i < 16) (k : WA K (WM ad cI cD cZ x) L (pc + 1) (.int (nI (x.2.1 6 i)) :: S)) : WA K (WM ad cI cD cZ x) L pc (.int (nI i) :: .ref (ad 6) :: S) := a_iald C d (q0 := 6) (t0 := 0) rfl rfl hi (by decide) k
theorem stM_6 (C : CT K cc own (ty4 cI cD cZ cJ) lv) (d : decode cc pc = .ok (.iastore, 1)) (hi : i < 16) (k : WA K (WM ad cI cD cZ (sA x 6 i v)) L (pc + 1) S) : WA K (WM ad cI cD cZ x) L pc (.int (nI v) :: .int (nI i) :: .ref (ad 6) :: S) := a_iast C d (q0 := 6) (t0 := 0) rfl rfl hi (by decide) rfl k
theorem ldM_7 (C : CT K cc own (ty4 cI cD cZ cJ) lv) (d : decode cc pc = .ok (.iaload, 1)) (hi : i < 5) (k : WA K (WM ad cI cD cZ x) L (pc + 1) (.int (nI (x.2.1 7 i)) :: S)) : WA K (WM ad cI cD cZ x) L pc (.int (nI i) :: .ref (ad 7) :: S) := a_iald C d (q0 := 7) (t0 := 0) rfl rfl hi (by decide) k
theorem stM_7 (C : CT K cc own (ty4 cI cD cZ cJ) lv) (d : decode cc pc = .ok (.iastore, 1)) (hi : i < 5) (k : WA K (WM ad cI cD cZ (sA x 7 i v)) L (pc + 1) S) : WA K (WM ad cI cD cZ x) L pc (.int (nI v) :: .int (nI i) :: .ref (ad 7) :: S) := a_iast C d (q0 := 7) (t0 := 0) rfl rfl hi (by decide) rfl k
theorem ldM_8 (C : CT K cc own (ty4 cI cD cZ cJ) lv) (d : decode cc pc = .ok (.iaload, 1)) (hi : i < 5) (k : WA K (WM ad cI cD cZ x) L (pc + 1) (.int (nI (x.2.1 8 i)) :: S)) : WA K (WM ad cI cD cZ x) L pc (.int (nI i) :: .ref (ad 8) :: S) := a_iald C d (q0 := 8) (t0 := 0) rfl rfl hi (by decide) k
theorem stM_8 (C : CT K cc own (ty4 cI cD cZ cJ) lv) (d : decode cc pc = .ok (.iastore, 1)) (hi : i < 5) (k : WA K (WM ad cI cD cZ (sA x 8 i v)) L (pc + 1) S) : WA K (WM ad cI cD cZ x) L pc (.int (nI v) :: .int (nI i) :: .ref (ad 8) :: S) := a_iast C d (q0 := 8) (t0 := 0) rfl rfl hi (by decide) rfl k
theorem ldM_9 (C : CT K cc own (ty4 cI cD cZ cJ) lv) (d : decode cc pc = .ok (.daload, 1)) (hi : i < 16) (k : WA K (WM ad cI cD cZ x) L (pc + 1) (.double (x.2.2.1 9 i) :: S)) : WA K (WM ad cI cD cZ x) L pc (.int (nI i) :: .ref (ad 9) :: S) := a_dald C d (q0 := 9) (t0 := 1) rfl rfl hi (by decide) k
theorem stM_9 {v : UInt64} (C : CT K cc own (ty4 cI cD cZ cJ) lv) (d : decode cc pc = .ok (.dastore, 1)) (hi : i < 16) (k : WA K (WM ad cI cD cZ (sD x 9 i v)) L (pc + 1) S) : WA K (WM ad cI cD cZ x) L pc (.double v :: .int (nI i) :: .ref (ad 9) :: S) := a_dast C d (q0 := 9) (t0 := 1) rfl rfl hi (by decide) rfl k
theorem ldM_10 (C : CT K cc own (ty4 cI cD cZ cJ) lv) (d : decode cc pc = .ok (.daload, 1)) (hi : i < 3600) (k : WA K (WM ad cI cD cZ x) L (pc + 1) (.double (x.2.2.1 10 i) :: S)) : WA K (WM ad cI cD cZ x) L pc (.int (nI i) :: .ref (ad 10) :: S) := a_dald C d (q0 := 10) (t0 := 1) rfl rfl hi (by decide) k
theorem stM_10 {v : UInt64} (C : CT K cc own (ty4 cI cD cZ cJ) lv) (d : decode cc pc = .ok (.dastore, 1)) (hi : i < 3600) (k : WA K (WM ad cI cD cZ (sD x 10 i v)) L (pc + 1) S) : WA K (WM ad cI cD cZ x) L pc (.double v :: .int (nI i) :: .ref (ad 10) :: S) := a_dast C d (q0 := 10) (t0 := 1) rfl rfl hi (by decide) rfl k
theorem ldM_11 (C : CT K cc own (ty4 cI cD cZ cJ) lv) (d : decode cc pc = .ok (.baload, 1)) (hi : i < 256) (k : WA K (WM ad cI cD cZ x) L (pc + 1) (.int (nI (x.2.1 11 i)) :: S)) : WA K (WM ad cI cD cZ x) L pc (.int (nI i) :: .ref (ad 11) :: S) := a_zald C d (q0 := 11) (t0 := 2) rfl rfl hi (by decide) k
theorem stM_11 (C : CT K cc own (ty4 cI cD cZ cJ) lv) (d : decode cc pc = .ok (.bastore, 1)) (hi : i < 256) (hv : v ≤ 1) (k : WA K (WM ad cI cD cZ (sA x 11 i v)) L (pc + 1) S) : WA K (WM ad cI cD cZ x) L pc (.int (nI v) :: .int (nI i) :: .ref (ad 11) :: S) := a_zast C d (q0 := 11) (t0 := 2) rfl rfl hi (by decide) hv rfl k
theorem ldM_12 (C : CT K cc own (ty4 cI cD cZ cJ) lv) (d : decode cc pc = .ok (.baload, 1)) (hi : i < 762) (k : WA K (WM ad cI cD cZ x) L (pc + 1) (.int (nI (x.2.1 12 i)) :: S)) : WA K (WM ad cI cD cZ x) L pc (.int (nI i) :: .ref (ad 12) :: S) := a_zald C d (q0 := 12) (t0 := 2) rfl rfl hi (by decide) k
theorem stM_12 (C : CT K cc own (ty4 cI cD cZ cJ) lv) (d : decode cc pc = .ok (.bastore, 1)) (hi : i < 762) (hv : v ≤ 1) (k : WA K (WM ad cI cD cZ (sA x 12 i v)) L (pc + 1) S) : WA K (WM ad cI cD cZ x) L pc (.int (nI v) :: .int (nI i) :: .ref (ad 12) :: S) := a_zast C d (q0 := 12) (t0 := 2) rfl rfl hi (by decide) hv rfl k
theorem ldM_13 (C : CT K cc own (ty4 cI cD cZ cJ) lv) (d : decode cc pc = .ok (.baload, 1)) (hi : i < 1350) (k : WA K (WM ad cI cD cZ x) L (pc + 1) (.int (nI (x.2.1 13 i)) :: S)) : WA K (WM ad cI cD cZ x) L pc (.int (nI i) :: .ref (ad 13) :: S) := a_zald C d (q0 := 13) (t0 := 2) rfl rfl hi (by decide) k
theorem stM_13 (C : CT K cc own (ty4 cI cD cZ cJ) lv) (d : decode cc pc = .ok (.bastore, 1)) (hi : i < 1350) (hv : v ≤ 1) (k : WA K (WM ad cI cD cZ (sA x 13 i v)) L (pc + 1) S) : WA K (WM ad cI cD cZ x) L pc (.int (nI v) :: .int (nI i) :: .ref (ad 13) :: S) := a_zast C d (q0 := 13) (t0 := 2) rfl rfl hi (by decide) hv rfl k
theorem ldM_14 (C : CT K cc own (ty4 cI cD cZ cJ) lv) (d : decode cc pc = .ok (.iaload, 1)) (hi : i < 3600) (k : WA K (WM ad cI cD cZ x) L (pc + 1) (.int (nI (x.2.1 14 i)) :: S)) : WA K (WM ad cI cD cZ x) L pc (.int (nI i) :: .ref (ad 14) :: S) := a_iald C d (q0 := 14) (t0 := 0) rfl rfl hi (by decide) k
theorem stM_14 (C : CT K cc own (ty4 cI cD cZ cJ) lv) (d : decode cc pc = .ok (.iastore, 1)) (hi : i < 3600) (k : WA K (WM ad cI cD cZ (sA x 14 i v)) L (pc + 1) S) : WA K (WM ad cI cD cZ x) L pc (.int (nI v) :: .int (nI i) :: .ref (ad 14) :: S) := a_iast C d (q0 := 14) (t0 := 0) rfl rfl hi (by decide) rfl k
theorem ldM_15 (C : CT K cc own (ty4 cI cD cZ cJ) lv) (d : decode cc pc = .ok (.iaload, 1)) (hi : i < 400) (k : WA K (WM ad cI cD cZ x) L (pc + 1) (.int (nI (x.2.1 15 i)) :: S)) : WA K (WM ad cI cD cZ x) L pc (.int (nI i) :: .ref (ad 15) :: S) := a_iald C d (q0 := 15) (t0 := 0) rfl rfl hi (by decide) k
theorem stM_15 (C : CT K cc own (ty4 cI cD cZ cJ) lv) (d : decode cc pc = .ok (.iastore, 1)) (hi : i < 400) (k : WA K (WM ad cI cD cZ (sA x 15 i v)) L (pc + 1) S) : WA K (WM ad cI cD cZ x) L pc (.int (nI v) :: .int (nI i) :: .ref (ad 15) :: S) := a_iast C d (q0 := 15) (t0 := 0) rfl rfl hi (by decide) rfl k
theorem ldM_16 (C : CT K cc own (ty4 cI cD cZ cJ) lv) (d : decode cc pc = .ok (.iaload, 1)) (hi : i < 400) (k : WA K (WM ad cI cD cZ x) L (pc + 1) (.int (nI (x.2.1 16 i)) :: S)) : WA K (WM ad cI cD cZ x) L pc (.int (nI i) :: .ref (ad 16) :: S) := a_iald C d (q0 := 16) (t0 := 0) rfl rfl hi (by decide) k
theorem stM_16 (C : CT K cc own (ty4 cI cD cZ cJ) lv) (d : decode cc pc = .ok (.iastore, 1)) (hi : i < 400) (k : WA K (WM ad cI cD cZ (sA x 16 i v)) L (pc + 1) S) : WA K (WM ad cI cD cZ x) L pc (.int (nI v) :: .int (nI i) :: .ref (ad 16) :: S) := a_iast C d (q0 := 16) (t0 := 0) rfl rfl hi (by decide) rfl k
theorem ldM_17 (C : CT K cc own (ty4 cI cD cZ cJ) lv) (d : decode cc pc = .ok (.iaload, 1)) (hi : i < 400) (k : WA K (WM ad cI cD cZ x) L (pc + 1) (.int (nI (x.2.1 17 i)) :: S)) : WA K (WM ad cI cD cZ x) L pc (.int (nI i) :: .ref (ad 17) :: S) := a_iald C d (q0 := 17) (t0 := 0) rfl rfl hi (by decide) k
theorem stM_17 (C : CT K cc own (ty4 cI cD cZ cJ) lv) (d : decode cc pc = .ok (.iastore, 1)) (hi : i < 400) (k : WA K (WM ad cI cD cZ (sA x 17 i v)) L (pc + 1) S) : WA K (WM ad cI cD cZ x) L pc (.int (nI v) :: .int (nI i) :: .ref (ad 17) :: S) := a_iast C d (q0 := 17) (t0 := 0) rfl rfl hi (by decide) rfl k
theorem ldM_18 (C : CT K cc own (ty4 cI cD cZ cJ) lv) (d : decode cc pc = .ok (.iaload, 1)) (hi : i < 400) (k : WA K (WM ad cI cD cZ x) L (pc + 1) (.int (nI (x.2.1 18 i)) :: S)) : WA K (WM ad cI cD cZ x) L pc (.int (nI i) :: .ref (ad 18) :: S) := a_iald C d (q0 := 18) (t0 := 0) rfl rfl hi (by decide) k
theorem stM_18 (C : CT K cc own (ty4 cI cD cZ cJ) lv) (d : decode cc pc = .ok (.iastore, 1)) (hi : i < 400) (k : WA K (WM ad cI cD cZ (sA x 18 i v)) L (pc + 1) S) : WA K (WM ad cI cD cZ x) L pc (.int (nI v) :: .int (nI i) :: .ref (ad 18) :: S) := a_iast C d (q0 := 18) (t0 := 0) rfl rfl hi (by decide) rfl k
theorem ldM_19 (C : CT K cc own (ty4 cI cD cZ cJ) lv) (d : decode cc pc = .ok (.iaload, 1)) (hi : i < 400) (k : WA K (WM ad cI cD cZ x) L (pc + 1) (.int (nI (x.2.1 19 i)) :: S)) : WA K (WM ad cI cD cZ x) L pc (.int (nI i) :: .ref (ad 19) :: S) := a_iald C d (q0 := 19) (t0 := 0) rfl rfl hi (by decide) k
theorem stM_19 (C : CT K cc own (ty4 cI cD cZ cJ) lv) (d : decode cc pc = .ok (.iastore, 1)) (hi : i < 400) (k : WA K (WM ad cI cD cZ (sA x 19 i v)) L (pc + 1) S) : WA K (WM ad cI cD cZ x) L pc (.int (nI v) :: .int (nI i) :: .ref (ad 19) :: S) := a_iast C d (q0 := 19) (t0 := 0) rfl rfl hi (by decide) rfl k
theorem ldM_20 (C : CT K cc own (ty4 cI cD cZ cJ) lv) (d : decode cc pc = .ok (.iaload, 1)) (hi : i < 1600) (k : WA K (WM ad cI cD cZ x) L (pc + 1) (.int (nI (x.2.1 20 i)) :: S)) : WA K (WM ad cI cD cZ x) L pc (.int (nI i) :: .ref (ad 20) :: S) := a_iald C d (q0 := 20) (t0 := 0) rfl rfl hi (by decide) k
theorem stM_20 (C : CT K cc own (ty4 cI cD cZ cJ) lv) (d : decode cc pc = .ok (.iastore, 1)) (hi : i < 1600) (k : WA K (WM ad cI cD cZ (sA x 20 i v)) L (pc + 1) S) : WA K (WM ad cI cD cZ x) L pc (.int (nI v) :: .int (nI i) :: .ref (ad 20) :: S) := a_iast C d (q0 := 20) (t0 := 0) rfl rfl hi (by decide) rfl k
theorem g_C_9 (C : CT K cc RC (ty4 cI cD cZ cJ) lv) (d : decode cc pc = .ok (.getfield 9, 3)) (k : WA K (WS ad cI cD cZ x) L (pc + 3) (.ref (ad 12) :: S)) : WA K (WS ad cI cD cZ x) L pc (.ref (ad 11) :: S) := a_get C inC rfl 0 (by decide) wF_C_9 d (q0 := 11) rfl rfl k
theorem g_C_15 (C : CT K cc RC (ty4 cI cD cZ cJ) lv) (d : decode cc pc = .ok (.getfield 15, 3)) (k : WA K (WS ad cI cD cZ x) L (pc + 3) (.ref (ad 13) :: S)) : WA K (WS ad cI cD cZ x) L pc (.ref (ad 11) :: S) := a_get C inC rfl 1 (by decide) wF_C_15 d (q0 := 11) rfl rfl k
theorem g_C_19 (C : CT K cc RC (ty4 cI cD cZ cJ) lv) (d : decode cc pc = .ok (.getfield 19, 3)) (k : WA K (WS ad cI cD cZ x) L (pc + 3) (.ref (ad 14) :: S)) : WA K (WS ad cI cD cZ x) L pc (.ref (ad 11) :: S) := a_get C inC rfl 2 (by decide) wF_C_19 d (q0 := 11) rfl rfl k
theorem g_C_22 (C : CT K cc RC (ty4 cI cD cZ cJ) lv) (d : decode cc pc = .ok (.getfield 22, 3)) (k : WA K (WS ad cI cD cZ x) L (pc + 3) (.ref (ad 15) :: S)) : WA K (WS ad cI cD cZ x) L pc (.ref (ad 11) :: S) := a_get C inC rfl 3 (by decide) wF_C_22 d (q0 := 11) rfl rfl k
theorem g_C_25 (C : CT K cc RC (ty4 cI cD cZ cJ) lv) (d : decode cc pc = .ok (.getfield 25, 3)) (k : WA K (WS ad cI cD cZ x) L (pc + 3) (.ref (ad 16) :: S)) : WA K (WS ad cI cD cZ x) L pc (.ref (ad 11) :: S) := a_get C inC rfl 4 (by decide) wF_C_25 d (q0 := 11) rfl rfl k
theorem g_C_28 (C : CT K cc RC (ty4 cI cD cZ cJ) lv) (d : decode cc pc = .ok (.getfield 28, 3)) (k : WA K (WS ad cI cD cZ x) L (pc + 3) (.ref (ad 17) :: S)) : WA K (WS ad cI cD cZ x) L pc (.ref (ad 11) :: S) := a_get C inC rfl 5 (by decide) wF_C_28 d (q0 := 11) rfl rfl k
theorem g_C_31 (C : CT K cc RC (ty4 cI cD cZ cJ) lv) (d : decode cc pc = .ok (.getfield 31, 3)) (k : WA K (WS ad cI cD cZ x) L (pc + 3) (.ref (ad 18) :: S)) : WA K (WS ad cI cD cZ x) L pc (.ref (ad 11) :: S) := a_get C inC rfl 6 (by decide) wF_C_31 d (q0 := 11) rfl rfl k
theorem g_E_9 (C : CT K cc RE (ty4 cI cD cZ cJ) lv) (d : decode cc pc = .ok (.getfield 9, 3)) (k : WA K (WS ad cI cD cZ x) L (pc + 3) (.ref (ad 20) :: S)) : WA K (WS ad cI cD cZ x) L pc (.ref (ad 19) :: S) := a_get C inE rfl 0 (by decide) wF_E_9 d (q0 := 19) rfl rfl k
theorem g_E_15 (C : CT K cc RE (ty4 cI cD cZ cJ) lv) (d : decode cc pc = .ok (.getfield 15, 3)) (k : WA K (WS ad cI cD cZ x) L (pc + 3) (.ref (ad 21) :: S)) : WA K (WS ad cI cD cZ x) L pc (.ref (ad 19) :: S) := a_get C inE rfl 1 (by decide) wF_E_15 d (q0 := 19) rfl rfl k
theorem g_E_18 (C : CT K cc RE (ty4 cI cD cZ cJ) lv) (d : decode cc pc = .ok (.getfield 18, 3)) (k : WA K (WS ad cI cD cZ x) L (pc + 3) (.ref (ad 22) :: S)) : WA K (WS ad cI cD cZ x) L pc (.ref (ad 19) :: S) := a_get C inE rfl 2 (by decide) wF_E_18 d (q0 := 19) rfl rfl k
theorem g_E_21 (C : CT K cc RE (ty4 cI cD cZ cJ) lv) (d : decode cc pc = .ok (.getfield 21, 3)) (k : WA K (WS ad cI cD cZ x) L (pc + 3) (.int (nI (x.1 4)) :: S)) : WA K (WS ad cI cD cZ x) L pc (.ref (ad 19) :: S) := a_get C inE rfl 3 (by decide) wF_E_21 d (q0 := 19) rfl rfl k
theorem p_E_21 (C : CT K cc RE (ty4 cI cD cZ cJ) lv) (d : decode cc pc = .ok (.putfield 21, 3)) (k : WA K (WS ad cI cD cZ (sS x 4 v)) L (pc + 3) S) : WA K (WS ad cI cD cZ x) L pc (.int (nI v) :: .ref (ad 19) :: S) := a_put C inE tyE_ok nmE rfl 3 (by decide) wF_E_21 rfl (ty := .int) (by decide +kernel) d (q0 := 19) rfl (Nat.le_of_ble_eq_true rfl) rfl rfl rfl k
theorem g_G_9 (C : CT K cc RG (ty4 cI cD cZ cJ) lv) (d : decode cc pc = .ok (.getfield 9, 3)) (k : WA K (WS ad cI cD cZ x) L (pc + 3) (.ref (ad 4) :: S)) : WA K (WS ad cI cD cZ x) L pc (.ref (ad 3) :: S) := a_get C inG rfl 0 (by decide) wF_G_9 d (q0 := 3) rfl rfl k
theorem g_G_15 (C : CT K cc RG (ty4 cI cD cZ cJ) lv) (d : decode cc pc = .ok (.getfield 15, 3)) (k : WA K (WS ad cI cD cZ x) L (pc + 3) (.ref (ad 5) :: S)) : WA K (WS ad cI cD cZ x) L pc (.ref (ad 3) :: S) := a_get C inG rfl 1 (by decide) wF_G_15 d (q0 := 3) rfl rfl k
theorem g_G_18 (C : CT K cc RG (ty4 cI cD cZ cJ) lv) (d : decode cc pc = .ok (.getfield 18, 3)) (k : WA K (WS ad cI cD cZ x) L (pc + 3) (.ref (ad 6) :: S)) : WA K (WS ad cI cD cZ x) L pc (.ref (ad 3) :: S) := a_get C inG rfl 2 (by decide) wF_G_18 d (q0 := 3) rfl rfl k
theorem g_G_21 (C : CT K cc RG (ty4 cI cD cZ cJ) lv) (d : decode cc pc = .ok (.getfield 21, 3)) (k : WA K (WS ad cI cD cZ x) L (pc + 3) (.ref (ad 7) :: S)) : WA K (WS ad cI cD cZ x) L pc (.ref (ad 3) :: S) := a_get C inG rfl 3 (by decide) wF_G_21 d (q0 := 3) rfl rfl k
theorem g_G_25 (C : CT K cc RG (ty4 cI cD cZ cJ) lv) (d : decode cc pc = .ok (.getfield 25, 3)) (k : WA K (WS ad cI cD cZ x) L (pc + 3) (.ref (ad 8) :: S)) : WA K (WS ad cI cD cZ x) L pc (.ref (ad 3) :: S) := a_get C inG rfl 4 (by decide) wF_G_25 d (q0 := 3) rfl rfl k
theorem g_G_28 (C : CT K cc RG (ty4 cI cD cZ cJ) lv) (d : decode cc pc = .ok (.getfield 28, 3)) (k : WA K (WS ad cI cD cZ x) L (pc + 3) (.ref (ad 9) :: S)) : WA K (WS ad cI cD cZ x) L pc (.ref (ad 3) :: S) := a_get C inG rfl 5 (by decide) wF_G_28 d (q0 := 3) rfl rfl k
theorem g_G_31 (C : CT K cc RG (ty4 cI cD cZ cJ) lv) (d : decode cc pc = .ok (.getfield 31, 3)) (k : WA K (WS ad cI cD cZ x) L (pc + 3) (.ref (ad 10) :: S)) : WA K (WS ad cI cD cZ x) L pc (.ref (ad 3) :: S) := a_get C inG rfl 6 (by decide) wF_G_31 d (q0 := 3) rfl rfl k
theorem g_G_35 (C : CT K cc RG (ty4 cI cD cZ cJ) lv) (d : decode cc pc = .ok (.getfield 35, 3)) (k : WA K (WS ad cI cD cZ x) L (pc + 3) (.int (nI (x.1 3)) :: S)) : WA K (WS ad cI cD cZ x) L pc (.ref (ad 3) :: S) := a_get C inG rfl 7 (by decide) wF_G_35 d (q0 := 3) rfl rfl k
theorem p_G_35 (C : CT K cc RG (ty4 cI cD cZ cJ) lv) (d : decode cc pc = .ok (.putfield 35, 3)) (k : WA K (WS ad cI cD cZ (sS x 3 v)) L (pc + 3) S) : WA K (WS ad cI cD cZ x) L pc (.int (nI v) :: .ref (ad 3) :: S) := a_put C inG tyG_ok nmG rfl 7 (by decide) wF_G_35 rfl (ty := .int) (by decide +kernel) d (q0 := 3) rfl (Nat.le_of_ble_eq_true rfl) rfl rfl rfl k
theorem g_M_7 (C : CT K cc RM (ty4 cI cD cZ cJ) lv) (d : decode cc pc = .ok (.getfield 7, 3)) (k : WA K (WM ad cI cD cZ x) L (pc + 3) (.ref (ad 1) :: S)) : WA K (WM ad cI cD cZ x) L pc (.ref (ad 0) :: S) := a_get C inM rfl 0 (by decide) wF_M_7 d (q0 := 0) rfl rfl k
theorem g_M_13 (C : CT K cc RM (ty4 cI cD cZ cJ) lv) (d : decode cc pc = .ok (.getfield 13, 3)) (k : WA K (WM ad cI cD cZ x) L (pc + 3) (.ref (ad 2) :: S)) : WA K (WM ad cI cD cZ x) L pc (.ref (ad 0) :: S) := a_get C inM rfl 1 (by decide) wF_M_13 d (q0 := 0) rfl rfl k
theorem g_M_16 (C : CT K cc RM (ty4 cI cD cZ cJ) lv) (d : decode cc pc = .ok (.getfield 16, 3)) (k : WA K (WM ad cI cD cZ x) L (pc + 3) (.ref (ad 3) :: S)) : WA K (WM ad cI cD cZ x) L pc (.ref (ad 0) :: S) := a_get C inM rfl 2 (by decide) wF_M_16 d (q0 := 0) rfl rfl k
theorem g_M_19 (C : CT K cc RM (ty4 cI cD cZ cJ) lv) (d : decode cc pc = .ok (.getfield 19, 3)) (k : WA K (WM ad cI cD cZ x) L (pc + 3) (.ref (ad 4) :: S)) : WA K (WM ad cI cD cZ x) L pc (.ref (ad 0) :: S) := a_get C inM rfl 3 (by decide) wF_M_19 d (q0 := 0) rfl rfl k
theorem g_M_22 (C : CT K cc RM (ty4 cI cD cZ cJ) lv) (d : decode cc pc = .ok (.getfield 22, 3)) (k : WA K (WM ad cI cD cZ x) L (pc + 3) (.ref (ad 5) :: S)) : WA K (WM ad cI cD cZ x) L pc (.ref (ad 0) :: S) := a_get C inM rfl 4 (by decide) wF_M_22 d (q0 := 0) rfl rfl k
theorem g_M_25 (C : CT K cc RM (ty4 cI cD cZ cJ) lv) (d : decode cc pc = .ok (.getfield 25, 3)) (k : WA K (WM ad cI cD cZ x) L (pc + 3) (.ref (ad 6) :: S)) : WA K (WM ad cI cD cZ x) L pc (.ref (ad 0) :: S) := a_get C inM rfl 5 (by decide) wF_M_25 d (q0 := 0) rfl rfl k
theorem g_M_28 (C : CT K cc RM (ty4 cI cD cZ cJ) lv) (d : decode cc pc = .ok (.getfield 28, 3)) (k : WA K (WM ad cI cD cZ x) L (pc + 3) (.ref (ad 7) :: S)) : WA K (WM ad cI cD cZ x) L pc (.ref (ad 0) :: S) := a_get C inM rfl 6 (by decide) wF_M_28 d (q0 := 0) rfl rfl k
theorem g_M_31 (C : CT K cc RM (ty4 cI cD cZ cJ) lv) (d : decode cc pc = .ok (.getfield 31, 3)) (k : WA K (WM ad cI cD cZ x) L (pc + 3) (.ref (ad 8) :: S)) : WA K (WM ad cI cD cZ x) L pc (.ref (ad 0) :: S) := a_get C inM rfl 7 (by decide) wF_M_31 d (q0 := 0) rfl rfl k
theorem g_M_34 (C : CT K cc RM (ty4 cI cD cZ cJ) lv) (d : decode cc pc = .ok (.getfield 34, 3)) (k : WA K (WM ad cI cD cZ x) L (pc + 3) (.ref (ad 9) :: S)) : WA K (WM ad cI cD cZ x) L pc (.ref (ad 0) :: S) := a_get C inM rfl 8 (by decide) wF_M_34 d (q0 := 0) rfl rfl k
theorem g_M_38 (C : CT K cc RM (ty4 cI cD cZ cJ) lv) (d : decode cc pc = .ok (.getfield 38, 3)) (k : WA K (WM ad cI cD cZ x) L (pc + 3) (.ref (ad 10) :: S)) : WA K (WM ad cI cD cZ x) L pc (.ref (ad 0) :: S) := a_get C inM rfl 9 (by decide) wF_M_38 d (q0 := 0) rfl rfl k
theorem g_M_41 (C : CT K cc RM (ty4 cI cD cZ cJ) lv) (d : decode cc pc = .ok (.getfield 41, 3)) (k : WA K (WM ad cI cD cZ x) L (pc + 3) (.ref (ad 11) :: S)) : WA K (WM ad cI cD cZ x) L pc (.ref (ad 0) :: S) := a_get C inM rfl 10 (by decide) wF_M_41 d (q0 := 0) rfl rfl k
theorem g_M_45 (C : CT K cc RM (ty4 cI cD cZ cJ) lv) (d : decode cc pc = .ok (.getfield 45, 3)) (k : WA K (WM ad cI cD cZ x) L (pc + 3) (.ref (ad 12) :: S)) : WA K (WM ad cI cD cZ x) L pc (.ref (ad 0) :: S) := a_get C inM rfl 11 (by decide) wF_M_45 d (q0 := 0) rfl rfl k
theorem g_M_48 (C : CT K cc RM (ty4 cI cD cZ cJ) lv) (d : decode cc pc = .ok (.getfield 48, 3)) (k : WA K (WM ad cI cD cZ x) L (pc + 3) (.ref (ad 13) :: S)) : WA K (WM ad cI cD cZ x) L pc (.ref (ad 0) :: S) := a_get C inM rfl 12 (by decide) wF_M_48 d (q0 := 0) rfl rfl k
theorem g_M_51 (C : CT K cc RM (ty4 cI cD cZ cJ) lv) (d : decode cc pc = .ok (.getfield 51, 3)) (k : WA K (WM ad cI cD cZ x) L (pc + 3) (.ref (ad 14) :: S)) : WA K (WM ad cI cD cZ x) L pc (.ref (ad 0) :: S) := a_get C inM rfl 13 (by decide) wF_M_51 d (q0 := 0) rfl rfl k
theorem g_M_54 (C : CT K cc RM (ty4 cI cD cZ cJ) lv) (d : decode cc pc = .ok (.getfield 54, 3)) (k : WA K (WM ad cI cD cZ x) L (pc + 3) (.ref (ad 15) :: S)) : WA K (WM ad cI cD cZ x) L pc (.ref (ad 0) :: S) := a_get C inM rfl 14 (by decide) wF_M_54 d (q0 := 0) rfl rfl k
theorem g_M_57 (C : CT K cc RM (ty4 cI cD cZ cJ) lv) (d : decode cc pc = .ok (.getfield 57, 3)) (k : WA K (WM ad cI cD cZ x) L (pc + 3) (.ref (ad 16) :: S)) : WA K (WM ad cI cD cZ x) L pc (.ref (ad 0) :: S) := a_get C inM rfl 15 (by decide) wF_M_57 d (q0 := 0) rfl rfl k
theorem g_M_60 (C : CT K cc RM (ty4 cI cD cZ cJ) lv) (d : decode cc pc = .ok (.getfield 60, 3)) (k : WA K (WM ad cI cD cZ x) L (pc + 3) (.ref (ad 17) :: S)) : WA K (WM ad cI cD cZ x) L pc (.ref (ad 0) :: S) := a_get C inM rfl 16 (by decide) wF_M_60 d (q0 := 0) rfl rfl k
theorem g_M_63 (C : CT K cc RM (ty4 cI cD cZ cJ) lv) (d : decode cc pc = .ok (.getfield 63, 3)) (k : WA K (WM ad cI cD cZ x) L (pc + 3) (.ref (ad 18) :: S)) : WA K (WM ad cI cD cZ x) L pc (.ref (ad 0) :: S) := a_get C inM rfl 17 (by decide) wF_M_63 d (q0 := 0) rfl rfl k
theorem g_M_66 (C : CT K cc RM (ty4 cI cD cZ cJ) lv) (d : decode cc pc = .ok (.getfield 66, 3)) (k : WA K (WM ad cI cD cZ x) L (pc + 3) (.ref (ad 19) :: S)) : WA K (WM ad cI cD cZ x) L pc (.ref (ad 0) :: S) := a_get C inM rfl 18 (by decide) wF_M_66 d (q0 := 0) rfl rfl k
theorem g_M_69 (C : CT K cc RM (ty4 cI cD cZ cJ) lv) (d : decode cc pc = .ok (.getfield 69, 3)) (k : WA K (WM ad cI cD cZ x) L (pc + 3) (.ref (ad 20) :: S)) : WA K (WM ad cI cD cZ x) L pc (.ref (ad 0) :: S) := a_get C inM rfl 19 (by decide) wF_M_69 d (q0 := 0) rfl rfl k
theorem g_M_72 (C : CT K cc RM (ty4 cI cD cZ cJ) lv) (d : decode cc pc = .ok (.getfield 72, 3)) (k : WA K (WM ad cI cD cZ x) L (pc + 3) (.int (nI (x.1 2)) :: S)) : WA K (WM ad cI cD cZ x) L pc (.ref (ad 0) :: S) := a_get C inM rfl 22 (by decide) wF_M_72 d (q0 := 0) rfl rfl k
theorem p_M_72 (C : CT K cc RM (ty4 cI cD cZ cJ) lv) (d : decode cc pc = .ok (.putfield 72, 3)) (k : WA K (WM ad cI cD cZ (sS x 2 v)) L (pc + 3) S) : WA K (WM ad cI cD cZ x) L pc (.int (nI v) :: .ref (ad 0) :: S) := a_put C inM tyM_ok nmM rfl 22 (by decide) wF_M_72 rfl (ty := .int) (by decide +kernel) d (q0 := 0) rfl (Nat.le_of_ble_eq_true rfl) rfl rfl rfl k
theorem g_M_76 (C : CT K cc RM (ty4 cI cD cZ cJ) lv) (d : decode cc pc = .ok (.getfield 76, 3)) (k : WA K (WM ad cI cD cZ x) L (pc + 3) (.int (nI (x.1 5)) :: S)) : WA K (WM ad cI cD cZ x) L pc (.ref (ad 0) :: S) := a_get C inM rfl 25 (by decide) wF_M_76 d (q0 := 0) rfl rfl k
theorem p_M_76 (C : CT K cc RM (ty4 cI cD cZ cJ) lv) (d : decode cc pc = .ok (.putfield 76, 3)) (k : WA K (WM ad cI cD cZ (sS x 5 v)) L (pc + 3) S) : WA K (WM ad cI cD cZ x) L pc (.int (nI v) :: .ref (ad 0) :: S) := a_put C inM tyM_ok nmM rfl 25 (by decide) wF_M_76 rfl (ty := .int) (by decide +kernel) d (q0 := 0) rfl (Nat.le_of_ble_eq_true rfl) rfl rfl rfl k
theorem g_M_87 (C : CT K cc RM (ty4 cI cD cZ cJ) lv) (d : decode cc pc = .ok (.getfield 87, 3)) (k : WA K (WM ad cI cD cZ x) L (pc + 3) (.int (nI (x.1 1)) :: S)) : WA K (WM ad cI cD cZ x) L pc (.ref (ad 0) :: S) := a_get C inM rfl 21 (by decide) wF_M_87 d (q0 := 0) rfl rfl k
theorem p_M_87 (C : CT K cc RM (ty4 cI cD cZ cJ) lv) (d : decode cc pc = .ok (.putfield 87, 3)) (k : WA K (WM ad cI cD cZ (sS x 1 v)) L (pc + 3) S) : WA K (WM ad cI cD cZ x) L pc (.int (nI v) :: .ref (ad 0) :: S) := a_put C inM tyM_ok nmM rfl 21 (by decide) wF_M_87 rfl (ty := .int) (by decide +kernel) d (q0 := 0) rfl (Nat.le_of_ble_eq_true rfl) rfl rfl rfl k
theorem g_M_94 (C : CT K cc RM (ty4 cI cD cZ cJ) lv) (d : decode cc pc = .ok (.getfield 94, 3)) (k : WA K (WM ad cI cD cZ x) L (pc + 3) (.int (nI (x.1 6)) :: S)) : WA K (WM ad cI cD cZ x) L pc (.ref (ad 0) :: S) := a_get C inM rfl 26 (by decide) wF_M_94 d (q0 := 0) rfl rfl k
theorem p_M_94 (C : CT K cc RM (ty4 cI cD cZ cJ) lv) (d : decode cc pc = .ok (.putfield 94, 3)) (hv : v ≤ 1) (k : WA K (WM ad cI cD cZ (sS x 6 v)) L (pc + 3) S) : WA K (WM ad cI cD cZ x) L pc (.int (nI v) :: .ref (ad 0) :: S) := a_put C inM tyM_ok nmM rfl 26 (by decide) wF_M_94 rfl (ty := .boolean) (by decide +kernel) d (q0 := 0) rfl (Nat.le_of_ble_eq_true rfl) (nar_zz hv) (by rcases (show v = 0 ∨ v = 1 by omega) with rfl | rfl <;> decide) rfl k
theorem g_M_98 (C : CT K cc RM (ty4 cI cD cZ cJ) lv) (d : decode cc pc = .ok (.getfield 98, 3)) (k : WA K (WM ad cI cD cZ x) L (pc + 3) (.int (nI (x.1 7)) :: S)) : WA K (WM ad cI cD cZ x) L pc (.ref (ad 0) :: S) := a_get C inM rfl 27 (by decide) wF_M_98 d (q0 := 0) rfl rfl k
theorem p_M_98 (C : CT K cc RM (ty4 cI cD cZ cJ) lv) (d : decode cc pc = .ok (.putfield 98, 3)) (hv : v ≤ 1) (k : WA K (WM ad cI cD cZ (sS x 7 v)) L (pc + 3) S) : WA K (WM ad cI cD cZ x) L pc (.int (nI v) :: .ref (ad 0) :: S) := a_put C inM tyM_ok nmM rfl 27 (by decide) wF_M_98 rfl (ty := .boolean) (by decide +kernel) d (q0 := 0) rfl (Nat.le_of_ble_eq_true rfl) (nar_zz hv) (by rcases (show v = 0 ∨ v = 1 by omega) with rfl | rfl <;> decide) rfl k
theorem g_M_101 (C : CT K cc RM (ty4 cI cD cZ cJ) lv) (d : decode cc pc = .ok (.getfield 101, 3)) (k : WA K (WM ad cI cD cZ x) L (pc + 3) (.int (nI (x.1 0)) :: S)) : WA K (WM ad cI cD cZ x) L pc (.ref (ad 0) :: S) := a_get C inM rfl 20 (by decide) wF_M_101 d (q0 := 0) rfl rfl k
theorem p_M_101 (C : CT K cc RM (ty4 cI cD cZ cJ) lv) (d : decode cc pc = .ok (.putfield 101, 3)) (k : WA K (WM ad cI cD cZ (sS x 0 v)) L (pc + 3) S) : WA K (WM ad cI cD cZ x) L pc (.int (nI v) :: .ref (ad 0) :: S) := a_put C inM tyM_ok nmM rfl 20 (by decide) wF_M_101 rfl (ty := .int) (by decide +kernel) d (q0 := 0) rfl (Nat.le_of_ble_eq_true rfl) rfl rfl rfl k
theorem g_M_161 (C : CT K cc RM (ty4 cI cD cZ cJ) lv) (d : decode cc pc = .ok (.getfield 161, 3)) (k : WA K (WM ad cI cD cZ x) L (pc + 3) (.int (nI (x.1 3)) :: S)) : WA K (WM ad cI cD cZ x) L pc (.ref (ad 0) :: S) := a_get C inM rfl 23 (by decide) wF_M_161 d (q0 := 0) rfl rfl k
theorem p_M_161 (C : CT K cc RM (ty4 cI cD cZ cJ) lv) (d : decode cc pc = .ok (.putfield 161, 3)) (k : WA K (WM ad cI cD cZ (sS x 3 v)) L (pc + 3) S) : WA K (WM ad cI cD cZ x) L pc (.int (nI v) :: .ref (ad 0) :: S) := a_put C inM tyM_ok nmM rfl 23 (by decide) wF_M_161 rfl (ty := .int) (by decide +kernel) d (q0 := 0) rfl (Nat.le_of_ble_eq_true rfl) rfl rfl rfl k
theorem g_M_179 (C : CT K cc RM (ty4 cI cD cZ cJ) lv) (d : decode cc pc = .ok (.getfield 179, 3)) (k : WA K (WM ad cI cD cZ x) L (pc + 3) (.double x.2.2.2 :: S)) : WA K (WM ad cI cD cZ x) L pc (.ref (ad 0) :: S) := a_get C inM rfl 28 (by decide) wF_M_179 d (q0 := 0) rfl rfl k
theorem p_M_179 {v : UInt64} (C : CT K cc RM (ty4 cI cD cZ cJ) lv) (d : decode cc pc = .ok (.putfield 179, 3)) (k : WA K (WM ad cI cD cZ (sT x v)) L (pc + 3) S) : WA K (WM ad cI cD cZ x) L pc (.double v :: .ref (ad 0) :: S) := a_put C inM tyM_ok nmM rfl 28 (by decide) wF_M_179 rfl (ty := .double) (by decide +kernel) d (q0 := 0) rfl (Nat.le_of_ble_eq_true rfl) rfl rfl rfl k
theorem g_M_183 (C : CT K cc RM (ty4 cI cD cZ cJ) lv) (d : decode cc pc = .ok (.getfield 183, 3)) (k : WA K (WM ad cI cD cZ x) L (pc + 3) (.int (nI (x.1 4)) :: S)) : WA K (WM ad cI cD cZ x) L pc (.ref (ad 0) :: S) := a_get C inM rfl 24 (by decide) wF_M_183 d (q0 := 0) rfl rfl k
theorem p_M_183 (C : CT K cc RM (ty4 cI cD cZ cJ) lv) (d : decode cc pc = .ok (.putfield 183, 3)) (k : WA K (WM ad cI cD cZ (sS x 4 v)) L (pc + 3) S) : WA K (WM ad cI cD cZ x) L pc (.int (nI v) :: .ref (ad 0) :: S) := a_put C inM tyM_ok nmM rfl 24 (by decide) wF_M_183 rfl (ty := .int) (by decide +kernel) d (q0 := 0) rfl (Nat.le_of_ble_eq_true rfl) rfl rfl rfl k
theorem g_P_12 (C : CT K cc RP (ty4 cI cD cZ cJ) lv) (d : decode cc pc = .ok (.getfield 12, 3)) (k : WA K (WS ad cI cD cZ x) L (pc + 3) (.ref (ad 1) :: S)) : WA K (WS ad cI cD cZ x) L pc (.ref (ad 0) :: S) := a_get C inP rfl 0 (by decide) wF_P_12 d (q0 := 0) rfl rfl k
theorem g_P_19 (C : CT K cc RP (ty4 cI cD cZ cJ) lv) (d : decode cc pc = .ok (.getfield 19, 3)) (k : WA K (WS ad cI cD cZ x) L (pc + 3) (.ref (ad 3) :: S)) : WA K (WS ad cI cD cZ x) L pc (.ref (ad 0) :: S) := a_get C inP rfl 1 (by decide) wF_P_19 d (q0 := 0) rfl rfl k
theorem g_P_26 (C : CT K cc RP (ty4 cI cD cZ cJ) lv) (d : decode cc pc = .ok (.getfield 26, 3)) (k : WA K (WS ad cI cD cZ x) L (pc + 3) (.ref (ad 11) :: S)) : WA K (WS ad cI cD cZ x) L pc (.ref (ad 0) :: S) := a_get C inP rfl 2 (by decide) wF_P_26 d (q0 := 0) rfl rfl k
theorem g_P_33 (C : CT K cc RP (ty4 cI cD cZ cJ) lv) (d : decode cc pc = .ok (.getfield 33, 3)) (k : WA K (WS ad cI cD cZ x) L (pc + 3) (.ref (ad 19) :: S)) : WA K (WS ad cI cD cZ x) L pc (.ref (ad 0) :: S) := a_get C inP rfl 3 (by decide) wF_P_33 d (q0 := 0) rfl rfl k
theorem g_P_37 (C : CT K cc RP (ty4 cI cD cZ cJ) lv) (d : decode cc pc = .ok (.getfield 37, 3)) (k : WA K (WS ad cI cD cZ x) L (pc + 3) (.int (nI (x.1 0)) :: S)) : WA K (WS ad cI cD cZ x) L pc (.ref (ad 0) :: S) := a_get C inP rfl 4 (by decide) wF_P_37 d (q0 := 0) rfl rfl k
theorem p_P_37 (C : CT K cc RP (ty4 cI cD cZ cJ) lv) (d : decode cc pc = .ok (.putfield 37, 3)) (k : WA K (WS ad cI cD cZ (sS x 0 v)) L (pc + 3) S) : WA K (WS ad cI cD cZ x) L pc (.int (nI v) :: .ref (ad 0) :: S) := a_put C inP tyP_ok nmP rfl 4 (by decide) wF_P_37 rfl (ty := .int) (by decide +kernel) d (q0 := 0) rfl (Nat.le_of_ble_eq_true rfl) rfl rfl rfl k
theorem g_P_41 (C : CT K cc RP (ty4 cI cD cZ cJ) lv) (d : decode cc pc = .ok (.getfield 41, 3)) (k : WA K (WS ad cI cD cZ x) L (pc + 3) (.int (nI (x.1 1)) :: S)) : WA K (WS ad cI cD cZ x) L pc (.ref (ad 0) :: S) := a_get C inP rfl 5 (by decide) wF_P_41 d (q0 := 0) rfl rfl k
theorem p_P_41 (C : CT K cc RP (ty4 cI cD cZ cJ) lv) (d : decode cc pc = .ok (.putfield 41, 3)) (k : WA K (WS ad cI cD cZ (sS x 1 v)) L (pc + 3) S) : WA K (WS ad cI cD cZ x) L pc (.int (nI v) :: .ref (ad 0) :: S) := a_put C inP tyP_ok nmP rfl 5 (by decide) wF_P_41 rfl (ty := .int) (by decide +kernel) d (q0 := 0) rfl (Nat.le_of_ble_eq_true rfl) rfl rfl rfl k
theorem g_P_44 (C : CT K cc RP (ty4 cI cD cZ cJ) lv) (d : decode cc pc = .ok (.getfield 44, 3)) (k : WA K (WS ad cI cD cZ x) L (pc + 3) (.double x.2.2.2 :: S)) : WA K (WS ad cI cD cZ x) L pc (.ref (ad 0) :: S) := a_get C inP rfl 6 (by decide) wF_P_44 d (q0 := 0) rfl rfl k
theorem p_P_44 {v : UInt64} (C : CT K cc RP (ty4 cI cD cZ cJ) lv) (d : decode cc pc = .ok (.putfield 44, 3)) (k : WA K (WS ad cI cD cZ (sT x v)) L (pc + 3) S) : WA K (WS ad cI cD cZ x) L pc (.double v :: .ref (ad 0) :: S) := a_put C inP tyP_ok nmP rfl 6 (by decide) wF_P_44 rfl (ty := .double) (by decide +kernel) d (q0 := 0) rfl (Nat.le_of_ble_eq_true rfl) rfl rfl rfl k
theorem g_T_9 (C : CT K cc RT (ty4 cI cD cZ cJ) lv) (d : decode cc pc = .ok (.getfield 9, 3)) (k : WA K (WS ad cI cD cZ x) L (pc + 3) (.ref (ad 2) :: S)) : WA K (WS ad cI cD cZ x) L pc (.ref (ad 1) :: S) := a_get C inT rfl 0 (by decide) wF_T_9 d (q0 := 1) rfl rfl k
theorem g_T_15 (C : CT K cc RT (ty4 cI cD cZ cJ) lv) (d : decode cc pc = .ok (.getfield 15, 3)) (k : WA K (WS ad cI cD cZ x) L (pc + 3) (.int (nI (x.1 2)) :: S)) : WA K (WS ad cI cD cZ x) L pc (.ref (ad 1) :: S) := a_get C inT rfl 1 (by decide) wF_T_15 d (q0 := 1) rfl rfl k
theorem p_T_15 (C : CT K cc RT (ty4 cI cD cZ cJ) lv) (d : decode cc pc = .ok (.putfield 15, 3)) (k : WA K (WS ad cI cD cZ (sS x 2 v)) L (pc + 3) S) : WA K (WS ad cI cD cZ x) L pc (.int (nI v) :: .ref (ad 1) :: S) := a_put C inT tyT_ok nmT rfl 1 (by decide) wF_T_15 rfl (ty := .int) (by decide +kernel) d (q0 := 1) rfl (Nat.le_of_ble_eq_true rfl) rfl rfl rfl k
end WORLDS
theorem hd_C_fill : yC_fill.cls = RC ∧ yC_fill.cls ≠ "java/lang/invoke/MethodHandle" ∧ yC_fill.cls ≠ "java/lang/invoke/VarHandle" ∧ (parseMethodDescriptor yC_fill.desc).map (fun d => d.parameters.length) = some 2 := by decide +kernel
theorem hd_C_fillSpan : yC_fillSpan.cls = RC ∧ yC_fillSpan.cls ≠ "java/lang/invoke/MethodHandle" ∧ yC_fillSpan.cls ≠ "java/lang/invoke/VarHandle" ∧ (parseMethodDescriptor yC_fillSpan.desc).map (fun d => d.parameters.length) = some 4 := by decide +kernel
theorem hd_C_settleCharacters : yC_settleCharacters.cls = RC ∧ yC_settleCharacters.cls ≠ "java/lang/invoke/MethodHandle" ∧ yC_settleCharacters.cls ≠ "java/lang/invoke/VarHandle" ∧ (parseMethodDescriptor yC_settleCharacters.desc).map (fun d => d.parameters.length) = some 4 := by decide +kernel
theorem hd_C_settleNonterminal : yC_settleNonterminal.cls = RC ∧ yC_settleNonterminal.cls ≠ "java/lang/invoke/MethodHandle" ∧ yC_settleNonterminal.cls ≠ "java/lang/invoke/VarHandle" ∧ (parseMethodDescriptor yC_settleNonterminal.desc).map (fun d => d.parameters.length) = some 4 := by decide +kernel
theorem hd_C_deriveRule : yC_deriveRule.cls = RC ∧ yC_deriveRule.cls ≠ "java/lang/invoke/MethodHandle" ∧ yC_deriveRule.cls ≠ "java/lang/invoke/VarHandle" ∧ (parseMethodDescriptor yC_deriveRule.desc).map (fun d => d.parameters.length) = some 4 := by decide +kernel
theorem hd_C_firstDivision : yC_firstDivision.cls = RC ∧ yC_firstDivision.cls ≠ "java/lang/invoke/MethodHandle" ∧ yC_firstDivision.cls ≠ "java/lang/invoke/VarHandle" ∧ (parseMethodDescriptor yC_firstDivision.desc).map (fun d => d.parameters.length) = some 3 := by decide +kernel
theorem hd_C_nextDivision : yC_nextDivision.cls = RC ∧ yC_nextDivision.cls ≠ "java/lang/invoke/MethodHandle" ∧ yC_nextDivision.cls ≠ "java/lang/invoke/VarHandle" ∧ (parseMethodDescriptor yC_nextDivision.desc).map (fun d => d.parameters.length) = some 2 := by decide +kernel
theorem hd_C_divisionWays : yC_divisionWays.cls = RC ∧ yC_divisionWays.cls ≠ "java/lang/invoke/MethodHandle" ∧ yC_divisionWays.cls ≠ "java/lang/invoke/VarHandle" ∧ (parseMethodDescriptor yC_divisionWays.desc).map (fun d => d.parameters.length) = some 3 := by decide +kernel
theorem hd_C_divisionWeight : yC_divisionWeight.cls = RC ∧ yC_divisionWeight.cls ≠ "java/lang/invoke/MethodHandle" ∧ yC_divisionWeight.cls ≠ "java/lang/invoke/VarHandle" ∧ (parseMethodDescriptor yC_divisionWeight.desc).map (fun d => d.parameters.length) = some 4 := by decide +kernel
theorem hd_C_packedEnds : yC_packedEnds.cls = RC ∧ yC_packedEnds.cls ≠ "java/lang/invoke/MethodHandle" ∧ yC_packedEnds.cls ≠ "java/lang/invoke/VarHandle" ∧ (parseMethodDescriptor yC_packedEnds.desc).map (fun d => d.parameters.length) = some 1 := by decide +kernel
theorem hd_C_waysOf : yC_waysOf.cls = RC ∧ yC_waysOf.cls ≠ "java/lang/invoke/MethodHandle" ∧ yC_waysOf.cls ≠ "java/lang/invoke/VarHandle" ∧ (parseMethodDescriptor yC_waysOf.desc).map (fun d => d.parameters.length) = some 2 := by decide +kernel
theorem hd_C_heaviestWeight : yC_heaviestWeight.cls = RC ∧ yC_heaviestWeight.cls ≠ "java/lang/invoke/MethodHandle" ∧ yC_heaviestWeight.cls ≠ "java/lang/invoke/VarHandle" ∧ (parseMethodDescriptor yC_heaviestWeight.desc).map (fun d => d.parameters.length) = some 2 := by decide +kernel
theorem hd_C_symbolEnd : yC_symbolEnd.cls = RC ∧ yC_symbolEnd.cls ≠ "java/lang/invoke/MethodHandle" ∧ yC_symbolEnd.cls ≠ "java/lang/invoke/VarHandle" ∧ (parseMethodDescriptor yC_symbolEnd.desc).map (fun d => d.parameters.length) = some 3 := by decide +kernel
theorem hd_C_ruleBelow : yC_ruleBelow.cls = RC ∧ yC_ruleBelow.cls ≠ "java/lang/invoke/MethodHandle" ∧ yC_ruleBelow.cls ≠ "java/lang/invoke/VarHandle" ∧ (parseMethodDescriptor yC_ruleBelow.desc).map (fun d => d.parameters.length) = some 3 := by decide +kernel
theorem hd_C_waysOfAny : yC_waysOfAny.cls = RC ∧ yC_waysOfAny.cls ≠ "java/lang/invoke/MethodHandle" ∧ yC_waysOfAny.cls ≠ "java/lang/invoke/VarHandle" ∧ (parseMethodDescriptor yC_waysOfAny.desc).map (fun d => d.parameters.length) = some 2 := by decide +kernel
theorem hd_C_heaviestOf : yC_heaviestOf.cls = RC ∧ yC_heaviestOf.cls ≠ "java/lang/invoke/MethodHandle" ∧ yC_heaviestOf.cls ≠ "java/lang/invoke/VarHandle" ∧ (parseMethodDescriptor yC_heaviestOf.desc).map (fun d => d.parameters.length) = some 2 := by decide +kernel
theorem hd_C_ruleIndex : yC_ruleIndex.cls ≠ "java/lang/invoke/MethodHandle" ∧ yC_ruleIndex.cls ≠ "java/lang/invoke/VarHandle" ∧ (parseMethodDescriptor yC_ruleIndex.desc).map (fun d => d.parameters.length) = some 2 := by decide +kernel
theorem hd_C_useIndex : yC_useIndex.cls ≠ "java/lang/invoke/MethodHandle" ∧ yC_useIndex.cls ≠ "java/lang/invoke/VarHandle" ∧ (parseMethodDescriptor yC_useIndex.desc).map (fun d => d.parameters.length) = some 3 := by decide +kernel
theorem hd_G_wrongPlace : yG_wrongPlace.cls ≠ "java/lang/invoke/MethodHandle" ∧ yG_wrongPlace.cls ≠ "java/lang/invoke/VarHandle" ∧ (parseMethodDescriptor yG_wrongPlace.desc).map (fun d => d.parameters.length) = some 1 := by decide +kernel
theorem hd_G_fits : yG_fits.cls ≠ "java/lang/invoke/MethodHandle" ∧ yG_fits.cls ≠ "java/lang/invoke/VarHandle" ∧ (parseMethodDescriptor yG_fits.desc).map (fun d => d.parameters.length) = some 2 := by decide +kernel
theorem hd_G_size : yG_size.cls = RG ∧ yG_size.cls ≠ "java/lang/invoke/MethodHandle" ∧ yG_size.cls ≠ "java/lang/invoke/VarHandle" ∧ (parseMethodDescriptor yG_size.desc).map (fun d => d.parameters.length) = some 0 := by decide +kernel
theorem hd_G_has : yG_has.cls = RG ∧ yG_has.cls ≠ "java/lang/invoke/MethodHandle" ∧ yG_has.cls ≠ "java/lang/invoke/VarHandle" ∧ (parseMethodDescriptor yG_has.desc).map (fun d => d.parameters.length) = some 1 := by decide +kernel
theorem hd_G_wouldLeadRound : yG_wouldLeadRound.cls = RG ∧ yG_wouldLeadRound.cls ≠ "java/lang/invoke/MethodHandle" ∧ yG_wouldLeadRound.cls ≠ "java/lang/invoke/VarHandle" ∧ (parseMethodDescriptor yG_wouldLeadRound.desc).map (fun d => d.parameters.length) = some 1 := by decide +kernel
theorem hd_G_reachedByChains : yG_reachedByChains.cls = RG ∧ yG_reachedByChains.cls ≠ "java/lang/invoke/MethodHandle" ∧ yG_reachedByChains.cls ≠ "java/lang/invoke/VarHandle" ∧ (parseMethodDescriptor yG_reachedByChains.desc).map (fun d => d.parameters.length) = some 1 := by decide +kernel
theorem hd_G_isChain : yG_isChain.cls = RG ∧ yG_isChain.cls ≠ "java/lang/invoke/MethodHandle" ∧ yG_isChain.cls ≠ "java/lang/invoke/VarHandle" ∧ (parseMethodDescriptor yG_isChain.desc).map (fun d => d.parameters.length) = some 1 := by decide +kernel
theorem hd_G_add : yG_add.cls = RG ∧ yG_add.cls ≠ "java/lang/invoke/MethodHandle" ∧ yG_add.cls ≠ "java/lang/invoke/VarHandle" ∧ (parseMethodDescriptor yG_add.desc).map (fun d => d.parameters.length) = some 2 := by decide +kernel
theorem hd_G_removeLatest : yG_removeLatest.cls = RG ∧ yG_removeLatest.cls ≠ "java/lang/invoke/MethodHandle" ∧ yG_removeLatest.cls ≠ "java/lang/invoke/VarHandle" ∧ (parseMethodDescriptor yG_removeLatest.desc).map (fun d => d.parameters.length) = some 0 := by decide +kernel
theorem hd_G_setMark : yG_setMark.cls = RG ∧ yG_setMark.cls ≠ "java/lang/invoke/MethodHandle" ∧ yG_setMark.cls ≠ "java/lang/invoke/VarHandle" ∧ (parseMethodDescriptor yG_setMark.desc).map (fun d => d.parameters.length) = some 2 := by decide +kernel
theorem hd_G_setBarred : yG_setBarred.cls = RG ∧ yG_setBarred.cls ≠ "java/lang/invoke/MethodHandle" ∧ yG_setBarred.cls ≠ "java/lang/invoke/VarHandle" ∧ (parseMethodDescriptor yG_setBarred.desc).map (fun d => d.parameters.length) = some 3 := by decide +kernel
theorem hd_G_setMayFollow : yG_setMayFollow.cls = RG ∧ yG_setMayFollow.cls ≠ "java/lang/invoke/MethodHandle" ∧ yG_setMayFollow.cls ≠ "java/lang/invoke/VarHandle" ∧ (parseMethodDescriptor yG_setMayFollow.desc).map (fun d => d.parameters.length) = some 3 := by decide +kernel
theorem hd_G_mayFollow : yG_mayFollow.cls = RG ∧ yG_mayFollow.cls ≠ "java/lang/invoke/MethodHandle" ∧ yG_mayFollow.cls ≠ "java/lang/invoke/VarHandle" ∧ (parseMethodDescriptor yG_mayFollow.desc).map (fun d => d.parameters.length) = some 2 := by decide +kernel
theorem hd_G_left : yG_left.cls = RG ∧ yG_left.cls ≠ "java/lang/invoke/MethodHandle" ∧ yG_left.cls ≠ "java/lang/invoke/VarHandle" ∧ (parseMethodDescriptor yG_left.desc).map (fun d => d.parameters.length) = some 1 := by decide +kernel
theorem hd_G_rightLength : yG_rightLength.cls = RG ∧ yG_rightLength.cls ≠ "java/lang/invoke/MethodHandle" ∧ yG_rightLength.cls ≠ "java/lang/invoke/VarHandle" ∧ (parseMethodDescriptor yG_rightLength.desc).map (fun d => d.parameters.length) = some 1 := by decide +kernel
theorem hd_G_weightOf : yG_weightOf.cls = RG ∧ yG_weightOf.cls ≠ "java/lang/invoke/MethodHandle" ∧ yG_weightOf.cls ≠ "java/lang/invoke/VarHandle" ∧ (parseMethodDescriptor yG_weightOf.desc).map (fun d => d.parameters.length) = some 1 := by decide +kernel
theorem hd_G_symbolNonterminal : yG_symbolNonterminal.cls = RG ∧ yG_symbolNonterminal.cls ≠ "java/lang/invoke/MethodHandle" ∧ yG_symbolNonterminal.cls ≠ "java/lang/invoke/VarHandle" ∧ (parseMethodDescriptor yG_symbolNonterminal.desc).map (fun d => d.parameters.length) = some 2 := by decide +kernel
theorem hd_G_symbolStandsFor : yG_symbolStandsFor.cls = RG ∧ yG_symbolStandsFor.cls ≠ "java/lang/invoke/MethodHandle" ∧ yG_symbolStandsFor.cls ≠ "java/lang/invoke/VarHandle" ∧ (parseMethodDescriptor yG_symbolStandsFor.desc).map (fun d => d.parameters.length) = some 3 := by decide +kernel
theorem hd_G_rejectingRules : yG_rejectingRules.cls = RG ∧ yG_rejectingRules.cls ≠ "java/lang/invoke/MethodHandle" ∧ yG_rejectingRules.cls ≠ "java/lang/invoke/VarHandle" ∧ (parseMethodDescriptor yG_rejectingRules.desc).map (fun d => d.parameters.length) = some 1 := by decide +kernel
theorem hd_G_derivingRules : yG_derivingRules.cls = RG ∧ yG_derivingRules.cls ≠ "java/lang/invoke/MethodHandle" ∧ yG_derivingRules.cls ≠ "java/lang/invoke/VarHandle" ∧ (parseMethodDescriptor yG_derivingRules.desc).map (fun d => d.parameters.length) = some 1 := by decide +kernel
theorem hd_G_rulesOf : yG_rulesOf.cls = RG ∧ yG_rulesOf.cls ≠ "java/lang/invoke/MethodHandle" ∧ yG_rulesOf.cls ≠ "java/lang/invoke/VarHandle" ∧ (parseMethodDescriptor yG_rulesOf.desc).map (fun d => d.parameters.length) = some 2 := by decide +kernel
theorem hd_G_allowedUnder : yG_allowedUnder.cls = RG ∧ yG_allowedUnder.cls ≠ "java/lang/invoke/MethodHandle" ∧ yG_allowedUnder.cls ≠ "java/lang/invoke/VarHandle" ∧ (parseMethodDescriptor yG_allowedUnder.desc).map (fun d => d.parameters.length) = some 3 := by decide +kernel
theorem hd_G_orderByChains : yG_orderByChains.cls = RG ∧ yG_orderByChains.cls ≠ "java/lang/invoke/MethodHandle" ∧ yG_orderByChains.cls ≠ "java/lang/invoke/VarHandle" ∧ (parseMethodDescriptor yG_orderByChains.desc).map (fun d => d.parameters.length) = some 1 := by decide +kernel
theorem hd_T_length : yT_length.cls = RT ∧ yT_length.cls ≠ "java/lang/invoke/MethodHandle" ∧ yT_length.cls ≠ "java/lang/invoke/VarHandle" ∧ (parseMethodDescriptor yT_length.desc).map (fun d => d.parameters.length) = some 0 := by decide +kernel
theorem hd_T_at : yT_at.cls = RT ∧ yT_at.cls ≠ "java/lang/invoke/MethodHandle" ∧ yT_at.cls ≠ "java/lang/invoke/VarHandle" ∧ (parseMethodDescriptor yT_at.desc).map (fun d => d.parameters.length) = some 1 := by decide +kernel
theorem hd_T_append : yT_append.cls = RT ∧ yT_append.cls ≠ "java/lang/invoke/MethodHandle" ∧ yT_append.cls ≠ "java/lang/invoke/VarHandle" ∧ (parseMethodDescriptor yT_append.desc).map (fun d => d.parameters.length) = some 1 := by decide +kernel
theorem hd_T_clear : yT_clear.cls = RT ∧ yT_clear.cls ≠ "java/lang/invoke/MethodHandle" ∧ yT_clear.cls ≠ "java/lang/invoke/VarHandle" ∧ (parseMethodDescriptor yT_clear.desc).map (fun d => d.parameters.length) = some 0 := by decide +kernel
theorem hd_E_clear : yE_clear.cls = RE ∧ yE_clear.cls ≠ "java/lang/invoke/MethodHandle" ∧ yE_clear.cls ≠ "java/lang/invoke/VarHandle" ∧ (parseMethodDescriptor yE_clear.desc).map (fun d => d.parameters.length) = some 0 := by decide +kernel
theorem hd_E_grow : yE_grow.cls = RE ∧ yE_grow.cls ≠ "java/lang/invoke/MethodHandle" ∧ yE_grow.cls ≠ "java/lang/invoke/VarHandle" ∧ (parseMethodDescriptor yE_grow.desc).map (fun d => d.parameters.length) = some 4 := by decide +kernel
theorem hd_E_insertBelow : yE_insertBelow.cls = RE ∧ yE_insertBelow.cls ≠ "java/lang/invoke/MethodHandle" ∧ yE_insertBelow.cls ≠ "java/lang/invoke/VarHandle" ∧ (parseMethodDescriptor yE_insertBelow.desc).map (fun d => d.parameters.length) = some 3 := by decide +kernel
theorem hd_E_insert : yE_insert.cls = RE ∧ yE_insert.cls ≠ "java/lang/invoke/MethodHandle" ∧ yE_insert.cls ≠ "java/lang/invoke/VarHandle" ∧ (parseMethodDescriptor yE_insert.desc).map (fun d => d.parameters.length) = some 4 := by decide +kernel
theorem hd_E_size : yE_size.cls = RE ∧ yE_size.cls ≠ "java/lang/invoke/MethodHandle" ∧ yE_size.cls ≠ "java/lang/invoke/VarHandle" ∧ (parseMethodDescriptor yE_size.desc).map (fun d => d.parameters.length) = some 0 := by decide +kernel
theorem hd_E_ruleAt : yE_ruleAt.cls = RE ∧ yE_ruleAt.cls ≠ "java/lang/invoke/MethodHandle" ∧ yE_ruleAt.cls ≠ "java/lang/invoke/VarHandle" ∧ (parseMethodDescriptor yE_ruleAt.desc).map (fun d => d.parameters.length) = some 1 := by decide +kernel
theorem hd_E_beginAt : yE_beginAt.cls = RE ∧ yE_beginAt.cls ≠ "java/lang/invoke/MethodHandle" ∧ yE_beginAt.cls ≠ "java/lang/invoke/VarHandle" ∧ (parseMethodDescriptor yE_beginAt.desc).map (fun d => d.parameters.length) = some 1 := by decide +kernel
theorem hd_E_endAt : yE_endAt.cls = RE ∧ yE_endAt.cls ≠ "java/lang/invoke/MethodHandle" ∧ yE_endAt.cls ≠ "java/lang/invoke/VarHandle" ∧ (parseMethodDescriptor yE_endAt.desc).map (fun d => d.parameters.length) = some 1 := by decide +kernel
theorem hd_E_nodesBelow : yE_nodesBelow.cls = RE ∧ yE_nodesBelow.cls ≠ "java/lang/invoke/MethodHandle" ∧ yE_nodesBelow.cls ≠ "java/lang/invoke/VarHandle" ∧ (parseMethodDescriptor yE_nodesBelow.desc).map (fun d => d.parameters.length) = some 1 := by decide +kernel
theorem hd_P_type : yP_type.cls = RP ∧ yP_type.cls ≠ "java/lang/invoke/MethodHandle" ∧ yP_type.cls ≠ "java/lang/invoke/VarHandle" ∧ (parseMethodDescriptor yP_type.desc).map (fun d => d.parameters.length) = some 1 := by decide +kernel
theorem hd_P_rule : yP_rule.cls = RP ∧ yP_rule.cls ≠ "java/lang/invoke/MethodHandle" ∧ yP_rule.cls ≠ "java/lang/invoke/VarHandle" ∧ (parseMethodDescriptor yP_rule.desc).map (fun d => d.parameters.length) = some 1 := by decide +kernel
theorem hd_P_mark : yP_mark.cls = RP ∧ yP_mark.cls ≠ "java/lang/invoke/MethodHandle" ∧ yP_mark.cls ≠ "java/lang/invoke/VarHandle" ∧ (parseMethodDescriptor yP_mark.desc).map (fun d => d.parameters.length) = some 2 := by decide +kernel
theorem hd_P_bar : yP_bar.cls = RP ∧ yP_bar.cls ≠ "java/lang/invoke/MethodHandle" ∧ yP_bar.cls ≠ "java/lang/invoke/VarHandle" ∧ (parseMethodDescriptor yP_bar.desc).map (fun d => d.parameters.length) = some 3 := by decide +kernel
theorem hd_P_follow : yP_follow.cls = RP ∧ yP_follow.cls ≠ "java/lang/invoke/MethodHandle" ∧ yP_follow.cls ≠ "java/lang/invoke/VarHandle" ∧ (parseMethodDescriptor yP_follow.desc).map (fun d => d.parameters.length) = some 3 := by decide +kernel
theorem hd_P_undo : yP_undo.cls = RP ∧ yP_undo.cls ≠ "java/lang/invoke/MethodHandle" ∧ yP_undo.cls ≠ "java/lang/invoke/VarHandle" ∧ (parseMethodDescriptor yP_undo.desc).map (fun d => d.parameters.length) = some 0 := by decide +kernel
theorem hd_P_parse : yP_parse.cls = RP ∧ yP_parse.cls ≠ "java/lang/invoke/MethodHandle" ∧ yP_parse.cls ≠ "java/lang/invoke/VarHandle" ∧ (parseMethodDescriptor yP_parse.desc).map (fun d => d.parameters.length) = some 1 := by decide +kernel
theorem hd_P_weight : yP_weight.cls = RP ∧ yP_weight.cls ≠ "java/lang/invoke/MethodHandle" ∧ yP_weight.cls ≠ "java/lang/invoke/VarHandle" ∧ (parseMethodDescriptor yP_weight.desc).map (fun d => d.parameters.length) = some 0 := by decide +kernel
theorem hd_P_node : yP_node.cls = RP ∧ yP_node.cls ≠ "java/lang/invoke/MethodHandle" ∧ yP_node.cls ≠ "java/lang/invoke/VarHandle" ∧ (parseMethodDescriptor yP_node.desc).map (fun d => d.parameters.length) = some 2 := by decide +kernel
theorem hd_P_many : yP_many.cls = RP ∧ yP_many.cls ≠ "java/lang/invoke/MethodHandle" ∧ yP_many.cls ≠ "java/lang/invoke/VarHandle" ∧ (parseMethodDescriptor yP_many.desc).map (fun d => d.parameters.length) = some 3 := by decide +kernel
theorem hd_P_count : yP_count.cls = RP ∧ yP_count.cls ≠ "java/lang/invoke/MethodHandle" ∧ yP_count.cls ≠ "java/lang/invoke/VarHandle" ∧ (parseMethodDescriptor yP_count.desc).map (fun d => d.parameters.length) = some 1 := by decide +kernel
theorem hd_P_forgetInput : yP_forgetInput.cls = RP ∧ yP_forgetInput.cls ≠ "java/lang/invoke/MethodHandle" ∧ yP_forgetInput.cls ≠ "java/lang/invoke/VarHandle" ∧ (parseMethodDescriptor yP_forgetInput.desc).map (fun d => d.parameters.length) = some 0 := by decide +kernel
theorem hd_P_byteAt : yP_byteAt.cls ≠ "java/lang/invoke/MethodHandle" ∧ yP_byteAt.cls ≠ "java/lang/invoke/VarHandle" ∧ (parseMethodDescriptor yP_byteAt.desc).map (fun d => d.parameters.length) = some 2 := by decide +kernel
theorem hd_P_isCharacter : yP_isCharacter.cls ≠ "java/lang/invoke/MethodHandle" ∧ yP_isCharacter.cls ≠ "java/lang/invoke/VarHandle" ∧ (parseMethodDescriptor yP_isCharacter.desc).map (fun d => d.parameters.length) = some 1 := by decide +kernel
theorem hd_P_isNonterminalNumber : yP_isNonterminalNumber.cls ≠ "java/lang/invoke/MethodHandle" ∧ yP_isNonterminalNumber.cls ≠ "java/lang/invoke/VarHandle" ∧ (parseMethodDescriptor yP_isNonterminalNumber.desc).map (fun d => d.parameters.length) = some 1 := by decide +kernel
theorem hd_P_nonterminalNumber : yP_nonterminalNumber.cls ≠ "java/lang/invoke/MethodHandle" ∧ yP_nonterminalNumber.cls ≠ "java/lang/invoke/VarHandle" ∧ (parseMethodDescriptor yP_nonterminalNumber.desc).map (fun d => d.parameters.length) = some 1 := by decide +kernel
theorem hd_P_contains : yP_contains.cls ≠ "java/lang/invoke/MethodHandle" ∧ yP_contains.cls ≠ "java/lang/invoke/VarHandle" ∧ (parseMethodDescriptor yP_contains.desc).map (fun d => d.parameters.length) = some 2 := by decide +kernel
theorem hd_P_spanNumber : yP_spanNumber.cls ≠ "java/lang/invoke/MethodHandle" ∧ yP_spanNumber.cls ≠ "java/lang/invoke/VarHandle" ∧ (parseMethodDescriptor yP_spanNumber.desc).map (fun d => d.parameters.length) = some 2 := by decide +kernel
theorem hd_M_thrown : yM_thrown.cls = RM ∧ yM_thrown.cls ≠ "java/lang/invoke/MethodHandle" ∧ yM_thrown.cls ≠ "java/lang/invoke/VarHandle" ∧ (parseMethodDescriptor yM_thrown.desc).map (fun d => d.parameters.length) = some 0 := by decide +kernel
theorem hd_M_in : yM_in.cls ≠ "java/lang/invoke/MethodHandle" ∧ yM_in.cls ≠ "java/lang/invoke/VarHandle" ∧ (parseMethodDescriptor yM_in.desc).map (fun d => d.parameters.length) = some 3 := by decide +kernel
theorem hd_M_bad : yM_bad.cls = RM ∧ yM_bad.cls ≠ "java/lang/invoke/MethodHandle" ∧ yM_bad.cls ≠ "java/lang/invoke/VarHandle" ∧ (parseMethodDescriptor yM_bad.desc).map (fun d => d.parameters.length) = some 1 := by decide +kernel
theorem hd_M_fail : yM_fail.cls = RM ∧ yM_fail.cls ≠ "java/lang/invoke/MethodHandle" ∧ yM_fail.cls ≠ "java/lang/invoke/VarHandle" ∧ (parseMethodDescriptor yM_fail.desc).map (fun d => d.parameters.length) = some 1 := by decide +kernel
theorem hd_M_type : yM_type.cls = RM ∧ yM_type.cls ≠ "java/lang/invoke/MethodHandle" ∧ yM_type.cls ≠ "java/lang/invoke/VarHandle" ∧ (parseMethodDescriptor yM_type.desc).map (fun d => d.parameters.length) = some 1 := by decide +kernel
theorem hd_M_change : yM_change.cls = RM ∧ yM_change.cls ≠ "java/lang/invoke/MethodHandle" ∧ yM_change.cls ≠ "java/lang/invoke/VarHandle" ∧ (parseMethodDescriptor yM_change.desc).map (fun d => d.parameters.length) = some 0 := by decide +kernel
theorem hd_M_wrong : yM_wrong.cls = RM ∧ yM_wrong.cls ≠ "java/lang/invoke/MethodHandle" ∧ yM_wrong.cls ≠ "java/lang/invoke/VarHandle" ∧ (parseMethodDescriptor yM_wrong.desc).map (fun d => d.parameters.length) = some 0 := by decide +kernel
theorem hd_M_isChain : yM_isChain.cls = RM ∧ yM_isChain.cls ≠ "java/lang/invoke/MethodHandle" ∧ yM_isChain.cls ≠ "java/lang/invoke/VarHandle" ∧ (parseMethodDescriptor yM_isChain.desc).map (fun d => d.parameters.length) = some 1 := by decide +kernel
theorem hd_M_leads : yM_leads.cls = RM ∧ yM_leads.cls ≠ "java/lang/invoke/MethodHandle" ∧ yM_leads.cls ≠ "java/lang/invoke/VarHandle" ∧ (parseMethodDescriptor yM_leads.desc).map (fun d => d.parameters.length) = some 2 := by decide +kernel
theorem hd_M_rule : yM_rule.cls = RM ∧ yM_rule.cls ≠ "java/lang/invoke/MethodHandle" ∧ yM_rule.cls ≠ "java/lang/invoke/VarHandle" ∧ (parseMethodDescriptor yM_rule.desc).map (fun d => d.parameters.length) = some 1 := by decide +kernel
theorem hd_M_isRule : yM_isRule.cls = RM ∧ yM_isRule.cls ≠ "java/lang/invoke/MethodHandle" ∧ yM_isRule.cls ≠ "java/lang/invoke/VarHandle" ∧ (parseMethodDescriptor yM_isRule.desc).map (fun d => d.parameters.length) = some 1 := by decide +kernel
theorem hd_M_mark : yM_mark.cls = RM ∧ yM_mark.cls ≠ "java/lang/invoke/MethodHandle" ∧ yM_mark.cls ≠ "java/lang/invoke/VarHandle" ∧ (parseMethodDescriptor yM_mark.desc).map (fun d => d.parameters.length) = some 2 := by decide +kernel
theorem hd_M_bar : yM_bar.cls = RM ∧ yM_bar.cls ≠ "java/lang/invoke/MethodHandle" ∧ yM_bar.cls ≠ "java/lang/invoke/VarHandle" ∧ (parseMethodDescriptor yM_bar.desc).map (fun d => d.parameters.length) = some 3 := by decide +kernel
theorem hd_M_follow : yM_follow.cls = RM ∧ yM_follow.cls ≠ "java/lang/invoke/MethodHandle" ∧ yM_follow.cls ≠ "java/lang/invoke/VarHandle" ∧ (parseMethodDescriptor yM_follow.desc).map (fun d => d.parameters.length) = some 3 := by decide +kernel
theorem hd_M_undo : yM_undo.cls = RM ∧ yM_undo.cls ≠ "java/lang/invoke/MethodHandle" ∧ yM_undo.cls ≠ "java/lang/invoke/VarHandle" ∧ (parseMethodDescriptor yM_undo.desc).map (fun d => d.parameters.length) = some 0 := by decide +kernel
theorem hd_M_span : yM_span.cls ≠ "java/lang/invoke/MethodHandle" ∧ yM_span.cls ≠ "java/lang/invoke/VarHandle" ∧ (parseMethodDescriptor yM_span.desc).map (fun d => d.parameters.length) = some 2 := by decide +kernel
theorem hd_M_allowed : yM_allowed.cls = RM ∧ yM_allowed.cls ≠ "java/lang/invoke/MethodHandle" ∧ yM_allowed.cls ≠ "java/lang/invoke/VarHandle" ∧ (parseMethodDescriptor yM_allowed.desc).map (fun d => d.parameters.length) = some 3 := by decide +kernel
theorem hd_M_cutDown : yM_cutDown.cls ≠ "java/lang/invoke/MethodHandle" ∧ yM_cutDown.cls ≠ "java/lang/invoke/VarHandle" ∧ (parseMethodDescriptor yM_cutDown.desc).map (fun d => d.parameters.length) = some 1 := by decide +kernel
theorem hd_M_heaviest : yM_heaviest.cls = RM ∧ yM_heaviest.cls ≠ "java/lang/invoke/MethodHandle" ∧ yM_heaviest.cls ≠ "java/lang/invoke/VarHandle" ∧ (parseMethodDescriptor yM_heaviest.desc).map (fun d => d.parameters.length) = some 5 := by decide +kernel
theorem hd_M_count5 : yM_count5.cls = RM ∧ yM_count5.cls ≠ "java/lang/invoke/MethodHandle" ∧ yM_count5.cls ≠ "java/lang/invoke/VarHandle" ∧ (parseMethodDescriptor yM_count5.desc).map (fun d => d.parameters.length) = some 5 := by decide +kernel
theorem hd_M_stands : yM_stands.cls = RM ∧ yM_stands.cls ≠ "java/lang/invoke/MethodHandle" ∧ yM_stands.cls ≠ "java/lang/invoke/VarHandle" ∧ (parseMethodDescriptor yM_stands.desc).map (fun d => d.parameters.length) = some 2 := by decide +kernel
theorem hd_M_symbol : yM_symbol.cls = RM ∧ yM_symbol.cls ≠ "java/lang/invoke/MethodHandle" ∧ yM_symbol.cls ≠ "java/lang/invoke/VarHandle" ∧ (parseMethodDescriptor yM_symbol.desc).map (fun d => d.parameters.length) = some 4 := by decide +kernel
theorem hd_M_next : yM_next.cls = RM ∧ yM_next.cls ≠ "java/lang/invoke/MethodHandle" ∧ yM_next.cls ≠ "java/lang/invoke/VarHandle" ∧ (parseMethodDescriptor yM_next.desc).map (fun d => d.parameters.length) = some 2 := by decide +kernel
theorem hd_M_divide : yM_divide.cls = RM ∧ yM_divide.cls ≠ "java/lang/invoke/MethodHandle" ∧ yM_divide.cls ≠ "java/lang/invoke/VarHandle" ∧ (parseMethodDescriptor yM_divide.desc).map (fun d => d.parameters.length) = some 3 := by decide +kernel
theorem hd_M_weightOf : yM_weightOf.cls = RM ∧ yM_weightOf.cls ≠ "java/lang/invoke/MethodHandle" ∧ yM_weightOf.cls ≠ "java/lang/invoke/VarHandle" ∧ (parseMethodDescriptor yM_weightOf.desc).map (fun d => d.parameters.length) = some 1 := by decide +kernel
theorem hd_M_isGood : yM_isGood.cls = RM ∧ yM_isGood.cls ≠ "java/lang/invoke/MethodHandle" ∧ yM_isGood.cls ≠ "java/lang/invoke/VarHandle" ∧ (parseMethodDescriptor yM_isGood.desc).map (fun d => d.parameters.length) = some 3 := by decide +kernel
theorem hd_M_fill : yM_fill.cls = RM ∧ yM_fill.cls ≠ "java/lang/invoke/MethodHandle" ∧ yM_fill.cls ≠ "java/lang/invoke/VarHandle" ∧ (parseMethodDescriptor yM_fill.desc).map (fun d => d.parameters.length) = some 2 := by decide +kernel
theorem hd_M_parse : yM_parse.cls = RM ∧ yM_parse.cls ≠ "java/lang/invoke/MethodHandle" ∧ yM_parse.cls ≠ "java/lang/invoke/VarHandle" ∧ (parseMethodDescriptor yM_parse.desc).map (fun d => d.parameters.length) = some 1 := by decide +kernel
theorem hd_M_put : yM_put.cls = RM ∧ yM_put.cls ≠ "java/lang/invoke/MethodHandle" ∧ yM_put.cls ≠ "java/lang/invoke/VarHandle" ∧ (parseMethodDescriptor yM_put.desc).map (fun d => d.parameters.length) = some 5 := by decide +kernel
theorem hd_M_grow : yM_grow.cls = RM ∧ yM_grow.cls ≠ "java/lang/invoke/MethodHandle" ∧ yM_grow.cls ≠ "java/lang/invoke/VarHandle" ∧ (parseMethodDescriptor yM_grow.desc).map (fun d => d.parameters.length) = some 1 := by decide +kernel
theorem hd_M_weight : yM_weight.cls = RM ∧ yM_weight.cls ≠ "java/lang/invoke/MethodHandle" ∧ yM_weight.cls ≠ "java/lang/invoke/VarHandle" ∧ (parseMethodDescriptor yM_weight.desc).map (fun d => d.parameters.length) = some 0 := by decide +kernel
theorem hd_M_node : yM_node.cls = RM ∧ yM_node.cls ≠ "java/lang/invoke/MethodHandle" ∧ yM_node.cls ≠ "java/lang/invoke/VarHandle" ∧ (parseMethodDescriptor yM_node.desc).map (fun d => d.parameters.length) = some 2 := by decide +kernel
theorem hd_M_many : yM_many.cls = RM ∧ yM_many.cls ≠ "java/lang/invoke/MethodHandle" ∧ yM_many.cls ≠ "java/lang/invoke/VarHandle" ∧ (parseMethodDescriptor yM_many.desc).map (fun d => d.parameters.length) = some 3 := by decide +kernel
theorem hd_M_count1 : yM_count1.cls = RM ∧ yM_count1.cls ≠ "java/lang/invoke/MethodHandle" ∧ yM_count1.cls ≠ "java/lang/invoke/VarHandle" ∧ (parseMethodDescriptor yM_count1.desc).map (fun d => d.parameters.length) = some 1 := by decide +kernel
theorem hd_L_type : yL_type.cls ≠ "java/lang/invoke/MethodHandle" ∧ yL_type.cls ≠ "java/lang/invoke/VarHandle" ∧ (parseMethodDescriptor yL_type.desc).map (fun d => d.parameters.length) = some 3 := by decide +kernel
theorem hd_L_rule : yL_rule.cls ≠ "java/lang/invoke/MethodHandle" ∧ yL_rule.cls ≠ "java/lang/invoke/VarHandle" ∧ (parseMethodDescriptor yL_rule.desc).map (fun d => d.parameters.length) = some 3 := by decide +kernel
theorem hd_L_mark : yL_mark.cls ≠ "java/lang/invoke/MethodHandle" ∧ yL_mark.cls ≠ "java/lang/invoke/VarHandle" ∧ (parseMethodDescriptor yL_mark.desc).map (fun d => d.parameters.length) = some 3 := by decide +kernel
theorem hd_L_bar : yL_bar.cls ≠ "java/lang/invoke/MethodHandle" ∧ yL_bar.cls ≠ "java/lang/invoke/VarHandle" ∧ (parseMethodDescriptor yL_bar.desc).map (fun d => d.parameters.length) = some 4 := by decide +kernel
theorem hd_L_follow : yL_follow.cls ≠ "java/lang/invoke/MethodHandle" ∧ yL_follow.cls ≠ "java/lang/invoke/VarHandle" ∧ (parseMethodDescriptor yL_follow.desc).map (fun d => d.parameters.length) = some 4 := by decide +kernel
theorem hd_L_undo : yL_undo.cls ≠ "java/lang/invoke/MethodHandle" ∧ yL_undo.cls ≠ "java/lang/invoke/VarHandle" ∧ (parseMethodDescriptor yL_undo.desc).map (fun d => d.parameters.length) = some 1 := by decide +kernel
theorem hd_L_parse : yL_parse.cls ≠ "java/lang/invoke/MethodHandle" ∧ yL_parse.cls ≠ "java/lang/invoke/VarHandle" ∧ (parseMethodDescriptor yL_parse.desc).map (fun d => d.parameters.length) = some 3 := by decide +kernel
theorem hd_L_weight : yL_weight.cls ≠ "java/lang/invoke/MethodHandle" ∧ yL_weight.cls ≠ "java/lang/invoke/VarHandle" ∧ (parseMethodDescriptor yL_weight.desc).map (fun d => d.parameters.length) = some 2 := by decide +kernel
theorem hd_L_node : yL_node.cls ≠ "java/lang/invoke/MethodHandle" ∧ yL_node.cls ≠ "java/lang/invoke/VarHandle" ∧ (parseMethodDescriptor yL_node.desc).map (fun d => d.parameters.length) = some 4 := by decide +kernel
theorem hd_L_many : yL_many.cls ≠ "java/lang/invoke/MethodHandle" ∧ yL_many.cls ≠ "java/lang/invoke/VarHandle" ∧ (parseMethodDescriptor yL_many.desc).map (fun d => d.parameters.length) = some 5 := by decide +kernel
end
section
section BASEG
variable {K : KX} {cc : ByteArray} {own : String} {tys : List (ClassId × FieldType)} {ws : va_W} {L : List (Option Value)} {pc lv : Nat} {S : List Value}
theorem a_cltG {a b tgt : Nat} {off : Int} (C : CT K cc own tys lv) (d : decode cc pc = .ok (.if_icmp .lt off, 3)) (ht : (pc : Int) + off = (tgt : Int)) (ha : a < 4294967296) (hb : b < 2147483648) (kt : a < b ∨ 2147483648 ≤ a → WA K ws L tgt S) (kf : b ≤ a ∧ a < 2147483648 → WA K ws L (pc + 3) S) : WA K ws L pc (.int (nI b) :: .int (nI a) :: S) := fun H locs ls hP hD hS hl => lv_icmp_lt C.1 C.2.1 d ht (fun h => kt (by rw [Int32.lt_iff_toInt_lt, nI_int ha, nI_int (show b < 4294967296 by omega)] at h; (first | (split at h <;> omega) | (split at h <;> split at h <;> omega))) H locs ls hP hD hS hl) (fun h => kf (by rw [Int32.lt_iff_toInt_lt, nI_int ha, nI_int (show b < 4294967296 by omega)] at h; (first | (split at h <;> omega) | (split at h <;> split at h <;> omega))) H locs ls hP hD hS hl)
theorem a_cgeG {a b tgt : Nat} {off : Int} (C : CT K cc own tys lv) (d : decode cc pc = .ok (.if_icmp .ge off, 3)) (ht : (pc : Int) + off = (tgt : Int)) (ha : a < 4294967296) (hb : b < 2147483648) (kt : b ≤ a ∧ a < 2147483648 → WA K ws L tgt S) (kf : a < b ∨ 2147483648 ≤ a → WA K ws L (pc + 3) S) : WA K ws L pc (.int (nI b) :: .int (nI a) :: S) := fun H locs ls hP hD hS hl => lv_icmp_ge C.1 C.2.1 d ht (fun h => kt (by rw [Int32.le_iff_toInt_le, nI_int ha, nI_int (show b < 4294967296 by omega)] at h; (first | (split at h <;> omega) | (split at h <;> split at h <;> omega))) H locs ls hP hD hS hl) (fun h => kf (by rw [Int32.le_iff_toInt_le, nI_int ha, nI_int (show b < 4294967296 by omega)] at h; (first | (split at h <;> omega) | (split at h <;> split at h <;> omega))) H locs ls hP hD hS hl)
theorem a_cgtG {a b tgt : Nat} {off : Int} (C : CT K cc own tys lv) (d : decode cc pc = .ok (.if_icmp .gt off, 3)) (ht : (pc : Int) + off = (tgt : Int)) (ha : a < 4294967296) (hb : b < 2147483648) (kt : b < a ∧ a < 2147483648 → WA K ws L tgt S) (kf : a ≤ b ∨ 2147483648 ≤ a → WA K ws L (pc + 3) S) : WA K ws L pc (.int (nI b) :: .int (nI a) :: S) := fun H locs ls hP hD hS hl => lv_icmp_gt C.1 C.2.1 d ht (fun h => kt (by rw [Int32.lt_iff_toInt_lt, nI_int ha, nI_int (show b < 4294967296 by omega)] at h; (first | (split at h <;> omega) | (split at h <;> split at h <;> omega))) H locs ls hP hD hS hl) (fun h => kf (by rw [Int32.lt_iff_toInt_lt, nI_int ha, nI_int (show b < 4294967296 by omega)] at h; (first | (split at h <;> omega) | (split at h <;> split at h <;> omega))) H locs ls hP hD hS hl)
theorem a_cleG {a b tgt : Nat} {off : Int} (C : CT K cc own tys lv) (d : decode cc pc = .ok (.if_icmp .le off, 3)) (ht : (pc : Int) + off = (tgt : Int)) (ha : a < 4294967296) (hb : b < 2147483648) (kt : a ≤ b ∨ 2147483648 ≤ a → WA K ws L tgt S) (kf : b < a ∧ a < 2147483648 → WA K ws L (pc + 3) S) : WA K ws L pc (.int (nI b) :: .int (nI a) :: S) := fun H locs ls hP hD hS hl => lv_icmp_le C.1 C.2.1 d ht (fun h => kt (by rw [Int32.le_iff_toInt_le, nI_int ha, nI_int (show b < 4294967296 by omega)] at h; (first | (split at h <;> omega) | (split at h <;> split at h <;> omega))) H locs ls hP hD hS hl) (fun h => kf (by rw [Int32.le_iff_toInt_le, nI_int ha, nI_int (show b < 4294967296 by omega)] at h; (first | (split at h <;> omega) | (split at h <;> split at h <;> omega))) H locs ls hP hD hS hl)
end BASEG
/-! WORDS for the class's state -/
def WF (x : ST) : Prop := (∀ k i, x.2.1 k i < 4294967296) ∧ ∀ k, x.1 k < 4294967296
theorem WF.sA {x : ST} (h : WF x) (k i : Nat) {v : Nat} (hv : v < 4294967296) : WF (sA x k i v) := by
  refine ⟨fun k' i' => ?_, h.2⟩
  show va_up x.2.1 k (va_up (x.2.1 k) i v) k' i' < 4294967296
  unfold va_up
  split
  · dsimp only
    split
    · exact hv
    · exact h.1 _ _
  · exact h.1 _ _
theorem WF.sS {x : ST} (h : WF x) (k : Nat) {v : Nat} (hv : v < 4294967296) : WF (sS x k v) := by
  refine ⟨h.1, fun k' => ?_⟩
  show va_up x.1 k v k' < 4294967296
  unfold va_up
  split
  · exact hv
  · exact h.2 _
theorem WF.sD {x : ST} (h : WF x) (k i : Nat) (v : UInt64) : WF (sD x k i v) := h
theorem WF.sT {x : ST} (h : WF x) (v : UInt64) : WF (sT x v) := h
def oN (o : Option Nat) : Nat := match o with
  | none => 4294967295
  | some k => k
def spn (i j : Nat) : Nat := j * (j - 1) / 2 + i
/-- the grammar that the class's state holds -/
def gP (x : ST) : GT := (x.1 3, fun r => x.2.1 4 r, fun r => x.2.1 5 r, fun r => x.2.1 8 r, fun r k => x.2.1 6 (r * 4 + k), fun r => x.2.2.1 7 r, fun r s => (x.2.1 9 r).testBit s, fun n c => decide (x.2.1 10 (n * 94 + c - 33) ≠ 0))
theorem tb_and (s m : Nat) : s &&& (1 * 2 ^ m) = if s.testBit m = true then 2 ^ m else 0 := by
  rw [Nat.one_mul]
  apply Nat.eq_of_testBit_eq
  intro i
  rw [Nat.testBit_and, Nat.testBit_two_pow]
  by_cases h : m = i
  · subst h
    cases q : s.testBit m with
    | true => rw [if_pos rfl, Nat.testBit_two_pow]; simp
    | false => rw [if_neg (by decide)]; simp
  · have hd : decide (m = i) = false := by simp [h]
    rw [hd, Bool.and_false]
    split
    · rw [Nat.testBit_two_pow, hd]
    · simp
theorem six_lt {s : Nat} (h : six s) : s < 64 := Nat.lt_pow_two_of_testBit (n := 6) s (fun i hi => by
  cases q : s.testBit i with
  | false => rfl
  | true => have := h i q; omega)
def fitsB (p c : Nat) : Bool := if p = 0 then (nt c).isSome else if p = 1 then decide (c = 58) else decide (p < 6 ∧ c ≠ 58 ∧ (c < 71 ∨ 90 < c))
theorem oN_none {c : Nat} (h : oN (nt c) = 4294967295) : nt c = none := by
  cases q : nt c with
  | none => rfl
  | some k => rw [q] at h; have := nt_lt q; simp only [oN] at h; omega
theorem oN_some {c : Nat} (h : oN (nt c) ≠ 4294967295) : (nt c).isSome = true := by
  cases q : nt c with
  | none => rw [q] at h; exact absurd rfl h
  | some k => rfl
theorem oN_lt (c : Nat) : oN (nt c) < 4294967296 := by
  cases q : nt c with
  | none => decide
  | some k => have := nt_lt q; simp only [oN]; omega
end
section
set_option maxHeartbeats 4000000 in
set_option maxRecDepth 100000 in
theorem c_T_length (l : Launch) (D : va_G) (ad : Nat → Nat) (cI cD cZ cJ : ClassId) (x : ST) (hb : x.1 2 < 4294967296) : CI l D (ty4 cI cD cZ cJ) (WS ad cI cD cZ) yT_length bT_length 1 (some .int) 0 [.ref (ad 1)] x (fun rr u => x = u ∧ rr = x.1 2) := by
  refine CI_of [some (.ref (ad 1))] (by decide) (Nat.le_of_ble_eq_true rfl) rfl ?_
  intro K C E hkl hkD hkn
  refine a_aloadn C dT_length_0 rfl rfl ?_
  refine g_T_15 C dT_length_1 ?_
  exact r_i C E dT_length_4 (by omega) ⟨rfl, rfl⟩
set_option maxHeartbeats 4000000 in
set_option maxRecDepth 100000 in
theorem c_T_at (l : Launch) (D : va_G) (ad : Nat → Nat) (cI cD cZ cJ : ClassId) (x : ST) (i : Nat) (hi : i < 4294967296) (hl : x.1 2 ≤ 14) (hc : ∀ k, x.2.1 2 k < 4294967296) : CI l D (ty4 cI cD cZ cJ) (WS ad cI cD cZ) yT_at bT_at 2 (some .int) 0 [.ref (ad 1), .int (nI i)] x (fun rr u => x = u ∧ rr = (if i < x.1 2 then x.2.1 2 i else 0)) := by
  refine CI_of [some (.ref (ad 1)), some (.int (nI i))] (by decide) (Nat.le_of_ble_eq_true rfl) rfl ?_
  intro K C E hkl hkD hkn
  refine a_iloadn C dT_at_0 rfl rfl ?_
  refine a_iflt (tgt := 21) C dT_at_1 (by decide) (by omega) (fun h1 => ?_) (fun h1 => ?_)
  · skip
    refine a_iconst (v := 0) C dT_at_21 (by decide) ?_
    exact r_i C E dT_at_22 (by first | omega | exact hc _) ⟨rfl, by first | rw [if_neg (by omega)] | rw [if_pos (by omega)]⟩
  · skip
    refine a_iloadn C dT_at_4 rfl rfl ?_
    refine a_aloadn C dT_at_5 rfl rfl ?_
    refine g_T_15 C dT_at_6 ?_
    refine a_cge (tgt := 21) C dT_at_9 (by decide) (by omega) (by omega) (fun h9 => ?_) (fun h9 => ?_)
    · skip
      refine a_iconst (v := 0) C dT_at_21 (by decide) ?_
      exact r_i C E dT_at_22 (by first | omega | exact hc _) ⟨rfl, by first | rw [if_neg (by omega)] | rw [if_pos (by omega)]⟩
    · skip
      refine a_aloadn C dT_at_12 rfl rfl ?_
      refine g_T_9 C dT_at_13 ?_
      refine a_iloadn C dT_at_16 rfl rfl ?_
      refine ldS_2 C dT_at_17 (by omega) ?_
      refine a_goto (tgt := 22) C dT_at_18 (by decide) ?_
      exact r_i C E dT_at_22 (by first | omega | exact hc _) ⟨rfl, by first | rw [if_neg (by omega)] | rw [if_pos (by omega)]⟩
set_option maxHeartbeats 4000000 in
set_option maxRecDepth 100000 in
theorem c_T_append (l : Launch) (D : va_G) (ad : Nat → Nat) (cI cD cZ cJ : ClassId) (x : ST) (c : Nat) (hl : x.1 2 < 14) : CV l D (ty4 cI cD cZ cJ) (WS ad cI cD cZ) yT_append bT_append 2 none 0 [.ref (ad 1), .int (nI c)] x (fun u => u = sS (sA x 2 (x.1 2) c) 2 (x.1 2 + 1)) := by
  refine CV_of [some (.ref (ad 1)), some (.int (nI c))] (by decide) (Nat.le_of_ble_eq_true rfl) rfl ?_
  intro K C E hkl hkD hkn
  refine a_aloadn C dT_append_0 rfl rfl ?_
  refine g_T_15 C dT_append_1 ?_
  refine a_bipush (v := 14) C dT_append_4 (by decide) ?_
  refine a_cge (tgt := 29) C dT_append_6 (by decide) (by omega) (by omega) (fun h6 => ?_) (fun h6 => ?_)
  · skip
    exact absurd h6 (by omega)
  · skip
    refine a_aloadn C dT_append_9 rfl rfl ?_
    refine g_T_9 C dT_append_10 ?_
    refine a_aloadn C dT_append_13 rfl rfl ?_
    refine g_T_15 C dT_append_14 ?_
    refine a_iloadn C dT_append_17 rfl rfl ?_
    refine stS_2 C dT_append_18 (by omega) ?_
    refine a_aloadn C dT_append_19 rfl rfl ?_
    refine a_dup C dT_append_20 rfl ?_
    refine g_T_15 C dT_append_21 ?_
    refine a_iconst (v := 1) C dT_append_24 (by decide) ?_
    refine a_iadd C dT_append_25 ?_
    refine p_T_15 C dT_append_26 ?_
    exact r_v C E dT_append_29 rfl
set_option maxHeartbeats 4000000 in
set_option maxRecDepth 100000 in
theorem c_T_clear (l : Launch) (D : va_G) (ad : Nat → Nat) (cI cD cZ cJ : ClassId) (x : ST)  : CV l D (ty4 cI cD cZ cJ) (WS ad cI cD cZ) yT_clear bT_clear 1 none 0 [.ref (ad 1)] x (fun u => u = sS x 2 0) := by
  refine CV_of [some (.ref (ad 1))] (by decide) (Nat.le_of_ble_eq_true rfl) rfl ?_
  intro K C E hkl hkD hkn
  refine a_aloadn C dT_clear_0 rfl rfl ?_
  refine a_iconst (v := 0) C dT_clear_1 (by decide) ?_
  refine p_T_15 C dT_clear_2 ?_
  exact r_v C E dT_clear_5 rfl
set_option maxHeartbeats 4000000 in
set_option maxRecDepth 100000 in
theorem c_G_size (l : Launch) (D : va_G) (ad : Nat → Nat) (cI cD cZ cJ : ClassId) (x : ST) (hb : x.1 3 < 4294967296) : CI l D (ty4 cI cD cZ cJ) (WS ad cI cD cZ) yG_size bG_size 1 (some .int) 0 [.ref (ad 3)] x (fun rr u => x = u ∧ rr = x.1 3) := by
  refine CI_of [some (.ref (ad 3))] (by decide) (Nat.le_of_ble_eq_true rfl) rfl ?_
  intro K C E hkl hkD hkn
  refine a_aloadn C dG_size_0 rfl rfl ?_
  refine g_G_35 C dG_size_1 ?_
  exact r_i C E dG_size_4 (by omega) ⟨rfl, rfl⟩
set_option maxHeartbeats 4000000 in
set_option maxRecDepth 100000 in
theorem c_G_has (l : Launch) (D : va_G) (ad : Nat → Nat) (cI cD cZ cJ : ClassId) (x : ST) (r : Nat) (hr : r < 4294967296) (hb : x.1 3 ≤ 16) : CI l D (ty4 cI cD cZ cJ) (WS ad cI cD cZ) yG_has bG_has 2 (some .boolean) 0 [.ref (ad 3), .int (nI r)] x (fun rr u => x = u ∧ rr = (if r < x.1 3 then 1 else 0)) := by
  refine CI_of [some (.ref (ad 3)), some (.int (nI r))] (by decide) (Nat.le_of_ble_eq_true rfl) rfl ?_
  intro K C E hkl hkD hkn
  refine a_iloadn C dG_has_0 rfl rfl ?_
  refine a_iflt (tgt := 16) C dG_has_1 (by decide) (by omega) (fun h1 => ?_) (fun h1 => ?_)
  · skip
    refine a_iconst (v := 0) C dG_has_16 (by decide) ?_
    exact r_z C E dG_has_17 (by omega) ⟨rfl, by first | rw [if_neg (by omega)] | rw [if_pos (by omega)]⟩
  · skip
    refine a_iloadn C dG_has_4 rfl rfl ?_
    refine a_aloadn C dG_has_5 rfl rfl ?_
    refine g_G_35 C dG_has_6 ?_
    refine a_cge (tgt := 16) C dG_has_9 (by decide) (by omega) (by omega) (fun h9 => ?_) (fun h9 => ?_)
    · skip
      refine a_iconst (v := 0) C dG_has_16 (by decide) ?_
      exact r_z C E dG_has_17 (by omega) ⟨rfl, by first | rw [if_neg (by omega)] | rw [if_pos (by omega)]⟩
    · skip
      refine a_iconst (v := 1) C dG_has_12 (by decide) ?_
      refine a_goto (tgt := 17) C dG_has_13 (by decide) ?_
      exact r_z C E dG_has_17 (by omega) ⟨rfl, by first | rw [if_neg (by omega)] | rw [if_pos (by omega)]⟩
set_option maxHeartbeats 4000000 in
set_option maxRecDepth 100000 in
theorem c_G_left (l : Launch) (D : va_G) (ad : Nat → Nat) (cI cD cZ cJ : ClassId) (x : ST) (r : Nat) (hr : r < 16) (hb : x.2.1 4 r < 4294967296) : CI l D (ty4 cI cD cZ cJ) (WS ad cI cD cZ) yG_left bG_left 2 (some .int) 0 [.ref (ad 3), .int (nI r)] x (fun rr u => x = u ∧ rr = x.2.1 4 r) := by
  refine CI_of [some (.ref (ad 3)), some (.int (nI r))] (by decide) (Nat.le_of_ble_eq_true rfl) rfl ?_
  intro K C E hkl hkD hkn
  refine a_aloadn C dG_left_0 rfl rfl ?_
  refine g_G_9 C dG_left_1 ?_
  refine a_iloadn C dG_left_4 rfl rfl ?_
  refine ldS_4 C dG_left_5 (by omega) ?_
  exact r_i C E dG_left_6 (by omega) ⟨rfl, rfl⟩
set_option maxHeartbeats 4000000 in
set_option maxRecDepth 100000 in
theorem c_G_rightLength (l : Launch) (D : va_G) (ad : Nat → Nat) (cI cD cZ cJ : ClassId) (x : ST) (r : Nat) (hr : r < 16) (hb : x.2.1 5 r < 4294967296) : CI l D (ty4 cI cD cZ cJ) (WS ad cI cD cZ) yG_rightLength bG_rightLength 2 (some .int) 0 [.ref (ad 3), .int (nI r)] x (fun rr u => x = u ∧ rr = x.2.1 5 r) := by
  refine CI_of [some (.ref (ad 3)), some (.int (nI r))] (by decide) (Nat.le_of_ble_eq_true rfl) rfl ?_
  intro K C E hkl hkD hkn
  refine a_aloadn C dG_rightLength_0 rfl rfl ?_
  refine g_G_15 C dG_rightLength_1 ?_
  refine a_iloadn C dG_rightLength_4 rfl rfl ?_
  refine ldS_5 C dG_rightLength_5 (by omega) ?_
  exact r_i C E dG_rightLength_6 (by omega) ⟨rfl, rfl⟩
set_option maxHeartbeats 4000000 in
set_option maxRecDepth 100000 in
theorem c_G_weightOf (l : Launch) (D : va_G) (ad : Nat → Nat) (cI cD cZ cJ : ClassId) (x : ST) (r : Nat) (hr : r < 16) : CD l D (ty4 cI cD cZ cJ) (WS ad cI cD cZ) yG_weightOf bG_weightOf 2 (some .double) 0 [.ref (ad 3), .int (nI r)] x (fun rr u => x = u ∧ rr = x.2.2.1 7 r) := by
  refine CD_of [some (.ref (ad 3)), some (.int (nI r))] (by decide) (Nat.le_of_ble_eq_true rfl) rfl ?_
  intro K C E hkl hkD hkn
  refine a_aloadn C dG_weightOf_0 rfl rfl ?_
  refine g_G_21 C dG_weightOf_1 ?_
  refine a_iloadn C dG_weightOf_4 rfl rfl ?_
  refine ldS_7 C dG_weightOf_5 (by omega) ?_
  exact r_d C E dG_weightOf_6 ⟨rfl, rfl⟩
set_option maxHeartbeats 4000000 in
set_option maxRecDepth 100000 in
theorem c_C_ruleIndex (l : Launch) (D : va_G) (ad : Nat → Nat) (cI cD cZ cJ : ClassId) (x : ST) (r q : Nat) (hb : r * 105 + q < 4294967296) : CI l D (ty4 cI cD cZ cJ) (WS ad cI cD cZ) yC_ruleIndex bC_ruleIndex 2 (some .int) 0 [.int (nI r), .int (nI q)] x (fun rr u => x = u ∧ rr = r * 105 + q) := by
  refine CI_of [some (.int (nI r)), some (.int (nI q))] (by decide) (Nat.le_of_ble_eq_true rfl) rfl ?_
  intro K C E hkl hkD hkn
  refine a_iloadn C dC_ruleIndex_0 rfl rfl ?_
  refine a_bipush (v := 105) C dC_ruleIndex_1 (by decide) ?_
  refine a_imul C dC_ruleIndex_3 ?_
  refine a_iloadn C dC_ruleIndex_4 rfl rfl ?_
  refine a_iadd C dC_ruleIndex_5 ?_
  exact r_i C E dC_ruleIndex_6 (by omega) ⟨rfl, rfl⟩
set_option maxHeartbeats 4000000 in
set_option maxRecDepth 100000 in
theorem c_C_useIndex (l : Launch) (D : va_G) (ad : Nat → Nat) (cI cD cZ cJ : ClassId) (x : ST) (r k q : Nat) (hb : (r * 4 + k) * 105 + q < 4294967296) : CI l D (ty4 cI cD cZ cJ) (WS ad cI cD cZ) yC_useIndex bC_useIndex 3 (some .int) 0 [.int (nI r), .int (nI k), .int (nI q)] x (fun rr u => x = u ∧ rr = (r * 4 + k) * 105 + q) := by
  refine CI_of [some (.int (nI r)), some (.int (nI k)), some (.int (nI q))] (by decide) (Nat.le_of_ble_eq_true rfl) rfl ?_
  intro K C E hkl hkD hkn
  refine a_iloadn C dC_useIndex_0 rfl rfl ?_
  refine a_iconst (v := 4) C dC_useIndex_1 (by decide) ?_
  refine a_imul C dC_useIndex_2 ?_
  refine a_iloadn C dC_useIndex_3 rfl rfl ?_
  refine a_iadd C dC_useIndex_4 ?_
  refine a_bipush (v := 105) C dC_useIndex_5 (by decide) ?_
  refine a_imul C dC_useIndex_7 ?_
  refine a_iloadn C dC_useIndex_8 rfl rfl ?_
  refine a_iadd C dC_useIndex_9 ?_
  exact r_i C E dC_useIndex_10 (by omega) ⟨rfl, rfl⟩
set_option maxHeartbeats 4000000 in
set_option maxRecDepth 100000 in
theorem c_P_spanNumber (l : Launch) (D : va_G) (ad : Nat → Nat) (cI cD cZ cJ : ClassId) (x : ST) (i j : Nat) (hj : 1 ≤ j) (hj2 : j ≤ 14) (hi : i ≤ 14) : CI l D (ty4 cI cD cZ cJ) (WS ad cI cD cZ) yP_spanNumber bP_spanNumber 2 (some .int) 0 [.int (nI i), .int (nI j)] x (fun rr u => x = u ∧ rr = j * (j - 1) / 2 + i) := by
  refine CI_of [some (.int (nI i)), some (.int (nI j))] (by decide) (Nat.le_of_ble_eq_true rfl) rfl ?_
  intro K C E hkl hkD hkn
  have hm : j * (j - 1) ≤ 14 * 13 := Nat.mul_le_mul hj2 (by omega)
  refine a_iloadn C dP_spanNumber_0 rfl rfl ?_
  refine a_iloadn C dP_spanNumber_1 rfl rfl ?_
  refine a_iconst (v := 1) C dP_spanNumber_2 (by decide) ?_
  refine a_isub C dP_spanNumber_3 (by omega) ?_
  refine a_imul C dP_spanNumber_4 ?_
  refine a_iconst (v := 2) C dP_spanNumber_5 (by decide) ?_
  refine a_idiv C dP_spanNumber_6 (by omega) (by omega) (by omega) ?_
  refine a_iloadn C dP_spanNumber_7 rfl rfl ?_
  refine a_iadd C dP_spanNumber_8 ?_
  exact r_i C E dP_spanNumber_9 (by omega) ⟨rfl, rfl⟩
end
section
set_option maxHeartbeats 4000000 in
set_option maxRecDepth 100000 in
theorem c_P_nonterminalNumber (l : Launch) (D : va_G) (ad : Nat → Nat) (cI cD cZ cJ : ClassId) (x : ST) (c : Nat) (hc : c < 2147483648) : CI l D (ty4 cI cD cZ cJ) (WS ad cI cD cZ) yP_nonterminalNumber bP_nonterminalNumber 1 (some .int) 0 [.int (nI c)] x (fun rr u => x = u ∧ rr = oN (nt c)) := by
  refine CI_of [some (.int (nI c))] (by decide) (Nat.le_of_ble_eq_true rfl) rfl ?_
  intro K C E hkl hkD hkn
  refine a_iloadn C dP_nonterminalNumber_0 rfl rfl ?_
  refine a_bipush (v := 65) C dP_nonterminalNumber_1 (by decide) ?_
  refine a_clt (tgt := 19) C dP_nonterminalNumber_3 (by decide) (by omega) (by omega) (fun h3 => ?_) (fun h3 => ?_)
  · skip
    refine a_iconst (v := 4294967295) C dP_nonterminalNumber_19 (by decide) ?_
    exact r_i C E dP_nonterminalNumber_20 (by omega) ⟨rfl, by unfold nt; first | rw [if_pos (by omega)]; rfl | rw [if_neg (by omega)]; rfl⟩
  · skip
    refine a_iloadn C dP_nonterminalNumber_6 rfl rfl ?_
    refine a_bipush (v := 70) C dP_nonterminalNumber_7 (by decide) ?_
    refine a_cgt (tgt := 19) C dP_nonterminalNumber_9 (by decide) (by omega) (by omega) (fun h9 => ?_) (fun h9 => ?_)
    · skip
      refine a_iconst (v := 4294967295) C dP_nonterminalNumber_19 (by decide) ?_
      exact r_i C E dP_nonterminalNumber_20 (by omega) ⟨rfl, by unfold nt; first | rw [if_pos (by omega)]; rfl | rw [if_neg (by omega)]; rfl⟩
    · skip
      refine a_iloadn C dP_nonterminalNumber_12 rfl rfl ?_
      refine a_bipush (v := 65) C dP_nonterminalNumber_13 (by decide) ?_
      refine a_isub C dP_nonterminalNumber_15 (by omega) ?_
      refine a_goto (tgt := 20) C dP_nonterminalNumber_16 (by decide) ?_
      exact r_i C E dP_nonterminalNumber_20 (by omega) ⟨rfl, by unfold nt; first | rw [if_pos (by omega)]; rfl | rw [if_neg (by omega)]; rfl⟩
set_option maxHeartbeats 4000000 in
set_option maxRecDepth 100000 in
theorem c_P_contains (l : Launch) (D : va_G) (ad : Nat → Nat) (cI cD cZ cJ : ClassId) (x : ST) (t m : Nat) (ht : t < 4294967296) (hm : m < 32) : CI l D (ty4 cI cD cZ cJ) (WS ad cI cD cZ) yP_contains bP_contains 2 (some .boolean) 0 [.int (nI t), .int (nI m)] x (fun rr u => x = u ∧ rr = (if t.testBit m = true then 1 else 0)) := by
  refine CI_of [some (.int (nI t)), some (.int (nI m))] (by decide) (Nat.le_of_ble_eq_true rfl) rfl ?_
  intro K C E hkl hkD hkn
  have hand : t &&& (1 * 2 ^ m) < 4294967296 := Nat.lt_of_le_of_lt Nat.and_le_left ht
  have hta := tb_and t m
  have hpw : 0 < 2 ^ m := Nat.pow_pos (by decide)
  refine a_iloadn C dP_contains_0 rfl rfl ?_
  refine a_iconst (v := 1) C dP_contains_1 (by decide) ?_
  refine a_iloadn C dP_contains_2 rfl rfl ?_
  refine a_ishl C dP_contains_3 (by omega) ?_
  refine a_iand C dP_contains_4 ?_
  refine a_ifeq (tgt := 12) C dP_contains_5 (by decide) (by omega) (fun h5 => ?_) (fun h5 => ?_)
  · skip
    refine a_iconst (v := 0) C dP_contains_12 (by decide) ?_
    exact r_z C E dP_contains_13 (by omega) ⟨rfl, by cases q : t.testBit m <;> simp only [q, if_true, Bool.false_eq_true, if_false] at hta ⊢ <;> omega⟩
  · skip
    refine a_iconst (v := 1) C dP_contains_8 (by decide) ?_
    refine a_goto (tgt := 13) C dP_contains_9 (by decide) ?_
    exact r_z C E dP_contains_13 (by omega) ⟨rfl, by cases q : t.testBit m <;> simp only [q, if_true, Bool.false_eq_true, if_false] at hta ⊢ <;> omega⟩
set_option maxHeartbeats 4000000 in
set_option maxRecDepth 100000 in
theorem c_P_isCharacter (l : Launch) (D : va_G) (ad : Nat → Nat) (cI cD cZ cJ : ClassId) (x : ST) (c : Nat) (hc : c < 4294967296) : CI l D (ty4 cI cD cZ cJ) (WS ad cI cD cZ) yP_isCharacter bP_isCharacter 1 (some .boolean) 0 [.int (nI c)] x (fun rr u => x = u ∧ rr = (if 33 ≤ c ∧ c ≤ 126 then 1 else 0)) := by
  refine CI_of [some (.int (nI c))] (by decide) (Nat.le_of_ble_eq_true rfl) rfl ?_
  intro K C E hkl hkD hkn
  refine a_iloadn C dP_isCharacter_0 rfl rfl ?_
  refine a_bipush (v := 33) C dP_isCharacter_1 (by decide) ?_
  refine a_cltG (tgt := 16) C dP_isCharacter_3 (by decide) (by omega) (by omega) (fun h3 => ?_) (fun h3 => ?_)
  · skip
    refine a_iconst (v := 0) C dP_isCharacter_16 (by decide) ?_
    exact r_z C E dP_isCharacter_17 (by omega) ⟨rfl, by first | rw [if_neg (by omega)] | rw [if_pos (by omega)]⟩
  · skip
    refine a_iloadn C dP_isCharacter_6 rfl rfl ?_
    refine a_bipush (v := 126) C dP_isCharacter_7 (by decide) ?_
    refine a_cgt (tgt := 16) C dP_isCharacter_9 (by decide) (by omega) (by omega) (fun h9 => ?_) (fun h9 => ?_)
    · skip
      refine a_iconst (v := 0) C dP_isCharacter_16 (by decide) ?_
      exact r_z C E dP_isCharacter_17 (by omega) ⟨rfl, by first | rw [if_neg (by omega)] | rw [if_pos (by omega)]⟩
    · skip
      refine a_iconst (v := 1) C dP_isCharacter_12 (by decide) ?_
      refine a_goto (tgt := 17) C dP_isCharacter_13 (by decide) ?_
      exact r_z C E dP_isCharacter_17 (by omega) ⟨rfl, by first | rw [if_neg (by omega)] | rw [if_pos (by omega)]⟩
set_option maxHeartbeats 4000000 in
set_option maxRecDepth 100000 in
theorem c_P_isNonterminalNumber (l : Launch) (D : va_G) (ad : Nat → Nat) (cI cD cZ cJ : ClassId) (x : ST) (c : Nat) (hc : c < 4294967296) : CI l D (ty4 cI cD cZ cJ) (WS ad cI cD cZ) yP_isNonterminalNumber bP_isNonterminalNumber 1 (some .boolean) 0 [.int (nI c)] x (fun rr u => x = u ∧ rr = (if c < 6 then 1 else 0)) := by
  refine CI_of [some (.int (nI c))] (by decide) (Nat.le_of_ble_eq_true rfl) rfl ?_
  intro K C E hkl hkD hkn
  refine a_iloadn C dP_isNonterminalNumber_0 rfl rfl ?_
  refine a_iflt (tgt := 14) C dP_isNonterminalNumber_1 (by decide) (by omega) (fun h1 => ?_) (fun h1 => ?_)
  · skip
    refine a_iconst (v := 0) C dP_isNonterminalNumber_14 (by decide) ?_
    exact r_z C E dP_isNonterminalNumber_15 (by omega) ⟨rfl, by first | rw [if_neg (by omega)] | rw [if_pos (by omega)]⟩
  · skip
    refine a_iloadn C dP_isNonterminalNumber_4 rfl rfl ?_
    refine a_bipush (v := 6) C dP_isNonterminalNumber_5 (by decide) ?_
    refine a_cge (tgt := 14) C dP_isNonterminalNumber_7 (by decide) (by omega) (by omega) (fun h7 => ?_) (fun h7 => ?_)
    · skip
      refine a_iconst (v := 0) C dP_isNonterminalNumber_14 (by decide) ?_
      exact r_z C E dP_isNonterminalNumber_15 (by omega) ⟨rfl, by first | rw [if_neg (by omega)] | rw [if_pos (by omega)]⟩
    · skip
      refine a_iconst (v := 1) C dP_isNonterminalNumber_10 (by decide) ?_
      refine a_goto (tgt := 15) C dP_isNonterminalNumber_11 (by decide) ?_
      exact r_z C E dP_isNonterminalNumber_15 (by omega) ⟨rfl, by first | rw [if_neg (by omega)] | rw [if_pos (by omega)]⟩
set_option maxHeartbeats 4000000 in
set_option maxRecDepth 100000 in
theorem c_G_symbolNonterminal (l : Launch) (D : va_G) (ad : Nat → Nat) (cI cD cZ cJ : ClassId) (x : ST) (r k : Nat) (hr : r < 16) (hk : k < 4) (hs : x.2.1 6 (r * 4 + k) < 2147483648) : CI l D (ty4 cI cD cZ cJ) (WS ad cI cD cZ) yG_symbolNonterminal bG_symbolNonterminal 3 (some .int) 1 [.ref (ad 3), .int (nI r), .int (nI k)] x (fun rr u => x = u ∧ rr = oN (nt (x.2.1 6 (r * 4 + k)))) := by
  refine CI_of [some (.ref (ad 3)), some (.int (nI r)), some (.int (nI k))] (by decide) (Nat.le_of_ble_eq_true rfl) rfl ?_
  intro K C E hkl hkD hkn
  refine a_aloadn C dG_symbolNonterminal_0 rfl rfl ?_
  refine g_G_18 C dG_symbolNonterminal_1 ?_
  refine a_iloadn C dG_symbolNonterminal_4 rfl rfl ?_
  refine a_iconst (v := 4) C dG_symbolNonterminal_5 (by decide) ?_
  refine a_imul C dG_symbolNonterminal_6 ?_
  refine a_iloadn C dG_symbolNonterminal_7 rfl rfl ?_
  refine a_iadd C dG_symbolNonterminal_8 ?_
  refine ldS_6 C dG_symbolNonterminal_9 (by omega) ?_
  refine tI1 C (c_P_nonterminalNumber (kl K) (kD K) ad cI cD cZ cJ _ _ (by omega)) (k0 := 4) rfl wSt_P_nonterminalNumber wIni_P wC_P_nonterminalNumber hd_P_nonterminalNumber (by decide) (by decide) (Nat.le_of_ble_eq_true rfl) dG_symbolNonterminal_10 ?_
  rintro n10 u10 b10 ⟨rfl, rfl⟩
  exact r_i C E dG_symbolNonterminal_13 (by omega) ⟨rfl, rfl⟩
set_option maxHeartbeats 4000000 in
set_option maxRecDepth 100000 in
theorem c_G_isChain (l : Launch) (D : va_G) (ad : Nat → Nat) (cI cD cZ cJ : ClassId) (x : ST) (r : Nat) (hr : r < 16) (hw : WF x) (hs : x.2.1 6 (r * 4 + 0) < 2147483648) : CI l D (ty4 cI cD cZ cJ) (WS ad cI cD cZ) yG_isChain bG_isChain 2 (some .boolean) 2 [.ref (ad 3), .int (nI r)] x (fun rr u => x = u ∧ rr = (if (chn (gP x) r).isSome = true then 1 else 0)) := by
  refine CI_of [some (.ref (ad 3)), some (.int (nI r))] (by decide) (Nat.le_of_ble_eq_true rfl) rfl ?_
  intro K C E hkl hkD hkn
  have h5 := hw.1 5 r
  have hch : chn (gP x) r = if x.2.1 5 r = 1 then nt (x.2.1 6 (r * 4 + 0)) else none := rfl
  refine a_aloadn C dG_isChain_0 rfl rfl ?_
  refine g_G_15 C dG_isChain_1 ?_
  refine a_iloadn C dG_isChain_4 rfl rfl ?_
  refine ldS_5 C dG_isChain_5 (by omega) ?_
  refine a_iconst (v := 1) C dG_isChain_6 (by decide) ?_
  refine a_cne (tgt := 24) C dG_isChain_7 (by decide) (by omega) (by omega) (fun h7 => ?_) (fun h7 => ?_)
  · skip
    refine a_iconst (v := 0) C dG_isChain_24 (by decide) ?_
    exact r_z C E dG_isChain_25 (by omega) ⟨rfl, by rw [hch, if_neg h7]; rfl⟩
  · skip
    refine a_aloadn C dG_isChain_10 rfl rfl ?_
    refine a_iloadn C dG_isChain_11 rfl rfl ?_
    refine a_iconst (v := 0) C dG_isChain_12 (by decide) ?_
    refine vI2 C (c_G_symbolNonterminal (kl K) (kD K) ad cI cD cZ cJ _ _ _ (by omega) (by omega) (by assumption)) wM_G_66 wI_G_symbolNonterminal wSel_G_symbolNonterminal wIni_G wC_G_symbolNonterminal hd_G_symbolNonterminal (by decide) (by decide) (q0 := 3) rfl rfl (Nat.le_of_ble_eq_true rfl) dG_isChain_13 ?_
    rintro n13 u13 b13 ⟨rfl, rfl⟩
    refine a_iconst (v := 4294967295) C dG_isChain_16 (by decide) ?_
    refine a_ceq (tgt := 24) C dG_isChain_17 (by decide) b13 (by decide) (fun h17 => ?_) (fun h17 => ?_)
    · skip
      refine a_iconst (v := 0) C dG_isChain_24 (by decide) ?_
      exact r_z C E dG_isChain_25 (by omega) ⟨rfl, by rw [hch, if_pos h7, oN_none h17]; rfl⟩
    · skip
      refine a_iconst (v := 1) C dG_isChain_20 (by decide) ?_
      refine a_goto (tgt := 25) C dG_isChain_21 (by decide) ?_
      exact r_z C E dG_isChain_25 (by omega) ⟨rfl, by rw [hch, if_pos h7, oN_some h17]; rfl⟩
set_option maxHeartbeats 4000000 in
set_option maxRecDepth 100000 in
theorem c_G_mayFollow (l : Launch) (D : va_G) (ad : Nat → Nat) (cI cD cZ cJ : ClassId) (x : ST) (n c : Nat) (hn : n < 6) (hc : 33 ≤ c) (hc2 : c ≤ 126) (hb : x.2.1 10 (n * 94 + c - 33) < 4294967296) : CI l D (ty4 cI cD cZ cJ) (WS ad cI cD cZ) yG_mayFollow bG_mayFollow 3 (some .boolean) 0 [.ref (ad 3), .int (nI n), .int (nI c)] x (fun rr u => x = u ∧ rr = (if x.2.1 10 (n * 94 + c - 33) = 0 then 1 else 0)) := by
  refine CI_of [some (.ref (ad 3)), some (.int (nI n)), some (.int (nI c))] (by decide) (Nat.le_of_ble_eq_true rfl) rfl ?_
  intro K C E hkl hkD hkn
  refine a_aloadn C dG_mayFollow_0 rfl rfl ?_
  refine g_G_31 C dG_mayFollow_1 ?_
  refine a_iloadn C dG_mayFollow_4 rfl rfl ?_
  refine a_bipush (v := 94) C dG_mayFollow_5 (by decide) ?_
  refine a_imul C dG_mayFollow_7 ?_
  refine a_iloadn C dG_mayFollow_8 rfl rfl ?_
  refine a_iadd C dG_mayFollow_9 ?_
  refine a_bipush (v := 33) C dG_mayFollow_10 (by decide) ?_
  refine a_isub C dG_mayFollow_12 (by omega) ?_
  refine ldS_10 C dG_mayFollow_13 (by omega) ?_
  refine a_ifne (tgt := 21) C dG_mayFollow_14 (by decide) (by omega) (fun h14 => ?_) (fun h14 => ?_)
  · skip
    refine a_iconst (v := 0) C dG_mayFollow_21 (by decide) ?_
    exact r_z C E dG_mayFollow_22 (by omega) ⟨rfl, by first | rw [if_neg (by omega)] | rw [if_pos (by omega)]⟩
  · skip
    refine a_iconst (v := 1) C dG_mayFollow_17 (by decide) ?_
    refine a_goto (tgt := 22) C dG_mayFollow_18 (by decide) ?_
    exact r_z C E dG_mayFollow_22 (by omega) ⟨rfl, by first | rw [if_neg (by omega)] | rw [if_pos (by omega)]⟩
set_option maxHeartbeats 4000000 in
set_option maxRecDepth 100000 in
theorem c_G_setMark (l : Launch) (D : va_G) (ad : Nat → Nat) (cI cD cZ cJ : ClassId) (x : ST) (r h : Nat) (hr : r < 16) : CV l D (ty4 cI cD cZ cJ) (WS ad cI cD cZ) yG_setMark bG_setMark 3 none 0 [.ref (ad 3), .int (nI r), .int (nI h)] x (fun u => u = sA x 8 r h) := by
  refine CV_of [some (.ref (ad 3)), some (.int (nI r)), some (.int (nI h))] (by decide) (Nat.le_of_ble_eq_true rfl) rfl ?_
  intro K C E hkl hkD hkn
  refine a_aloadn C dG_setMark_0 rfl rfl ?_
  refine g_G_25 C dG_setMark_1 ?_
  refine a_iloadn C dG_setMark_4 rfl rfl ?_
  refine a_iloadn C dG_setMark_5 rfl rfl ?_
  refine stS_8 C dG_setMark_6 (by omega) ?_
  exact r_v C E dG_setMark_7 rfl
set_option maxHeartbeats 4000000 in
set_option maxRecDepth 100000 in
theorem c_G_setMayFollow (l : Launch) (D : va_G) (ad : Nat → Nat) (cI cD cZ cJ : ClassId) (x : ST) (n c m : Nat) (hn : n < 6) (hc : 33 ≤ c) (hc2 : c ≤ 126) (hm : m ≤ 1) : CV l D (ty4 cI cD cZ cJ) (WS ad cI cD cZ) yG_setMayFollow bG_setMayFollow 4 none 0 [.ref (ad 3), .int (nI n), .int (nI c), .int (nI m)] x (fun u => u = sA x 10 (n * 94 + c - 33) (1 - m)) := by
  refine CV_of [some (.ref (ad 3)), some (.int (nI n)), some (.int (nI c)), some (.int (nI m))] (by decide) (Nat.le_of_ble_eq_true rfl) rfl ?_
  intro K C E hkl hkD hkn
  refine a_aloadn C dG_setMayFollow_0 rfl rfl ?_
  refine g_G_31 C dG_setMayFollow_1 ?_
  refine a_iloadn C dG_setMayFollow_4 rfl rfl ?_
  refine a_bipush (v := 94) C dG_setMayFollow_5 (by decide) ?_
  refine a_imul C dG_setMayFollow_7 ?_
  refine a_iloadn C dG_setMayFollow_8 rfl rfl ?_
  refine a_iadd C dG_setMayFollow_9 ?_
  refine a_bipush (v := 33) C dG_setMayFollow_10 (by decide) ?_
  refine a_isub C dG_setMayFollow_12 (by omega) ?_
  refine a_iloadn C dG_setMayFollow_13 rfl rfl ?_
  refine a_ifne (tgt := 21) C dG_setMayFollow_14 (by decide) (by omega) (fun h14 => ?_) (fun h14 => ?_)
  · skip
    refine a_iconst (v := 0) C dG_setMayFollow_21 (by decide) ?_
    refine stS_10 C dG_setMayFollow_22 (by omega) (by omega) ?_
    exact r_v C E dG_setMayFollow_23 (by first | (rw [show (1 : Nat) - m = 0 by omega]; done) | (rw [show (1 : Nat) - m = 1 by omega]; done))
  · skip
    refine a_iconst (v := 1) C dG_setMayFollow_17 (by decide) ?_
    refine a_goto (tgt := 22) C dG_setMayFollow_18 (by decide) ?_
    refine stS_10 C dG_setMayFollow_22 (by omega) (by omega) ?_
    exact r_v C E dG_setMayFollow_23 (by first | (rw [show (1 : Nat) - m = 0 by omega]; done) | (rw [show (1 : Nat) - m = 1 by omega]; done))
set_option maxHeartbeats 4000000 in
set_option maxRecDepth 100000 in
theorem c_C_waysOf (l : Launch) (D : va_G) (ad : Nat → Nat) (cI cD cZ cJ : ClassId) (x : ST) (r q : Nat) (hr : r < 16) (hq : q < 105) (hw : WF x) : CI l D (ty4 cI cD cZ cJ) (WS ad cI cD cZ) yC_waysOf bC_waysOf 3 (some .int) 1 [.ref (ad 11), .int (nI r), .int (nI q)] x (fun rr u => x = u ∧ rr = x.2.1 12 (r * 105 + q)) := by
  refine CI_of [some (.ref (ad 11)), some (.int (nI r)), some (.int (nI q))] (by decide) (Nat.le_of_ble_eq_true rfl) rfl ?_
  intro K C E hkl hkD hkn
  refine a_aloadn C dC_waysOf_0 rfl rfl ?_
  refine g_C_9 C dC_waysOf_1 ?_
  refine a_iloadn C dC_waysOf_4 rfl rfl ?_
  refine a_iloadn C dC_waysOf_5 rfl rfl ?_
  refine sI2 C (c_C_ruleIndex (kl K) (kD K) ad cI cD cZ cJ _ _ _ (by omega)) wM_C_137 wSt_C_ruleIndex wIni_C wC_C_ruleIndex hd_C_ruleIndex (by decide) (by decide) (Nat.le_of_ble_eq_true rfl) dC_waysOf_6 ?_
  rintro n6 u6 b6 ⟨rfl, rfl⟩
  refine ldS_12 C dC_waysOf_9 (by omega) ?_
  exact r_i C E dC_waysOf_10 (hw.1 _ _) ⟨rfl, rfl⟩
set_option maxHeartbeats 4000000 in
set_option maxRecDepth 100000 in
theorem c_C_heaviestWeight (l : Launch) (D : va_G) (ad : Nat → Nat) (cI cD cZ cJ : ClassId) (x : ST) (r q : Nat) (hr : r < 16) (hq : q < 105) : CD l D (ty4 cI cD cZ cJ) (WS ad cI cD cZ) yC_heaviestWeight bC_heaviestWeight 3 (some .double) 1 [.ref (ad 11), .int (nI r), .int (nI q)] x (fun rr u => x = u ∧ rr = x.2.2.1 13 (r * 105 + q)) := by
  refine CD_of [some (.ref (ad 11)), some (.int (nI r)), some (.int (nI q))] (by decide) (Nat.le_of_ble_eq_true rfl) rfl ?_
  intro K C E hkl hkD hkn
  refine a_aloadn C dC_heaviestWeight_0 rfl rfl ?_
  refine g_C_15 C dC_heaviestWeight_1 ?_
  refine a_iloadn C dC_heaviestWeight_4 rfl rfl ?_
  refine a_iloadn C dC_heaviestWeight_5 rfl rfl ?_
  refine sI2 C (c_C_ruleIndex (kl K) (kD K) ad cI cD cZ cJ _ _ _ (by omega)) wM_C_137 wSt_C_ruleIndex wIni_C wC_C_ruleIndex hd_C_ruleIndex (by decide) (by decide) (Nat.le_of_ble_eq_true rfl) dC_heaviestWeight_6 ?_
  rintro n6 u6 b6 ⟨rfl, rfl⟩
  refine ldS_13 C dC_heaviestWeight_9 (by omega) ?_
  exact r_d C E dC_heaviestWeight_10 ⟨rfl, rfl⟩
set_option maxHeartbeats 4000000 in
set_option maxRecDepth 100000 in
theorem c_C_ruleBelow (l : Launch) (D : va_G) (ad : Nat → Nat) (cI cD cZ cJ : ClassId) (x : ST) (r k q : Nat) (hr : r < 16) (hk : k < 4) (hq : q < 105) (hw : WF x) : CI l D (ty4 cI cD cZ cJ) (WS ad cI cD cZ) yC_ruleBelow bC_ruleBelow 4 (some .int) 1 [.ref (ad 11), .int (nI r), .int (nI k), .int (nI q)] x (fun rr u => x = u ∧ rr = x.2.1 16 ((r * 4 + k) * 105 + q)) := by
  refine CI_of [some (.ref (ad 11)), some (.int (nI r)), some (.int (nI k)), some (.int (nI q))] (by decide) (Nat.le_of_ble_eq_true rfl) rfl ?_
  intro K C E hkl hkD hkn
  refine a_aloadn C dC_ruleBelow_0 rfl rfl ?_
  refine g_C_25 C dC_ruleBelow_1 ?_
  refine a_iloadn C dC_ruleBelow_4 rfl rfl ?_
  refine a_iloadn C dC_ruleBelow_5 rfl rfl ?_
  refine a_iloadn C dC_ruleBelow_6 rfl rfl ?_
  refine sI3 C (c_C_useIndex (kl K) (kD K) ad cI cD cZ cJ _ _ _ _ (by omega)) wM_C_95 wSt_C_useIndex wIni_C wC_C_useIndex hd_C_useIndex (by decide) (by decide) (Nat.le_of_ble_eq_true rfl) dC_ruleBelow_7 ?_
  rintro n7 u7 b7 ⟨rfl, rfl⟩
  refine ldS_16 C dC_ruleBelow_10 (by omega) ?_
  exact r_i C E dC_ruleBelow_11 (hw.1 _ _) ⟨rfl, rfl⟩
set_option maxHeartbeats 4000000 in
set_option maxRecDepth 100000 in
theorem c_E_size (l : Launch) (D : va_G) (ad : Nat → Nat) (cI cD cZ cJ : ClassId) (x : ST) (hb : x.1 4 < 4294967296) : CI l D (ty4 cI cD cZ cJ) (WS ad cI cD cZ) yE_size bE_size 1 (some .int) 0 [.ref (ad 19)] x (fun rr u => x = u ∧ rr = x.1 4) := by
  refine CI_of [some (.ref (ad 19))] (by decide) (Nat.le_of_ble_eq_true rfl) rfl ?_
  intro K C E hkl hkD hkn
  refine a_aloadn C dE_size_0 rfl rfl ?_
  refine g_E_21 C dE_size_1 ?_
  exact r_i C E dE_size_4 (by omega) ⟨rfl, rfl⟩
set_option maxHeartbeats 4000000 in
set_option maxRecDepth 100000 in
theorem c_E_clear (l : Launch) (D : va_G) (ad : Nat → Nat) (cI cD cZ cJ : ClassId) (x : ST)  : CV l D (ty4 cI cD cZ cJ) (WS ad cI cD cZ) yE_clear bE_clear 1 none 0 [.ref (ad 19)] x (fun u => u = sS x 4 0) := by
  refine CV_of [some (.ref (ad 19))] (by decide) (Nat.le_of_ble_eq_true rfl) rfl ?_
  intro K C E hkl hkD hkn
  refine a_aloadn C dE_clear_0 rfl rfl ?_
  refine a_iconst (v := 0) C dE_clear_1 (by decide) ?_
  refine p_E_21 C dE_clear_2 ?_
  exact r_v C E dE_clear_5 rfl
set_option maxHeartbeats 4000000 in
set_option maxRecDepth 100000 in
theorem c_E_ruleAt (l : Launch) (D : va_G) (ad : Nat → Nat) (cI cD cZ cJ : ClassId) (x : ST) (k : Nat) (hk : k < 162) (hw : WF x) : CI l D (ty4 cI cD cZ cJ) (WS ad cI cD cZ) yE_ruleAt bE_ruleAt 2 (some .int) 0 [.ref (ad 19), .int (nI k)] x (fun rr u => x = u ∧ rr = x.2.1 20 k) := by
  refine CI_of [some (.ref (ad 19)), some (.int (nI k))] (by decide) (Nat.le_of_ble_eq_true rfl) rfl ?_
  intro K C E hkl hkD hkn
  refine a_aloadn C dE_ruleAt_0 rfl rfl ?_
  refine g_E_9 C dE_ruleAt_1 ?_
  refine a_iloadn C dE_ruleAt_4 rfl rfl ?_
  refine ldS_20 C dE_ruleAt_5 (by omega) ?_
  exact r_i C E dE_ruleAt_6 (hw.1 _ _) ⟨rfl, rfl⟩
set_option maxHeartbeats 4000000 in
set_option maxRecDepth 100000 in
theorem c_E_beginAt (l : Launch) (D : va_G) (ad : Nat → Nat) (cI cD cZ cJ : ClassId) (x : ST) (k : Nat) (hk : k < 162) (hw : WF x) : CI l D (ty4 cI cD cZ cJ) (WS ad cI cD cZ) yE_beginAt bE_beginAt 2 (some .int) 0 [.ref (ad 19), .int (nI k)] x (fun rr u => x = u ∧ rr = x.2.1 21 k) := by
  refine CI_of [some (.ref (ad 19)), some (.int (nI k))] (by decide) (Nat.le_of_ble_eq_true rfl) rfl ?_
  intro K C E hkl hkD hkn
  refine a_aloadn C dE_beginAt_0 rfl rfl ?_
  refine g_E_15 C dE_beginAt_1 ?_
  refine a_iloadn C dE_beginAt_4 rfl rfl ?_
  refine ldS_21 C dE_beginAt_5 (by omega) ?_
  exact r_i C E dE_beginAt_6 (hw.1 _ _) ⟨rfl, rfl⟩
set_option maxHeartbeats 4000000 in
set_option maxRecDepth 100000 in
theorem c_E_endAt (l : Launch) (D : va_G) (ad : Nat → Nat) (cI cD cZ cJ : ClassId) (x : ST) (k : Nat) (hk : k < 162) (hw : WF x) : CI l D (ty4 cI cD cZ cJ) (WS ad cI cD cZ) yE_endAt bE_endAt 2 (some .int) 0 [.ref (ad 19), .int (nI k)] x (fun rr u => x = u ∧ rr = x.2.1 22 k) := by
  refine CI_of [some (.ref (ad 19)), some (.int (nI k))] (by decide) (Nat.le_of_ble_eq_true rfl) rfl ?_
  intro K C E hkl hkD hkn
  refine a_aloadn C dE_endAt_0 rfl rfl ?_
  refine g_E_18 C dE_endAt_1 ?_
  refine a_iloadn C dE_endAt_4 rfl rfl ?_
  refine ldS_22 C dE_endAt_5 (by omega) ?_
  exact r_i C E dE_endAt_6 (hw.1 _ _) ⟨rfl, rfl⟩
set_option maxHeartbeats 4000000 in
set_option maxRecDepth 100000 in
theorem c_P_forgetInput (l : Launch) (D : va_G) (ad : Nat → Nat) (cI cD cZ cJ : ClassId) (x : ST)  : CV l D (ty4 cI cD cZ cJ) (WS ad cI cD cZ) yP_forgetInput bP_forgetInput 1 none 1 [.ref (ad 0)] x (fun u => u = sS (sT (sS x 1 0) 0) 4 0) := by
  refine CV_of [some (.ref (ad 0))] (by decide) (Nat.le_of_ble_eq_true rfl) rfl ?_
  intro K C E hkl hkD hkn
  refine a_aloadn C dP_forgetInput_0 rfl rfl ?_
  refine a_iconst (v := 0) C dP_forgetInput_1 (by decide) ?_
  refine p_P_41 C dP_forgetInput_2 ?_
  refine a_aloadn C dP_forgetInput_5 rfl rfl ?_
  refine a_dconst0 C dP_forgetInput_6 ?_
  refine p_P_44 C dP_forgetInput_7 ?_
  refine a_aloadn C dP_forgetInput_10 rfl rfl ?_
  refine g_P_33 C dP_forgetInput_11 ?_
  refine vV0 C (c_E_clear (kl K) (kD K) ad cI cD cZ cJ _ ) wM_P_166 wI_E_clear wSel_E_clear wIni_E wC_E_clear hd_E_clear (by decide) (by decide) (q0 := 19) rfl rfl (Nat.le_of_ble_eq_true rfl) dP_forgetInput_14 ?_
  rintro u14 rfl
  exact r_v C E dP_forgetInput_17 rfl
end

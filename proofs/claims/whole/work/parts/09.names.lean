def LG : List Cond := lw_tbl.filter goodWord
theorem LG_in {w : Cond} (h : w ∈ lw_tbl) (hg : goodWord w = true) : w ∈ LG := List.mem_filter.mpr ⟨h, hg⟩
theorem LG_good {w : Cond} (h : w ∈ LG) : (w.onTables && w.keeps) = true ∨ ∃ ty, w = .arrayClass ty := good_of_word (List.mem_filter.mp h).2
theorem gi_self {cx : Cond} {cy : Cond} (h : cy ∈ LG) : GoodIn (cx :: LG) (cy :: LG) := fun w hw => (List.mem_cons.mp hw).elim (fun e => by rw [e]; exact ⟨List.mem_cons_of_mem _ h, LG_good h⟩) (fun h2 => ⟨List.mem_cons_of_mem _ h2, LG_good h2⟩)
theorem gi_V {cx cy : Cond} {own C : String} {idx : Nat} {y : MethodName} (h1 : Cond.methodLink own idx y ∈ LG) (h2 : Cond.instanceMethod y ∈ LG) (h3 : Cond.selects C y y ∈ LG) (h4 : Cond.initialized C ∈ LG) (h5 : cy ∈ LG) : GoodIn (cx :: LG) (wsV own idx C y (cy :: LG)) := by
  intro w hw
  rcases List.mem_append.mp hw with h | h
  · have hl : w ∈ LG := by
      simp only [List.mem_cons, List.not_mem_nil, or_false] at h
      rcases h with rfl | rfl | rfl | rfl
      · exact h1
      · exact h2
      · exact h3
      · exact h4
    exact ⟨List.mem_cons_of_mem _ hl, LG_good hl⟩
  · exact gi_self h5 w h
theorem gi_S {cx cy : Cond} {own : String} {idx : Nat} {y : MethodName} (h1 : Cond.methodLink own idx y ∈ LG) (h2 : Cond.static y ∈ LG) (h4 : Cond.initialized own ∈ LG) (h5 : cy ∈ LG) : GoodIn (cx :: LG) (wsS own idx y (cy :: LG)) := by
  intro w hw
  rcases List.mem_append.mp hw with h | h
  · have hl : w ∈ LG := by
      simp only [List.mem_cons, List.not_mem_nil, or_false] at h
      rcases h with rfl | rfl | rfl
      · exact h1
      · exact h2
      · exact h4
    exact ⟨List.mem_cons_of_mem _ hl, LG_good hl⟩
  · exact gi_self h5 w h
/-- the links of private members across the nest, which stay -/
def NWs : List (String × Nat × MethodName × String) := [("SpanParser", 11, ⟨"SpanParser$Text", "<init>", "()V"⟩, "SpanParser"), ("SpanParser", 18, ⟨"SpanParser$Grammar", "<init>", "()V"⟩, "SpanParser"), ("SpanParser", 25, ⟨"SpanParser$Chart", "<init>", "()V"⟩, "SpanParser"), ("SpanParser", 32, ⟨"SpanParser$Tree", "<init>", "()V"⟩, "SpanParser"), ("SpanParser$Grammar", 53, ⟨"SpanParser", "nonterminalNumber", "(I)I"⟩, "SpanParser"), ("SpanParser$Grammar", 59, ⟨"SpanParser", "contains", "(II)Z"⟩, "SpanParser"), ("SpanParser$Chart", 64, ⟨"SpanParser", "spanNumber", "(II)I"⟩, "SpanParser"), ("SpanParser$Chart", 140, ⟨"SpanParser", "contains", "(II)Z"⟩, "SpanParser"), ("SpanParser$Tree", 33, ⟨"SpanParser", "spanNumber", "(II)I"⟩, "SpanParser")]
def ENV (U : State) : Prop := ∀ q ∈ NWs, va_Nw (.methodLinkNest q.1 q.2.1 q.2.2.1 q.2.2.2) U
theorem ENV.warm {s U : State} (h : ENV s) (hW : s.WarmedH U.vm) : ENV U := fun q hq => va_Nw.warmM hW (h q hq)
theorem ENV.same {s U : State} (h : ENV s) (hv : s.vm = U.vm) : ENV U := fun q hq => va_Nw.same rfl hv (h q hq)
theorem ENV.at {U : State} (h : ENV U) (k : Nat) {q : String × Nat × MethodName × String} (hk : NWs[k]? = some q) : va_Nw (.methodLinkNest q.1 q.2.1 q.2.2.1 q.2.2.2) U := h q (List.mem_of_getElem? hk)
def RC : String := "SpanParser$Chart"
def TC : u_T := fun k => match k with
  | 0 => ("SpanParser$Chart", "ruleWays", "[I", true)
  | 1 => ("SpanParser$Chart", "ruleWeights", "[D", true)
  | 2 => ("SpanParser$Chart", "ruleDivisions", "[I", true)
  | 3 => ("SpanParser$Chart", "useWays", "[I", true)
  | 4 => ("SpanParser$Chart", "useRules", "[I", true)
  | 5 => ("SpanParser$Chart", "order", "[I", true)
  | _ => ("SpanParser$Chart", "ends", "[I", true)
def tyC : Nat → FieldType := fun k => match k with
  | 0 => .array .int
  | 1 => .array .double
  | 2 => .array .int
  | 3 => .array .int
  | 4 => .array .int
  | 5 => .array .int
  | _ => .array .int
theorem nmC : ∀ a, a < 7 → ∀ b, b < 7 → a ≠ b → (TC a).2.1 ≠ (TC b).2.1 := by decide +kernel
theorem tyC_ok : ∀ k, k < 7 → parseFieldDescriptor (TC k).2.2.1 = some (tyC k) := by decide +kernel
def RG : String := "SpanParser$Grammar"
def TG : u_T := fun k => match k with
  | 0 => ("SpanParser$Grammar", "lefts", "[I", true)
  | 1 => ("SpanParser$Grammar", "rightLengths", "[I", true)
  | 2 => ("SpanParser$Grammar", "rights", "[I", true)
  | 3 => ("SpanParser$Grammar", "weights", "[D", true)
  | 4 => ("SpanParser$Grammar", "marks", "[I", true)
  | 5 => ("SpanParser$Grammar", "barredUnder", "[I", true)
  | 6 => ("SpanParser$Grammar", "mayNotFollow", "[Z", true)
  | _ => ("SpanParser$Grammar", "size", "I", false)
def tyG : Nat → FieldType := fun k => match k with
  | 0 => .array .int
  | 1 => .array .int
  | 2 => .array .int
  | 3 => .array .double
  | 4 => .array .int
  | 5 => .array .int
  | 6 => .array .boolean
  | _ => .int
theorem nmG : ∀ a, a < 8 → ∀ b, b < 8 → a ≠ b → (TG a).2.1 ≠ (TG b).2.1 := by decide +kernel
theorem tyG_ok : ∀ k, k < 8 → parseFieldDescriptor (TG k).2.2.1 = some (tyG k) := by decide +kernel
def RT : String := "SpanParser$Text"
def TT : u_T := fun k => match k with
  | 0 => ("SpanParser$Text", "characters", "[I", true)
  | _ => ("SpanParser$Text", "length", "I", false)
def tyT : Nat → FieldType := fun k => match k with
  | 0 => .array .int
  | _ => .int
theorem nmT : ∀ a, a < 2 → ∀ b, b < 2 → a ≠ b → (TT a).2.1 ≠ (TT b).2.1 := by decide +kernel
theorem tyT_ok : ∀ k, k < 2 → parseFieldDescriptor (TT k).2.2.1 = some (tyT k) := by decide +kernel
def RE : String := "SpanParser$Tree"
def TE : u_T := fun k => match k with
  | 0 => ("SpanParser$Tree", "rules", "[I", true)
  | 1 => ("SpanParser$Tree", "begins", "[I", true)
  | 2 => ("SpanParser$Tree", "ends", "[I", true)
  | _ => ("SpanParser$Tree", "size", "I", false)
def tyE : Nat → FieldType := fun k => match k with
  | 0 => .array .int
  | 1 => .array .int
  | 2 => .array .int
  | _ => .int
theorem nmE : ∀ a, a < 4 → ∀ b, b < 4 → a ≠ b → (TE a).2.1 ≠ (TE b).2.1 := by decide +kernel
theorem tyE_ok : ∀ k, k < 4 → parseFieldDescriptor (TE k).2.2.1 = some (tyE k) := by decide +kernel
def RP : String := "SpanParser"
def TP : u_T := fun k => match k with
  | 0 => ("SpanParser", "text", "LSpanParser$Text;", true)
  | 1 => ("SpanParser", "grammar", "LSpanParser$Grammar;", true)
  | 2 => ("SpanParser", "chart", "LSpanParser$Chart;", true)
  | 3 => ("SpanParser", "tree", "LSpanParser$Tree;", true)
  | 4 => ("SpanParser", "misreadPlace", "I", false)
  | 5 => ("SpanParser", "inputLength", "I", false)
  | _ => ("SpanParser", "treeWeight", "D", false)
def tyP : Nat → FieldType := fun k => match k with
  | 0 => .object "SpanParser$Text"
  | 1 => .object "SpanParser$Grammar"
  | 2 => .object "SpanParser$Chart"
  | 3 => .object "SpanParser$Tree"
  | 4 => .int
  | 5 => .int
  | _ => .double
theorem nmP : ∀ a, a < 7 → ∀ b, b < 7 → a ≠ b → (TP a).2.1 ≠ (TP b).2.1 := by decide +kernel
theorem tyP_ok : ∀ k, k < 7 → parseFieldDescriptor (TP k).2.2.1 = some (tyP k) := by decide +kernel
def RM : String := "SpanParserModel"
def TM : u_T := fun k => match k with
  | 0 => ("SpanParserModel", "text", "[I", true)
  | 1 => ("SpanParserModel", "input", "[I", true)
  | 2 => ("SpanParserModel", "left", "[I", true)
  | 3 => ("SpanParserModel", "size", "[I", true)
  | 4 => ("SpanParserModel", "right", "[I", true)
  | 5 => ("SpanParserModel", "how", "[I", true)
  | 6 => ("SpanParserModel", "cut", "[I", true)
  | 7 => ("SpanParserModel", "best", "[I", true)
  | 8 => ("SpanParserModel", "weight", "[D", true)
  | 9 => ("SpanParserModel", "heavy", "[D", true)
  | 10 => ("SpanParserModel", "barred", "[Z", true)
  | 11 => ("SpanParserModel", "never", "[Z", true)
  | 12 => ("SpanParserModel", "good", "[Z", true)
  | 13 => ("SpanParserModel", "many", "[I", true)
  | 14 => ("SpanParserModel", "nodeRule", "[I", true)
  | 15 => ("SpanParserModel", "from", "[I", true)
  | 16 => ("SpanParserModel", "to", "[I", true)
  | 17 => ("SpanParserModel", "parent", "[I", true)
  | 18 => ("SpanParserModel", "below", "[I", true)
  | 19 => ("SpanParserModel", "pile", "[I", true)
  | 20 => ("SpanParserModel", "rules", "I", false)
  | 21 => ("SpanParserModel", "length", "I", false)
  | 22 => ("SpanParserModel", "place", "I", false)
  | 23 => ("SpanParserModel", "inputLength", "I", false)
  | 24 => ("SpanParserModel", "nodes", "I", false)
  | 25 => ("SpanParserModel", "thrown", "I", false)
  | 26 => ("SpanParserModel", "parsed", "Z", false)
  | 27 => ("SpanParserModel", "found", "Z", false)
  | _ => ("SpanParserModel", "total", "D", false)
def tyM : Nat → FieldType := fun k => match k with
  | 0 => .array .int
  | 1 => .array .int
  | 2 => .array .int
  | 3 => .array .int
  | 4 => .array .int
  | 5 => .array .int
  | 6 => .array .int
  | 7 => .array .int
  | 8 => .array .double
  | 9 => .array .double
  | 10 => .array .boolean
  | 11 => .array .boolean
  | 12 => .array .boolean
  | 13 => .array .int
  | 14 => .array .int
  | 15 => .array .int
  | 16 => .array .int
  | 17 => .array .int
  | 18 => .array .int
  | 19 => .array .int
  | 20 => .int
  | 21 => .int
  | 22 => .int
  | 23 => .int
  | 24 => .int
  | 25 => .int
  | 26 => .boolean
  | 27 => .boolean
  | _ => .double
theorem nmM : ∀ a, a < 29 → ∀ b, b < 29 → a ≠ b → (TM a).2.1 ≠ (TM b).2.1 := by decide +kernel
theorem tyM_ok : ∀ k, k < 29 → parseFieldDescriptor (TM k).2.2.1 = some (tyM k) := by decide +kernel
def RL : String := "SpanParserLaw"
abbrev cls6 : List vw_C := [(RC, TC, 7), (RG, TG, 8), (RT, TT, 2), (RE, TE, 4), (RP, TP, 7), (RM, TM, 29)]
def yC_init : MethodName := ⟨RC, "<init>", "()V"⟩
abbrev bC_init : ByteArray := prog_2_method_1_code
def yC_fill : MethodName := ⟨RC, "fill", "(LSpanParser$Grammar;LSpanParser$Text;)V"⟩
abbrev bC_fill : ByteArray := prog_2_method_2_code
def yC_fillSpan : MethodName := ⟨RC, "fillSpan", "(LSpanParser$Grammar;LSpanParser$Text;II)V"⟩
abbrev bC_fillSpan : ByteArray := prog_2_method_3_code
def yC_settleCharacters : MethodName := ⟨RC, "settleCharacters", "(LSpanParser$Grammar;LSpanParser$Text;II)V"⟩
abbrev bC_settleCharacters : ByteArray := prog_2_method_4_code
def yC_settleNonterminal : MethodName := ⟨RC, "settleNonterminal", "(LSpanParser$Grammar;IIZ)V"⟩
abbrev bC_settleNonterminal : ByteArray := prog_2_method_5_code
def yC_deriveRule : MethodName := ⟨RC, "deriveRule", "(LSpanParser$Grammar;III)V"⟩
abbrev bC_deriveRule : ByteArray := prog_2_method_6_code
def yC_firstDivision : MethodName := ⟨RC, "firstDivision", "(III)Z"⟩
abbrev bC_firstDivision : ByteArray := prog_2_method_7_code
def yC_nextDivision : MethodName := ⟨RC, "nextDivision", "(II)Z"⟩
abbrev bC_nextDivision : ByteArray := prog_2_method_8_code
def yC_divisionWays : MethodName := ⟨RC, "divisionWays", "(III)J"⟩
abbrev bC_divisionWays : ByteArray := prog_2_method_9_code
def yC_divisionWeight : MethodName := ⟨RC, "divisionWeight", "(DIII)D"⟩
abbrev bC_divisionWeight : ByteArray := prog_2_method_10_code
def yC_packedEnds : MethodName := ⟨RC, "packedEnds", "(I)I"⟩
abbrev bC_packedEnds : ByteArray := prog_2_method_11_code
def yC_waysOf : MethodName := ⟨RC, "waysOf", "(II)I"⟩
abbrev bC_waysOf : ByteArray := prog_2_method_12_code
def yC_heaviestWeight : MethodName := ⟨RC, "heaviestWeight", "(II)D"⟩
abbrev bC_heaviestWeight : ByteArray := prog_2_method_13_code
def yC_symbolEnd : MethodName := ⟨RC, "symbolEnd", "(III)I"⟩
abbrev bC_symbolEnd : ByteArray := prog_2_method_14_code
def yC_ruleBelow : MethodName := ⟨RC, "ruleBelow", "(III)I"⟩
abbrev bC_ruleBelow : ByteArray := prog_2_method_15_code
def yC_waysOfAny : MethodName := ⟨RC, "waysOfAny", "(II)I"⟩
abbrev bC_waysOfAny : ByteArray := prog_2_method_16_code
def yC_heaviestOf : MethodName := ⟨RC, "heaviestOf", "(II)I"⟩
abbrev bC_heaviestOf : ByteArray := prog_2_method_17_code
def yC_ruleIndex : MethodName := ⟨RC, "ruleIndex", "(II)I"⟩
abbrev bC_ruleIndex : ByteArray := prog_2_method_18_code
def yC_useIndex : MethodName := ⟨RC, "useIndex", "(III)I"⟩
abbrev bC_useIndex : ByteArray := prog_2_method_19_code
def yG_init : MethodName := ⟨RG, "<init>", "()V"⟩
abbrev bG_init : ByteArray := prog_3_method_1_code
def yG_wrongPlace : MethodName := ⟨RG, "wrongPlace", "(LSpanParser$Text;)I"⟩
abbrev bG_wrongPlace : ByteArray := prog_3_method_2_code
def yG_fits : MethodName := ⟨RG, "fits", "(II)Z"⟩
abbrev bG_fits : ByteArray := prog_3_method_3_code
def yG_size : MethodName := ⟨RG, "size", "()I"⟩
abbrev bG_size : ByteArray := prog_3_method_4_code
def yG_has : MethodName := ⟨RG, "has", "(I)Z"⟩
abbrev bG_has : ByteArray := prog_3_method_5_code
def yG_wouldLeadRound : MethodName := ⟨RG, "wouldLeadRound", "(LSpanParser$Text;)Z"⟩
abbrev bG_wouldLeadRound : ByteArray := prog_3_method_6_code
def yG_reachedByChains : MethodName := ⟨RG, "reachedByChains", "(I)I"⟩
abbrev bG_reachedByChains : ByteArray := prog_3_method_7_code
def yG_isChain : MethodName := ⟨RG, "isChain", "(I)Z"⟩
abbrev bG_isChain : ByteArray := prog_3_method_8_code
def yG_add : MethodName := ⟨RG, "add", "(LSpanParser$Text;D)V"⟩
abbrev bG_add : ByteArray := prog_3_method_9_code
def yG_removeLatest : MethodName := ⟨RG, "removeLatest", "()V"⟩
abbrev bG_removeLatest : ByteArray := prog_3_method_10_code
def yG_setMark : MethodName := ⟨RG, "setMark", "(II)V"⟩
abbrev bG_setMark : ByteArray := prog_3_method_11_code
def yG_setBarred : MethodName := ⟨RG, "setBarred", "(IIZ)V"⟩
abbrev bG_setBarred : ByteArray := prog_3_method_12_code
def yG_setMayFollow : MethodName := ⟨RG, "setMayFollow", "(IIZ)V"⟩
abbrev bG_setMayFollow : ByteArray := prog_3_method_13_code
def yG_mayFollow : MethodName := ⟨RG, "mayFollow", "(II)Z"⟩
abbrev bG_mayFollow : ByteArray := prog_3_method_14_code
def yG_left : MethodName := ⟨RG, "left", "(I)I"⟩
abbrev bG_left : ByteArray := prog_3_method_15_code
def yG_rightLength : MethodName := ⟨RG, "rightLength", "(I)I"⟩
abbrev bG_rightLength : ByteArray := prog_3_method_16_code
def yG_weightOf : MethodName := ⟨RG, "weightOf", "(I)D"⟩
abbrev bG_weightOf : ByteArray := prog_3_method_17_code
def yG_symbolNonterminal : MethodName := ⟨RG, "symbolNonterminal", "(II)I"⟩
abbrev bG_symbolNonterminal : ByteArray := prog_3_method_18_code
def yG_symbolStandsFor : MethodName := ⟨RG, "symbolStandsFor", "(III)Z"⟩
abbrev bG_symbolStandsFor : ByteArray := prog_3_method_19_code
def yG_rejectingRules : MethodName := ⟨RG, "rejectingRules", "(I)I"⟩
abbrev bG_rejectingRules : ByteArray := prog_3_method_20_code
def yG_derivingRules : MethodName := ⟨RG, "derivingRules", "(I)I"⟩
abbrev bG_derivingRules : ByteArray := prog_3_method_21_code
def yG_rulesOf : MethodName := ⟨RG, "rulesOf", "(IZ)I"⟩
abbrev bG_rulesOf : ByteArray := prog_3_method_22_code
def yG_allowedUnder : MethodName := ⟨RG, "allowedUnder", "(III)I"⟩
abbrev bG_allowedUnder : ByteArray := prog_3_method_23_code
def yG_orderByChains : MethodName := ⟨RG, "orderByChains", "([I)V"⟩
abbrev bG_orderByChains : ByteArray := prog_3_method_24_code
def yT_init : MethodName := ⟨RT, "<init>", "()V"⟩
abbrev bT_init : ByteArray := prog_4_method_1_code
def yT_length : MethodName := ⟨RT, "length", "()I"⟩
abbrev bT_length : ByteArray := prog_4_method_2_code
def yT_at : MethodName := ⟨RT, "at", "(I)I"⟩
abbrev bT_at : ByteArray := prog_4_method_3_code
def yT_append : MethodName := ⟨RT, "append", "(I)V"⟩
abbrev bT_append : ByteArray := prog_4_method_4_code
def yT_clear : MethodName := ⟨RT, "clear", "()V"⟩
abbrev bT_clear : ByteArray := prog_4_method_5_code
def yE_init : MethodName := ⟨RE, "<init>", "()V"⟩
abbrev bE_init : ByteArray := prog_5_method_1_code
def yE_clear : MethodName := ⟨RE, "clear", "()V"⟩
abbrev bE_clear : ByteArray := prog_5_method_2_code
def yE_grow : MethodName := ⟨RE, "grow", "(LSpanParser$Grammar;LSpanParser$Chart;II)V"⟩
abbrev bE_grow : ByteArray := prog_5_method_3_code
def yE_insertBelow : MethodName := ⟨RE, "insertBelow", "(LSpanParser$Grammar;LSpanParser$Chart;I)V"⟩
abbrev bE_insertBelow : ByteArray := prog_5_method_4_code
def yE_insert : MethodName := ⟨RE, "insert", "(IIII)V"⟩
abbrev bE_insert : ByteArray := prog_5_method_5_code
def yE_size : MethodName := ⟨RE, "size", "()I"⟩
abbrev bE_size : ByteArray := prog_5_method_6_code
def yE_ruleAt : MethodName := ⟨RE, "ruleAt", "(I)I"⟩
abbrev bE_ruleAt : ByteArray := prog_5_method_7_code
def yE_beginAt : MethodName := ⟨RE, "beginAt", "(I)I"⟩
abbrev bE_beginAt : ByteArray := prog_5_method_8_code
def yE_endAt : MethodName := ⟨RE, "endAt", "(I)I"⟩
abbrev bE_endAt : ByteArray := prog_5_method_9_code
def yE_nodesBelow : MethodName := ⟨RE, "nodesBelow", "(I)I"⟩
abbrev bE_nodesBelow : ByteArray := prog_5_method_10_code
def yP_init : MethodName := ⟨RP, "<init>", "()V"⟩
abbrev bP_init : ByteArray := prog_1_method_1_code
def yP_type : MethodName := ⟨RP, "type", "(J)I"⟩
abbrev bP_type : ByteArray := prog_1_method_2_code
def yP_rule : MethodName := ⟨RP, "rule", "(D)I"⟩
abbrev bP_rule : ByteArray := prog_1_method_3_code
def yP_mark : MethodName := ⟨RP, "mark", "(II)V"⟩
abbrev bP_mark : ByteArray := prog_1_method_4_code
def yP_bar : MethodName := ⟨RP, "bar", "(IIZ)V"⟩
abbrev bP_bar : ByteArray := prog_1_method_5_code
def yP_follow : MethodName := ⟨RP, "follow", "(IIZ)V"⟩
abbrev bP_follow : ByteArray := prog_1_method_6_code
def yP_undo : MethodName := ⟨RP, "undo", "()V"⟩
abbrev bP_undo : ByteArray := prog_1_method_7_code
def yP_parse : MethodName := ⟨RP, "parse", "(I)I"⟩
abbrev bP_parse : ByteArray := prog_1_method_8_code
def yP_weight : MethodName := ⟨RP, "weight", "()D"⟩
abbrev bP_weight : ByteArray := prog_1_method_9_code
def yP_node : MethodName := ⟨RP, "node", "(II)I"⟩
abbrev bP_node : ByteArray := prog_1_method_10_code
def yP_many : MethodName := ⟨RP, "many", "(III)I"⟩
abbrev bP_many : ByteArray := prog_1_method_11_code
def yP_count : MethodName := ⟨RP, "count", "(I)I"⟩
abbrev bP_count : ByteArray := prog_1_method_12_code
def yP_forgetInput : MethodName := ⟨RP, "forgetInput", "()V"⟩
abbrev bP_forgetInput : ByteArray := prog_1_method_13_code
def yP_byteAt : MethodName := ⟨RP, "byteAt", "(JI)I"⟩
abbrev bP_byteAt : ByteArray := prog_1_method_14_code
def yP_isCharacter : MethodName := ⟨RP, "isCharacter", "(I)Z"⟩
abbrev bP_isCharacter : ByteArray := prog_1_method_15_code
def yP_isNonterminalNumber : MethodName := ⟨RP, "isNonterminalNumber", "(I)Z"⟩
abbrev bP_isNonterminalNumber : ByteArray := prog_1_method_16_code
def yP_nonterminalNumber : MethodName := ⟨RP, "nonterminalNumber", "(I)I"⟩
abbrev bP_nonterminalNumber : ByteArray := prog_1_method_17_code
def yP_contains : MethodName := ⟨RP, "contains", "(II)Z"⟩
abbrev bP_contains : ByteArray := prog_1_method_18_code
def yP_spanNumber : MethodName := ⟨RP, "spanNumber", "(II)I"⟩
abbrev bP_spanNumber : ByteArray := prog_1_method_19_code
def yM_init : MethodName := ⟨RM, "<init>", "()V"⟩
abbrev bM_init : ByteArray := prog_7_method_1_code
def yM_thrown : MethodName := ⟨RM, "thrown", "()I"⟩
abbrev bM_thrown : ByteArray := prog_7_method_2_code
def yM_in : MethodName := ⟨RM, "in", "(III)Z"⟩
abbrev bM_in : ByteArray := prog_7_method_3_code
def yM_bad : MethodName := ⟨RM, "bad", "(Z)Z"⟩
abbrev bM_bad : ByteArray := prog_7_method_4_code
def yM_fail : MethodName := ⟨RM, "fail", "(I)I"⟩
abbrev bM_fail : ByteArray := prog_7_method_5_code
def yM_type : MethodName := ⟨RM, "type", "(J)I"⟩
abbrev bM_type : ByteArray := prog_7_method_6_code
def yM_change : MethodName := ⟨RM, "change", "()V"⟩
abbrev bM_change : ByteArray := prog_7_method_7_code
def yM_wrong : MethodName := ⟨RM, "wrong", "()I"⟩
abbrev bM_wrong : ByteArray := prog_7_method_8_code
def yM_isChain : MethodName := ⟨RM, "isChain", "(I)Z"⟩
abbrev bM_isChain : ByteArray := prog_7_method_9_code
def yM_leads : MethodName := ⟨RM, "leads", "(II)Z"⟩
abbrev bM_leads : ByteArray := prog_7_method_10_code
def yM_rule : MethodName := ⟨RM, "rule", "(D)I"⟩
abbrev bM_rule : ByteArray := prog_7_method_11_code
def yM_isRule : MethodName := ⟨RM, "isRule", "(I)Z"⟩
abbrev bM_isRule : ByteArray := prog_7_method_12_code
def yM_mark : MethodName := ⟨RM, "mark", "(II)V"⟩
abbrev bM_mark : ByteArray := prog_7_method_13_code
def yM_bar : MethodName := ⟨RM, "bar", "(IIZ)V"⟩
abbrev bM_bar : ByteArray := prog_7_method_14_code
def yM_follow : MethodName := ⟨RM, "follow", "(IIZ)V"⟩
abbrev bM_follow : ByteArray := prog_7_method_15_code
def yM_undo : MethodName := ⟨RM, "undo", "()V"⟩
abbrev bM_undo : ByteArray := prog_7_method_16_code
def yM_span : MethodName := ⟨RM, "span", "(II)I"⟩
abbrev bM_span : ByteArray := prog_7_method_17_code
def yM_allowed : MethodName := ⟨RM, "allowed", "(III)Z"⟩
abbrev bM_allowed : ByteArray := prog_7_method_18_code
def yM_cutDown : MethodName := ⟨RM, "cutDown", "(J)I"⟩
abbrev bM_cutDown : ByteArray := prog_7_method_19_code
def yM_heaviest : MethodName := ⟨RM, "heaviest", "(IIIII)I"⟩
abbrev bM_heaviest : ByteArray := prog_7_method_20_code
def yM_count5 : MethodName := ⟨RM, "count", "(IIIII)I"⟩
abbrev bM_count5 : ByteArray := prog_7_method_21_code
def yM_stands : MethodName := ⟨RM, "stands", "(II)Z"⟩
abbrev bM_stands : ByteArray := prog_7_method_22_code
def yM_symbol : MethodName := ⟨RM, "symbol", "(IIII)I"⟩
abbrev bM_symbol : ByteArray := prog_7_method_23_code
def yM_next : MethodName := ⟨RM, "next", "(II)Z"⟩
abbrev bM_next : ByteArray := prog_7_method_24_code
def yM_divide : MethodName := ⟨RM, "divide", "(III)V"⟩
abbrev bM_divide : ByteArray := prog_7_method_25_code
def yM_weightOf : MethodName := ⟨RM, "weightOf", "(I)D"⟩
abbrev bM_weightOf : ByteArray := prog_7_method_26_code
def yM_isGood : MethodName := ⟨RM, "isGood", "(III)Z"⟩
abbrev bM_isGood : ByteArray := prog_7_method_27_code
def yM_fill : MethodName := ⟨RM, "fill", "(II)V"⟩
abbrev bM_fill : ByteArray := prog_7_method_28_code
def yM_parse : MethodName := ⟨RM, "parse", "(I)I"⟩
abbrev bM_parse : ByteArray := prog_7_method_29_code
def yM_put : MethodName := ⟨RM, "put", "(IIIII)I"⟩
abbrev bM_put : ByteArray := prog_7_method_30_code
def yM_grow : MethodName := ⟨RM, "grow", "(I)V"⟩
abbrev bM_grow : ByteArray := prog_7_method_31_code
def yM_weight : MethodName := ⟨RM, "weight", "()D"⟩
abbrev bM_weight : ByteArray := prog_7_method_32_code
def yM_node : MethodName := ⟨RM, "node", "(II)I"⟩
abbrev bM_node : ByteArray := prog_7_method_33_code
def yM_many : MethodName := ⟨RM, "many", "(III)I"⟩
abbrev bM_many : ByteArray := prog_7_method_34_code
def yM_count1 : MethodName := ⟨RM, "count", "(I)I"⟩
abbrev bM_count1 : ByteArray := prog_7_method_35_code
def yL_type : MethodName := ⟨RL, "type", "(LSpanParser;J[J)I"⟩
abbrev bL_type : ByteArray := method_3_code
def yL_rule : MethodName := ⟨RL, "rule", "(LSpanParser;D[J)I"⟩
abbrev bL_rule : ByteArray := method_4_code
def yL_mark : MethodName := ⟨RL, "mark", "(LSpanParser;II)I"⟩
abbrev bL_mark : ByteArray := method_5_code
def yL_bar : MethodName := ⟨RL, "bar", "(LSpanParser;IIZ)I"⟩
abbrev bL_bar : ByteArray := method_6_code
def yL_follow : MethodName := ⟨RL, "follow", "(LSpanParser;IIZ)I"⟩
abbrev bL_follow : ByteArray := method_7_code
def yL_undo : MethodName := ⟨RL, "undo", "(LSpanParser;)I"⟩
abbrev bL_undo : ByteArray := method_8_code
def yL_parse : MethodName := ⟨RL, "parse", "(LSpanParser;I[J)I"⟩
abbrev bL_parse : ByteArray := method_9_code
def yL_weight : MethodName := ⟨RL, "weight", "(LSpanParser;[D)I"⟩
abbrev bL_weight : ByteArray := method_10_code
def yL_node : MethodName := ⟨RL, "node", "(LSpanParser;II[J)I"⟩
abbrev bL_node : ByteArray := method_11_code
def yL_many : MethodName := ⟨RL, "many", "(LSpanParser;III[J)I"⟩
abbrev bL_many : ByteArray := method_12_code
def yL_law : MethodName := ⟨RL, "law", "([I)Z"⟩
abbrev bL_law : ByteArray := code
theorem wSel_G_reachedByChains : Cond.selects RG yG_reachedByChains yG_reachedByChains ∈ LG := LG_in (List.mem_of_getElem? (i := 1) (by decide +kernel)) (by decide +kernel)
theorem wSel_G_isChain : Cond.selects RG yG_isChain yG_isChain ∈ LG := LG_in (List.mem_of_getElem? (i := 2) (by decide +kernel)) (by decide +kernel)
theorem wSel_P_forgetInput : Cond.selects RP yP_forgetInput yP_forgetInput ∈ LG := LG_in (List.mem_of_getElem? (i := 3) (by decide +kernel)) (by decide +kernel)
theorem wSel_C_fillSpan : Cond.selects RC yC_fillSpan yC_fillSpan ∈ LG := LG_in (List.mem_of_getElem? (i := 4) (by decide +kernel)) (by decide +kernel)
theorem wSel_C_settleCharacters : Cond.selects RC yC_settleCharacters yC_settleCharacters ∈ LG := LG_in (List.mem_of_getElem? (i := 5) (by decide +kernel)) (by decide +kernel)
theorem wSel_C_deriveRule : Cond.selects RC yC_deriveRule yC_deriveRule ∈ LG := LG_in (List.mem_of_getElem? (i := 6) (by decide +kernel)) (by decide +kernel)
theorem wSel_C_firstDivision : Cond.selects RC yC_firstDivision yC_firstDivision ∈ LG := LG_in (List.mem_of_getElem? (i := 7) (by decide +kernel)) (by decide +kernel)
theorem wSel_C_divisionWays : Cond.selects RC yC_divisionWays yC_divisionWays ∈ LG := LG_in (List.mem_of_getElem? (i := 8) (by decide +kernel)) (by decide +kernel)
theorem wSel_C_divisionWeight : Cond.selects RC yC_divisionWeight yC_divisionWeight ∈ LG := LG_in (List.mem_of_getElem? (i := 9) (by decide +kernel)) (by decide +kernel)
theorem wSel_C_packedEnds : Cond.selects RC yC_packedEnds yC_packedEnds ∈ LG := LG_in (List.mem_of_getElem? (i := 10) (by decide +kernel)) (by decide +kernel)
theorem wSel_C_nextDivision : Cond.selects RC yC_nextDivision yC_nextDivision ∈ LG := LG_in (List.mem_of_getElem? (i := 11) (by decide +kernel)) (by decide +kernel)
theorem wSel_G_rulesOf : Cond.selects RG yG_rulesOf yG_rulesOf ∈ LG := LG_in (List.mem_of_getElem? (i := 12) (by decide +kernel)) (by decide +kernel)
theorem wSel_C_settleNonterminal : Cond.selects RC yC_settleNonterminal yC_settleNonterminal ∈ LG := LG_in (List.mem_of_getElem? (i := 13) (by decide +kernel)) (by decide +kernel)
theorem wSel_E_insert : Cond.selects RE yE_insert yE_insert ∈ LG := LG_in (List.mem_of_getElem? (i := 14) (by decide +kernel)) (by decide +kernel)
theorem wSel_E_insertBelow : Cond.selects RE yE_insertBelow yE_insertBelow ∈ LG := LG_in (List.mem_of_getElem? (i := 15) (by decide +kernel)) (by decide +kernel)
theorem wSel_M_bad : Cond.selects RM yM_bad yM_bad ∈ LG := LG_in (List.mem_of_getElem? (i := 16) (by decide +kernel)) (by decide +kernel)
theorem wSel_M_fail : Cond.selects RM yM_fail yM_fail ∈ LG := LG_in (List.mem_of_getElem? (i := 17) (by decide +kernel)) (by decide +kernel)
theorem wSel_M_wrong : Cond.selects RM yM_wrong yM_wrong ∈ LG := LG_in (List.mem_of_getElem? (i := 18) (by decide +kernel)) (by decide +kernel)
theorem wSel_M_leads : Cond.selects RM yM_leads yM_leads ∈ LG := LG_in (List.mem_of_getElem? (i := 19) (by decide +kernel)) (by decide +kernel)
theorem wSel_M_isChain : Cond.selects RM yM_isChain yM_isChain ∈ LG := LG_in (List.mem_of_getElem? (i := 20) (by decide +kernel)) (by decide +kernel)
theorem wSel_M_change : Cond.selects RM yM_change yM_change ∈ LG := LG_in (List.mem_of_getElem? (i := 21) (by decide +kernel)) (by decide +kernel)
theorem wSel_M_isRule : Cond.selects RM yM_isRule yM_isRule ∈ LG := LG_in (List.mem_of_getElem? (i := 22) (by decide +kernel)) (by decide +kernel)
theorem wSel_M_fill : Cond.selects RM yM_fill yM_fill ∈ LG := LG_in (List.mem_of_getElem? (i := 23) (by decide +kernel)) (by decide +kernel)
theorem wSel_M_divide : Cond.selects RM yM_divide yM_divide ∈ LG := LG_in (List.mem_of_getElem? (i := 24) (by decide +kernel)) (by decide +kernel)
theorem wSel_M_symbol : Cond.selects RM yM_symbol yM_symbol ∈ LG := LG_in (List.mem_of_getElem? (i := 25) (by decide +kernel)) (by decide +kernel)
theorem wSel_M_stands : Cond.selects RM yM_stands yM_stands ∈ LG := LG_in (List.mem_of_getElem? (i := 26) (by decide +kernel)) (by decide +kernel)
theorem wSel_M_count5 : Cond.selects RM yM_count5 yM_count5 ∈ LG := LG_in (List.mem_of_getElem? (i := 27) (by decide +kernel)) (by decide +kernel)
theorem wSel_M_allowed : Cond.selects RM yM_allowed yM_allowed ∈ LG := LG_in (List.mem_of_getElem? (i := 28) (by decide +kernel)) (by decide +kernel)
theorem wSel_M_weightOf : Cond.selects RM yM_weightOf yM_weightOf ∈ LG := LG_in (List.mem_of_getElem? (i := 29) (by decide +kernel)) (by decide +kernel)
theorem wSel_M_heaviest : Cond.selects RM yM_heaviest yM_heaviest ∈ LG := LG_in (List.mem_of_getElem? (i := 30) (by decide +kernel)) (by decide +kernel)
theorem wSel_M_next : Cond.selects RM yM_next yM_next ∈ LG := LG_in (List.mem_of_getElem? (i := 31) (by decide +kernel)) (by decide +kernel)
theorem wSel_M_isGood : Cond.selects RM yM_isGood yM_isGood ∈ LG := LG_in (List.mem_of_getElem? (i := 32) (by decide +kernel)) (by decide +kernel)
theorem wSel_M_grow : Cond.selects RM yM_grow yM_grow ∈ LG := LG_in (List.mem_of_getElem? (i := 33) (by decide +kernel)) (by decide +kernel)
theorem wSel_M_put : Cond.selects RM yM_put yM_put ∈ LG := LG_in (List.mem_of_getElem? (i := 34) (by decide +kernel)) (by decide +kernel)
theorem wIni_L : Cond.initialized RL ∈ LG := LG_in (List.mem_of_getElem? (i := 35) (by decide +kernel)) (by decide +kernel)
theorem wIni_P : Cond.initialized RP ∈ LG := LG_in (List.mem_of_getElem? (i := 36) (by decide +kernel)) (by decide +kernel)
theorem wIni_T : Cond.initialized RT ∈ LG := LG_in (List.mem_of_getElem? (i := 37) (by decide +kernel)) (by decide +kernel)
theorem wIni_G : Cond.initialized RG ∈ LG := LG_in (List.mem_of_getElem? (i := 38) (by decide +kernel)) (by decide +kernel)
theorem wIni_C : Cond.initialized RC ∈ LG := LG_in (List.mem_of_getElem? (i := 39) (by decide +kernel)) (by decide +kernel)
theorem wIni_E : Cond.initialized RE ∈ LG := LG_in (List.mem_of_getElem? (i := 40) (by decide +kernel)) (by decide +kernel)
theorem wIni_M : Cond.initialized RM ∈ LG := LG_in (List.mem_of_getElem? (i := 41) (by decide +kernel)) (by decide +kernel)
theorem wIni_Throwable : Cond.initialized "java/lang/Throwable" ∈ LG := LG_in (List.mem_of_getElem? (i := 42) (by decide +kernel)) (by decide +kernel)
theorem wIni_Exception : Cond.initialized "java/lang/Exception" ∈ LG := LG_in (List.mem_of_getElem? (i := 43) (by decide +kernel)) (by decide +kernel)
theorem wIni_RuntimeException : Cond.initialized "java/lang/RuntimeException" ∈ LG := LG_in (List.mem_of_getElem? (i := 44) (by decide +kernel)) (by decide +kernel)
theorem wIni_IllegalArgumentException : Cond.initialized "java/lang/IllegalArgumentException" ∈ LG := LG_in (List.mem_of_getElem? (i := 45) (by decide +kernel)) (by decide +kernel)
theorem wIni_IllegalStateException : Cond.initialized "java/lang/IllegalStateException" ∈ LG := LG_in (List.mem_of_getElem? (i := 46) (by decide +kernel)) (by decide +kernel)
theorem wIni_UnsupportedOperationException : Cond.initialized "java/lang/UnsupportedOperationException" ∈ LG := LG_in (List.mem_of_getElem? (i := 47) (by decide +kernel)) (by decide +kernel)
theorem wIni_NoSuchElementException : Cond.initialized "java/util/NoSuchElementException" ∈ LG := LG_in (List.mem_of_getElem? (i := 48) (by decide +kernel)) (by decide +kernel)
theorem wIni_Math : Cond.initialized "java/lang/Math" ∈ LG := LG_in (List.mem_of_getElem? (i := 49) (by decide +kernel)) (by decide +kernel)
theorem wIni_System : Cond.initialized "java/lang/System" ∈ LG := LG_in (List.mem_of_getElem? (i := 50) (by decide +kernel)) (by decide +kernel)
theorem wCl_L_8 : Cond.classLink RL 8 RP ∈ LG := LG_in (List.mem_of_getElem? (i := 51) (by decide +kernel)) (by decide +kernel)
theorem wIn_P : Cond.instantiable RP 7 ∈ LG := LG_in (List.mem_of_getElem? (i := 52) (by decide +kernel)) (by decide +kernel)
theorem wM_L_55 : Cond.methodLink RL 55 yP_init ∈ LG := LG_in (List.mem_of_getElem? (i := 53) (by decide +kernel)) (by decide +kernel)
theorem wI_P_init : Cond.instanceMethod yP_init ∈ LG := LG_in (List.mem_of_getElem? (i := 54) (by decide +kernel)) (by decide +kernel)
theorem wC_P_init : Cond.code yP_init bP_init 1 none ∈ LG := LG_in (List.mem_of_getElem? (i := 55) (by decide +kernel)) (by decide +kernel)
theorem wM_P_3 : Cond.methodLink RP 3 objectInit ∈ LG := LG_in (List.mem_of_getElem? (i := 56) (by decide +kernel)) (by decide +kernel)
theorem wCl_P_9 : Cond.classLink RP 9 RT ∈ LG := LG_in (List.mem_of_getElem? (i := 59) (by decide +kernel)) (by decide +kernel)
theorem wIn_T : Cond.instantiable RT 2 ∈ LG := LG_in (List.mem_of_getElem? (i := 60) (by decide +kernel)) (by decide +kernel)
theorem wI_T_init : Cond.instanceMethod yT_init ∈ LG := LG_in (List.mem_of_getElem? (i := 62) (by decide +kernel)) (by decide +kernel)
theorem wC_T_init : Cond.code yT_init bT_init 1 none ∈ LG := LG_in (List.mem_of_getElem? (i := 63) (by decide +kernel)) (by decide +kernel)
theorem wM_T_3 : Cond.methodLink RT 3 objectInit ∈ LG := LG_in (List.mem_of_getElem? (i := 64) (by decide +kernel)) (by decide +kernel)
theorem wF_T_9 : Cond.fieldLink RT 9 "SpanParser$Text" "characters" "[I" ∈ LG := LG_in (List.mem_of_getElem? (i := 65) (by decide +kernel)) (by decide +kernel)
theorem wF_T_15 : Cond.fieldLink RT 15 "SpanParser$Text" "length" "I" ∈ LG := LG_in (List.mem_of_getElem? (i := 66) (by decide +kernel)) (by decide +kernel)
theorem wArr_int : Cond.arrayClass .int ∈ LG := LG_in (List.mem_of_getElem? (i := 72) (by decide +kernel)) (by decide +kernel)
theorem wCl_P_16 : Cond.classLink RP 16 RG ∈ LG := LG_in (List.mem_of_getElem? (i := 73) (by decide +kernel)) (by decide +kernel)
theorem wIn_G : Cond.instantiable RG 8 ∈ LG := LG_in (List.mem_of_getElem? (i := 74) (by decide +kernel)) (by decide +kernel)
theorem wI_G_init : Cond.instanceMethod yG_init ∈ LG := LG_in (List.mem_of_getElem? (i := 76) (by decide +kernel)) (by decide +kernel)
theorem wC_G_init : Cond.code yG_init bG_init 1 none ∈ LG := LG_in (List.mem_of_getElem? (i := 77) (by decide +kernel)) (by decide +kernel)
theorem wM_G_3 : Cond.methodLink RG 3 objectInit ∈ LG := LG_in (List.mem_of_getElem? (i := 78) (by decide +kernel)) (by decide +kernel)
theorem wF_G_9 : Cond.fieldLink RG 9 "SpanParser$Grammar" "lefts" "[I" ∈ LG := LG_in (List.mem_of_getElem? (i := 79) (by decide +kernel)) (by decide +kernel)
theorem wF_G_15 : Cond.fieldLink RG 15 "SpanParser$Grammar" "rightLengths" "[I" ∈ LG := LG_in (List.mem_of_getElem? (i := 80) (by decide +kernel)) (by decide +kernel)
theorem wF_G_18 : Cond.fieldLink RG 18 "SpanParser$Grammar" "rights" "[I" ∈ LG := LG_in (List.mem_of_getElem? (i := 81) (by decide +kernel)) (by decide +kernel)
theorem wF_G_21 : Cond.fieldLink RG 21 "SpanParser$Grammar" "weights" "[D" ∈ LG := LG_in (List.mem_of_getElem? (i := 82) (by decide +kernel)) (by decide +kernel)
theorem wF_G_25 : Cond.fieldLink RG 25 "SpanParser$Grammar" "marks" "[I" ∈ LG := LG_in (List.mem_of_getElem? (i := 83) (by decide +kernel)) (by decide +kernel)
theorem wF_G_28 : Cond.fieldLink RG 28 "SpanParser$Grammar" "barredUnder" "[I" ∈ LG := LG_in (List.mem_of_getElem? (i := 84) (by decide +kernel)) (by decide +kernel)
theorem wF_G_31 : Cond.fieldLink RG 31 "SpanParser$Grammar" "mayNotFollow" "[Z" ∈ LG := LG_in (List.mem_of_getElem? (i := 85) (by decide +kernel)) (by decide +kernel)
theorem wF_G_35 : Cond.fieldLink RG 35 "SpanParser$Grammar" "size" "I" ∈ LG := LG_in (List.mem_of_getElem? (i := 86) (by decide +kernel)) (by decide +kernel)
theorem wArr_double : Cond.arrayClass .double ∈ LG := LG_in (List.mem_of_getElem? (i := 104) (by decide +kernel)) (by decide +kernel)
theorem wArr_boolean : Cond.arrayClass .boolean ∈ LG := LG_in (List.mem_of_getElem? (i := 105) (by decide +kernel)) (by decide +kernel)
theorem wCl_P_23 : Cond.classLink RP 23 RC ∈ LG := LG_in (List.mem_of_getElem? (i := 106) (by decide +kernel)) (by decide +kernel)
theorem wIn_C : Cond.instantiable RC 7 ∈ LG := LG_in (List.mem_of_getElem? (i := 107) (by decide +kernel)) (by decide +kernel)
theorem wI_C_init : Cond.instanceMethod yC_init ∈ LG := LG_in (List.mem_of_getElem? (i := 109) (by decide +kernel)) (by decide +kernel)
theorem wC_C_init : Cond.code yC_init bC_init 1 none ∈ LG := LG_in (List.mem_of_getElem? (i := 110) (by decide +kernel)) (by decide +kernel)
theorem wM_C_3 : Cond.methodLink RC 3 objectInit ∈ LG := LG_in (List.mem_of_getElem? (i := 111) (by decide +kernel)) (by decide +kernel)
theorem wF_C_9 : Cond.fieldLink RC 9 "SpanParser$Chart" "ruleWays" "[I" ∈ LG := LG_in (List.mem_of_getElem? (i := 112) (by decide +kernel)) (by decide +kernel)
theorem wF_C_15 : Cond.fieldLink RC 15 "SpanParser$Chart" "ruleWeights" "[D" ∈ LG := LG_in (List.mem_of_getElem? (i := 113) (by decide +kernel)) (by decide +kernel)
theorem wF_C_19 : Cond.fieldLink RC 19 "SpanParser$Chart" "ruleDivisions" "[I" ∈ LG := LG_in (List.mem_of_getElem? (i := 114) (by decide +kernel)) (by decide +kernel)
theorem wF_C_22 : Cond.fieldLink RC 22 "SpanParser$Chart" "useWays" "[I" ∈ LG := LG_in (List.mem_of_getElem? (i := 115) (by decide +kernel)) (by decide +kernel)
theorem wF_C_25 : Cond.fieldLink RC 25 "SpanParser$Chart" "useRules" "[I" ∈ LG := LG_in (List.mem_of_getElem? (i := 116) (by decide +kernel)) (by decide +kernel)
theorem wF_C_28 : Cond.fieldLink RC 28 "SpanParser$Chart" "order" "[I" ∈ LG := LG_in (List.mem_of_getElem? (i := 117) (by decide +kernel)) (by decide +kernel)
theorem wF_C_31 : Cond.fieldLink RC 31 "SpanParser$Chart" "ends" "[I" ∈ LG := LG_in (List.mem_of_getElem? (i := 118) (by decide +kernel)) (by decide +kernel)
theorem wCl_P_30 : Cond.classLink RP 30 RE ∈ LG := LG_in (List.mem_of_getElem? (i := 134) (by decide +kernel)) (by decide +kernel)
theorem wIn_E : Cond.instantiable RE 4 ∈ LG := LG_in (List.mem_of_getElem? (i := 135) (by decide +kernel)) (by decide +kernel)
theorem wI_E_init : Cond.instanceMethod yE_init ∈ LG := LG_in (List.mem_of_getElem? (i := 137) (by decide +kernel)) (by decide +kernel)
theorem wC_E_init : Cond.code yE_init bE_init 1 none ∈ LG := LG_in (List.mem_of_getElem? (i := 138) (by decide +kernel)) (by decide +kernel)
theorem wM_E_3 : Cond.methodLink RE 3 objectInit ∈ LG := LG_in (List.mem_of_getElem? (i := 139) (by decide +kernel)) (by decide +kernel)
theorem wF_E_9 : Cond.fieldLink RE 9 "SpanParser$Tree" "rules" "[I" ∈ LG := LG_in (List.mem_of_getElem? (i := 140) (by decide +kernel)) (by decide +kernel)
theorem wF_E_15 : Cond.fieldLink RE 15 "SpanParser$Tree" "begins" "[I" ∈ LG := LG_in (List.mem_of_getElem? (i := 141) (by decide +kernel)) (by decide +kernel)
theorem wF_E_18 : Cond.fieldLink RE 18 "SpanParser$Tree" "ends" "[I" ∈ LG := LG_in (List.mem_of_getElem? (i := 142) (by decide +kernel)) (by decide +kernel)
theorem wF_E_21 : Cond.fieldLink RE 21 "SpanParser$Tree" "size" "I" ∈ LG := LG_in (List.mem_of_getElem? (i := 143) (by decide +kernel)) (by decide +kernel)
theorem wF_P_12 : Cond.fieldLink RP 12 "SpanParser" "text" "LSpanParser$Text;" ∈ LG := LG_in (List.mem_of_getElem? (i := 153) (by decide +kernel)) (by decide +kernel)
theorem wF_P_19 : Cond.fieldLink RP 19 "SpanParser" "grammar" "LSpanParser$Grammar;" ∈ LG := LG_in (List.mem_of_getElem? (i := 154) (by decide +kernel)) (by decide +kernel)
theorem wF_P_26 : Cond.fieldLink RP 26 "SpanParser" "chart" "LSpanParser$Chart;" ∈ LG := LG_in (List.mem_of_getElem? (i := 155) (by decide +kernel)) (by decide +kernel)
theorem wF_P_33 : Cond.fieldLink RP 33 "SpanParser" "tree" "LSpanParser$Tree;" ∈ LG := LG_in (List.mem_of_getElem? (i := 156) (by decide +kernel)) (by decide +kernel)
theorem wF_P_37 : Cond.fieldLink RP 37 "SpanParser" "misreadPlace" "I" ∈ LG := LG_in (List.mem_of_getElem? (i := 157) (by decide +kernel)) (by decide +kernel)
theorem wF_P_41 : Cond.fieldLink RP 41 "SpanParser" "inputLength" "I" ∈ LG := LG_in (List.mem_of_getElem? (i := 158) (by decide +kernel)) (by decide +kernel)
theorem wF_P_44 : Cond.fieldLink RP 44 "SpanParser" "treeWeight" "D" ∈ LG := LG_in (List.mem_of_getElem? (i := 159) (by decide +kernel)) (by decide +kernel)
theorem wM_L_108 : Cond.methodLink RL 108 yP_count ∈ LG := LG_in (List.mem_of_getElem? (i := 175) (by decide +kernel)) (by decide +kernel)
theorem wI_P_count : Cond.instanceMethod yP_count ∈ LG := LG_in (List.mem_of_getElem? (i := 176) (by decide +kernel)) (by decide +kernel)
theorem wSel_P_count : Cond.selects RP yP_count yP_count ∈ LG := LG_in (List.mem_of_getElem? (i := 177) (by decide +kernel)) (by decide +kernel)
theorem wC_P_count : Cond.code yP_count bP_count 2 (some .int) ∈ LG := LG_in (List.mem_of_getElem? (i := 178) (by decide +kernel)) (by decide +kernel)
theorem wM_P_74 : Cond.methodLink RP 74 yG_size ∈ LG := LG_in (List.mem_of_getElem? (i := 179) (by decide +kernel)) (by decide +kernel)
theorem wI_G_size : Cond.instanceMethod yG_size ∈ LG := LG_in (List.mem_of_getElem? (i := 180) (by decide +kernel)) (by decide +kernel)
theorem wSel_G_size : Cond.selects RG yG_size yG_size ∈ LG := LG_in (List.mem_of_getElem? (i := 181) (by decide +kernel)) (by decide +kernel)
theorem wC_G_size : Cond.code yG_size bG_size 1 (some .int) ∈ LG := LG_in (List.mem_of_getElem? (i := 182) (by decide +kernel)) (by decide +kernel)
theorem wM_P_59 : Cond.methodLink RP 59 yT_length ∈ LG := LG_in (List.mem_of_getElem? (i := 183) (by decide +kernel)) (by decide +kernel)
theorem wI_T_length : Cond.instanceMethod yT_length ∈ LG := LG_in (List.mem_of_getElem? (i := 184) (by decide +kernel)) (by decide +kernel)
theorem wSel_T_length : Cond.selects RT yT_length yT_length ∈ LG := LG_in (List.mem_of_getElem? (i := 185) (by decide +kernel)) (by decide +kernel)
theorem wC_T_length : Cond.code yT_length bT_length 1 (some .int) ∈ LG := LG_in (List.mem_of_getElem? (i := 186) (by decide +kernel)) (by decide +kernel)
theorem wM_P_150 : Cond.methodLink RP 150 yE_size ∈ LG := LG_in (List.mem_of_getElem? (i := 187) (by decide +kernel)) (by decide +kernel)
theorem wI_E_size : Cond.instanceMethod yE_size ∈ LG := LG_in (List.mem_of_getElem? (i := 188) (by decide +kernel)) (by decide +kernel)
theorem wSel_E_size : Cond.selects RE yE_size yE_size ∈ LG := LG_in (List.mem_of_getElem? (i := 189) (by decide +kernel)) (by decide +kernel)
theorem wC_E_size : Cond.code yE_size bE_size 1 (some .int) ∈ LG := LG_in (List.mem_of_getElem? (i := 190) (by decide +kernel)) (by decide +kernel)
theorem wM_L_61 : Cond.methodLink RL 61 yL_type ∈ LG := LG_in (List.mem_of_getElem? (i := 191) (by decide +kernel)) (by decide +kernel)
theorem wSt_L_type : Cond.static yL_type ∈ LG := LG_in (List.mem_of_getElem? (i := 192) (by decide +kernel)) (by decide +kernel)
theorem wC_L_type : Cond.codeWith yL_type bL_type 5 (some .int) [(0, 9, 12, 13), (0, 9, 16, 15)] ∈ LG := LG_in (List.mem_of_getElem? (i := 193) (by decide +kernel)) (by decide +kernel)
theorem wCl_L_13 : Cond.classLink RL 13 "java/lang/IllegalArgumentException" ∈ LG := LG_in (List.mem_of_getElem? (i := 194) (by decide +kernel)) (by decide +kernel)
theorem wCl_L_15 : Cond.classLink RL 15 "java/lang/IllegalStateException" ∈ LG := LG_in (List.mem_of_getElem? (i := 195) (by decide +kernel)) (by decide +kernel)
theorem wM_L_7 : Cond.methodLink RL 7 yP_type ∈ LG := LG_in (List.mem_of_getElem? (i := 196) (by decide +kernel)) (by decide +kernel)
theorem wI_P_type : Cond.instanceMethod yP_type ∈ LG := LG_in (List.mem_of_getElem? (i := 197) (by decide +kernel)) (by decide +kernel)
theorem wSel_P_type : Cond.selects RP yP_type yP_type ∈ LG := LG_in (List.mem_of_getElem? (i := 198) (by decide +kernel)) (by decide +kernel)
theorem wC_P_type : Cond.code yP_type bP_type 6 (some .int) ∈ LG := LG_in (List.mem_of_getElem? (i := 199) (by decide +kernel)) (by decide +kernel)
theorem wM_P_48 : Cond.methodLink RP 48 yP_byteAt ∈ LG := LG_in (List.mem_of_getElem? (i := 200) (by decide +kernel)) (by decide +kernel)
theorem wSt_P_byteAt : Cond.static yP_byteAt ∈ LG := LG_in (List.mem_of_getElem? (i := 201) (by decide +kernel)) (by decide +kernel)
theorem wC_P_byteAt : Cond.code yP_byteAt bP_byteAt 3 (some .int) ∈ LG := LG_in (List.mem_of_getElem? (i := 202) (by decide +kernel)) (by decide +kernel)
theorem wM_P_52 : Cond.methodLink RP 52 yP_isCharacter ∈ LG := LG_in (List.mem_of_getElem? (i := 203) (by decide +kernel)) (by decide +kernel)
theorem wSt_P_isCharacter : Cond.static yP_isCharacter ∈ LG := LG_in (List.mem_of_getElem? (i := 204) (by decide +kernel)) (by decide +kernel)
theorem wC_P_isCharacter : Cond.code yP_isCharacter bP_isCharacter 1 (some .boolean) ∈ LG := LG_in (List.mem_of_getElem? (i := 205) (by decide +kernel)) (by decide +kernel)
theorem wCl_P_56 : Cond.classLink RP 56 "java/lang/IllegalArgumentException" ∈ LG := LG_in (List.mem_of_getElem? (i := 206) (by decide +kernel)) (by decide +kernel)
theorem wM_P_58 : Cond.methodLink RP 58 (⟨"java/lang/IllegalArgumentException", "<init>", "()V"⟩ : MethodName) ∈ LG := LG_in (List.mem_of_getElem? (i := 248) (by decide +kernel)) (by decide +kernel)
theorem wCl_P_63 : Cond.classLink RP 63 "java/lang/IllegalStateException" ∈ LG := LG_in (List.mem_of_getElem? (i := 270) (by decide +kernel)) (by decide +kernel)
theorem wM_P_65 : Cond.methodLink RP 65 (⟨"java/lang/IllegalStateException", "<init>", "()V"⟩ : MethodName) ∈ LG := LG_in (List.mem_of_getElem? (i := 279) (by decide +kernel)) (by decide +kernel)
theorem wM_P_66 : Cond.methodLink RP 66 yT_append ∈ LG := LG_in (List.mem_of_getElem? (i := 285) (by decide +kernel)) (by decide +kernel)
theorem wI_T_append : Cond.instanceMethod yT_append ∈ LG := LG_in (List.mem_of_getElem? (i := 286) (by decide +kernel)) (by decide +kernel)
theorem wSel_T_append : Cond.selects RT yT_append yT_append ∈ LG := LG_in (List.mem_of_getElem? (i := 287) (by decide +kernel)) (by decide +kernel)
theorem wC_T_append : Cond.code yT_append bT_append 2 none ∈ LG := LG_in (List.mem_of_getElem? (i := 288) (by decide +kernel)) (by decide +kernel)
theorem wM_L_73 : Cond.methodLink RL 73 yL_rule ∈ LG := LG_in (List.mem_of_getElem? (i := 289) (by decide +kernel)) (by decide +kernel)
theorem wSt_L_rule : Cond.static yL_rule ∈ LG := LG_in (List.mem_of_getElem? (i := 290) (by decide +kernel)) (by decide +kernel)
theorem wC_L_rule : Cond.codeWith yL_rule bL_rule 5 (some .int) [(0, 9, 12, 13), (0, 9, 16, 15), (0, 9, 20, 21)] ∈ LG := LG_in (List.mem_of_getElem? (i := 291) (by decide +kernel)) (by decide +kernel)
theorem wCl_L_21 : Cond.classLink RL 21 "java/lang/UnsupportedOperationException" ∈ LG := LG_in (List.mem_of_getElem? (i := 292) (by decide +kernel)) (by decide +kernel)
theorem wM_L_17 : Cond.methodLink RL 17 yP_rule ∈ LG := LG_in (List.mem_of_getElem? (i := 293) (by decide +kernel)) (by decide +kernel)
theorem wI_P_rule : Cond.instanceMethod yP_rule ∈ LG := LG_in (List.mem_of_getElem? (i := 294) (by decide +kernel)) (by decide +kernel)
theorem wSel_P_rule : Cond.selects RP yP_rule yP_rule ∈ LG := LG_in (List.mem_of_getElem? (i := 295) (by decide +kernel)) (by decide +kernel)
theorem wC_P_rule : Cond.code yP_rule bP_rule 4 (some .int) ∈ LG := LG_in (List.mem_of_getElem? (i := 296) (by decide +kernel)) (by decide +kernel)
theorem wK_P_70 : Cond.constantDouble RP 70 (4593671619917905920 : UInt64) ∈ LG := LG_in (List.mem_of_getElem? (i := 297) (by decide +kernel)) (by decide +kernel)
theorem wK_P_72 : Cond.constantDouble RP 72 (4620693217682128896 : UInt64) ∈ LG := LG_in (List.mem_of_getElem? (i := 298) (by decide +kernel)) (by decide +kernel)
theorem wM_P_77 : Cond.methodLink RP 77 yT_clear ∈ LG := LG_in (List.mem_of_getElem? (i := 299) (by decide +kernel)) (by decide +kernel)
theorem wI_T_clear : Cond.instanceMethod yT_clear ∈ LG := LG_in (List.mem_of_getElem? (i := 300) (by decide +kernel)) (by decide +kernel)
theorem wSel_T_clear : Cond.selects RT yT_clear yT_clear ∈ LG := LG_in (List.mem_of_getElem? (i := 301) (by decide +kernel)) (by decide +kernel)
theorem wC_T_clear : Cond.code yT_clear bT_clear 1 none ∈ LG := LG_in (List.mem_of_getElem? (i := 302) (by decide +kernel)) (by decide +kernel)
theorem wM_P_80 : Cond.methodLink RP 80 yG_wrongPlace ∈ LG := LG_in (List.mem_of_getElem? (i := 303) (by decide +kernel)) (by decide +kernel)
theorem wSt_G_wrongPlace : Cond.static yG_wrongPlace ∈ LG := LG_in (List.mem_of_getElem? (i := 304) (by decide +kernel)) (by decide +kernel)
theorem wC_G_wrongPlace : Cond.code yG_wrongPlace bG_wrongPlace 2 (some .int) ∈ LG := LG_in (List.mem_of_getElem? (i := 305) (by decide +kernel)) (by decide +kernel)
theorem wM_G_39 : Cond.methodLink RG 39 yT_length ∈ LG := LG_in (List.mem_of_getElem? (i := 306) (by decide +kernel)) (by decide +kernel)
theorem wM_G_45 : Cond.methodLink RG 45 yT_at ∈ LG := LG_in (List.mem_of_getElem? (i := 307) (by decide +kernel)) (by decide +kernel)
theorem wI_T_at : Cond.instanceMethod yT_at ∈ LG := LG_in (List.mem_of_getElem? (i := 308) (by decide +kernel)) (by decide +kernel)
theorem wSel_T_at : Cond.selects RT yT_at yT_at ∈ LG := LG_in (List.mem_of_getElem? (i := 309) (by decide +kernel)) (by decide +kernel)
theorem wC_T_at : Cond.code yT_at bT_at 2 (some .int) ∈ LG := LG_in (List.mem_of_getElem? (i := 310) (by decide +kernel)) (by decide +kernel)
theorem wM_G_49 : Cond.methodLink RG 49 yG_fits ∈ LG := LG_in (List.mem_of_getElem? (i := 311) (by decide +kernel)) (by decide +kernel)
theorem wSt_G_fits : Cond.static yG_fits ∈ LG := LG_in (List.mem_of_getElem? (i := 312) (by decide +kernel)) (by decide +kernel)
theorem wC_G_fits : Cond.code yG_fits bG_fits 2 (some .boolean) ∈ LG := LG_in (List.mem_of_getElem? (i := 313) (by decide +kernel)) (by decide +kernel)
theorem wSt_P_nonterminalNumber : Cond.static yP_nonterminalNumber ∈ LG := LG_in (List.mem_of_getElem? (i := 315) (by decide +kernel)) (by decide +kernel)
theorem wC_P_nonterminalNumber : Cond.code yP_nonterminalNumber bP_nonterminalNumber 1 (some .int) ∈ LG := LG_in (List.mem_of_getElem? (i := 316) (by decide +kernel)) (by decide +kernel)
theorem wM_P_84 : Cond.methodLink RP 84 yG_wouldLeadRound ∈ LG := LG_in (List.mem_of_getElem? (i := 317) (by decide +kernel)) (by decide +kernel)
theorem wI_G_wouldLeadRound : Cond.instanceMethod yG_wouldLeadRound ∈ LG := LG_in (List.mem_of_getElem? (i := 318) (by decide +kernel)) (by decide +kernel)
theorem wSel_G_wouldLeadRound : Cond.selects RG yG_wouldLeadRound yG_wouldLeadRound ∈ LG := LG_in (List.mem_of_getElem? (i := 319) (by decide +kernel)) (by decide +kernel)
theorem wC_G_wouldLeadRound : Cond.code yG_wouldLeadRound bG_wouldLeadRound 4 (some .boolean) ∈ LG := LG_in (List.mem_of_getElem? (i := 320) (by decide +kernel)) (by decide +kernel)
theorem wM_G_56 : Cond.methodLink RG 56 yG_reachedByChains ∈ LG := LG_in (List.mem_of_getElem? (i := 321) (by decide +kernel)) (by decide +kernel)
theorem wI_G_reachedByChains : Cond.instanceMethod yG_reachedByChains ∈ LG := LG_in (List.mem_of_getElem? (i := 323) (by decide +kernel)) (by decide +kernel)
theorem wC_G_reachedByChains : Cond.code yG_reachedByChains bG_reachedByChains 5 (some .int) ∈ LG := LG_in (List.mem_of_getElem? (i := 324) (by decide +kernel)) (by decide +kernel)
theorem wSt_P_contains : Cond.static yP_contains ∈ LG := LG_in (List.mem_of_getElem? (i := 326) (by decide +kernel)) (by decide +kernel)
theorem wC_P_contains : Cond.code yP_contains bP_contains 2 (some .boolean) ∈ LG := LG_in (List.mem_of_getElem? (i := 327) (by decide +kernel)) (by decide +kernel)
theorem wM_G_62 : Cond.methodLink RG 62 yG_isChain ∈ LG := LG_in (List.mem_of_getElem? (i := 328) (by decide +kernel)) (by decide +kernel)
theorem wI_G_isChain : Cond.instanceMethod yG_isChain ∈ LG := LG_in (List.mem_of_getElem? (i := 330) (by decide +kernel)) (by decide +kernel)
theorem wC_G_isChain : Cond.code yG_isChain bG_isChain 2 (some .boolean) ∈ LG := LG_in (List.mem_of_getElem? (i := 331) (by decide +kernel)) (by decide +kernel)
theorem wM_G_66 : Cond.methodLink RG 66 yG_symbolNonterminal ∈ LG := LG_in (List.mem_of_getElem? (i := 332) (by decide +kernel)) (by decide +kernel)
theorem wI_G_symbolNonterminal : Cond.instanceMethod yG_symbolNonterminal ∈ LG := LG_in (List.mem_of_getElem? (i := 333) (by decide +kernel)) (by decide +kernel)
theorem wSel_G_symbolNonterminal : Cond.selects RG yG_symbolNonterminal yG_symbolNonterminal ∈ LG := LG_in (List.mem_of_getElem? (i := 334) (by decide +kernel)) (by decide +kernel)
theorem wC_G_symbolNonterminal : Cond.code yG_symbolNonterminal bG_symbolNonterminal 3 (some .int) ∈ LG := LG_in (List.mem_of_getElem? (i := 335) (by decide +kernel)) (by decide +kernel)
theorem wCl_P_88 : Cond.classLink RP 88 "java/lang/UnsupportedOperationException" ∈ LG := LG_in (List.mem_of_getElem? (i := 336) (by decide +kernel)) (by decide +kernel)
theorem wM_P_90 : Cond.methodLink RP 90 (⟨"java/lang/UnsupportedOperationException", "<init>", "()V"⟩ : MethodName) ∈ LG := LG_in (List.mem_of_getElem? (i := 345) (by decide +kernel)) (by decide +kernel)
theorem wM_P_91 : Cond.methodLink RP 91 yG_add ∈ LG := LG_in (List.mem_of_getElem? (i := 351) (by decide +kernel)) (by decide +kernel)
theorem wI_G_add : Cond.instanceMethod yG_add ∈ LG := LG_in (List.mem_of_getElem? (i := 352) (by decide +kernel)) (by decide +kernel)
theorem wSel_G_add : Cond.selects RG yG_add yG_add ∈ LG := LG_in (List.mem_of_getElem? (i := 353) (by decide +kernel)) (by decide +kernel)
theorem wC_G_add : Cond.code yG_add bG_add 6 none ∈ LG := LG_in (List.mem_of_getElem? (i := 354) (by decide +kernel)) (by decide +kernel)
theorem wM_P_95 : Cond.methodLink RP 95 yP_forgetInput ∈ LG := LG_in (List.mem_of_getElem? (i := 355) (by decide +kernel)) (by decide +kernel)
theorem wI_P_forgetInput : Cond.instanceMethod yP_forgetInput ∈ LG := LG_in (List.mem_of_getElem? (i := 357) (by decide +kernel)) (by decide +kernel)
theorem wC_P_forgetInput : Cond.code yP_forgetInput bP_forgetInput 1 none ∈ LG := LG_in (List.mem_of_getElem? (i := 358) (by decide +kernel)) (by decide +kernel)
theorem wM_P_166 : Cond.methodLink RP 166 yE_clear ∈ LG := LG_in (List.mem_of_getElem? (i := 359) (by decide +kernel)) (by decide +kernel)
theorem wI_E_clear : Cond.instanceMethod yE_clear ∈ LG := LG_in (List.mem_of_getElem? (i := 360) (by decide +kernel)) (by decide +kernel)
theorem wSel_E_clear : Cond.selects RE yE_clear yE_clear ∈ LG := LG_in (List.mem_of_getElem? (i := 361) (by decide +kernel)) (by decide +kernel)
theorem wC_E_clear : Cond.code yE_clear bE_clear 1 none ∈ LG := LG_in (List.mem_of_getElem? (i := 362) (by decide +kernel)) (by decide +kernel)
theorem wM_L_77 : Cond.methodLink RL 77 yL_mark ∈ LG := LG_in (List.mem_of_getElem? (i := 363) (by decide +kernel)) (by decide +kernel)
theorem wSt_L_mark : Cond.static yL_mark ∈ LG := LG_in (List.mem_of_getElem? (i := 364) (by decide +kernel)) (by decide +kernel)
theorem wC_L_mark : Cond.codeWith yL_mark bL_mark 4 (some .int) [(0, 6, 9, 13)] ∈ LG := LG_in (List.mem_of_getElem? (i := 365) (by decide +kernel)) (by decide +kernel)
theorem wM_L_23 : Cond.methodLink RL 23 yP_mark ∈ LG := LG_in (List.mem_of_getElem? (i := 366) (by decide +kernel)) (by decide +kernel)
theorem wI_P_mark : Cond.instanceMethod yP_mark ∈ LG := LG_in (List.mem_of_getElem? (i := 367) (by decide +kernel)) (by decide +kernel)
theorem wSel_P_mark : Cond.selects RP yP_mark yP_mark ∈ LG := LG_in (List.mem_of_getElem? (i := 368) (by decide +kernel)) (by decide +kernel)
theorem wC_P_mark : Cond.code yP_mark bP_mark 3 none ∈ LG := LG_in (List.mem_of_getElem? (i := 369) (by decide +kernel)) (by decide +kernel)
theorem wM_P_98 : Cond.methodLink RP 98 yG_has ∈ LG := LG_in (List.mem_of_getElem? (i := 370) (by decide +kernel)) (by decide +kernel)
theorem wI_G_has : Cond.instanceMethod yG_has ∈ LG := LG_in (List.mem_of_getElem? (i := 371) (by decide +kernel)) (by decide +kernel)
theorem wSel_G_has : Cond.selects RG yG_has yG_has ∈ LG := LG_in (List.mem_of_getElem? (i := 372) (by decide +kernel)) (by decide +kernel)
theorem wC_G_has : Cond.code yG_has bG_has 2 (some .boolean) ∈ LG := LG_in (List.mem_of_getElem? (i := 373) (by decide +kernel)) (by decide +kernel)
theorem wM_P_101 : Cond.methodLink RP 101 yG_setMark ∈ LG := LG_in (List.mem_of_getElem? (i := 374) (by decide +kernel)) (by decide +kernel)
theorem wI_G_setMark : Cond.instanceMethod yG_setMark ∈ LG := LG_in (List.mem_of_getElem? (i := 375) (by decide +kernel)) (by decide +kernel)
theorem wSel_G_setMark : Cond.selects RG yG_setMark yG_setMark ∈ LG := LG_in (List.mem_of_getElem? (i := 376) (by decide +kernel)) (by decide +kernel)
theorem wC_G_setMark : Cond.code yG_setMark bG_setMark 3 none ∈ LG := LG_in (List.mem_of_getElem? (i := 377) (by decide +kernel)) (by decide +kernel)
theorem wM_L_81 : Cond.methodLink RL 81 yL_bar ∈ LG := LG_in (List.mem_of_getElem? (i := 378) (by decide +kernel)) (by decide +kernel)
theorem wSt_L_bar : Cond.static yL_bar ∈ LG := LG_in (List.mem_of_getElem? (i := 379) (by decide +kernel)) (by decide +kernel)
theorem wC_L_bar : Cond.codeWith yL_bar bL_bar 5 (some .int) [(0, 7, 10, 13)] ∈ LG := LG_in (List.mem_of_getElem? (i := 380) (by decide +kernel)) (by decide +kernel)
theorem wM_L_27 : Cond.methodLink RL 27 yP_bar ∈ LG := LG_in (List.mem_of_getElem? (i := 381) (by decide +kernel)) (by decide +kernel)
theorem wI_P_bar : Cond.instanceMethod yP_bar ∈ LG := LG_in (List.mem_of_getElem? (i := 382) (by decide +kernel)) (by decide +kernel)
theorem wSel_P_bar : Cond.selects RP yP_bar yP_bar ∈ LG := LG_in (List.mem_of_getElem? (i := 383) (by decide +kernel)) (by decide +kernel)
theorem wC_P_bar : Cond.code yP_bar bP_bar 4 none ∈ LG := LG_in (List.mem_of_getElem? (i := 384) (by decide +kernel)) (by decide +kernel)
theorem wM_P_105 : Cond.methodLink RP 105 yG_setBarred ∈ LG := LG_in (List.mem_of_getElem? (i := 385) (by decide +kernel)) (by decide +kernel)
theorem wI_G_setBarred : Cond.instanceMethod yG_setBarred ∈ LG := LG_in (List.mem_of_getElem? (i := 386) (by decide +kernel)) (by decide +kernel)
theorem wSel_G_setBarred : Cond.selects RG yG_setBarred yG_setBarred ∈ LG := LG_in (List.mem_of_getElem? (i := 387) (by decide +kernel)) (by decide +kernel)
theorem wC_G_setBarred : Cond.code yG_setBarred bG_setBarred 4 none ∈ LG := LG_in (List.mem_of_getElem? (i := 388) (by decide +kernel)) (by decide +kernel)
theorem wM_L_85 : Cond.methodLink RL 85 yL_follow ∈ LG := LG_in (List.mem_of_getElem? (i := 389) (by decide +kernel)) (by decide +kernel)
theorem wSt_L_follow : Cond.static yL_follow ∈ LG := LG_in (List.mem_of_getElem? (i := 390) (by decide +kernel)) (by decide +kernel)
theorem wC_L_follow : Cond.codeWith yL_follow bL_follow 5 (some .int) [(0, 7, 10, 13)] ∈ LG := LG_in (List.mem_of_getElem? (i := 391) (by decide +kernel)) (by decide +kernel)
theorem wM_L_31 : Cond.methodLink RL 31 yP_follow ∈ LG := LG_in (List.mem_of_getElem? (i := 392) (by decide +kernel)) (by decide +kernel)
theorem wI_P_follow : Cond.instanceMethod yP_follow ∈ LG := LG_in (List.mem_of_getElem? (i := 393) (by decide +kernel)) (by decide +kernel)
theorem wSel_P_follow : Cond.selects RP yP_follow yP_follow ∈ LG := LG_in (List.mem_of_getElem? (i := 394) (by decide +kernel)) (by decide +kernel)
theorem wC_P_follow : Cond.code yP_follow bP_follow 4 none ∈ LG := LG_in (List.mem_of_getElem? (i := 395) (by decide +kernel)) (by decide +kernel)
theorem wM_P_109 : Cond.methodLink RP 109 yP_isNonterminalNumber ∈ LG := LG_in (List.mem_of_getElem? (i := 396) (by decide +kernel)) (by decide +kernel)
theorem wSt_P_isNonterminalNumber : Cond.static yP_isNonterminalNumber ∈ LG := LG_in (List.mem_of_getElem? (i := 397) (by decide +kernel)) (by decide +kernel)
theorem wC_P_isNonterminalNumber : Cond.code yP_isNonterminalNumber bP_isNonterminalNumber 1 (some .boolean) ∈ LG := LG_in (List.mem_of_getElem? (i := 398) (by decide +kernel)) (by decide +kernel)
theorem wM_P_112 : Cond.methodLink RP 112 yG_setMayFollow ∈ LG := LG_in (List.mem_of_getElem? (i := 399) (by decide +kernel)) (by decide +kernel)
theorem wI_G_setMayFollow : Cond.instanceMethod yG_setMayFollow ∈ LG := LG_in (List.mem_of_getElem? (i := 400) (by decide +kernel)) (by decide +kernel)
theorem wSel_G_setMayFollow : Cond.selects RG yG_setMayFollow yG_setMayFollow ∈ LG := LG_in (List.mem_of_getElem? (i := 401) (by decide +kernel)) (by decide +kernel)
theorem wC_G_setMayFollow : Cond.code yG_setMayFollow bG_setMayFollow 4 none ∈ LG := LG_in (List.mem_of_getElem? (i := 402) (by decide +kernel)) (by decide +kernel)
theorem wM_L_88 : Cond.methodLink RL 88 yL_undo ∈ LG := LG_in (List.mem_of_getElem? (i := 403) (by decide +kernel)) (by decide +kernel)
theorem wSt_L_undo : Cond.static yL_undo ∈ LG := LG_in (List.mem_of_getElem? (i := 404) (by decide +kernel)) (by decide +kernel)
theorem wC_L_undo : Cond.codeWith yL_undo bL_undo 2 (some .int) [(0, 4, 7, 37)] ∈ LG := LG_in (List.mem_of_getElem? (i := 405) (by decide +kernel)) (by decide +kernel)
theorem wCl_L_37 : Cond.classLink RL 37 "java/util/NoSuchElementException" ∈ LG := LG_in (List.mem_of_getElem? (i := 406) (by decide +kernel)) (by decide +kernel)
theorem wM_L_34 : Cond.methodLink RL 34 yP_undo ∈ LG := LG_in (List.mem_of_getElem? (i := 407) (by decide +kernel)) (by decide +kernel)
theorem wI_P_undo : Cond.instanceMethod yP_undo ∈ LG := LG_in (List.mem_of_getElem? (i := 408) (by decide +kernel)) (by decide +kernel)
theorem wSel_P_undo : Cond.selects RP yP_undo yP_undo ∈ LG := LG_in (List.mem_of_getElem? (i := 409) (by decide +kernel)) (by decide +kernel)
theorem wC_P_undo : Cond.code yP_undo bP_undo 1 none ∈ LG := LG_in (List.mem_of_getElem? (i := 410) (by decide +kernel)) (by decide +kernel)
theorem wCl_P_115 : Cond.classLink RP 115 "java/util/NoSuchElementException" ∈ LG := LG_in (List.mem_of_getElem? (i := 411) (by decide +kernel)) (by decide +kernel)
theorem wM_P_117 : Cond.methodLink RP 117 (⟨"java/util/NoSuchElementException", "<init>", "()V"⟩ : MethodName) ∈ LG := LG_in (List.mem_of_getElem? (i := 420) (by decide +kernel)) (by decide +kernel)
theorem wM_P_118 : Cond.methodLink RP 118 yG_removeLatest ∈ LG := LG_in (List.mem_of_getElem? (i := 426) (by decide +kernel)) (by decide +kernel)
theorem wI_G_removeLatest : Cond.instanceMethod yG_removeLatest ∈ LG := LG_in (List.mem_of_getElem? (i := 427) (by decide +kernel)) (by decide +kernel)
theorem wSel_G_removeLatest : Cond.selects RG yG_removeLatest yG_removeLatest ∈ LG := LG_in (List.mem_of_getElem? (i := 428) (by decide +kernel)) (by decide +kernel)
theorem wC_G_removeLatest : Cond.code yG_removeLatest bG_removeLatest 2 none ∈ LG := LG_in (List.mem_of_getElem? (i := 429) (by decide +kernel)) (by decide +kernel)
theorem wM_G_70 : Cond.methodLink RG 70 yG_setBarred ∈ LG := LG_in (List.mem_of_getElem? (i := 430) (by decide +kernel)) (by decide +kernel)
theorem wM_L_92 : Cond.methodLink RL 92 yL_parse ∈ LG := LG_in (List.mem_of_getElem? (i := 431) (by decide +kernel)) (by decide +kernel)
theorem wSt_L_parse : Cond.static yL_parse ∈ LG := LG_in (List.mem_of_getElem? (i := 432) (by decide +kernel)) (by decide +kernel)
theorem wC_L_parse : Cond.codeWith yL_parse bL_parse 4 (some .int) [(0, 9, 12, 13), (0, 9, 15, 37)] ∈ LG := LG_in (List.mem_of_getElem? (i := 433) (by decide +kernel)) (by decide +kernel)
theorem wM_L_39 : Cond.methodLink RL 39 yP_parse ∈ LG := LG_in (List.mem_of_getElem? (i := 434) (by decide +kernel)) (by decide +kernel)
theorem wI_P_parse : Cond.instanceMethod yP_parse ∈ LG := LG_in (List.mem_of_getElem? (i := 435) (by decide +kernel)) (by decide +kernel)
theorem wSel_P_parse : Cond.selects RP yP_parse yP_parse ∈ LG := LG_in (List.mem_of_getElem? (i := 436) (by decide +kernel)) (by decide +kernel)
theorem wC_P_parse : Cond.code yP_parse bP_parse 7 (some .int) ∈ LG := LG_in (List.mem_of_getElem? (i := 437) (by decide +kernel)) (by decide +kernel)
theorem wM_P_121 : Cond.methodLink RP 121 yC_fill ∈ LG := LG_in (List.mem_of_getElem? (i := 438) (by decide +kernel)) (by decide +kernel)
theorem wI_C_fill : Cond.instanceMethod yC_fill ∈ LG := LG_in (List.mem_of_getElem? (i := 439) (by decide +kernel)) (by decide +kernel)
theorem wSel_C_fill : Cond.selects RC yC_fill yC_fill ∈ LG := LG_in (List.mem_of_getElem? (i := 440) (by decide +kernel)) (by decide +kernel)
theorem wC_C_fill : Cond.code yC_fill bC_fill 5 none ∈ LG := LG_in (List.mem_of_getElem? (i := 441) (by decide +kernel)) (by decide +kernel)
theorem wM_C_34 : Cond.methodLink RC 34 yG_orderByChains ∈ LG := LG_in (List.mem_of_getElem? (i := 442) (by decide +kernel)) (by decide +kernel)
theorem wI_G_orderByChains : Cond.instanceMethod yG_orderByChains ∈ LG := LG_in (List.mem_of_getElem? (i := 443) (by decide +kernel)) (by decide +kernel)
theorem wSel_G_orderByChains : Cond.selects RG yG_orderByChains yG_orderByChains ∈ LG := LG_in (List.mem_of_getElem? (i := 444) (by decide +kernel)) (by decide +kernel)
theorem wC_G_orderByChains : Cond.code yG_orderByChains bG_orderByChains 7 none ∈ LG := LG_in (List.mem_of_getElem? (i := 445) (by decide +kernel)) (by decide +kernel)
theorem wM_C_40 : Cond.methodLink RC 40 yT_length ∈ LG := LG_in (List.mem_of_getElem? (i := 446) (by decide +kernel)) (by decide +kernel)
theorem wM_C_46 : Cond.methodLink RC 46 yC_fillSpan ∈ LG := LG_in (List.mem_of_getElem? (i := 447) (by decide +kernel)) (by decide +kernel)
theorem wI_C_fillSpan : Cond.instanceMethod yC_fillSpan ∈ LG := LG_in (List.mem_of_getElem? (i := 449) (by decide +kernel)) (by decide +kernel)
theorem wC_C_fillSpan : Cond.code yC_fillSpan bC_fillSpan 9 none ∈ LG := LG_in (List.mem_of_getElem? (i := 450) (by decide +kernel)) (by decide +kernel)
theorem wM_C_50 : Cond.methodLink RC 50 yC_settleCharacters ∈ LG := LG_in (List.mem_of_getElem? (i := 451) (by decide +kernel)) (by decide +kernel)
theorem wI_C_settleCharacters : Cond.instanceMethod yC_settleCharacters ∈ LG := LG_in (List.mem_of_getElem? (i := 453) (by decide +kernel)) (by decide +kernel)
theorem wC_C_settleCharacters : Cond.code yC_settleCharacters bC_settleCharacters 9 none ∈ LG := LG_in (List.mem_of_getElem? (i := 454) (by decide +kernel)) (by decide +kernel)
theorem wSt_P_spanNumber : Cond.static yP_spanNumber ∈ LG := LG_in (List.mem_of_getElem? (i := 456) (by decide +kernel)) (by decide +kernel)
theorem wC_P_spanNumber : Cond.code yP_spanNumber bP_spanNumber 2 (some .int) ∈ LG := LG_in (List.mem_of_getElem? (i := 457) (by decide +kernel)) (by decide +kernel)
theorem wM_C_53 : Cond.methodLink RC 53 yG_size ∈ LG := LG_in (List.mem_of_getElem? (i := 458) (by decide +kernel)) (by decide +kernel)
theorem wM_C_85 : Cond.methodLink RC 85 yG_rightLength ∈ LG := LG_in (List.mem_of_getElem? (i := 459) (by decide +kernel)) (by decide +kernel)
theorem wI_G_rightLength : Cond.instanceMethod yG_rightLength ∈ LG := LG_in (List.mem_of_getElem? (i := 460) (by decide +kernel)) (by decide +kernel)
theorem wSel_G_rightLength : Cond.selects RG yG_rightLength yG_rightLength ∈ LG := LG_in (List.mem_of_getElem? (i := 461) (by decide +kernel)) (by decide +kernel)
theorem wC_G_rightLength : Cond.code yG_rightLength bG_rightLength 2 (some .int) ∈ LG := LG_in (List.mem_of_getElem? (i := 462) (by decide +kernel)) (by decide +kernel)
theorem wM_C_88 : Cond.methodLink RC 88 yG_symbolNonterminal ∈ LG := LG_in (List.mem_of_getElem? (i := 463) (by decide +kernel)) (by decide +kernel)
theorem wM_C_74 : Cond.methodLink RC 74 yT_at ∈ LG := LG_in (List.mem_of_getElem? (i := 464) (by decide +kernel)) (by decide +kernel)
theorem wM_C_91 : Cond.methodLink RC 91 yG_symbolStandsFor ∈ LG := LG_in (List.mem_of_getElem? (i := 465) (by decide +kernel)) (by decide +kernel)
theorem wI_G_symbolStandsFor : Cond.instanceMethod yG_symbolStandsFor ∈ LG := LG_in (List.mem_of_getElem? (i := 466) (by decide +kernel)) (by decide +kernel)
theorem wSel_G_symbolStandsFor : Cond.selects RG yG_symbolStandsFor yG_symbolStandsFor ∈ LG := LG_in (List.mem_of_getElem? (i := 467) (by decide +kernel)) (by decide +kernel)
theorem wC_G_symbolStandsFor : Cond.code yG_symbolStandsFor bG_symbolStandsFor 5 (some .boolean) ∈ LG := LG_in (List.mem_of_getElem? (i := 468) (by decide +kernel)) (by decide +kernel)
theorem wM_C_95 : Cond.methodLink RC 95 yC_useIndex ∈ LG := LG_in (List.mem_of_getElem? (i := 469) (by decide +kernel)) (by decide +kernel)
theorem wSt_C_useIndex : Cond.static yC_useIndex ∈ LG := LG_in (List.mem_of_getElem? (i := 470) (by decide +kernel)) (by decide +kernel)
theorem wC_C_useIndex : Cond.code yC_useIndex bC_useIndex 3 (some .int) ∈ LG := LG_in (List.mem_of_getElem? (i := 471) (by decide +kernel)) (by decide +kernel)
theorem wM_C_56 : Cond.methodLink RC 56 yG_left ∈ LG := LG_in (List.mem_of_getElem? (i := 472) (by decide +kernel)) (by decide +kernel)
theorem wI_G_left : Cond.instanceMethod yG_left ∈ LG := LG_in (List.mem_of_getElem? (i := 473) (by decide +kernel)) (by decide +kernel)
theorem wSel_G_left : Cond.selects RG yG_left yG_left ∈ LG := LG_in (List.mem_of_getElem? (i := 474) (by decide +kernel)) (by decide +kernel)
theorem wC_G_left : Cond.code yG_left bG_left 2 (some .int) ∈ LG := LG_in (List.mem_of_getElem? (i := 475) (by decide +kernel)) (by decide +kernel)
theorem wM_C_60 : Cond.methodLink RC 60 yC_deriveRule ∈ LG := LG_in (List.mem_of_getElem? (i := 476) (by decide +kernel)) (by decide +kernel)
theorem wI_C_deriveRule : Cond.instanceMethod yC_deriveRule ∈ LG := LG_in (List.mem_of_getElem? (i := 478) (by decide +kernel)) (by decide +kernel)
theorem wC_C_deriveRule : Cond.code yC_deriveRule bC_deriveRule 17 none ∈ LG := LG_in (List.mem_of_getElem? (i := 479) (by decide +kernel)) (by decide +kernel)
theorem wM_C_108 : Cond.methodLink RC 108 yC_firstDivision ∈ LG := LG_in (List.mem_of_getElem? (i := 480) (by decide +kernel)) (by decide +kernel)
theorem wI_C_firstDivision : Cond.instanceMethod yC_firstDivision ∈ LG := LG_in (List.mem_of_getElem? (i := 482) (by decide +kernel)) (by decide +kernel)
theorem wC_C_firstDivision : Cond.code yC_firstDivision bC_firstDivision 5 (some .boolean) ∈ LG := LG_in (List.mem_of_getElem? (i := 483) (by decide +kernel)) (by decide +kernel)
theorem wM_C_111 : Cond.methodLink RC 111 yC_divisionWays ∈ LG := LG_in (List.mem_of_getElem? (i := 484) (by decide +kernel)) (by decide +kernel)
theorem wI_C_divisionWays : Cond.instanceMethod yC_divisionWays ∈ LG := LG_in (List.mem_of_getElem? (i := 486) (by decide +kernel)) (by decide +kernel)
theorem wC_C_divisionWays : Cond.code yC_divisionWays bC_divisionWays 8 (some .long) ∈ LG := LG_in (List.mem_of_getElem? (i := 487) (by decide +kernel)) (by decide +kernel)
theorem wK_C_115 : Cond.constantLong RC 115 (1000000000 : Int64) ∈ LG := LG_in (List.mem_of_getElem? (i := 488) (by decide +kernel)) (by decide +kernel)
theorem wM_C_117 : Cond.methodLink RC 117 (⟨"java/lang/Math", "min", "(JJ)J"⟩ : MethodName) ∈ LG := LG_in (List.mem_of_getElem? (i := 489) (by decide +kernel)) (by decide +kernel)
theorem wM_C_123 : Cond.methodLink RC 123 yG_weightOf ∈ LG := LG_in (List.mem_of_getElem? (i := 492) (by decide +kernel)) (by decide +kernel)
theorem wI_G_weightOf : Cond.instanceMethod yG_weightOf ∈ LG := LG_in (List.mem_of_getElem? (i := 493) (by decide +kernel)) (by decide +kernel)
theorem wSel_G_weightOf : Cond.selects RG yG_weightOf yG_weightOf ∈ LG := LG_in (List.mem_of_getElem? (i := 494) (by decide +kernel)) (by decide +kernel)
theorem wC_G_weightOf : Cond.code yG_weightOf bG_weightOf 2 (some .double) ∈ LG := LG_in (List.mem_of_getElem? (i := 495) (by decide +kernel)) (by decide +kernel)
theorem wM_C_127 : Cond.methodLink RC 127 yC_divisionWeight ∈ LG := LG_in (List.mem_of_getElem? (i := 496) (by decide +kernel)) (by decide +kernel)
theorem wI_C_divisionWeight : Cond.instanceMethod yC_divisionWeight ∈ LG := LG_in (List.mem_of_getElem? (i := 498) (by decide +kernel)) (by decide +kernel)
theorem wC_C_divisionWeight : Cond.code yC_divisionWeight bC_divisionWeight 12 (some .double) ∈ LG := LG_in (List.mem_of_getElem? (i := 499) (by decide +kernel)) (by decide +kernel)
theorem wM_C_137 : Cond.methodLink RC 137 yC_ruleIndex ∈ LG := LG_in (List.mem_of_getElem? (i := 500) (by decide +kernel)) (by decide +kernel)
theorem wSt_C_ruleIndex : Cond.static yC_ruleIndex ∈ LG := LG_in (List.mem_of_getElem? (i := 501) (by decide +kernel)) (by decide +kernel)
theorem wC_C_ruleIndex : Cond.code yC_ruleIndex bC_ruleIndex 2 (some .int) ∈ LG := LG_in (List.mem_of_getElem? (i := 502) (by decide +kernel)) (by decide +kernel)
theorem wM_C_131 : Cond.methodLink RC 131 yC_packedEnds ∈ LG := LG_in (List.mem_of_getElem? (i := 503) (by decide +kernel)) (by decide +kernel)
theorem wI_C_packedEnds : Cond.instanceMethod yC_packedEnds ∈ LG := LG_in (List.mem_of_getElem? (i := 505) (by decide +kernel)) (by decide +kernel)
theorem wC_C_packedEnds : Cond.code yC_packedEnds bC_packedEnds 4 (some .int) ∈ LG := LG_in (List.mem_of_getElem? (i := 506) (by decide +kernel)) (by decide +kernel)
theorem wM_C_134 : Cond.methodLink RC 134 yC_nextDivision ∈ LG := LG_in (List.mem_of_getElem? (i := 507) (by decide +kernel)) (by decide +kernel)
theorem wI_C_nextDivision : Cond.instanceMethod yC_nextDivision ∈ LG := LG_in (List.mem_of_getElem? (i := 509) (by decide +kernel)) (by decide +kernel)
theorem wC_C_nextDivision : Cond.code yC_nextDivision bC_nextDivision 6 (some .boolean) ∈ LG := LG_in (List.mem_of_getElem? (i := 510) (by decide +kernel)) (by decide +kernel)
theorem wM_C_68 : Cond.methodLink RC 68 yG_rejectingRules ∈ LG := LG_in (List.mem_of_getElem? (i := 511) (by decide +kernel)) (by decide +kernel)
theorem wI_G_rejectingRules : Cond.instanceMethod yG_rejectingRules ∈ LG := LG_in (List.mem_of_getElem? (i := 512) (by decide +kernel)) (by decide +kernel)
theorem wSel_G_rejectingRules : Cond.selects RG yG_rejectingRules yG_rejectingRules ∈ LG := LG_in (List.mem_of_getElem? (i := 513) (by decide +kernel)) (by decide +kernel)
theorem wC_G_rejectingRules : Cond.code yG_rejectingRules bG_rejectingRules 2 (some .int) ∈ LG := LG_in (List.mem_of_getElem? (i := 514) (by decide +kernel)) (by decide +kernel)
theorem wM_G_74 : Cond.methodLink RG 74 yG_rulesOf ∈ LG := LG_in (List.mem_of_getElem? (i := 515) (by decide +kernel)) (by decide +kernel)
theorem wI_G_rulesOf : Cond.instanceMethod yG_rulesOf ∈ LG := LG_in (List.mem_of_getElem? (i := 517) (by decide +kernel)) (by decide +kernel)
theorem wC_G_rulesOf : Cond.code yG_rulesOf bG_rulesOf 5 (some .int) ∈ LG := LG_in (List.mem_of_getElem? (i := 518) (by decide +kernel)) (by decide +kernel)
theorem wM_C_71 : Cond.methodLink RC 71 yC_waysOfAny ∈ LG := LG_in (List.mem_of_getElem? (i := 519) (by decide +kernel)) (by decide +kernel)
theorem wI_C_waysOfAny : Cond.instanceMethod yC_waysOfAny ∈ LG := LG_in (List.mem_of_getElem? (i := 520) (by decide +kernel)) (by decide +kernel)
theorem wSel_C_waysOfAny : Cond.selects RC yC_waysOfAny yC_waysOfAny ∈ LG := LG_in (List.mem_of_getElem? (i := 521) (by decide +kernel)) (by decide +kernel)
theorem wC_C_waysOfAny : Cond.code yC_waysOfAny bC_waysOfAny 6 (some .int) ∈ LG := LG_in (List.mem_of_getElem? (i := 522) (by decide +kernel)) (by decide +kernel)
theorem wM_C_77 : Cond.methodLink RC 77 yG_mayFollow ∈ LG := LG_in (List.mem_of_getElem? (i := 524) (by decide +kernel)) (by decide +kernel)
theorem wI_G_mayFollow : Cond.instanceMethod yG_mayFollow ∈ LG := LG_in (List.mem_of_getElem? (i := 525) (by decide +kernel)) (by decide +kernel)
theorem wSel_G_mayFollow : Cond.selects RG yG_mayFollow yG_mayFollow ∈ LG := LG_in (List.mem_of_getElem? (i := 526) (by decide +kernel)) (by decide +kernel)
theorem wC_G_mayFollow : Cond.code yG_mayFollow bG_mayFollow 3 (some .boolean) ∈ LG := LG_in (List.mem_of_getElem? (i := 527) (by decide +kernel)) (by decide +kernel)
theorem wM_C_81 : Cond.methodLink RC 81 yC_settleNonterminal ∈ LG := LG_in (List.mem_of_getElem? (i := 528) (by decide +kernel)) (by decide +kernel)
theorem wI_C_settleNonterminal : Cond.instanceMethod yC_settleNonterminal ∈ LG := LG_in (List.mem_of_getElem? (i := 530) (by decide +kernel)) (by decide +kernel)
theorem wC_C_settleNonterminal : Cond.code yC_settleNonterminal bC_settleNonterminal 9 none ∈ LG := LG_in (List.mem_of_getElem? (i := 531) (by decide +kernel)) (by decide +kernel)
theorem wM_C_99 : Cond.methodLink RC 99 yG_derivingRules ∈ LG := LG_in (List.mem_of_getElem? (i := 532) (by decide +kernel)) (by decide +kernel)
theorem wI_G_derivingRules : Cond.instanceMethod yG_derivingRules ∈ LG := LG_in (List.mem_of_getElem? (i := 533) (by decide +kernel)) (by decide +kernel)
theorem wSel_G_derivingRules : Cond.selects RG yG_derivingRules yG_derivingRules ∈ LG := LG_in (List.mem_of_getElem? (i := 534) (by decide +kernel)) (by decide +kernel)
theorem wC_G_derivingRules : Cond.code yG_derivingRules bG_derivingRules 2 (some .int) ∈ LG := LG_in (List.mem_of_getElem? (i := 535) (by decide +kernel)) (by decide +kernel)
theorem wM_C_102 : Cond.methodLink RC 102 yG_allowedUnder ∈ LG := LG_in (List.mem_of_getElem? (i := 536) (by decide +kernel)) (by decide +kernel)
theorem wI_G_allowedUnder : Cond.instanceMethod yG_allowedUnder ∈ LG := LG_in (List.mem_of_getElem? (i := 537) (by decide +kernel)) (by decide +kernel)
theorem wSel_G_allowedUnder : Cond.selects RG yG_allowedUnder yG_allowedUnder ∈ LG := LG_in (List.mem_of_getElem? (i := 538) (by decide +kernel)) (by decide +kernel)
theorem wC_G_allowedUnder : Cond.code yG_allowedUnder bG_allowedUnder 6 (some .int) ∈ LG := LG_in (List.mem_of_getElem? (i := 539) (by decide +kernel)) (by decide +kernel)
theorem wM_C_105 : Cond.methodLink RC 105 yC_heaviestOf ∈ LG := LG_in (List.mem_of_getElem? (i := 540) (by decide +kernel)) (by decide +kernel)
theorem wI_C_heaviestOf : Cond.instanceMethod yC_heaviestOf ∈ LG := LG_in (List.mem_of_getElem? (i := 541) (by decide +kernel)) (by decide +kernel)
theorem wSel_C_heaviestOf : Cond.selects RC yC_heaviestOf yC_heaviestOf ∈ LG := LG_in (List.mem_of_getElem? (i := 542) (by decide +kernel)) (by decide +kernel)
theorem wC_C_heaviestOf : Cond.code yC_heaviestOf bC_heaviestOf 7 (some .int) ∈ LG := LG_in (List.mem_of_getElem? (i := 543) (by decide +kernel)) (by decide +kernel)
theorem wM_P_125 : Cond.methodLink RP 125 yP_spanNumber ∈ LG := LG_in (List.mem_of_getElem? (i := 544) (by decide +kernel)) (by decide +kernel)
theorem wM_P_129 : Cond.methodLink RP 129 yG_rejectingRules ∈ LG := LG_in (List.mem_of_getElem? (i := 545) (by decide +kernel)) (by decide +kernel)
theorem wM_P_133 : Cond.methodLink RP 133 yC_waysOfAny ∈ LG := LG_in (List.mem_of_getElem? (i := 546) (by decide +kernel)) (by decide +kernel)
theorem wM_P_136 : Cond.methodLink RP 136 yG_derivingRules ∈ LG := LG_in (List.mem_of_getElem? (i := 547) (by decide +kernel)) (by decide +kernel)
theorem wM_P_139 : Cond.methodLink RP 139 yC_heaviestOf ∈ LG := LG_in (List.mem_of_getElem? (i := 548) (by decide +kernel)) (by decide +kernel)
theorem wM_P_142 : Cond.methodLink RP 142 yC_heaviestWeight ∈ LG := LG_in (List.mem_of_getElem? (i := 549) (by decide +kernel)) (by decide +kernel)
theorem wI_C_heaviestWeight : Cond.instanceMethod yC_heaviestWeight ∈ LG := LG_in (List.mem_of_getElem? (i := 550) (by decide +kernel)) (by decide +kernel)
theorem wSel_C_heaviestWeight : Cond.selects RC yC_heaviestWeight yC_heaviestWeight ∈ LG := LG_in (List.mem_of_getElem? (i := 551) (by decide +kernel)) (by decide +kernel)
theorem wC_C_heaviestWeight : Cond.code yC_heaviestWeight bC_heaviestWeight 3 (some .double) ∈ LG := LG_in (List.mem_of_getElem? (i := 552) (by decide +kernel)) (by decide +kernel)
theorem wM_P_146 : Cond.methodLink RP 146 yE_grow ∈ LG := LG_in (List.mem_of_getElem? (i := 553) (by decide +kernel)) (by decide +kernel)
theorem wI_E_grow : Cond.instanceMethod yE_grow ∈ LG := LG_in (List.mem_of_getElem? (i := 554) (by decide +kernel)) (by decide +kernel)
theorem wSel_E_grow : Cond.selects RE yE_grow yE_grow ∈ LG := LG_in (List.mem_of_getElem? (i := 555) (by decide +kernel)) (by decide +kernel)
theorem wC_E_grow : Cond.code yE_grow bE_grow 6 none ∈ LG := LG_in (List.mem_of_getElem? (i := 556) (by decide +kernel)) (by decide +kernel)
theorem wM_E_25 : Cond.methodLink RE 25 yE_insert ∈ LG := LG_in (List.mem_of_getElem? (i := 557) (by decide +kernel)) (by decide +kernel)
theorem wI_E_insert : Cond.instanceMethod yE_insert ∈ LG := LG_in (List.mem_of_getElem? (i := 559) (by decide +kernel)) (by decide +kernel)
theorem wC_E_insert : Cond.code yE_insert bE_insert 5 none ∈ LG := LG_in (List.mem_of_getElem? (i := 560) (by decide +kernel)) (by decide +kernel)
theorem wM_E_52 : Cond.methodLink RE 52 (⟨"java/lang/System", "arraycopy", "(Ljava/lang/Object;ILjava/lang/Object;II)V"⟩ : MethodName) ∈ LG := LG_in (List.mem_of_getElem? (i := 561) (by decide +kernel)) (by decide +kernel)
theorem wM_E_29 : Cond.methodLink RE 29 yE_insertBelow ∈ LG := LG_in (List.mem_of_getElem? (i := 564) (by decide +kernel)) (by decide +kernel)
theorem wI_E_insertBelow : Cond.instanceMethod yE_insertBelow ∈ LG := LG_in (List.mem_of_getElem? (i := 566) (by decide +kernel)) (by decide +kernel)
theorem wC_E_insertBelow : Cond.code yE_insertBelow bE_insertBelow 11 none ∈ LG := LG_in (List.mem_of_getElem? (i := 567) (by decide +kernel)) (by decide +kernel)
theorem wM_E_37 : Cond.methodLink RE 37 yG_rightLength ∈ LG := LG_in (List.mem_of_getElem? (i := 569) (by decide +kernel)) (by decide +kernel)
theorem wM_E_43 : Cond.methodLink RE 43 yC_symbolEnd ∈ LG := LG_in (List.mem_of_getElem? (i := 570) (by decide +kernel)) (by decide +kernel)
theorem wI_C_symbolEnd : Cond.instanceMethod yC_symbolEnd ∈ LG := LG_in (List.mem_of_getElem? (i := 571) (by decide +kernel)) (by decide +kernel)
theorem wSel_C_symbolEnd : Cond.selects RC yC_symbolEnd yC_symbolEnd ∈ LG := LG_in (List.mem_of_getElem? (i := 572) (by decide +kernel)) (by decide +kernel)
theorem wC_C_symbolEnd : Cond.code yC_symbolEnd bC_symbolEnd 4 (some .int) ∈ LG := LG_in (List.mem_of_getElem? (i := 573) (by decide +kernel)) (by decide +kernel)
theorem wM_E_49 : Cond.methodLink RE 49 yC_ruleBelow ∈ LG := LG_in (List.mem_of_getElem? (i := 574) (by decide +kernel)) (by decide +kernel)
theorem wI_C_ruleBelow : Cond.instanceMethod yC_ruleBelow ∈ LG := LG_in (List.mem_of_getElem? (i := 575) (by decide +kernel)) (by decide +kernel)
theorem wSel_C_ruleBelow : Cond.selects RC yC_ruleBelow yC_ruleBelow ∈ LG := LG_in (List.mem_of_getElem? (i := 576) (by decide +kernel)) (by decide +kernel)
theorem wC_C_ruleBelow : Cond.code yC_ruleBelow bC_ruleBelow 4 (some .int) ∈ LG := LG_in (List.mem_of_getElem? (i := 577) (by decide +kernel)) (by decide +kernel)
theorem wM_L_96 : Cond.methodLink RL 96 yL_weight ∈ LG := LG_in (List.mem_of_getElem? (i := 578) (by decide +kernel)) (by decide +kernel)
theorem wSt_L_weight : Cond.static yL_weight ∈ LG := LG_in (List.mem_of_getElem? (i := 579) (by decide +kernel)) (by decide +kernel)
theorem wC_L_weight : Cond.codeWith yL_weight bL_weight 3 (some .int) [(0, 7, 10, 37)] ∈ LG := LG_in (List.mem_of_getElem? (i := 580) (by decide +kernel)) (by decide +kernel)
theorem wM_L_43 : Cond.methodLink RL 43 yP_weight ∈ LG := LG_in (List.mem_of_getElem? (i := 581) (by decide +kernel)) (by decide +kernel)
theorem wI_P_weight : Cond.instanceMethod yP_weight ∈ LG := LG_in (List.mem_of_getElem? (i := 582) (by decide +kernel)) (by decide +kernel)
theorem wSel_P_weight : Cond.selects RP yP_weight yP_weight ∈ LG := LG_in (List.mem_of_getElem? (i := 583) (by decide +kernel)) (by decide +kernel)
theorem wC_P_weight : Cond.code yP_weight bP_weight 1 (some .double) ∈ LG := LG_in (List.mem_of_getElem? (i := 584) (by decide +kernel)) (by decide +kernel)
theorem wM_L_100 : Cond.methodLink RL 100 yL_node ∈ LG := LG_in (List.mem_of_getElem? (i := 585) (by decide +kernel)) (by decide +kernel)
theorem wSt_L_node : Cond.static yL_node ∈ LG := LG_in (List.mem_of_getElem? (i := 586) (by decide +kernel)) (by decide +kernel)
theorem wC_L_node : Cond.codeWith yL_node bL_node 5 (some .int) [(0, 10, 13, 13), (0, 10, 17, 37)] ∈ LG := LG_in (List.mem_of_getElem? (i := 587) (by decide +kernel)) (by decide +kernel)
theorem wM_L_47 : Cond.methodLink RL 47 yP_node ∈ LG := LG_in (List.mem_of_getElem? (i := 588) (by decide +kernel)) (by decide +kernel)
theorem wI_P_node : Cond.instanceMethod yP_node ∈ LG := LG_in (List.mem_of_getElem? (i := 589) (by decide +kernel)) (by decide +kernel)
theorem wSel_P_node : Cond.selects RP yP_node yP_node ∈ LG := LG_in (List.mem_of_getElem? (i := 590) (by decide +kernel)) (by decide +kernel)
theorem wC_P_node : Cond.code yP_node bP_node 3 (some .int) ∈ LG := LG_in (List.mem_of_getElem? (i := 591) (by decide +kernel)) (by decide +kernel)
theorem wM_P_151 : Cond.methodLink RP 151 yE_ruleAt ∈ LG := LG_in (List.mem_of_getElem? (i := 592) (by decide +kernel)) (by decide +kernel)
theorem wI_E_ruleAt : Cond.instanceMethod yE_ruleAt ∈ LG := LG_in (List.mem_of_getElem? (i := 593) (by decide +kernel)) (by decide +kernel)
theorem wSel_E_ruleAt : Cond.selects RE yE_ruleAt yE_ruleAt ∈ LG := LG_in (List.mem_of_getElem? (i := 594) (by decide +kernel)) (by decide +kernel)
theorem wC_E_ruleAt : Cond.code yE_ruleAt bE_ruleAt 2 (some .int) ∈ LG := LG_in (List.mem_of_getElem? (i := 595) (by decide +kernel)) (by decide +kernel)
theorem wM_P_154 : Cond.methodLink RP 154 yE_beginAt ∈ LG := LG_in (List.mem_of_getElem? (i := 596) (by decide +kernel)) (by decide +kernel)
theorem wI_E_beginAt : Cond.instanceMethod yE_beginAt ∈ LG := LG_in (List.mem_of_getElem? (i := 597) (by decide +kernel)) (by decide +kernel)
theorem wSel_E_beginAt : Cond.selects RE yE_beginAt yE_beginAt ∈ LG := LG_in (List.mem_of_getElem? (i := 598) (by decide +kernel)) (by decide +kernel)
theorem wC_E_beginAt : Cond.code yE_beginAt bE_beginAt 2 (some .int) ∈ LG := LG_in (List.mem_of_getElem? (i := 599) (by decide +kernel)) (by decide +kernel)
theorem wM_P_157 : Cond.methodLink RP 157 yE_endAt ∈ LG := LG_in (List.mem_of_getElem? (i := 600) (by decide +kernel)) (by decide +kernel)
theorem wI_E_endAt : Cond.instanceMethod yE_endAt ∈ LG := LG_in (List.mem_of_getElem? (i := 601) (by decide +kernel)) (by decide +kernel)
theorem wSel_E_endAt : Cond.selects RE yE_endAt yE_endAt ∈ LG := LG_in (List.mem_of_getElem? (i := 602) (by decide +kernel)) (by decide +kernel)
theorem wC_E_endAt : Cond.code yE_endAt bE_endAt 2 (some .int) ∈ LG := LG_in (List.mem_of_getElem? (i := 603) (by decide +kernel)) (by decide +kernel)
theorem wM_P_160 : Cond.methodLink RP 160 yE_nodesBelow ∈ LG := LG_in (List.mem_of_getElem? (i := 604) (by decide +kernel)) (by decide +kernel)
theorem wI_E_nodesBelow : Cond.instanceMethod yE_nodesBelow ∈ LG := LG_in (List.mem_of_getElem? (i := 605) (by decide +kernel)) (by decide +kernel)
theorem wSel_E_nodesBelow : Cond.selects RE yE_nodesBelow yE_nodesBelow ∈ LG := LG_in (List.mem_of_getElem? (i := 606) (by decide +kernel)) (by decide +kernel)
theorem wC_E_nodesBelow : Cond.code yE_nodesBelow bE_nodesBelow 3 (some .int) ∈ LG := LG_in (List.mem_of_getElem? (i := 607) (by decide +kernel)) (by decide +kernel)
theorem wM_L_104 : Cond.methodLink RL 104 yL_many ∈ LG := LG_in (List.mem_of_getElem? (i := 608) (by decide +kernel)) (by decide +kernel)
theorem wSt_L_many : Cond.static yL_many ∈ LG := LG_in (List.mem_of_getElem? (i := 609) (by decide +kernel)) (by decide +kernel)
theorem wC_L_many : Cond.codeWith yL_many bL_many 6 (some .int) [(0, 12, 15, 13), (0, 12, 19, 37)] ∈ LG := LG_in (List.mem_of_getElem? (i := 610) (by decide +kernel)) (by decide +kernel)
theorem wM_L_51 : Cond.methodLink RL 51 yP_many ∈ LG := LG_in (List.mem_of_getElem? (i := 611) (by decide +kernel)) (by decide +kernel)
theorem wI_P_many : Cond.instanceMethod yP_many ∈ LG := LG_in (List.mem_of_getElem? (i := 612) (by decide +kernel)) (by decide +kernel)
theorem wSel_P_many : Cond.selects RP yP_many yP_many ∈ LG := LG_in (List.mem_of_getElem? (i := 613) (by decide +kernel)) (by decide +kernel)
theorem wC_P_many : Cond.code yP_many bP_many 4 (some .int) ∈ LG := LG_in (List.mem_of_getElem? (i := 614) (by decide +kernel)) (by decide +kernel)
theorem wM_P_163 : Cond.methodLink RP 163 yC_waysOf ∈ LG := LG_in (List.mem_of_getElem? (i := 615) (by decide +kernel)) (by decide +kernel)
theorem wI_C_waysOf : Cond.instanceMethod yC_waysOf ∈ LG := LG_in (List.mem_of_getElem? (i := 616) (by decide +kernel)) (by decide +kernel)
theorem wSel_C_waysOf : Cond.selects RC yC_waysOf yC_waysOf ∈ LG := LG_in (List.mem_of_getElem? (i := 617) (by decide +kernel)) (by decide +kernel)
theorem wC_C_waysOf : Cond.code yC_waysOf bC_waysOf 3 (some .int) ∈ LG := LG_in (List.mem_of_getElem? (i := 618) (by decide +kernel)) (by decide +kernel)
theorem wCl_L_56 : Cond.classLink RL 56 RM ∈ LG := LG_in (List.mem_of_getElem? (i := 619) (by decide +kernel)) (by decide +kernel)
theorem wIn_M : Cond.instantiable RM 29 ∈ LG := LG_in (List.mem_of_getElem? (i := 620) (by decide +kernel)) (by decide +kernel)
theorem wM_L_58 : Cond.methodLink RL 58 yM_init ∈ LG := LG_in (List.mem_of_getElem? (i := 621) (by decide +kernel)) (by decide +kernel)
theorem wI_M_init : Cond.instanceMethod yM_init ∈ LG := LG_in (List.mem_of_getElem? (i := 622) (by decide +kernel)) (by decide +kernel)
theorem wC_M_init : Cond.code yM_init bM_init 1 none ∈ LG := LG_in (List.mem_of_getElem? (i := 623) (by decide +kernel)) (by decide +kernel)
theorem wM_M_1 : Cond.methodLink RM 1 objectInit ∈ LG := LG_in (List.mem_of_getElem? (i := 624) (by decide +kernel)) (by decide +kernel)
theorem wF_M_7 : Cond.fieldLink RM 7 "SpanParserModel" "text" "[I" ∈ LG := LG_in (List.mem_of_getElem? (i := 625) (by decide +kernel)) (by decide +kernel)
theorem wF_M_13 : Cond.fieldLink RM 13 "SpanParserModel" "input" "[I" ∈ LG := LG_in (List.mem_of_getElem? (i := 626) (by decide +kernel)) (by decide +kernel)
theorem wF_M_16 : Cond.fieldLink RM 16 "SpanParserModel" "left" "[I" ∈ LG := LG_in (List.mem_of_getElem? (i := 627) (by decide +kernel)) (by decide +kernel)
theorem wF_M_19 : Cond.fieldLink RM 19 "SpanParserModel" "size" "[I" ∈ LG := LG_in (List.mem_of_getElem? (i := 628) (by decide +kernel)) (by decide +kernel)
theorem wF_M_22 : Cond.fieldLink RM 22 "SpanParserModel" "right" "[I" ∈ LG := LG_in (List.mem_of_getElem? (i := 629) (by decide +kernel)) (by decide +kernel)
theorem wF_M_25 : Cond.fieldLink RM 25 "SpanParserModel" "how" "[I" ∈ LG := LG_in (List.mem_of_getElem? (i := 630) (by decide +kernel)) (by decide +kernel)
theorem wF_M_28 : Cond.fieldLink RM 28 "SpanParserModel" "cut" "[I" ∈ LG := LG_in (List.mem_of_getElem? (i := 631) (by decide +kernel)) (by decide +kernel)
theorem wF_M_31 : Cond.fieldLink RM 31 "SpanParserModel" "best" "[I" ∈ LG := LG_in (List.mem_of_getElem? (i := 632) (by decide +kernel)) (by decide +kernel)
theorem wF_M_34 : Cond.fieldLink RM 34 "SpanParserModel" "weight" "[D" ∈ LG := LG_in (List.mem_of_getElem? (i := 633) (by decide +kernel)) (by decide +kernel)
theorem wF_M_38 : Cond.fieldLink RM 38 "SpanParserModel" "heavy" "[D" ∈ LG := LG_in (List.mem_of_getElem? (i := 634) (by decide +kernel)) (by decide +kernel)
theorem wF_M_41 : Cond.fieldLink RM 41 "SpanParserModel" "barred" "[Z" ∈ LG := LG_in (List.mem_of_getElem? (i := 635) (by decide +kernel)) (by decide +kernel)
theorem wF_M_45 : Cond.fieldLink RM 45 "SpanParserModel" "never" "[Z" ∈ LG := LG_in (List.mem_of_getElem? (i := 636) (by decide +kernel)) (by decide +kernel)
theorem wF_M_48 : Cond.fieldLink RM 48 "SpanParserModel" "good" "[Z" ∈ LG := LG_in (List.mem_of_getElem? (i := 637) (by decide +kernel)) (by decide +kernel)
theorem wF_M_51 : Cond.fieldLink RM 51 "SpanParserModel" "many" "[I" ∈ LG := LG_in (List.mem_of_getElem? (i := 638) (by decide +kernel)) (by decide +kernel)
theorem wF_M_54 : Cond.fieldLink RM 54 "SpanParserModel" "nodeRule" "[I" ∈ LG := LG_in (List.mem_of_getElem? (i := 639) (by decide +kernel)) (by decide +kernel)
theorem wF_M_57 : Cond.fieldLink RM 57 "SpanParserModel" "from" "[I" ∈ LG := LG_in (List.mem_of_getElem? (i := 640) (by decide +kernel)) (by decide +kernel)
theorem wF_M_60 : Cond.fieldLink RM 60 "SpanParserModel" "to" "[I" ∈ LG := LG_in (List.mem_of_getElem? (i := 641) (by decide +kernel)) (by decide +kernel)
theorem wF_M_63 : Cond.fieldLink RM 63 "SpanParserModel" "parent" "[I" ∈ LG := LG_in (List.mem_of_getElem? (i := 642) (by decide +kernel)) (by decide +kernel)
theorem wF_M_66 : Cond.fieldLink RM 66 "SpanParserModel" "below" "[I" ∈ LG := LG_in (List.mem_of_getElem? (i := 643) (by decide +kernel)) (by decide +kernel)
theorem wF_M_69 : Cond.fieldLink RM 69 "SpanParserModel" "pile" "[I" ∈ LG := LG_in (List.mem_of_getElem? (i := 644) (by decide +kernel)) (by decide +kernel)
theorem wF_M_101 : Cond.fieldLink RM 101 "SpanParserModel" "rules" "I" ∈ LG := LG_in (List.mem_of_getElem? (i := 645) (by decide +kernel)) (by decide +kernel)
theorem wF_M_87 : Cond.fieldLink RM 87 "SpanParserModel" "length" "I" ∈ LG := LG_in (List.mem_of_getElem? (i := 646) (by decide +kernel)) (by decide +kernel)
theorem wF_M_72 : Cond.fieldLink RM 72 "SpanParserModel" "place" "I" ∈ LG := LG_in (List.mem_of_getElem? (i := 647) (by decide +kernel)) (by decide +kernel)
theorem wF_M_161 : Cond.fieldLink RM 161 "SpanParserModel" "inputLength" "I" ∈ LG := LG_in (List.mem_of_getElem? (i := 648) (by decide +kernel)) (by decide +kernel)
theorem wF_M_183 : Cond.fieldLink RM 183 "SpanParserModel" "nodes" "I" ∈ LG := LG_in (List.mem_of_getElem? (i := 649) (by decide +kernel)) (by decide +kernel)
theorem wF_M_76 : Cond.fieldLink RM 76 "SpanParserModel" "thrown" "I" ∈ LG := LG_in (List.mem_of_getElem? (i := 650) (by decide +kernel)) (by decide +kernel)
theorem wF_M_94 : Cond.fieldLink RM 94 "SpanParserModel" "parsed" "Z" ∈ LG := LG_in (List.mem_of_getElem? (i := 651) (by decide +kernel)) (by decide +kernel)
theorem wF_M_98 : Cond.fieldLink RM 98 "SpanParserModel" "found" "Z" ∈ LG := LG_in (List.mem_of_getElem? (i := 652) (by decide +kernel)) (by decide +kernel)
theorem wF_M_179 : Cond.fieldLink RM 179 "SpanParserModel" "total" "D" ∈ LG := LG_in (List.mem_of_getElem? (i := 653) (by decide +kernel)) (by decide +kernel)
theorem wM_L_67 : Cond.methodLink RL 67 yM_thrown ∈ LG := LG_in (List.mem_of_getElem? (i := 713) (by decide +kernel)) (by decide +kernel)
theorem wI_M_thrown : Cond.instanceMethod yM_thrown ∈ LG := LG_in (List.mem_of_getElem? (i := 714) (by decide +kernel)) (by decide +kernel)
theorem wSel_M_thrown : Cond.selects RM yM_thrown yM_thrown ∈ LG := LG_in (List.mem_of_getElem? (i := 715) (by decide +kernel)) (by decide +kernel)
theorem wC_M_thrown : Cond.code yM_thrown bM_thrown 1 (some .int) ∈ LG := LG_in (List.mem_of_getElem? (i := 716) (by decide +kernel)) (by decide +kernel)
theorem wM_L_66 : Cond.methodLink RL 66 yM_type ∈ LG := LG_in (List.mem_of_getElem? (i := 717) (by decide +kernel)) (by decide +kernel)
theorem wI_M_type : Cond.instanceMethod yM_type ∈ LG := LG_in (List.mem_of_getElem? (i := 718) (by decide +kernel)) (by decide +kernel)
theorem wSel_M_type : Cond.selects RM yM_type yM_type ∈ LG := LG_in (List.mem_of_getElem? (i := 719) (by decide +kernel)) (by decide +kernel)
theorem wC_M_type : Cond.code yM_type bM_type 7 (some .int) ∈ LG := LG_in (List.mem_of_getElem? (i := 720) (by decide +kernel)) (by decide +kernel)
theorem wM_M_79 : Cond.methodLink RM 79 yM_in ∈ LG := LG_in (List.mem_of_getElem? (i := 721) (by decide +kernel)) (by decide +kernel)
theorem wSt_M_in : Cond.static yM_in ∈ LG := LG_in (List.mem_of_getElem? (i := 722) (by decide +kernel)) (by decide +kernel)
theorem wC_M_in : Cond.code yM_in bM_in 3 (some .boolean) ∈ LG := LG_in (List.mem_of_getElem? (i := 723) (by decide +kernel)) (by decide +kernel)
theorem wM_M_83 : Cond.methodLink RM 83 yM_bad ∈ LG := LG_in (List.mem_of_getElem? (i := 724) (by decide +kernel)) (by decide +kernel)
theorem wI_M_bad : Cond.instanceMethod yM_bad ∈ LG := LG_in (List.mem_of_getElem? (i := 726) (by decide +kernel)) (by decide +kernel)
theorem wC_M_bad : Cond.code yM_bad bM_bad 2 (some .boolean) ∈ LG := LG_in (List.mem_of_getElem? (i := 727) (by decide +kernel)) (by decide +kernel)
theorem wM_M_90 : Cond.methodLink RM 90 yM_fail ∈ LG := LG_in (List.mem_of_getElem? (i := 728) (by decide +kernel)) (by decide +kernel)
theorem wI_M_fail : Cond.instanceMethod yM_fail ∈ LG := LG_in (List.mem_of_getElem? (i := 730) (by decide +kernel)) (by decide +kernel)
theorem wC_M_fail : Cond.code yM_fail bM_fail 2 (some .int) ∈ LG := LG_in (List.mem_of_getElem? (i := 731) (by decide +kernel)) (by decide +kernel)
theorem wM_L_76 : Cond.methodLink RL 76 yM_rule ∈ LG := LG_in (List.mem_of_getElem? (i := 732) (by decide +kernel)) (by decide +kernel)
theorem wI_M_rule : Cond.instanceMethod yM_rule ∈ LG := LG_in (List.mem_of_getElem? (i := 733) (by decide +kernel)) (by decide +kernel)
theorem wSel_M_rule : Cond.selects RM yM_rule yM_rule ∈ LG := LG_in (List.mem_of_getElem? (i := 734) (by decide +kernel)) (by decide +kernel)
theorem wC_M_rule : Cond.code yM_rule bM_rule 6 (some .int) ∈ LG := LG_in (List.mem_of_getElem? (i := 735) (by decide +kernel)) (by decide +kernel)
theorem wK_M_108 : Cond.constantDouble RM 108 (4593671619917905920 : UInt64) ∈ LG := LG_in (List.mem_of_getElem? (i := 736) (by decide +kernel)) (by decide +kernel)
theorem wK_M_110 : Cond.constantDouble RM 110 (4620693217682128896 : UInt64) ∈ LG := LG_in (List.mem_of_getElem? (i := 737) (by decide +kernel)) (by decide +kernel)
theorem wM_M_112 : Cond.methodLink RM 112 yM_wrong ∈ LG := LG_in (List.mem_of_getElem? (i := 738) (by decide +kernel)) (by decide +kernel)
theorem wI_M_wrong : Cond.instanceMethod yM_wrong ∈ LG := LG_in (List.mem_of_getElem? (i := 740) (by decide +kernel)) (by decide +kernel)
theorem wC_M_wrong : Cond.code yM_wrong bM_wrong 2 (some .int) ∈ LG := LG_in (List.mem_of_getElem? (i := 741) (by decide +kernel)) (by decide +kernel)
theorem wM_M_116 : Cond.methodLink RM 116 yM_leads ∈ LG := LG_in (List.mem_of_getElem? (i := 742) (by decide +kernel)) (by decide +kernel)
theorem wI_M_leads : Cond.instanceMethod yM_leads ∈ LG := LG_in (List.mem_of_getElem? (i := 744) (by decide +kernel)) (by decide +kernel)
theorem wC_M_leads : Cond.code yM_leads bM_leads 6 (some .boolean) ∈ LG := LG_in (List.mem_of_getElem? (i := 745) (by decide +kernel)) (by decide +kernel)
theorem wM_M_104 : Cond.methodLink RM 104 yM_isChain ∈ LG := LG_in (List.mem_of_getElem? (i := 746) (by decide +kernel)) (by decide +kernel)
theorem wI_M_isChain : Cond.instanceMethod yM_isChain ∈ LG := LG_in (List.mem_of_getElem? (i := 748) (by decide +kernel)) (by decide +kernel)
theorem wC_M_isChain : Cond.code yM_isChain bM_isChain 2 (some .boolean) ∈ LG := LG_in (List.mem_of_getElem? (i := 749) (by decide +kernel)) (by decide +kernel)
theorem wM_M_120 : Cond.methodLink RM 120 yM_change ∈ LG := LG_in (List.mem_of_getElem? (i := 750) (by decide +kernel)) (by decide +kernel)
theorem wI_M_change : Cond.instanceMethod yM_change ∈ LG := LG_in (List.mem_of_getElem? (i := 752) (by decide +kernel)) (by decide +kernel)
theorem wC_M_change : Cond.code yM_change bM_change 1 none ∈ LG := LG_in (List.mem_of_getElem? (i := 753) (by decide +kernel)) (by decide +kernel)
theorem wM_L_80 : Cond.methodLink RL 80 yM_mark ∈ LG := LG_in (List.mem_of_getElem? (i := 754) (by decide +kernel)) (by decide +kernel)
theorem wI_M_mark : Cond.instanceMethod yM_mark ∈ LG := LG_in (List.mem_of_getElem? (i := 755) (by decide +kernel)) (by decide +kernel)
theorem wSel_M_mark : Cond.selects RM yM_mark yM_mark ∈ LG := LG_in (List.mem_of_getElem? (i := 756) (by decide +kernel)) (by decide +kernel)
theorem wC_M_mark : Cond.code yM_mark bM_mark 3 none ∈ LG := LG_in (List.mem_of_getElem? (i := 757) (by decide +kernel)) (by decide +kernel)
theorem wM_M_123 : Cond.methodLink RM 123 yM_isRule ∈ LG := LG_in (List.mem_of_getElem? (i := 758) (by decide +kernel)) (by decide +kernel)
theorem wI_M_isRule : Cond.instanceMethod yM_isRule ∈ LG := LG_in (List.mem_of_getElem? (i := 760) (by decide +kernel)) (by decide +kernel)
theorem wC_M_isRule : Cond.code yM_isRule bM_isRule 2 (some .boolean) ∈ LG := LG_in (List.mem_of_getElem? (i := 761) (by decide +kernel)) (by decide +kernel)
theorem wM_L_84 : Cond.methodLink RL 84 yM_bar ∈ LG := LG_in (List.mem_of_getElem? (i := 762) (by decide +kernel)) (by decide +kernel)
theorem wI_M_bar : Cond.instanceMethod yM_bar ∈ LG := LG_in (List.mem_of_getElem? (i := 763) (by decide +kernel)) (by decide +kernel)
theorem wSel_M_bar : Cond.selects RM yM_bar yM_bar ∈ LG := LG_in (List.mem_of_getElem? (i := 764) (by decide +kernel)) (by decide +kernel)
theorem wC_M_bar : Cond.code yM_bar bM_bar 4 none ∈ LG := LG_in (List.mem_of_getElem? (i := 765) (by decide +kernel)) (by decide +kernel)
theorem wM_L_87 : Cond.methodLink RL 87 yM_follow ∈ LG := LG_in (List.mem_of_getElem? (i := 766) (by decide +kernel)) (by decide +kernel)
theorem wI_M_follow : Cond.instanceMethod yM_follow ∈ LG := LG_in (List.mem_of_getElem? (i := 767) (by decide +kernel)) (by decide +kernel)
theorem wSel_M_follow : Cond.selects RM yM_follow yM_follow ∈ LG := LG_in (List.mem_of_getElem? (i := 768) (by decide +kernel)) (by decide +kernel)
theorem wC_M_follow : Cond.code yM_follow bM_follow 4 none ∈ LG := LG_in (List.mem_of_getElem? (i := 769) (by decide +kernel)) (by decide +kernel)
theorem wM_L_91 : Cond.methodLink RL 91 yM_undo ∈ LG := LG_in (List.mem_of_getElem? (i := 770) (by decide +kernel)) (by decide +kernel)
theorem wI_M_undo : Cond.instanceMethod yM_undo ∈ LG := LG_in (List.mem_of_getElem? (i := 771) (by decide +kernel)) (by decide +kernel)
theorem wSel_M_undo : Cond.selects RM yM_undo yM_undo ∈ LG := LG_in (List.mem_of_getElem? (i := 772) (by decide +kernel)) (by decide +kernel)
theorem wC_M_undo : Cond.code yM_undo bM_undo 2 none ∈ LG := LG_in (List.mem_of_getElem? (i := 773) (by decide +kernel)) (by decide +kernel)
theorem wM_L_95 : Cond.methodLink RL 95 yM_parse ∈ LG := LG_in (List.mem_of_getElem? (i := 774) (by decide +kernel)) (by decide +kernel)
theorem wI_M_parse : Cond.instanceMethod yM_parse ∈ LG := LG_in (List.mem_of_getElem? (i := 775) (by decide +kernel)) (by decide +kernel)
theorem wSel_M_parse : Cond.selects RM yM_parse yM_parse ∈ LG := LG_in (List.mem_of_getElem? (i := 776) (by decide +kernel)) (by decide +kernel)
theorem wC_M_parse : Cond.code yM_parse bM_parse 4 (some .int) ∈ LG := LG_in (List.mem_of_getElem? (i := 777) (by decide +kernel)) (by decide +kernel)
theorem wM_M_171 : Cond.methodLink RM 171 yM_fill ∈ LG := LG_in (List.mem_of_getElem? (i := 778) (by decide +kernel)) (by decide +kernel)
theorem wI_M_fill : Cond.instanceMethod yM_fill ∈ LG := LG_in (List.mem_of_getElem? (i := 780) (by decide +kernel)) (by decide +kernel)
theorem wC_M_fill : Cond.code yM_fill bM_fill 5 none ∈ LG := LG_in (List.mem_of_getElem? (i := 781) (by decide +kernel)) (by decide +kernel)
theorem wM_M_129 : Cond.methodLink RM 129 yM_span ∈ LG := LG_in (List.mem_of_getElem? (i := 782) (by decide +kernel)) (by decide +kernel)
theorem wSt_M_span : Cond.static yM_span ∈ LG := LG_in (List.mem_of_getElem? (i := 783) (by decide +kernel)) (by decide +kernel)
theorem wC_M_span : Cond.code yM_span bM_span 2 (some .int) ∈ LG := LG_in (List.mem_of_getElem? (i := 784) (by decide +kernel)) (by decide +kernel)
theorem wM_M_164 : Cond.methodLink RM 164 yM_divide ∈ LG := LG_in (List.mem_of_getElem? (i := 785) (by decide +kernel)) (by decide +kernel)
theorem wI_M_divide : Cond.instanceMethod yM_divide ∈ LG := LG_in (List.mem_of_getElem? (i := 787) (by decide +kernel)) (by decide +kernel)
theorem wC_M_divide : Cond.code yM_divide bM_divide 16 none ∈ LG := LG_in (List.mem_of_getElem? (i := 788) (by decide +kernel)) (by decide +kernel)
theorem wM_M_147 : Cond.methodLink RM 147 yM_symbol ∈ LG := LG_in (List.mem_of_getElem? (i := 789) (by decide +kernel)) (by decide +kernel)
theorem wI_M_symbol : Cond.instanceMethod yM_symbol ∈ LG := LG_in (List.mem_of_getElem? (i := 791) (by decide +kernel)) (by decide +kernel)
theorem wC_M_symbol : Cond.code yM_symbol bM_symbol 6 (some .int) ∈ LG := LG_in (List.mem_of_getElem? (i := 792) (by decide +kernel)) (by decide +kernel)
theorem wM_M_140 : Cond.methodLink RM 140 yM_stands ∈ LG := LG_in (List.mem_of_getElem? (i := 793) (by decide +kernel)) (by decide +kernel)
theorem wI_M_stands : Cond.instanceMethod yM_stands ∈ LG := LG_in (List.mem_of_getElem? (i := 795) (by decide +kernel)) (by decide +kernel)
theorem wC_M_stands : Cond.code yM_stands bM_stands 3 (some .boolean) ∈ LG := LG_in (List.mem_of_getElem? (i := 796) (by decide +kernel)) (by decide +kernel)
theorem wM_M_143 : Cond.methodLink RM 143 yM_count5 ∈ LG := LG_in (List.mem_of_getElem? (i := 797) (by decide +kernel)) (by decide +kernel)
theorem wI_M_count5 : Cond.instanceMethod yM_count5 ∈ LG := LG_in (List.mem_of_getElem? (i := 799) (by decide +kernel)) (by decide +kernel)
theorem wC_M_count5 : Cond.code yM_count5 bM_count5 9 (some .int) ∈ LG := LG_in (List.mem_of_getElem? (i := 800) (by decide +kernel)) (by decide +kernel)
theorem wM_M_133 : Cond.methodLink RM 133 yM_allowed ∈ LG := LG_in (List.mem_of_getElem? (i := 801) (by decide +kernel)) (by decide +kernel)
theorem wI_M_allowed : Cond.instanceMethod yM_allowed ∈ LG := LG_in (List.mem_of_getElem? (i := 803) (by decide +kernel)) (by decide +kernel)
theorem wC_M_allowed : Cond.code yM_allowed bM_allowed 4 (some .boolean) ∈ LG := LG_in (List.mem_of_getElem? (i := 804) (by decide +kernel)) (by decide +kernel)
theorem wM_M_136 : Cond.methodLink RM 136 yM_cutDown ∈ LG := LG_in (List.mem_of_getElem? (i := 805) (by decide +kernel)) (by decide +kernel)
theorem wSt_M_cutDown : Cond.static yM_cutDown ∈ LG := LG_in (List.mem_of_getElem? (i := 806) (by decide +kernel)) (by decide +kernel)
theorem wC_M_cutDown : Cond.code yM_cutDown bM_cutDown 2 (some .int) ∈ LG := LG_in (List.mem_of_getElem? (i := 807) (by decide +kernel)) (by decide +kernel)
theorem wK_M_126 : Cond.constantLong RM 126 (1000000000 : Int64) ∈ LG := LG_in (List.mem_of_getElem? (i := 808) (by decide +kernel)) (by decide +kernel)
theorem wK_M_128 : Cond.constant RM 128 (1000000000 : Int32) ∈ LG := LG_in (List.mem_of_getElem? (i := 809) (by decide +kernel)) (by decide +kernel)
theorem wM_M_151 : Cond.methodLink RM 151 yM_weightOf ∈ LG := LG_in (List.mem_of_getElem? (i := 810) (by decide +kernel)) (by decide +kernel)
theorem wI_M_weightOf : Cond.instanceMethod yM_weightOf ∈ LG := LG_in (List.mem_of_getElem? (i := 812) (by decide +kernel)) (by decide +kernel)
theorem wC_M_weightOf : Cond.code yM_weightOf bM_weightOf 7 (some .double) ∈ LG := LG_in (List.mem_of_getElem? (i := 813) (by decide +kernel)) (by decide +kernel)
theorem wM_M_158 : Cond.methodLink RM 158 yM_heaviest ∈ LG := LG_in (List.mem_of_getElem? (i := 814) (by decide +kernel)) (by decide +kernel)
theorem wI_M_heaviest : Cond.instanceMethod yM_heaviest ∈ LG := LG_in (List.mem_of_getElem? (i := 816) (by decide +kernel)) (by decide +kernel)
theorem wC_M_heaviest : Cond.code yM_heaviest bM_heaviest 8 (some .int) ∈ LG := LG_in (List.mem_of_getElem? (i := 817) (by decide +kernel)) (by decide +kernel)
theorem wM_M_155 : Cond.methodLink RM 155 yM_next ∈ LG := LG_in (List.mem_of_getElem? (i := 818) (by decide +kernel)) (by decide +kernel)
theorem wI_M_next : Cond.instanceMethod yM_next ∈ LG := LG_in (List.mem_of_getElem? (i := 820) (by decide +kernel)) (by decide +kernel)
theorem wC_M_next : Cond.code yM_next bM_next 5 (some .boolean) ∈ LG := LG_in (List.mem_of_getElem? (i := 821) (by decide +kernel)) (by decide +kernel)
theorem wM_M_168 : Cond.methodLink RM 168 yM_isGood ∈ LG := LG_in (List.mem_of_getElem? (i := 822) (by decide +kernel)) (by decide +kernel)
theorem wI_M_isGood : Cond.instanceMethod yM_isGood ∈ LG := LG_in (List.mem_of_getElem? (i := 824) (by decide +kernel)) (by decide +kernel)
theorem wC_M_isGood : Cond.code yM_isGood bM_isGood 5 (some .boolean) ∈ LG := LG_in (List.mem_of_getElem? (i := 825) (by decide +kernel)) (by decide +kernel)
theorem wM_M_175 : Cond.methodLink RM 175 yM_grow ∈ LG := LG_in (List.mem_of_getElem? (i := 826) (by decide +kernel)) (by decide +kernel)
theorem wI_M_grow : Cond.instanceMethod yM_grow ∈ LG := LG_in (List.mem_of_getElem? (i := 828) (by decide +kernel)) (by decide +kernel)
theorem wC_M_grow : Cond.code yM_grow bM_grow 9 none ∈ LG := LG_in (List.mem_of_getElem? (i := 829) (by decide +kernel)) (by decide +kernel)
theorem wM_M_186 : Cond.methodLink RM 186 yM_put ∈ LG := LG_in (List.mem_of_getElem? (i := 830) (by decide +kernel)) (by decide +kernel)
theorem wI_M_put : Cond.instanceMethod yM_put ∈ LG := LG_in (List.mem_of_getElem? (i := 832) (by decide +kernel)) (by decide +kernel)
theorem wC_M_put : Cond.code yM_put bM_put 6 (some .int) ∈ LG := LG_in (List.mem_of_getElem? (i := 833) (by decide +kernel)) (by decide +kernel)
theorem wM_L_99 : Cond.methodLink RL 99 yM_weight ∈ LG := LG_in (List.mem_of_getElem? (i := 834) (by decide +kernel)) (by decide +kernel)
theorem wI_M_weight : Cond.instanceMethod yM_weight ∈ LG := LG_in (List.mem_of_getElem? (i := 835) (by decide +kernel)) (by decide +kernel)
theorem wSel_M_weight : Cond.selects RM yM_weight yM_weight ∈ LG := LG_in (List.mem_of_getElem? (i := 836) (by decide +kernel)) (by decide +kernel)
theorem wC_M_weight : Cond.code yM_weight bM_weight 1 (some .double) ∈ LG := LG_in (List.mem_of_getElem? (i := 837) (by decide +kernel)) (by decide +kernel)
theorem wM_L_103 : Cond.methodLink RL 103 yM_node ∈ LG := LG_in (List.mem_of_getElem? (i := 838) (by decide +kernel)) (by decide +kernel)
theorem wI_M_node : Cond.instanceMethod yM_node ∈ LG := LG_in (List.mem_of_getElem? (i := 839) (by decide +kernel)) (by decide +kernel)
theorem wSel_M_node : Cond.selects RM yM_node yM_node ∈ LG := LG_in (List.mem_of_getElem? (i := 840) (by decide +kernel)) (by decide +kernel)
theorem wC_M_node : Cond.code yM_node bM_node 3 (some .int) ∈ LG := LG_in (List.mem_of_getElem? (i := 841) (by decide +kernel)) (by decide +kernel)
theorem wM_L_107 : Cond.methodLink RL 107 yM_many ∈ LG := LG_in (List.mem_of_getElem? (i := 842) (by decide +kernel)) (by decide +kernel)
theorem wI_M_many : Cond.instanceMethod yM_many ∈ LG := LG_in (List.mem_of_getElem? (i := 843) (by decide +kernel)) (by decide +kernel)
theorem wSel_M_many : Cond.selects RM yM_many yM_many ∈ LG := LG_in (List.mem_of_getElem? (i := 844) (by decide +kernel)) (by decide +kernel)
theorem wC_M_many : Cond.code yM_many bM_many 4 (some .int) ∈ LG := LG_in (List.mem_of_getElem? (i := 845) (by decide +kernel)) (by decide +kernel)
theorem wM_L_111 : Cond.methodLink RL 111 yM_count1 ∈ LG := LG_in (List.mem_of_getElem? (i := 846) (by decide +kernel)) (by decide +kernel)
theorem wI_M_count1 : Cond.instanceMethod yM_count1 ∈ LG := LG_in (List.mem_of_getElem? (i := 847) (by decide +kernel)) (by decide +kernel)
theorem wSel_M_count1 : Cond.selects RM yM_count1 yM_count1 ∈ LG := LG_in (List.mem_of_getElem? (i := 848) (by decide +kernel)) (by decide +kernel)
theorem wC_M_count1 : Cond.code yM_count1 bM_count1 2 (some .int) ∈ LG := LG_in (List.mem_of_getElem? (i := 849) (by decide +kernel)) (by decide +kernel)
theorem wK_L_59 : Cond.constantLong RL 59 (4294967295 : Int64) ∈ LG := LG_in (List.mem_of_getElem? (i := 850) (by decide +kernel)) (by decide +kernel)
theorem wK_L_71 : Cond.constantDouble RL 71 (4593671619917905920 : UInt64) ∈ LG := LG_in (List.mem_of_getElem? (i := 851) (by decide +kernel)) (by decide +kernel)
theorem wArr_long : Cond.arrayClass .long ∈ LG := LG_in (List.mem_of_getElem? (i := 852) (by decide +kernel)) (by decide +kernel)
theorem inC : ∀ w ∈ u_ws RC TC 7, w ∈ LG := by
  have h : ∀ k, k < 7 → u_lay RC TC k ∈ LG := by
    intro k hk
    match k, hk with
    | 0, _ => exact LG_in (List.mem_of_getElem? (i := 119) (by decide +kernel)) (by decide +kernel)
    | 1, _ => exact LG_in (List.mem_of_getElem? (i := 121) (by decide +kernel)) (by decide +kernel)
    | 2, _ => exact LG_in (List.mem_of_getElem? (i := 123) (by decide +kernel)) (by decide +kernel)
    | 3, _ => exact LG_in (List.mem_of_getElem? (i := 125) (by decide +kernel)) (by decide +kernel)
    | 4, _ => exact LG_in (List.mem_of_getElem? (i := 127) (by decide +kernel)) (by decide +kernel)
    | 5, _ => exact LG_in (List.mem_of_getElem? (i := 129) (by decide +kernel)) (by decide +kernel)
    | 6, _ => exact LG_in (List.mem_of_getElem? (i := 131) (by decide +kernel)) (by decide +kernel)
    | k + 7, hk => exact absurd hk (by omega)
  intro w hw
  obtain ⟨k, hk, rfl⟩ := List.mem_map.mp hw
  exact h k (List.mem_range.mp hk)
theorem inG : ∀ w ∈ u_ws RG TG 8, w ∈ LG := by
  have h : ∀ k, k < 8 → u_lay RG TG k ∈ LG := by
    intro k hk
    match k, hk with
    | 0, _ => exact LG_in (List.mem_of_getElem? (i := 87) (by decide +kernel)) (by decide +kernel)
    | 1, _ => exact LG_in (List.mem_of_getElem? (i := 89) (by decide +kernel)) (by decide +kernel)
    | 2, _ => exact LG_in (List.mem_of_getElem? (i := 91) (by decide +kernel)) (by decide +kernel)
    | 3, _ => exact LG_in (List.mem_of_getElem? (i := 93) (by decide +kernel)) (by decide +kernel)
    | 4, _ => exact LG_in (List.mem_of_getElem? (i := 95) (by decide +kernel)) (by decide +kernel)
    | 5, _ => exact LG_in (List.mem_of_getElem? (i := 97) (by decide +kernel)) (by decide +kernel)
    | 6, _ => exact LG_in (List.mem_of_getElem? (i := 99) (by decide +kernel)) (by decide +kernel)
    | 7, _ => exact LG_in (List.mem_of_getElem? (i := 101) (by decide +kernel)) (by decide +kernel)
    | k + 8, hk => exact absurd hk (by omega)
  intro w hw
  obtain ⟨k, hk, rfl⟩ := List.mem_map.mp hw
  exact h k (List.mem_range.mp hk)
theorem inT : ∀ w ∈ u_ws RT TT 2, w ∈ LG := by
  have h : ∀ k, k < 2 → u_lay RT TT k ∈ LG := by
    intro k hk
    match k, hk with
    | 0, _ => exact LG_in (List.mem_of_getElem? (i := 67) (by decide +kernel)) (by decide +kernel)
    | 1, _ => exact LG_in (List.mem_of_getElem? (i := 69) (by decide +kernel)) (by decide +kernel)
    | k + 2, hk => exact absurd hk (by omega)
  intro w hw
  obtain ⟨k, hk, rfl⟩ := List.mem_map.mp hw
  exact h k (List.mem_range.mp hk)
theorem inE : ∀ w ∈ u_ws RE TE 4, w ∈ LG := by
  have h : ∀ k, k < 4 → u_lay RE TE k ∈ LG := by
    intro k hk
    match k, hk with
    | 0, _ => exact LG_in (List.mem_of_getElem? (i := 144) (by decide +kernel)) (by decide +kernel)
    | 1, _ => exact LG_in (List.mem_of_getElem? (i := 146) (by decide +kernel)) (by decide +kernel)
    | 2, _ => exact LG_in (List.mem_of_getElem? (i := 148) (by decide +kernel)) (by decide +kernel)
    | 3, _ => exact LG_in (List.mem_of_getElem? (i := 150) (by decide +kernel)) (by decide +kernel)
    | k + 4, hk => exact absurd hk (by omega)
  intro w hw
  obtain ⟨k, hk, rfl⟩ := List.mem_map.mp hw
  exact h k (List.mem_range.mp hk)
theorem inP : ∀ w ∈ u_ws RP TP 7, w ∈ LG := by
  have h : ∀ k, k < 7 → u_lay RP TP k ∈ LG := by
    intro k hk
    match k, hk with
    | 0, _ => exact LG_in (List.mem_of_getElem? (i := 160) (by decide +kernel)) (by decide +kernel)
    | 1, _ => exact LG_in (List.mem_of_getElem? (i := 162) (by decide +kernel)) (by decide +kernel)
    | 2, _ => exact LG_in (List.mem_of_getElem? (i := 164) (by decide +kernel)) (by decide +kernel)
    | 3, _ => exact LG_in (List.mem_of_getElem? (i := 166) (by decide +kernel)) (by decide +kernel)
    | 4, _ => exact LG_in (List.mem_of_getElem? (i := 168) (by decide +kernel)) (by decide +kernel)
    | 5, _ => exact LG_in (List.mem_of_getElem? (i := 170) (by decide +kernel)) (by decide +kernel)
    | 6, _ => exact LG_in (List.mem_of_getElem? (i := 172) (by decide +kernel)) (by decide +kernel)
    | k + 7, hk => exact absurd hk (by omega)
  intro w hw
  obtain ⟨k, hk, rfl⟩ := List.mem_map.mp hw
  exact h k (List.mem_range.mp hk)
theorem inM : ∀ w ∈ u_ws RM TM 29, w ∈ LG := by
  have h : ∀ k, k < 29 → u_lay RM TM k ∈ LG := by
    intro k hk
    match k, hk with
    | 0, _ => exact LG_in (List.mem_of_getElem? (i := 654) (by decide +kernel)) (by decide +kernel)
    | 1, _ => exact LG_in (List.mem_of_getElem? (i := 656) (by decide +kernel)) (by decide +kernel)
    | 2, _ => exact LG_in (List.mem_of_getElem? (i := 658) (by decide +kernel)) (by decide +kernel)
    | 3, _ => exact LG_in (List.mem_of_getElem? (i := 660) (by decide +kernel)) (by decide +kernel)
    | 4, _ => exact LG_in (List.mem_of_getElem? (i := 662) (by decide +kernel)) (by decide +kernel)
    | 5, _ => exact LG_in (List.mem_of_getElem? (i := 664) (by decide +kernel)) (by decide +kernel)
    | 6, _ => exact LG_in (List.mem_of_getElem? (i := 666) (by decide +kernel)) (by decide +kernel)
    | 7, _ => exact LG_in (List.mem_of_getElem? (i := 668) (by decide +kernel)) (by decide +kernel)
    | 8, _ => exact LG_in (List.mem_of_getElem? (i := 670) (by decide +kernel)) (by decide +kernel)
    | 9, _ => exact LG_in (List.mem_of_getElem? (i := 672) (by decide +kernel)) (by decide +kernel)
    | 10, _ => exact LG_in (List.mem_of_getElem? (i := 674) (by decide +kernel)) (by decide +kernel)
    | 11, _ => exact LG_in (List.mem_of_getElem? (i := 676) (by decide +kernel)) (by decide +kernel)
    | 12, _ => exact LG_in (List.mem_of_getElem? (i := 678) (by decide +kernel)) (by decide +kernel)
    | 13, _ => exact LG_in (List.mem_of_getElem? (i := 680) (by decide +kernel)) (by decide +kernel)
    | 14, _ => exact LG_in (List.mem_of_getElem? (i := 682) (by decide +kernel)) (by decide +kernel)
    | 15, _ => exact LG_in (List.mem_of_getElem? (i := 684) (by decide +kernel)) (by decide +kernel)
    | 16, _ => exact LG_in (List.mem_of_getElem? (i := 686) (by decide +kernel)) (by decide +kernel)
    | 17, _ => exact LG_in (List.mem_of_getElem? (i := 688) (by decide +kernel)) (by decide +kernel)
    | 18, _ => exact LG_in (List.mem_of_getElem? (i := 690) (by decide +kernel)) (by decide +kernel)
    | 19, _ => exact LG_in (List.mem_of_getElem? (i := 692) (by decide +kernel)) (by decide +kernel)
    | 20, _ => exact LG_in (List.mem_of_getElem? (i := 694) (by decide +kernel)) (by decide +kernel)
    | 21, _ => exact LG_in (List.mem_of_getElem? (i := 696) (by decide +kernel)) (by decide +kernel)
    | 22, _ => exact LG_in (List.mem_of_getElem? (i := 698) (by decide +kernel)) (by decide +kernel)
    | 23, _ => exact LG_in (List.mem_of_getElem? (i := 700) (by decide +kernel)) (by decide +kernel)
    | 24, _ => exact LG_in (List.mem_of_getElem? (i := 702) (by decide +kernel)) (by decide +kernel)
    | 25, _ => exact LG_in (List.mem_of_getElem? (i := 704) (by decide +kernel)) (by decide +kernel)
    | 26, _ => exact LG_in (List.mem_of_getElem? (i := 706) (by decide +kernel)) (by decide +kernel)
    | 27, _ => exact LG_in (List.mem_of_getElem? (i := 708) (by decide +kernel)) (by decide +kernel)
    | 28, _ => exact LG_in (List.mem_of_getElem? (i := 710) (by decide +kernel)) (by decide +kernel)
    | k + 29, hk => exact absurd hk (by omega)
  intro w hw
  obtain ⟨k, hk, rfl⟩ := List.mem_map.mp hw
  exact h k (List.mem_range.mp hk)

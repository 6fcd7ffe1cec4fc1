theorem hdl_type : yL_type.cls ≠ "java/lang/invoke/MethodHandle" ∧ yL_type.cls ≠ "java/lang/invoke/VarHandle" ∧ (parseMethodDescriptor yL_type.desc).map (fun d => d.parameters.length) = some 3 := by decide +kernel
theorem hdl_rule : yL_rule.cls ≠ "java/lang/invoke/MethodHandle" ∧ yL_rule.cls ≠ "java/lang/invoke/VarHandle" ∧ (parseMethodDescriptor yL_rule.desc).map (fun d => d.parameters.length) = some 3 := by decide +kernel
theorem hdl_mark : yL_mark.cls ≠ "java/lang/invoke/MethodHandle" ∧ yL_mark.cls ≠ "java/lang/invoke/VarHandle" ∧ (parseMethodDescriptor yL_mark.desc).map (fun d => d.parameters.length) = some 3 := by decide +kernel
theorem hdl_bar : yL_bar.cls ≠ "java/lang/invoke/MethodHandle" ∧ yL_bar.cls ≠ "java/lang/invoke/VarHandle" ∧ (parseMethodDescriptor yL_bar.desc).map (fun d => d.parameters.length) = some 4 := by decide +kernel
theorem hdl_follow : yL_follow.cls ≠ "java/lang/invoke/MethodHandle" ∧ yL_follow.cls ≠ "java/lang/invoke/VarHandle" ∧ (parseMethodDescriptor yL_follow.desc).map (fun d => d.parameters.length) = some 4 := by decide +kernel
theorem hdl_undo : yL_undo.cls ≠ "java/lang/invoke/MethodHandle" ∧ yL_undo.cls ≠ "java/lang/invoke/VarHandle" ∧ (parseMethodDescriptor yL_undo.desc).map (fun d => d.parameters.length) = some 1 := by decide +kernel
theorem hdl_parse : yL_parse.cls ≠ "java/lang/invoke/MethodHandle" ∧ yL_parse.cls ≠ "java/lang/invoke/VarHandle" ∧ (parseMethodDescriptor yL_parse.desc).map (fun d => d.parameters.length) = some 3 := by decide +kernel
theorem hdl_weight : yL_weight.cls ≠ "java/lang/invoke/MethodHandle" ∧ yL_weight.cls ≠ "java/lang/invoke/VarHandle" ∧ (parseMethodDescriptor yL_weight.desc).map (fun d => d.parameters.length) = some 2 := by decide +kernel
theorem hdl_node : yL_node.cls ≠ "java/lang/invoke/MethodHandle" ∧ yL_node.cls ≠ "java/lang/invoke/VarHandle" ∧ (parseMethodDescriptor yL_node.desc).map (fun d => d.parameters.length) = some 4 := by decide +kernel
theorem hdl_many : yL_many.cls ≠ "java/lang/invoke/MethodHandle" ∧ yL_many.cls ≠ "java/lang/invoke/VarHandle" ∧ (parseMethodDescriptor yL_many.desc).map (fun d => d.parameters.length) = some 5 := by decide +kernel
set_option maxHeartbeats 4000000 in
set_option maxRecDepth 100000 in
theorem law_type {K : KX} {ad am : Nat → Nat} {oa od b Lg i : Nat} {cI cD cZ cJ : ClassId} {xs : Nat → Int32} {h : SH} {m : ST} (C : CT K bL_law RL (ty4 cI cD cZ cJ) 9) (X : XK K) (hX : SCR K b Lg xs) (hL : Lg < 2147483648) (hr1 : kce K + 1 ≤ (kR K).cells) (hr2 : ksl K + 6 ≤ (kR K).slots) (hkn : kn K = 9) (hi : i + 4 ≤ Lg) (J : JV h.1 m) (hend : ∀ (h2 : SH) (n : ST), JV h2.1 n → WA (kset K (kce K + 1) (ksl K + 6)) (WM am cI cD cZ n ++ WH ad oa od cI cD cZ cJ h2) [some (.ref b), some (.ref (ad 0)), some (.ref (am 0)), some (.ref oa), some (.ref od), some (.int (nI i)), none, none, none] 776 []) : WA K (WM am cI cD cZ m ++ WH ad oa od cI cD cZ cJ h) [some (.ref b), some (.ref (ad 0)), some (.ref (am 0)), some (.ref oa), some (.ref od), some (.int (nI i)), none, none, none] 104 [] := by
  have C1 := C.set hr1 hr2
  have hRm : m.1 0 ≤ 16 := (ge_ok J.2.2.2.2.2.2.1.2.2.1 J.2.2.2.2.2.2.1.1).1
  refine a_aloadn C dL_law_104 rfl rfl ?_
  refine a_aloadn C dL_law_105 rfl rfl ?_
  refine a_iload C dL_law_106 rfl ?_
  refine a_iconst (v := 1) C dL_law_108 (by decide) ?_
  refine a_iadd C dL_law_109 ?_
  refine s_ld C hX hL dL_law_110 (by omega) ?_
  refine a_i2lg C dL_law_111 ?_
  refine a_bipush (v := 32) C dL_law_112 (by decide) ?_
  refine a_lshl32 C dL_law_114 ?_
  refine a_aloadn C dL_law_115 rfl rfl ?_
  refine a_iload C dL_law_116 rfl ?_
  refine a_iconst (v := 2) C dL_law_118 (by decide) ?_
  refine a_iadd C dL_law_119 ?_
  refine s_ld C hX hL dL_law_120 (by omega) ?_
  refine a_i2lg C dL_law_121 ?_
  refine a_ldc2 (n := 4294967295) C wK_L_59 dL_law_122 (by decide) ?_
  refine a_landg C dL_law_125 ?_
  refine a_lorE C dL_law_126 ?_
  refine a_aloadn C dL_law_127 rfl rfl ?_
  refine e_H (w1 := WM am cI cD cZ m) (w2 := []) (WW := WH ad oa od cI cD cZ cJ) (h := h) (As := [.ref (ad 0), .long (lN (lov (shl32 (sx (sv xs (i + 1)))) (sx (sv xs (i + 2)) &&& lN 4294967295))), .ref oa]) C X (c_L_type (kl K) (kD K) ad oa od cI cD cZ cJ h X.2.2 (lov (shl32 (sx (sv xs (i + 1)))) (sx (sv xs (i + 2)) &&& lN 4294967295)) lov_lt J.2.2.2.2.1.1.1) wM_L_61 wSt_L_type wIni_L wC_L_type hdl_type (by decide) (by decide) rfl rfl (Nat.le_of_ble_eq_true rfl) dL_law_128 hr1 hr2 ?_
  intro c h2 hc hp2
  rw [List.append_nil]
  refine ist_6 C1 dL_law_131 (show 6 < kn K by omega) rfl ?_
  refine a_aloadn C1 dL_law_133 rfl rfl ?_
  refine a_aloadn C1 dL_law_134 rfl rfl ?_
  refine a_iload C1 dL_law_135 rfl ?_
  refine a_iconst (v := 1) C1 dL_law_137 (by decide) ?_
  refine a_iadd C1 dL_law_138 ?_
  refine s_ld C1 hX hL dL_law_139 (by omega) ?_
  refine a_i2lg C1 dL_law_140 ?_
  refine a_bipush (v := 32) C1 dL_law_141 (by decide) ?_
  refine a_lshl32 C1 dL_law_143 ?_
  refine a_aloadn C1 dL_law_144 rfl rfl ?_
  refine a_iload C1 dL_law_145 rfl ?_
  refine a_iconst (v := 2) C1 dL_law_147 (by decide) ?_
  refine a_iadd C1 dL_law_148 ?_
  refine s_ld C1 hX hL dL_law_149 (by omega) ?_
  refine a_i2lg C1 dL_law_150 ?_
  refine a_ldc2 (n := 4294967295) C1 wK_L_59 dL_law_151 (by decide) ?_
  refine a_landg C1 dL_law_154 ?_
  refine a_lorE C1 dL_law_155 ?_
  refine e_I (w1 := []) (w2 := WH ad oa od cI cD cZ cJ h2) (WW := WM am cI cD cZ) (x := m) C1 (fun H locs ls hP hD hS hl => runV C1 (As := [_]) (c_M_type (kl K) (kD K) am cI cD cZ cJ m (lov (shl32 (sx (sv xs (i + 1)))) (sx (sv xs (i + 2)) &&& lN 4294967295)) lov_lt (j_ch33 J).1 H.size) wM_L_66 wI_M_type wSel_M_type wIni_M wC_M_type hd_M_type (by decide) (by decide) (q0 := 0) rfl rfl rfl rfl (Nat.le_of_ble_eq_true rfl) dL_law_156 hP hD hl) ?_
  intro rr n hrr hn2
  have ST := jt_type J hp2 hn2
  obtain ⟨J2, e5, ev⟩ := ST
  refine ist_7 C1 dL_law_159 (show 7 < kn K by omega) rfl ?_
  refine a_aloadn C1 dL_law_161 rfl rfl ?_
  refine e_I (w1 := []) (w2 := WH ad oa od cI cD cZ cJ h2) (WW := WM am cI cD cZ) (x := n) C1 (fun H locs ls hP hD hS hl => runV C1 (As := []) (c_M_thrown (kl K) (kD K) am cI cD cZ cJ n (J2.2.1.2 5) H.size) wM_L_67 wI_M_thrown wSel_M_thrown wIni_M wC_M_thrown hd_M_thrown (by decide) (by decide) (q0 := 0) rfl rfl rfl rfl (Nat.le_of_ble_eq_true rfl) dL_law_162 hP hD hl) ?_
  intro c2 n2 hc2 hn3
  obtain ⟨rfl, rfl⟩ := hn3
  refine a_iload C1 dL_law_165 rfl ?_
  refine a_ceq (tgt := 172) C1 dL_law_167 (by decide) (by omega) (by omega) (fun _ => ?_) (fun q => absurd e5 q)
  refine a_iload C1 dL_law_172 rfl ?_
  refine a_ifne (tgt := 189) C1 dL_law_174 (by decide) (by omega) (fun _ => ?_) (fun hz => ?_)
  · skip
    refine a_goto (tgt := 776) C1 dL_law_189 (by decide) ?_
    exact a_f3 (hend h2 n J2)
  · skip
    refine a_aloadn C1 dL_law_177 rfl rfl ?_
    refine a_iconst (v := 0) C1 dL_law_178 (by decide) ?_
    refine a_lald C1 dL_law_179 (q0 := 44) (t0 := 3) rfl rfl (by decide) (by decide) ?_
    refine a_iload C1 dL_law_180 rfl ?_
    refine a_i2lg C1 dL_law_182 ?_
    refine a_lcmpS C1 dL_law_183 (ev hz) ?_
    refine a_ifeq (tgt := 189) C1 dL_law_184 (by decide) (by decide) (fun _ => ?_) (fun q => absurd rfl q)
    refine a_goto (tgt := 776) C1 dL_law_189 (by decide) ?_
    exact a_f3 (hend h2 n J2)
set_option maxHeartbeats 4000000 in
set_option maxRecDepth 100000 in
theorem law_rule {K : KX} {ad am : Nat → Nat} {oa od b Lg i : Nat} {cI cD cZ cJ : ClassId} {xs : Nat → Int32} {h : SH} {m : ST} (C : CT K bL_law RL (ty4 cI cD cZ cJ) 9) (X : XK K) (hX : SCR K b Lg xs) (hL : Lg < 2147483648) (hr1 : kce K + 1 ≤ (kR K).cells) (hr2 : ksl K + 6 ≤ (kR K).slots) (hkn : kn K = 9) (hi : i + 4 ≤ Lg) (J : JV h.1 m) (hend : ∀ (h2 : SH) (n : ST), JV h2.1 n → WA (kset K (kce K + 1) (ksl K + 6)) (WM am cI cD cZ n ++ WH ad oa od cI cD cZ cJ h2) [some (.ref b), some (.ref (ad 0)), some (.ref (am 0)), some (.ref oa), some (.ref od), some (.int (nI i)), none, none, none] 776 []) : WA K (WM am cI cD cZ m ++ WH ad oa od cI cD cZ cJ h) [some (.ref b), some (.ref (ad 0)), some (.ref (am 0)), some (.ref oa), some (.ref od), some (.int (nI i)), none, none, none] 192 [] := by
  have C1 := C.set hr1 hr2
  have hRm : m.1 0 ≤ 16 := (ge_ok J.2.2.2.2.2.2.1.2.2.1 J.2.2.2.2.2.2.1.1).1
  refine a_aloadn C dL_law_192 rfl rfl ?_
  refine a_aloadn C dL_law_193 rfl rfl ?_
  refine a_iload C dL_law_194 rfl ?_
  refine a_iconst (v := 1) C dL_law_196 (by decide) ?_
  refine a_iadd C dL_law_197 ?_
  refine s_ld C hX hL dL_law_198 (by omega) ?_
  refine a_i2d C dL_law_199 ?_
  refine a_ldc2d C wK_L_71 dL_law_200 ?_
  refine a_dmul C dL_law_203 (fp_iw _) ?_
  refine a_aloadn C dL_law_204 rfl rfl ?_
  refine e_H (w1 := WM am cI cD cZ m) (w2 := []) (WW := WH ad oa od cI cD cZ cJ) (h := h) (As := [.ref (ad 0), .double (FP.dmul (FP.i2d (nI (sv xs (i + 1)))) 4593671619917905920), .ref oa]) C X (c_L_rule (kl K) (kD K) ad oa od cI cD cZ cJ h X.2.2 (FP.dmul (FP.i2d (nI (sv xs (i + 1)))) 4593671619917905920) J.1 J.2.2.2.2.1.1 J.2.2.2.2.2.2.1.1) wM_L_73 wSt_L_rule wIni_L wC_L_rule hdl_rule (by decide) (by decide) rfl rfl (Nat.le_of_ble_eq_true rfl) dL_law_205 hr1 hr2 ?_
  intro c h2 hc hp2
  rw [List.append_nil]
  refine ist_6 C1 dL_law_208 (show 6 < kn K by omega) rfl ?_
  refine a_aloadn C1 dL_law_210 rfl rfl ?_
  refine a_aloadn C1 dL_law_211 rfl rfl ?_
  refine a_iload C1 dL_law_212 rfl ?_
  refine a_iconst (v := 1) C1 dL_law_214 (by decide) ?_
  refine a_iadd C1 dL_law_215 ?_
  refine s_ld C1 hX hL dL_law_216 (by omega) ?_
  refine a_i2d C1 dL_law_217 ?_
  refine a_ldc2d C1 wK_L_71 dL_law_218 ?_
  refine a_dmul C1 dL_law_221 (fp_iw _) ?_
  refine e_I (w1 := []) (w2 := WH ad oa od cI cD cZ cJ h2) (WW := WM am cI cD cZ) (x := m) C1 (fun H locs ls hP hD hS hl => runV C1 (As := [_]) (c_M_rule (kl K) (kD K) am cI cD cZ cJ m (FP.dmul (FP.i2d (nI (sv xs (i + 1)))) 4593671619917905920) J.2.1 (j_ch33 J).1 (j_ch33 J).2 (ge_ok J.2.2.2.2.2.2.1.2.2.1 J.2.2.2.2.2.2.1.1) H.size) wM_L_76 wI_M_rule wSel_M_rule wIni_M wC_M_rule hd_M_rule (by decide) (by decide) (q0 := 0) rfl rfl rfl rfl (Nat.le_of_ble_eq_true rfl) dL_law_222 hP hD hl) ?_
  intro rr n hrr hn2
  have ST := jt_rule J hp2 hn2
  obtain ⟨J2, e5, ev⟩ := ST
  refine ist_7 C1 dL_law_225 (show 7 < kn K by omega) rfl ?_
  refine a_aloadn C1 dL_law_227 rfl rfl ?_
  refine e_I (w1 := []) (w2 := WH ad oa od cI cD cZ cJ h2) (WW := WM am cI cD cZ) (x := n) C1 (fun H locs ls hP hD hS hl => runV C1 (As := []) (c_M_thrown (kl K) (kD K) am cI cD cZ cJ n (J2.2.1.2 5) H.size) wM_L_67 wI_M_thrown wSel_M_thrown wIni_M wC_M_thrown hd_M_thrown (by decide) (by decide) (q0 := 0) rfl rfl rfl rfl (Nat.le_of_ble_eq_true rfl) dL_law_228 hP hD hl) ?_
  intro c2 n2 hc2 hn3
  obtain ⟨rfl, rfl⟩ := hn3
  refine a_iload C1 dL_law_231 rfl ?_
  refine a_ceq (tgt := 238) C1 dL_law_233 (by decide) (by omega) (by omega) (fun _ => ?_) (fun q => absurd e5 q)
  refine a_iload C1 dL_law_238 rfl ?_
  refine a_ifne (tgt := 255) C1 dL_law_240 (by decide) (by omega) (fun _ => ?_) (fun hz => ?_)
  · skip
    refine a_goto (tgt := 776) C1 dL_law_255 (by decide) ?_
    exact a_f3 (hend h2 n J2)
  · skip
    refine a_aloadn C1 dL_law_243 rfl rfl ?_
    refine a_iconst (v := 0) C1 dL_law_244 (by decide) ?_
    refine a_lald C1 dL_law_245 (q0 := 44) (t0 := 3) rfl rfl (by decide) (by decide) ?_
    refine a_iload C1 dL_law_246 rfl ?_
    refine a_i2lg C1 dL_law_248 ?_
    refine a_lcmpS C1 dL_law_249 (ev hz) ?_
    refine a_ifeq (tgt := 255) C1 dL_law_250 (by decide) (by decide) (fun _ => ?_) (fun q => absurd rfl q)
    refine a_goto (tgt := 776) C1 dL_law_255 (by decide) ?_
    exact a_f3 (hend h2 n J2)
set_option maxHeartbeats 4000000 in
set_option maxRecDepth 100000 in
theorem law_mark {K : KX} {ad am : Nat → Nat} {oa od b Lg i : Nat} {cI cD cZ cJ : ClassId} {xs : Nat → Int32} {h : SH} {m : ST} (C : CT K bL_law RL (ty4 cI cD cZ cJ) 9) (X : XK K) (hX : SCR K b Lg xs) (hL : Lg < 2147483648) (hr1 : kce K + 1 ≤ (kR K).cells) (hr2 : ksl K + 6 ≤ (kR K).slots) (hkn : kn K = 9) (hi : i + 4 ≤ Lg) (J : JV h.1 m) (hend : ∀ (h2 : SH) (n : ST), JV h2.1 n → WA (kset K (kce K + 1) (ksl K + 6)) (WM am cI cD cZ n ++ WH ad oa od cI cD cZ cJ h2) [some (.ref b), some (.ref (ad 0)), some (.ref (am 0)), some (.ref oa), some (.ref od), some (.int (nI i)), none, none, none] 776 []) : WA K (WM am cI cD cZ m ++ WH ad oa od cI cD cZ cJ h) [some (.ref b), some (.ref (ad 0)), some (.ref (am 0)), some (.ref oa), some (.ref od), some (.int (nI i)), none, none, none] 258 [] := by
  have C1 := C.set hr1 hr2
  have hRm : m.1 0 ≤ 16 := (ge_ok J.2.2.2.2.2.2.1.2.2.1 J.2.2.2.2.2.2.1.1).1
  refine a_aloadn C dL_law_258 rfl rfl ?_
  refine a_aloadn C dL_law_259 rfl rfl ?_
  refine a_iload C dL_law_260 rfl ?_
  refine a_iconst (v := 1) C dL_law_262 (by decide) ?_
  refine a_iadd C dL_law_263 ?_
  refine s_ld C hX hL dL_law_264 (by omega) ?_
  refine a_aloadn C dL_law_265 rfl rfl ?_
  refine a_iload C dL_law_266 rfl ?_
  refine a_iconst (v := 2) C dL_law_268 (by decide) ?_
  refine a_iadd C dL_law_269 ?_
  refine s_ld C hX hL dL_law_270 (by omega) ?_
  refine e_H (w1 := WM am cI cD cZ m) (w2 := []) (WW := WH ad oa od cI cD cZ cJ) (h := h) (As := [.ref (ad 0), .int (nI (sv xs (i + 1))), .int (nI (sv xs (i + 2)))]) C X (c_L_mark (kl K) (kD K) ad oa od cI cD cZ cJ h X.2.2 (sv xs (i + 1)) (sv xs (i + 2)) sv_32 sv_32 J.2.2.2.2.2.2.1.1.1) wM_L_77 wSt_L_mark wIni_L wC_L_mark hdl_mark (by decide) (by decide) rfl rfl (Nat.le_of_ble_eq_true rfl) dL_law_271 hr1 hr2 ?_
  intro c h2 hc hp2
  rw [List.append_nil]
  refine ist_6 C1 dL_law_274 (show 6 < kn K by omega) rfl ?_
  refine a_aloadn C1 dL_law_276 rfl rfl ?_
  refine a_aloadn C1 dL_law_277 rfl rfl ?_
  refine a_iload C1 dL_law_278 rfl ?_
  refine a_iconst (v := 1) C1 dL_law_280 (by decide) ?_
  refine a_iadd C1 dL_law_281 ?_
  refine s_ld C1 hX hL dL_law_282 (by omega) ?_
  refine a_aloadn C1 dL_law_283 rfl rfl ?_
  refine a_iload C1 dL_law_284 rfl ?_
  refine a_iconst (v := 2) C1 dL_law_286 (by decide) ?_
  refine a_iadd C1 dL_law_287 ?_
  refine s_ld C1 hX hL dL_law_288 (by omega) ?_
  refine e_V (w1 := []) (w2 := WH ad oa od cI cD cZ cJ h2) (WW := WM am cI cD cZ) (x := m) C1 (fun H locs ls hP hD hS hl => runV C1 (As := [_, _]) (c_M_mark (kl K) (kD K) am cI cD cZ cJ m (sv xs (i + 1)) (sv xs (i + 2)) sv_32 sv_32 hRm H.size) wM_L_80 wI_M_mark wSel_M_mark wIni_M wC_M_mark hd_M_mark (by decide) (by decide) (q0 := 0) rfl rfl rfl rfl (Nat.le_of_ble_eq_true rfl) dL_law_289 hP hD hl) ?_
  intro n hn2
  have ST := jt_mark J hp2 hn2
  obtain ⟨J2, e5⟩ := ST
  refine a_aloadn C1 dL_law_292 rfl rfl ?_
  refine e_I (w1 := []) (w2 := WH ad oa od cI cD cZ cJ h2) (WW := WM am cI cD cZ) (x := n) C1 (fun H locs ls hP hD hS hl => runV C1 (As := []) (c_M_thrown (kl K) (kD K) am cI cD cZ cJ n (J2.2.1.2 5) H.size) wM_L_67 wI_M_thrown wSel_M_thrown wIni_M wC_M_thrown hd_M_thrown (by decide) (by decide) (q0 := 0) rfl rfl rfl rfl (Nat.le_of_ble_eq_true rfl) dL_law_293 hP hD hl) ?_
  intro c2 n2 hc2 hn3
  obtain ⟨rfl, rfl⟩ := hn3
  refine a_iload C1 dL_law_296 rfl ?_
  refine a_ceq (tgt := 303) C1 dL_law_298 (by decide) (by omega) (by omega) (fun _ => ?_) (fun q => absurd e5 q)
  refine a_goto (tgt := 776) C1 dL_law_303 (by decide) ?_
  exact a_f3 (hend h2 n J2)
set_option maxHeartbeats 4000000 in
set_option maxRecDepth 100000 in
theorem law_bar {K : KX} {ad am : Nat → Nat} {oa od b Lg i : Nat} {cI cD cZ cJ : ClassId} {xs : Nat → Int32} {h : SH} {m : ST} (C : CT K bL_law RL (ty4 cI cD cZ cJ) 9) (X : XK K) (hX : SCR K b Lg xs) (hL : Lg < 2147483648) (hr1 : kce K + 1 ≤ (kR K).cells) (hr2 : ksl K + 6 ≤ (kR K).slots) (hkn : kn K = 9) (hi : i + 4 ≤ Lg) (J : JV h.1 m) (hend : ∀ (h2 : SH) (n : ST), JV h2.1 n → WA (kset K (kce K + 1) (ksl K + 6)) (WM am cI cD cZ n ++ WH ad oa od cI cD cZ cJ h2) [some (.ref b), some (.ref (ad 0)), some (.ref (am 0)), some (.ref oa), some (.ref od), some (.int (nI i)), none, none, none] 776 []) : WA K (WM am cI cD cZ m ++ WH ad oa od cI cD cZ cJ h) [some (.ref b), some (.ref (ad 0)), some (.ref (am 0)), some (.ref oa), some (.ref od), some (.int (nI i)), none, none, none] 306 [] := by
  have C1 := C.set hr1 hr2
  have hRm : m.1 0 ≤ 16 := (ge_ok J.2.2.2.2.2.2.1.2.2.1 J.2.2.2.2.2.2.1.1).1
  refine a_aloadn C dL_law_306 rfl rfl ?_
  refine a_aloadn C dL_law_307 rfl rfl ?_
  refine a_iload C dL_law_308 rfl ?_
  refine a_iconst (v := 1) C dL_law_310 (by decide) ?_
  refine a_iadd C dL_law_311 ?_
  refine s_ld C hX hL dL_law_312 (by omega) ?_
  refine a_aloadn C dL_law_313 rfl rfl ?_
  refine a_iload C dL_law_314 rfl ?_
  refine a_iconst (v := 2) C dL_law_316 (by decide) ?_
  refine a_iadd C dL_law_317 ?_
  refine s_ld C hX hL dL_law_318 (by omega) ?_
  refine a_aloadn C dL_law_319 rfl rfl ?_
  refine a_iload C dL_law_320 rfl ?_
  refine a_iconst (v := 3) C dL_law_322 (by decide) ?_
  refine a_iadd C dL_law_323 ?_
  refine s_ld C hX hL dL_law_324 (by omega) ?_
  refine a_bool (pc7 := 332) (pc8 := 333) C dL_law_325 dL_law_328 dL_law_329 rfl rfl dL_law_332 sv_32 ?_
  refine e_H (w1 := WM am cI cD cZ m) (w2 := []) (WW := WH ad oa od cI cD cZ cJ) (h := h) (As := [.ref (ad 0), .int (nI (sv xs (i + 1))), .int (nI (sv xs (i + 2))), .int (nI (bo (sv xs (i + 3))))]) C X (c_L_bar (kl K) (kD K) ad oa od cI cD cZ cJ h X.2.2 (sv xs (i + 1)) (sv xs (i + 2)) (bo (sv xs (i + 3))) sv_32 sv_32 (bo_le _) J.2.2.2.2.2.2.1.1.1) wM_L_81 wSt_L_bar wIni_L wC_L_bar hdl_bar (by decide) (by decide) rfl rfl (Nat.le_of_ble_eq_true rfl) dL_law_333 hr1 hr2 ?_
  intro c h2 hc hp2
  rw [List.append_nil]
  refine ist_6 C1 dL_law_336 (show 6 < kn K by omega) rfl ?_
  refine a_aloadn C1 dL_law_338 rfl rfl ?_
  refine a_aloadn C1 dL_law_339 rfl rfl ?_
  refine a_iload C1 dL_law_340 rfl ?_
  refine a_iconst (v := 1) C1 dL_law_342 (by decide) ?_
  refine a_iadd C1 dL_law_343 ?_
  refine s_ld C1 hX hL dL_law_344 (by omega) ?_
  refine a_aloadn C1 dL_law_345 rfl rfl ?_
  refine a_iload C1 dL_law_346 rfl ?_
  refine a_iconst (v := 2) C1 dL_law_348 (by decide) ?_
  refine a_iadd C1 dL_law_349 ?_
  refine s_ld C1 hX hL dL_law_350 (by omega) ?_
  refine a_aloadn C1 dL_law_351 rfl rfl ?_
  refine a_iload C1 dL_law_352 rfl ?_
  refine a_iconst (v := 3) C1 dL_law_354 (by decide) ?_
  refine a_iadd C1 dL_law_355 ?_
  refine s_ld C1 hX hL dL_law_356 (by omega) ?_
  refine a_bool (pc7 := 364) (pc8 := 365) C1 dL_law_357 dL_law_360 dL_law_361 rfl rfl dL_law_364 sv_32 ?_
  refine e_V (w1 := []) (w2 := WH ad oa od cI cD cZ cJ h2) (WW := WM am cI cD cZ) (x := m) C1 (fun H locs ls hP hD hS hl => runV C1 (As := [_, _, _]) (c_M_bar (kl K) (kD K) am cI cD cZ cJ m (sv xs (i + 1)) (sv xs (i + 2)) (bo (sv xs (i + 3))) sv_32 sv_32 (bo_le _) hRm H.size) wM_L_84 wI_M_bar wSel_M_bar wIni_M wC_M_bar hd_M_bar (by decide) (by decide) (q0 := 0) rfl rfl rfl rfl (Nat.le_of_ble_eq_true rfl) dL_law_365 hP hD hl) ?_
  intro n hn2
  have ST := jt_bar J (bo_le _) hp2 hn2
  obtain ⟨J2, e5⟩ := ST
  refine a_aloadn C1 dL_law_368 rfl rfl ?_
  refine e_I (w1 := []) (w2 := WH ad oa od cI cD cZ cJ h2) (WW := WM am cI cD cZ) (x := n) C1 (fun H locs ls hP hD hS hl => runV C1 (As := []) (c_M_thrown (kl K) (kD K) am cI cD cZ cJ n (J2.2.1.2 5) H.size) wM_L_67 wI_M_thrown wSel_M_thrown wIni_M wC_M_thrown hd_M_thrown (by decide) (by decide) (q0 := 0) rfl rfl rfl rfl (Nat.le_of_ble_eq_true rfl) dL_law_369 hP hD hl) ?_
  intro c2 n2 hc2 hn3
  obtain ⟨rfl, rfl⟩ := hn3
  refine a_iload C1 dL_law_372 rfl ?_
  refine a_ceq (tgt := 379) C1 dL_law_374 (by decide) (by omega) (by omega) (fun _ => ?_) (fun q => absurd e5 q)
  refine a_goto (tgt := 776) C1 dL_law_379 (by decide) ?_
  exact a_f3 (hend h2 n J2)
set_option maxHeartbeats 4000000 in
set_option maxRecDepth 100000 in
theorem law_follow {K : KX} {ad am : Nat → Nat} {oa od b Lg i : Nat} {cI cD cZ cJ : ClassId} {xs : Nat → Int32} {h : SH} {m : ST} (C : CT K bL_law RL (ty4 cI cD cZ cJ) 9) (X : XK K) (hX : SCR K b Lg xs) (hL : Lg < 2147483648) (hr1 : kce K + 1 ≤ (kR K).cells) (hr2 : ksl K + 6 ≤ (kR K).slots) (hkn : kn K = 9) (hi : i + 4 ≤ Lg) (J : JV h.1 m) (hend : ∀ (h2 : SH) (n : ST), JV h2.1 n → WA (kset K (kce K + 1) (ksl K + 6)) (WM am cI cD cZ n ++ WH ad oa od cI cD cZ cJ h2) [some (.ref b), some (.ref (ad 0)), some (.ref (am 0)), some (.ref oa), some (.ref od), some (.int (nI i)), none, none, none] 776 []) : WA K (WM am cI cD cZ m ++ WH ad oa od cI cD cZ cJ h) [some (.ref b), some (.ref (ad 0)), some (.ref (am 0)), some (.ref oa), some (.ref od), some (.int (nI i)), none, none, none] 382 [] := by
  have C1 := C.set hr1 hr2
  have hRm : m.1 0 ≤ 16 := (ge_ok J.2.2.2.2.2.2.1.2.2.1 J.2.2.2.2.2.2.1.1).1
  refine a_aloadn C dL_law_382 rfl rfl ?_
  refine a_aloadn C dL_law_383 rfl rfl ?_
  refine a_iload C dL_law_384 rfl ?_
  refine a_iconst (v := 1) C dL_law_386 (by decide) ?_
  refine a_iadd C dL_law_387 ?_
  refine s_ld C hX hL dL_law_388 (by omega) ?_
  refine a_aloadn C dL_law_389 rfl rfl ?_
  refine a_iload C dL_law_390 rfl ?_
  refine a_iconst (v := 2) C dL_law_392 (by decide) ?_
  refine a_iadd C dL_law_393 ?_
  refine s_ld C hX hL dL_law_394 (by omega) ?_
  refine a_aloadn C dL_law_395 rfl rfl ?_
  refine a_iload C dL_law_396 rfl ?_
  refine a_iconst (v := 3) C dL_law_398 (by decide) ?_
  refine a_iadd C dL_law_399 ?_
  refine s_ld C hX hL dL_law_400 (by omega) ?_
  refine a_bool (pc7 := 408) (pc8 := 409) C dL_law_401 dL_law_404 dL_law_405 rfl rfl dL_law_408 sv_32 ?_
  refine e_H (w1 := WM am cI cD cZ m) (w2 := []) (WW := WH ad oa od cI cD cZ cJ) (h := h) (As := [.ref (ad 0), .int (nI (sv xs (i + 1))), .int (nI (sv xs (i + 2))), .int (nI (bo (sv xs (i + 3))))]) C X (c_L_follow (kl K) (kD K) ad oa od cI cD cZ cJ h X.2.2 (sv xs (i + 1)) (sv xs (i + 2)) (bo (sv xs (i + 3))) sv_32 sv_32 (bo_le _)) wM_L_85 wSt_L_follow wIni_L wC_L_follow hdl_follow (by decide) (by decide) rfl rfl (Nat.le_of_ble_eq_true rfl) dL_law_409 hr1 hr2 ?_
  intro c h2 hc hp2
  rw [List.append_nil]
  refine ist_6 C1 dL_law_412 (show 6 < kn K by omega) rfl ?_
  refine a_aloadn C1 dL_law_414 rfl rfl ?_
  refine a_aloadn C1 dL_law_415 rfl rfl ?_
  refine a_iload C1 dL_law_416 rfl ?_
  refine a_iconst (v := 1) C1 dL_law_418 (by decide) ?_
  refine a_iadd C1 dL_law_419 ?_
  refine s_ld C1 hX hL dL_law_420 (by omega) ?_
  refine a_aloadn C1 dL_law_421 rfl rfl ?_
  refine a_iload C1 dL_law_422 rfl ?_
  refine a_iconst (v := 2) C1 dL_law_424 (by decide) ?_
  refine a_iadd C1 dL_law_425 ?_
  refine s_ld C1 hX hL dL_law_426 (by omega) ?_
  refine a_aloadn C1 dL_law_427 rfl rfl ?_
  refine a_iload C1 dL_law_428 rfl ?_
  refine a_iconst (v := 3) C1 dL_law_430 (by decide) ?_
  refine a_iadd C1 dL_law_431 ?_
  refine s_ld C1 hX hL dL_law_432 (by omega) ?_
  refine a_bool (pc7 := 440) (pc8 := 441) C1 dL_law_433 dL_law_436 dL_law_437 rfl rfl dL_law_440 sv_32 ?_
  refine e_V (w1 := []) (w2 := WH ad oa od cI cD cZ cJ h2) (WW := WM am cI cD cZ) (x := m) C1 (fun H locs ls hP hD hS hl => runV C1 (As := [_, _, _]) (c_M_follow (kl K) (kD K) am cI cD cZ cJ m (sv xs (i + 1)) (sv xs (i + 2)) (bo (sv xs (i + 3))) sv_32 sv_32 (bo_le _) H.size) wM_L_87 wI_M_follow wSel_M_follow wIni_M wC_M_follow hd_M_follow (by decide) (by decide) (q0 := 0) rfl rfl rfl rfl (Nat.le_of_ble_eq_true rfl) dL_law_441 hP hD hl) ?_
  intro n hn2
  have ST := jt_follow J (bo_le _) hp2 hn2
  obtain ⟨J2, e5⟩ := ST
  refine a_aloadn C1 dL_law_444 rfl rfl ?_
  refine e_I (w1 := []) (w2 := WH ad oa od cI cD cZ cJ h2) (WW := WM am cI cD cZ) (x := n) C1 (fun H locs ls hP hD hS hl => runV C1 (As := []) (c_M_thrown (kl K) (kD K) am cI cD cZ cJ n (J2.2.1.2 5) H.size) wM_L_67 wI_M_thrown wSel_M_thrown wIni_M wC_M_thrown hd_M_thrown (by decide) (by decide) (q0 := 0) rfl rfl rfl rfl (Nat.le_of_ble_eq_true rfl) dL_law_445 hP hD hl) ?_
  intro c2 n2 hc2 hn3
  obtain ⟨rfl, rfl⟩ := hn3
  refine a_iload C1 dL_law_448 rfl ?_
  refine a_ceq (tgt := 455) C1 dL_law_450 (by decide) (by omega) (by omega) (fun _ => ?_) (fun q => absurd e5 q)
  refine a_goto (tgt := 776) C1 dL_law_455 (by decide) ?_
  exact a_f3 (hend h2 n J2)
set_option maxHeartbeats 4000000 in
set_option maxRecDepth 100000 in
theorem law_undo {K : KX} {ad am : Nat → Nat} {oa od b Lg i : Nat} {cI cD cZ cJ : ClassId} {xs : Nat → Int32} {h : SH} {m : ST} (C : CT K bL_law RL (ty4 cI cD cZ cJ) 9) (X : XK K) (hX : SCR K b Lg xs) (hL : Lg < 2147483648) (hr1 : kce K + 1 ≤ (kR K).cells) (hr2 : ksl K + 6 ≤ (kR K).slots) (hkn : kn K = 9) (hi : i + 4 ≤ Lg) (J : JV h.1 m) (hend : ∀ (h2 : SH) (n : ST), JV h2.1 n → WA (kset K (kce K + 1) (ksl K + 6)) (WM am cI cD cZ n ++ WH ad oa od cI cD cZ cJ h2) [some (.ref b), some (.ref (ad 0)), some (.ref (am 0)), some (.ref oa), some (.ref od), some (.int (nI i)), none, none, none] 776 []) : WA K (WM am cI cD cZ m ++ WH ad oa od cI cD cZ cJ h) [some (.ref b), some (.ref (ad 0)), some (.ref (am 0)), some (.ref oa), some (.ref od), some (.int (nI i)), none, none, none] 458 [] := by
  have C1 := C.set hr1 hr2
  have hRm : m.1 0 ≤ 16 := (ge_ok J.2.2.2.2.2.2.1.2.2.1 J.2.2.2.2.2.2.1.1).1
  refine a_aloadn C dL_law_458 rfl rfl ?_
  refine e_H (w1 := WM am cI cD cZ m) (w2 := []) (WW := WH ad oa od cI cD cZ cJ) (h := h) (As := [.ref (ad 0)]) C X (c_L_undo (kl K) (kD K) ad oa od cI cD cZ cJ h X.2.2 J.1 J.2.2.2.2.2.2.1.1.1) wM_L_88 wSt_L_undo wIni_L wC_L_undo hdl_undo (by decide) (by decide) rfl rfl (Nat.le_of_ble_eq_true rfl) dL_law_459 hr1 hr2 ?_
  intro c h2 hc hp2
  rw [List.append_nil]
  refine ist_6 C1 dL_law_462 (show 6 < kn K by omega) rfl ?_
  refine a_aloadn C1 dL_law_464 rfl rfl ?_
  refine e_V (w1 := []) (w2 := WH ad oa od cI cD cZ cJ h2) (WW := WM am cI cD cZ) (x := m) C1 (fun H locs ls hP hD hS hl => runV C1 (As := []) (c_M_undo (kl K) (kD K) am cI cD cZ cJ m J.2.1 hRm H.size) wM_L_91 wI_M_undo wSel_M_undo wIni_M wC_M_undo hd_M_undo (by decide) (by decide) (q0 := 0) rfl rfl rfl rfl (Nat.le_of_ble_eq_true rfl) dL_law_465 hP hD hl) ?_
  intro n hn2
  have ST := jt_undo J hp2 hn2
  obtain ⟨J2, e5⟩ := ST
  refine a_aloadn C1 dL_law_468 rfl rfl ?_
  refine e_I (w1 := []) (w2 := WH ad oa od cI cD cZ cJ h2) (WW := WM am cI cD cZ) (x := n) C1 (fun H locs ls hP hD hS hl => runV C1 (As := []) (c_M_thrown (kl K) (kD K) am cI cD cZ cJ n (J2.2.1.2 5) H.size) wM_L_67 wI_M_thrown wSel_M_thrown wIni_M wC_M_thrown hd_M_thrown (by decide) (by decide) (q0 := 0) rfl rfl rfl rfl (Nat.le_of_ble_eq_true rfl) dL_law_469 hP hD hl) ?_
  intro c2 n2 hc2 hn3
  obtain ⟨rfl, rfl⟩ := hn3
  refine a_iload C1 dL_law_472 rfl ?_
  refine a_ceq (tgt := 479) C1 dL_law_474 (by decide) (by omega) (by omega) (fun _ => ?_) (fun q => absurd e5 q)
  refine a_goto (tgt := 776) C1 dL_law_479 (by decide) ?_
  exact a_f3 (hend h2 n J2)
set_option maxHeartbeats 4000000 in
set_option maxRecDepth 100000 in
theorem law_parse {K : KX} {ad am : Nat → Nat} {oa od b Lg i : Nat} {cI cD cZ cJ : ClassId} {xs : Nat → Int32} {h : SH} {m : ST} (C : CT K bL_law RL (ty4 cI cD cZ cJ) 9) (X : XK K) (hX : SCR K b Lg xs) (hL : Lg < 2147483648) (hr1 : kce K + 1 ≤ (kR K).cells) (hr2 : ksl K + 6 ≤ (kR K).slots) (hkn : kn K = 9) (hi : i + 4 ≤ Lg) (J : JV h.1 m) (hend : ∀ (h2 : SH) (n : ST), JV h2.1 n → WA (kset K (kce K + 1) (ksl K + 6)) (WM am cI cD cZ n ++ WH ad oa od cI cD cZ cJ h2) [some (.ref b), some (.ref (ad 0)), some (.ref (am 0)), some (.ref oa), some (.ref od), some (.int (nI i)), none, none, none] 776 []) : WA K (WM am cI cD cZ m ++ WH ad oa od cI cD cZ cJ h) [some (.ref b), some (.ref (ad 0)), some (.ref (am 0)), some (.ref oa), some (.ref od), some (.int (nI i)), none, none, none] 482 [] := by
  have C1 := C.set hr1 hr2
  have hRm : m.1 0 ≤ 16 := (ge_ok J.2.2.2.2.2.2.1.2.2.1 J.2.2.2.2.2.2.1.1).1
  refine a_aloadn C dL_law_482 rfl rfl ?_
  refine a_aloadn C dL_law_483 rfl rfl ?_
  refine a_iload C dL_law_484 rfl ?_
  refine a_iconst (v := 1) C dL_law_486 (by decide) ?_
  refine a_iadd C dL_law_487 ?_
  refine s_ld C hX hL dL_law_488 (by omega) ?_
  refine a_aloadn C dL_law_489 rfl rfl ?_
  refine e_H (w1 := WM am cI cD cZ m) (w2 := []) (WW := WH ad oa od cI cD cZ cJ) (h := h) (As := [.ref (ad 0), .int (nI (sv xs (i + 1))), .ref oa]) C X (c_L_parse (kl K) (kD K) ad oa od cI cD cZ cJ h X.2.2 (sv xs (i + 1)) sv_32 J.1 J.2.2.2.2.1.1 J.2.2.2.2.2.2.1.1 J.2.2.2.2.2.2.1.2.1 J.2.2.1) wM_L_92 wSt_L_parse wIni_L wC_L_parse hdl_parse (by decide) (by decide) rfl rfl (Nat.le_of_ble_eq_true rfl) dL_law_490 hr1 hr2 ?_
  intro c h2 hc hp2
  rw [List.append_nil]
  refine ist_6 C1 dL_law_493 (show 6 < kn K by omega) rfl ?_
  refine a_aloadn C1 dL_law_495 rfl rfl ?_
  refine a_aloadn C1 dL_law_496 rfl rfl ?_
  refine a_iload C1 dL_law_497 rfl ?_
  refine a_iconst (v := 1) C1 dL_law_499 (by decide) ?_
  refine a_iadd C1 dL_law_500 ?_
  refine s_ld C1 hX hL dL_law_501 (by omega) ?_
  refine e_I (w1 := []) (w2 := WH ad oa od cI cD cZ cJ h2) (WW := WM am cI cD cZ) (x := m) C1 (fun H locs ls hP hD hS hl => runV C1 (As := [_]) (c_M_parse (kl K) (kD K) am cI cD cZ cJ m (sv xs (i + 1)) sv_32 J.2.1 (j_ch33 J).1 (j_ch33 J).2 (ge_ok J.2.2.2.2.2.2.1.2.2.1 J.2.2.2.2.2.2.1.1) (ge_acy J.2.2.2.2.2.2.1.2.2.1 J.2.2.2.2.2.2.1.1 J.2.2.2.2.2.2.1.2.1) J.2.2.2.1.1 H.size) wM_L_95 wI_M_parse wSel_M_parse wIni_M wC_M_parse hd_M_parse (by decide) (by decide) (q0 := 0) rfl rfl rfl rfl (Nat.le_of_ble_eq_true rfl) dL_law_502 hP hD hl) ?_
  intro rr n hrr hn2
  have ST := jt_parse J hp2 hn2
  obtain ⟨J2, e5, ev⟩ := ST
  refine ist_7 C1 dL_law_505 (show 7 < kn K by omega) rfl ?_
  refine a_aloadn C1 dL_law_507 rfl rfl ?_
  refine e_I (w1 := []) (w2 := WH ad oa od cI cD cZ cJ h2) (WW := WM am cI cD cZ) (x := n) C1 (fun H locs ls hP hD hS hl => runV C1 (As := []) (c_M_thrown (kl K) (kD K) am cI cD cZ cJ n (J2.2.1.2 5) H.size) wM_L_67 wI_M_thrown wSel_M_thrown wIni_M wC_M_thrown hd_M_thrown (by decide) (by decide) (q0 := 0) rfl rfl rfl rfl (Nat.le_of_ble_eq_true rfl) dL_law_508 hP hD hl) ?_
  intro c2 n2 hc2 hn3
  obtain ⟨rfl, rfl⟩ := hn3
  refine a_iload C1 dL_law_511 rfl ?_
  refine a_ceq (tgt := 518) C1 dL_law_513 (by decide) (by omega) (by omega) (fun _ => ?_) (fun q => absurd e5 q)
  refine a_iload C1 dL_law_518 rfl ?_
  refine a_ifne (tgt := 535) C1 dL_law_520 (by decide) (by omega) (fun _ => ?_) (fun hz => ?_)
  · skip
    refine a_goto (tgt := 776) C1 dL_law_535 (by decide) ?_
    exact a_f3 (hend h2 n J2)
  · skip
    refine a_aloadn C1 dL_law_523 rfl rfl ?_
    refine a_iconst (v := 0) C1 dL_law_524 (by decide) ?_
    refine a_lald C1 dL_law_525 (q0 := 44) (t0 := 3) rfl rfl (by decide) (by decide) ?_
    refine a_iload C1 dL_law_526 rfl ?_
    refine a_i2lg C1 dL_law_528 ?_
    refine a_lcmpS C1 dL_law_529 (ev hz) ?_
    refine a_ifeq (tgt := 535) C1 dL_law_530 (by decide) (by decide) (fun _ => ?_) (fun q => absurd rfl q)
    refine a_goto (tgt := 776) C1 dL_law_535 (by decide) ?_
    exact a_f3 (hend h2 n J2)
set_option maxHeartbeats 4000000 in
set_option maxRecDepth 100000 in
theorem law_weight {K : KX} {ad am : Nat → Nat} {oa od b Lg i : Nat} {cI cD cZ cJ : ClassId} {xs : Nat → Int32} {h : SH} {m : ST} (C : CT K bL_law RL (ty4 cI cD cZ cJ) 9) (X : XK K) (hX : SCR K b Lg xs) (hL : Lg < 2147483648) (hr1 : kce K + 1 ≤ (kR K).cells) (hr2 : ksl K + 6 ≤ (kR K).slots) (hkn : kn K = 9) (hi : i + 4 ≤ Lg) (J : JV h.1 m) (hend : ∀ (h2 : SH) (n : ST), JV h2.1 n → WA (kset K (kce K + 1) (ksl K + 6)) (WM am cI cD cZ n ++ WH ad oa od cI cD cZ cJ h2) [some (.ref b), some (.ref (ad 0)), some (.ref (am 0)), some (.ref oa), some (.ref od), some (.int (nI i)), none, none, none] 776 []) : WA K (WM am cI cD cZ m ++ WH ad oa od cI cD cZ cJ h) [some (.ref b), some (.ref (ad 0)), some (.ref (am 0)), some (.ref oa), some (.ref od), some (.int (nI i)), none, none, none] 538 [] := by
  have C1 := C.set hr1 hr2
  have hRm : m.1 0 ≤ 16 := (ge_ok J.2.2.2.2.2.2.1.2.2.1 J.2.2.2.2.2.2.1.1).1
  refine a_aloadn C dL_law_538 rfl rfl ?_
  refine a_aload C dL_law_539 rfl ?_
  refine e_H (w1 := WM am cI cD cZ m) (w2 := []) (WW := WH ad oa od cI cD cZ cJ) (h := h) (As := [.ref (ad 0), .ref od]) C X (c_L_weight (kl K) (kD K) ad oa od cI cD cZ cJ h X.2.2 (j_b4 J).1) wM_L_96 wSt_L_weight wIni_L wC_L_weight hdl_weight (by decide) (by decide) rfl rfl (Nat.le_of_ble_eq_true rfl) dL_law_541 hr1 hr2 ?_
  intro c h2 hc hp2
  rw [List.append_nil]
  refine ist_6 C1 dL_law_544 (show 6 < kn K by omega) rfl ?_
  refine a_aloadn C1 dL_law_546 rfl rfl ?_
  refine e_D (w1 := []) (w2 := WH ad oa od cI cD cZ cJ h2) (WW := WM am cI cD cZ) (x := m) C1 (fun H locs ls hP hD hS hl => runV C1 (As := []) (c_M_weight (kl K) (kD K) am cI cD cZ cJ m J.2.1 H.size) wM_L_99 wI_M_weight wSel_M_weight wIni_M wC_M_weight hd_M_weight (by decide) (by decide) (q0 := 0) rfl rfl rfl rfl (Nat.le_of_ble_eq_true rfl) dL_law_547 hP hD hl) ?_
  intro rr n hn2
  have ST := jt_weight J hp2 hn2
  obtain ⟨J2, e5, ev⟩ := ST
  refine dst_7 C1 dL_law_550 (show 7 + 1 < kn K by omega) rfl ?_
  refine a_aloadn C1 dL_law_552 rfl rfl ?_
  refine e_I (w1 := []) (w2 := WH ad oa od cI cD cZ cJ h2) (WW := WM am cI cD cZ) (x := n) C1 (fun H locs ls hP hD hS hl => runV C1 (As := []) (c_M_thrown (kl K) (kD K) am cI cD cZ cJ n (J2.2.1.2 5) H.size) wM_L_67 wI_M_thrown wSel_M_thrown wIni_M wC_M_thrown hd_M_thrown (by decide) (by decide) (q0 := 0) rfl rfl rfl rfl (Nat.le_of_ble_eq_true rfl) dL_law_553 hP hD hl) ?_
  intro c2 n2 hc2 hn3
  obtain ⟨rfl, rfl⟩ := hn3
  refine a_iload C1 dL_law_556 rfl ?_
  refine a_ceq (tgt := 563) C1 dL_law_558 (by decide) (by omega) (by omega) (fun _ => ?_) (fun q => absurd e5 q)
  refine a_iload C1 dL_law_563 rfl ?_
  refine a_ifne (tgt := 600) C1 dL_law_565 (by decide) (by omega) (fun _ => ?_) (fun hz => ?_)
  · skip
    refine a_goto (tgt := 776) C1 dL_law_600 (by decide) ?_
    exact a_f3 (hend h2 n J2)
  · skip
    refine a_aload C1 dL_law_568 rfl ?_
    refine a_iconst (v := 0) C1 dL_law_570 (by decide) ?_
    refine a_dald C1 dL_law_571 (q0 := 45) (t0 := 1) rfl rfl (by decide) (by decide) ?_
    refine a_dload C1 dL_law_572 rfl ?_
    refine a_dcmpS C1 dL_law_574 (ev hz).1 (ev hz).2 ?_
    refine a_ifeq (tgt := 600) C1 dL_law_575 (by decide) (by decide) (fun _ => ?_) (fun q => absurd rfl q)
    refine a_goto (tgt := 776) C1 dL_law_600 (by decide) ?_
    exact a_f3 (hend h2 n J2)
set_option maxHeartbeats 4000000 in
set_option maxRecDepth 100000 in
theorem law_node {K : KX} {ad am : Nat → Nat} {oa od b Lg i : Nat} {cI cD cZ cJ : ClassId} {xs : Nat → Int32} {h : SH} {m : ST} (C : CT K bL_law RL (ty4 cI cD cZ cJ) 9) (X : XK K) (hX : SCR K b Lg xs) (hL : Lg < 2147483648) (hr1 : kce K + 1 ≤ (kR K).cells) (hr2 : ksl K + 6 ≤ (kR K).slots) (hkn : kn K = 9) (hi : i + 4 ≤ Lg) (J : JV h.1 m) (hend : ∀ (h2 : SH) (n : ST), JV h2.1 n → WA (kset K (kce K + 1) (ksl K + 6)) (WM am cI cD cZ n ++ WH ad oa od cI cD cZ cJ h2) [some (.ref b), some (.ref (ad 0)), some (.ref (am 0)), some (.ref oa), some (.ref od), some (.int (nI i)), none, none, none] 776 []) : WA K (WM am cI cD cZ m ++ WH ad oa od cI cD cZ cJ h) [some (.ref b), some (.ref (ad 0)), some (.ref (am 0)), some (.ref oa), some (.ref od), some (.int (nI i)), none, none, none] 603 [] := by
  have C1 := C.set hr1 hr2
  have hRm : m.1 0 ≤ 16 := (ge_ok J.2.2.2.2.2.2.1.2.2.1 J.2.2.2.2.2.2.1.1).1
  refine a_aloadn C dL_law_603 rfl rfl ?_
  refine a_aloadn C dL_law_604 rfl rfl ?_
  refine a_iload C dL_law_605 rfl ?_
  refine a_iconst (v := 1) C dL_law_607 (by decide) ?_
  refine a_iadd C dL_law_608 ?_
  refine s_ld C hX hL dL_law_609 (by omega) ?_
  refine a_aloadn C dL_law_610 rfl rfl ?_
  refine a_iload C dL_law_611 rfl ?_
  refine a_iconst (v := 2) C dL_law_613 (by decide) ?_
  refine a_iadd C dL_law_614 ?_
  refine s_ld C hX hL dL_law_615 (by omega) ?_
  refine a_aloadn C dL_law_616 rfl rfl ?_
  refine e_H (w1 := WM am cI cD cZ m) (w2 := []) (WW := WH ad oa od cI cD cZ cJ) (h := h) (As := [.ref (ad 0), .int (nI (sv xs (i + 1))), .int (nI (sv xs (i + 2))), .ref oa]) C X (c_L_node (kl K) (kD K) ad oa od cI cD cZ cJ h X.2.2 (sv xs (i + 1)) (sv xs (i + 2)) sv_32 sv_32 J.1 (j_b4 J).1 (j_b4 J).2) wM_L_100 wSt_L_node wIni_L wC_L_node hdl_node (by decide) (by decide) rfl rfl (Nat.le_of_ble_eq_true rfl) dL_law_617 hr1 hr2 ?_
  intro c h2 hc hp2
  rw [List.append_nil]
  refine ist_6 C1 dL_law_620 (show 6 < kn K by omega) rfl ?_
  refine a_aloadn C1 dL_law_622 rfl rfl ?_
  refine a_aloadn C1 dL_law_623 rfl rfl ?_
  refine a_iload C1 dL_law_624 rfl ?_
  refine a_iconst (v := 1) C1 dL_law_626 (by decide) ?_
  refine a_iadd C1 dL_law_627 ?_
  refine s_ld C1 hX hL dL_law_628 (by omega) ?_
  refine a_aloadn C1 dL_law_629 rfl rfl ?_
  refine a_iload C1 dL_law_630 rfl ?_
  refine a_iconst (v := 2) C1 dL_law_632 (by decide) ?_
  refine a_iadd C1 dL_law_633 ?_
  refine s_ld C1 hX hL dL_law_634 (by omega) ?_
  refine e_I (w1 := []) (w2 := WH ad oa od cI cD cZ cJ h2) (WW := WM am cI cD cZ) (x := m) C1 (fun H locs ls hP hD hS hl => runV C1 (As := [_, _]) (c_M_node (kl K) (kD K) am cI cD cZ cJ m (sv xs (i + 1)) (sv xs (i + 2)) sv_32 sv_32 J.2.1 J.2.2.2.1.2.2 H.size) wM_L_103 wI_M_node wSel_M_node wIni_M wC_M_node hd_M_node (by decide) (by decide) (q0 := 0) rfl rfl rfl rfl (Nat.le_of_ble_eq_true rfl) dL_law_635 hP hD hl) ?_
  intro rr n hrr hn2
  have ST := jt_node J hp2 hn2
  obtain ⟨J2, e5, ev⟩ := ST
  refine ist_7 C1 dL_law_638 (show 7 < kn K by omega) rfl ?_
  refine a_aloadn C1 dL_law_640 rfl rfl ?_
  refine e_I (w1 := []) (w2 := WH ad oa od cI cD cZ cJ h2) (WW := WM am cI cD cZ) (x := n) C1 (fun H locs ls hP hD hS hl => runV C1 (As := []) (c_M_thrown (kl K) (kD K) am cI cD cZ cJ n (J2.2.1.2 5) H.size) wM_L_67 wI_M_thrown wSel_M_thrown wIni_M wC_M_thrown hd_M_thrown (by decide) (by decide) (q0 := 0) rfl rfl rfl rfl (Nat.le_of_ble_eq_true rfl) dL_law_641 hP hD hl) ?_
  intro c2 n2 hc2 hn3
  obtain ⟨rfl, rfl⟩ := hn3
  refine a_iload C1 dL_law_644 rfl ?_
  refine a_ceq (tgt := 651) C1 dL_law_646 (by decide) (by omega) (by omega) (fun _ => ?_) (fun q => absurd e5 q)
  refine a_iload C1 dL_law_651 rfl ?_
  refine a_ifne (tgt := 668) C1 dL_law_653 (by decide) (by omega) (fun _ => ?_) (fun hz => ?_)
  · skip
    refine a_goto (tgt := 776) C1 dL_law_668 (by decide) ?_
    exact a_f3 (hend h2 n J2)
  · skip
    refine a_aloadn C1 dL_law_656 rfl rfl ?_
    refine a_iconst (v := 0) C1 dL_law_657 (by decide) ?_
    refine a_lald C1 dL_law_658 (q0 := 44) (t0 := 3) rfl rfl (by decide) (by decide) ?_
    refine a_iload C1 dL_law_659 rfl ?_
    refine a_i2lg C1 dL_law_661 ?_
    refine a_lcmpS C1 dL_law_662 (ev hz) ?_
    refine a_ifeq (tgt := 668) C1 dL_law_663 (by decide) (by decide) (fun _ => ?_) (fun q => absurd rfl q)
    refine a_goto (tgt := 776) C1 dL_law_668 (by decide) ?_
    exact a_f3 (hend h2 n J2)
set_option maxHeartbeats 4000000 in
set_option maxRecDepth 100000 in
theorem law_many {K : KX} {ad am : Nat → Nat} {oa od b Lg i : Nat} {cI cD cZ cJ : ClassId} {xs : Nat → Int32} {h : SH} {m : ST} (C : CT K bL_law RL (ty4 cI cD cZ cJ) 9) (X : XK K) (hX : SCR K b Lg xs) (hL : Lg < 2147483648) (hr1 : kce K + 1 ≤ (kR K).cells) (hr2 : ksl K + 6 ≤ (kR K).slots) (hkn : kn K = 9) (hi : i + 4 ≤ Lg) (J : JV h.1 m) (hend : ∀ (h2 : SH) (n : ST), JV h2.1 n → WA (kset K (kce K + 1) (ksl K + 6)) (WM am cI cD cZ n ++ WH ad oa od cI cD cZ cJ h2) [some (.ref b), some (.ref (ad 0)), some (.ref (am 0)), some (.ref oa), some (.ref od), some (.int (nI i)), none, none, none] 776 []) : WA K (WM am cI cD cZ m ++ WH ad oa od cI cD cZ cJ h) [some (.ref b), some (.ref (ad 0)), some (.ref (am 0)), some (.ref oa), some (.ref od), some (.int (nI i)), none, none, none] 671 [] := by
  have C1 := C.set hr1 hr2
  have hRm : m.1 0 ≤ 16 := (ge_ok J.2.2.2.2.2.2.1.2.2.1 J.2.2.2.2.2.2.1.1).1
  refine a_aloadn C dL_law_671 rfl rfl ?_
  refine a_aloadn C dL_law_672 rfl rfl ?_
  refine a_iload C dL_law_673 rfl ?_
  refine a_iconst (v := 1) C dL_law_675 (by decide) ?_
  refine a_iadd C dL_law_676 ?_
  refine s_ld C hX hL dL_law_677 (by omega) ?_
  refine a_aloadn C dL_law_678 rfl rfl ?_
  refine a_iload C dL_law_679 rfl ?_
  refine a_iconst (v := 2) C dL_law_681 (by decide) ?_
  refine a_iadd C dL_law_682 ?_
  refine s_ld C hX hL dL_law_683 (by omega) ?_
  refine a_aloadn C dL_law_684 rfl rfl ?_
  refine a_iload C dL_law_685 rfl ?_
  refine a_iconst (v := 3) C dL_law_687 (by decide) ?_
  refine a_iadd C dL_law_688 ?_
  refine s_ld C hX hL dL_law_689 (by omega) ?_
  refine a_aloadn C dL_law_690 rfl rfl ?_
  refine e_H (w1 := WM am cI cD cZ m) (w2 := []) (WW := WH ad oa od cI cD cZ cJ) (h := h) (As := [.ref (ad 0), .int (nI (sv xs (i + 1))), .int (nI (sv xs (i + 2))), .int (nI (sv xs (i + 3))), .ref oa]) C X (c_L_many (kl K) (kD K) ad oa od cI cD cZ cJ h X.2.2 (sv xs (i + 1)) (sv xs (i + 2)) (sv xs (i + 3)) sv_32 sv_32 sv_32 J.1 J.2.2.2.2.2.2.1.1.1 (j_b1 J)) wM_L_104 wSt_L_many wIni_L wC_L_many hdl_many (by decide) (by decide) rfl rfl (Nat.le_of_ble_eq_true rfl) dL_law_691 hr1 hr2 ?_
  intro c h2 hc hp2
  rw [List.append_nil]
  refine ist_6 C1 dL_law_694 (show 6 < kn K by omega) rfl ?_
  refine a_aloadn C1 dL_law_696 rfl rfl ?_
  refine a_aloadn C1 dL_law_697 rfl rfl ?_
  refine a_iload C1 dL_law_698 rfl ?_
  refine a_iconst (v := 1) C1 dL_law_700 (by decide) ?_
  refine a_iadd C1 dL_law_701 ?_
  refine s_ld C1 hX hL dL_law_702 (by omega) ?_
  refine a_aloadn C1 dL_law_703 rfl rfl ?_
  refine a_iload C1 dL_law_704 rfl ?_
  refine a_iconst (v := 2) C1 dL_law_706 (by decide) ?_
  refine a_iadd C1 dL_law_707 ?_
  refine s_ld C1 hX hL dL_law_708 (by omega) ?_
  refine a_aloadn C1 dL_law_709 rfl rfl ?_
  refine a_iload C1 dL_law_710 rfl ?_
  refine a_iconst (v := 3) C1 dL_law_712 (by decide) ?_
  refine a_iadd C1 dL_law_713 ?_
  refine s_ld C1 hX hL dL_law_714 (by omega) ?_
  refine e_I (w1 := []) (w2 := WH ad oa od cI cD cZ cJ h2) (WW := WM am cI cD cZ) (x := m) C1 (fun H locs ls hP hD hS hl => runV C1 (As := [_, _, _]) (c_M_many (kl K) (kD K) am cI cD cZ cJ m (sv xs (i + 1)) (sv xs (i + 2)) (sv xs (i + 3)) sv_32 sv_32 sv_32 J.2.1 hRm J.2.2.2.1.2.1 H.size) wM_L_107 wI_M_many wSel_M_many wIni_M wC_M_many hd_M_many (by decide) (by decide) (q0 := 0) rfl rfl rfl rfl (Nat.le_of_ble_eq_true rfl) dL_law_715 hP hD hl) ?_
  intro rr n hrr hn2
  have ST := jt_many J hp2 hn2
  obtain ⟨J2, e5, ev⟩ := ST
  refine ist_7 C1 dL_law_718 (show 7 < kn K by omega) rfl ?_
  refine a_aloadn C1 dL_law_720 rfl rfl ?_
  refine e_I (w1 := []) (w2 := WH ad oa od cI cD cZ cJ h2) (WW := WM am cI cD cZ) (x := n) C1 (fun H locs ls hP hD hS hl => runV C1 (As := []) (c_M_thrown (kl K) (kD K) am cI cD cZ cJ n (J2.2.1.2 5) H.size) wM_L_67 wI_M_thrown wSel_M_thrown wIni_M wC_M_thrown hd_M_thrown (by decide) (by decide) (q0 := 0) rfl rfl rfl rfl (Nat.le_of_ble_eq_true rfl) dL_law_721 hP hD hl) ?_
  intro c2 n2 hc2 hn3
  obtain ⟨rfl, rfl⟩ := hn3
  refine a_iload C1 dL_law_724 rfl ?_
  refine a_ceq (tgt := 731) C1 dL_law_726 (by decide) (by omega) (by omega) (fun _ => ?_) (fun q => absurd e5 q)
  refine a_iload C1 dL_law_731 rfl ?_
  refine a_ifne (tgt := 748) C1 dL_law_733 (by decide) (by omega) (fun _ => ?_) (fun hz => ?_)
  · skip
    refine a_goto (tgt := 776) C1 dL_law_748 (by decide) ?_
    exact a_f3 (hend h2 n J2)
  · skip
    refine a_aloadn C1 dL_law_736 rfl rfl ?_
    refine a_iconst (v := 0) C1 dL_law_737 (by decide) ?_
    refine a_lald C1 dL_law_738 (q0 := 44) (t0 := 3) rfl rfl (by decide) (by decide) ?_
    refine a_iload C1 dL_law_739 rfl ?_
    refine a_i2lg C1 dL_law_741 ?_
    refine a_lcmpS C1 dL_law_742 (ev hz) ?_
    refine a_ifeq (tgt := 748) C1 dL_law_743 (by decide) (by decide) (fun _ => ?_) (fun q => absurd rfl q)
    refine a_goto (tgt := 776) C1 dL_law_748 (by decide) ?_
    exact a_f3 (hend h2 n J2)
set_option maxHeartbeats 4000000 in
set_option maxRecDepth 100000 in
theorem law_count {K : KX} {ad am : Nat → Nat} {oa od b Lg i : Nat} {cI cD cZ cJ : ClassId} {xs : Nat → Int32} {h : SH} {m : ST} (C : CT K bL_law RL (ty4 cI cD cZ cJ) 9) (X : XK K) (hX : SCR K b Lg xs) (hL : Lg < 2147483648) (hr1 : kce K + 1 ≤ (kR K).cells) (hr2 : ksl K + 6 ≤ (kR K).slots) (hkn : kn K = 9) (hi : i + 4 ≤ Lg) (J : JV h.1 m) (hend : ∀ (h2 : SH) (n : ST), JV h2.1 n → WA (kset K (kce K + 1) (ksl K + 6)) (WM am cI cD cZ n ++ WH ad oa od cI cD cZ cJ h2) [some (.ref b), some (.ref (ad 0)), some (.ref (am 0)), some (.ref oa), some (.ref od), some (.int (nI i)), none, none, none] 776 []) : WA K (WM am cI cD cZ m ++ WH ad oa od cI cD cZ cJ h) [some (.ref b), some (.ref (ad 0)), some (.ref (am 0)), some (.ref oa), some (.ref od), some (.int (nI i)), none, none, none] 751 [] := by
  have C1 := C.set hr1 hr2
  have hRm : m.1 0 ≤ 16 := (ge_ok J.2.2.2.2.2.2.1.2.2.1 J.2.2.2.2.2.2.1.1).1
  refine a_aloadn C dL_law_751 rfl rfl ?_
  refine a_aloadn C dL_law_752 rfl rfl ?_
  refine a_iload C dL_law_753 rfl ?_
  refine a_iconst (v := 1) C dL_law_755 (by decide) ?_
  refine a_iadd C dL_law_756 ?_
  refine s_ld C hX hL dL_law_757 (by omega) ?_
  refine e_I (w1 := WM am cI cD cZ m) (w2 := WO oa od cJ cD h.2) (WW := WS ad cI cD cZ) (x := h.1) C (fun H locs ls hP hD hS hl => runV C (As := [_]) (c_P_count (kl K) (kD K) ad cI cD cZ cJ h.1 (sv xs (i + 1)) sv_32 J.1 H.size) wM_L_108 wI_P_count wSel_P_count wIni_P wC_P_count hd_P_count (by decide) (by decide) (q0 := 0) rfl rfl rfl rfl (Nat.le_of_ble_eq_true rfl) dL_law_758 hP hD hl) ?_
  intro r1 u1 hb1 hp1
  obtain ⟨rfl, rfl⟩ := hp1
  refine a_aloadn C dL_law_761 rfl rfl ?_
  refine a_aloadn C dL_law_762 rfl rfl ?_
  refine a_iload C dL_law_763 rfl ?_
  refine a_iconst (v := 1) C dL_law_765 (by decide) ?_
  refine a_iadd C dL_law_766 ?_
  refine s_ld C hX hL dL_law_767 (by omega) ?_
  refine e_I (w1 := []) (w2 := WH ad oa od cI cD cZ cJ h) (WW := WM am cI cD cZ) (x := m) C (fun H locs ls hP hD hS hl => runV C (As := [_]) (c_M_count1 (kl K) (kD K) am cI cD cZ cJ m (sv xs (i + 1)) sv_32 J.2.1 H.size) wM_L_111 wI_M_count1 wSel_M_count1 wIni_M wC_M_count1 hd_M_count1 (by decide) (by decide) (q0 := 0) rfl rfl rfl rfl (Nat.le_of_ble_eq_true rfl) dL_law_768 hP hD hl) ?_
  intro r2 n hb2 hp2
  obtain ⟨rfl, rfl⟩ := hp2
  refine a_ceq (tgt := 776) C dL_law_771 (by decide) hb1 hb2 (fun _ => ?_) (fun q => absurd (jt_count J _) q)
  exact a_wid (Nat.le_succ _) (Nat.le_add_right _ _) (hend h (sS m 5 0) (j_5 J 0 (by decide)))

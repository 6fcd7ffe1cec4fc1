set_option maxHeartbeats 4000000 in
set_option maxRecDepth 100000 in
theorem c_L_type (lc : Launch) (D : va_G) (ad : Nat → Nat) (oa od : Nat) (cI cD cZ cJ : ClassId) (h : SH) (hst : lc.stackTraces = false) (e : Nat) (he : e < 18446744073709551616) (hl : h.1.1 2 ≤ 14) : CH lc D (ty4 cI cD cZ cJ) (WH ad oa od cI cD cZ cJ) yL_type bL_type 5 [(0, 9, 12, 13), (0, 9, 16, 15)] [.ref (ad 0), .long (lN e), .ref oa] h (HPI (fun rr u => tok e 8 = true ∧ h.1.1 2 + tcn e 8 ≤ 14 ∧ u = apS e h.1 8 ∧ rr = u.1 2) (fun E u => u = h.1 ∧ ((E = "java/lang/IllegalArgumentException" ∧ tok e 8 = false) ∨ (E = "java/lang/IllegalStateException" ∧ tok e 8 = true ∧ 14 < h.1.1 2 + tcn e 8))) [(1, "java/lang/IllegalArgumentException"), (2, "java/lang/IllegalStateException")]) := by
  refine CH_of hst [some (.ref (ad 0)), some (.long (lN e)), none, some (.ref oa), none] (by decide) (Nat.le_of_ble_eq_true rfl) rfl ?_
  intro K C E hkl hkD hkn
  have C1 := C.set (c := kce K + 1) (s := ksl K + 6) (by obtain ⟨q1, q2, q3, q4⟩ := E.2.2.2.1; omega) (by obtain ⟨q1, q2, q3, q4⟩ := E.2.2.2.1; omega)
  have hb1 : kce K + 1 ≤ 1 ∧ ksl K + 6 ≤ 6 ∧ kce K + 1 ≤ (kR K).cells ∧ ksl K + 6 ≤ (kR K).slots := by obtain ⟨q1, q2, q3, q4⟩ := E.2.2.2.1; omega
  refine a_aloadn C dL_type_0 rfl rfl ?_
  refine a_iconst (v := 0) C dL_type_1 (by decide) ?_
  refine a_aloadn C dL_type_2 rfl rfl ?_
  refine a_lloadn C dL_type_3 rfl rfl ?_
  refine x_I (w1 := []) (w2 := WO oa od cJ cD h.2) (WW := WS ad cI cD cZ) (x := h.1) (As := [.long (lN e)]) C E.2.2.1 (c_P_type (kl K) (kD K) ad cI cD cZ cJ h.1 (by rw [hkl]; exact hst) e he hl) wM_L_7 wI_P_type wSel_P_type wIni_P wC_P_type hd_P_type (by decide) (by decide) (q0 := 0) rfl rfl rfl rfl (Nat.le_of_ble_eq_true rfl) dL_type_4 hb1.2.2.1 hb1.2.2.2 ?_ ?_
  · intro E1 u q hE4 hp
    have hE : E1 = "java/lang/IllegalArgumentException" ∨ E1 = "java/lang/IllegalStateException" := by
      rcases hp with ⟨_, ⟨z, _⟩ | ⟨z, _⟩⟩ <;> simp [z]
    rcases hE with rfl | rfl
    · skip
      refine ⟨12, hnd0 E.2.2.2.2 (by decide) (by decide) wCl_L_13, ?_⟩
      refine ast_4 C1 dL_type_12 (show 4 < kn K by omega) rfl ?_
      refine a_iconst (v := 1) C1 dL_type_14 (by decide) ?_
      exact r_h (WW := WH ad oa od cI cD cZ cJ) (u := (u, h.2)) C1 E dL_type_15 hb1.1 hb1.2.1 (by decide) (Or.inr ⟨_, by simp, hp⟩)
    · skip
      refine ⟨16, hnd1 E.2.2.2.2 (by decide) (by decide) wCl_L_15 (by decide) wCl_L_13 (by decide) (by decide), ?_⟩
      refine ast_4 C1 dL_type_16 (show 4 < kn K by omega) rfl ?_
      refine a_iconst (v := 2) C1 dL_type_18 (by decide) ?_
      exact r_h (WW := WH ad oa od cI cD cZ cJ) (u := (u, h.2)) C1 E dL_type_19 hb1.1 hb1.2.1 (by decide) (Or.inr ⟨_, by simp, hp⟩)
  · intro n u hn hp
    refine a_i2lg C1 dL_type_7 ?_
    refine a_last (ws' := WH ad oa od cI cD cZ cJ (u, vp_updL h.2.1 0 (sx n), h.2.2)) C1 dL_type_8 (q0 := 23) (t0 := 3) rfl rfl (by decide) (by decide) rfl ?_
    refine a_goto (tgt := 20) C1 dL_type_9 (by decide) ?_
    refine a_iconst (v := 0) C1 dL_type_20 (by decide) ?_
    exact r_h (WW := WH ad oa od cI cD cZ cJ) (u := (u, vp_updL h.2.1 0 (sx n), h.2.2)) C1 E dL_type_21 hb1.1 hb1.2.1 (by decide) (Or.inl ⟨rfl, n, hn, hp, rfl⟩)
set_option maxHeartbeats 4000000 in
set_option maxRecDepth 100000 in
theorem c_L_rule (lc : Launch) (D : va_G) (ad : Nat → Nat) (oa od : Nat) (cI cD cZ cJ : ClassId) (h : SH) (hst : lc.stackTraces = false) (w : UInt64) (hw : WF h.1) (ht : TXT h.1) (hg : GOk (gP h.1)) : CH lc D (ty4 cI cD cZ cJ) (WH ad oa od cI cD cZ cJ) yL_rule bL_rule 5 [(0, 9, 12, 13), (0, 9, 16, 15), (0, 9, 20, 21)] [.ref (ad 0), .double w, .ref oa] h (HPI (fun rr u => rokB w = true ∧ h.1.1 3 < 16 ∧ wpf (h.1.1 2) (h.1.2.1 2) = 4294967295 ∧ wlr h.1 = false ∧ rr = h.1.1 3 ∧ ∃ v, ADD h.1 w v ∧ u = FG (sS v 2 0)) (fun E u => (E = "java/lang/IllegalArgumentException" ∧ rokB w = false ∧ u = h.1) ∨ (E = "java/lang/IllegalStateException" ∧ rokB w = true ∧ 16 ≤ h.1.1 3 ∧ u = sS h.1 2 0) ∨ (E = "java/lang/IllegalArgumentException" ∧ rokB w = true ∧ h.1.1 3 < 16 ∧ wpf (h.1.1 2) (h.1.2.1 2) ≠ 4294967295 ∧ u = sS (sS h.1 0 (wpf (h.1.1 2) (h.1.2.1 2))) 2 0) ∨ (E = "java/lang/UnsupportedOperationException" ∧ rokB w = true ∧ h.1.1 3 < 16 ∧ wpf (h.1.1 2) (h.1.2.1 2) = 4294967295 ∧ wlr h.1 = true ∧ u = sS h.1 2 0)) [(1, "java/lang/IllegalArgumentException"), (2, "java/lang/IllegalStateException"), (3, "java/lang/UnsupportedOperationException")]) := by
  refine CH_of hst [some (.ref (ad 0)), some (.double w), none, some (.ref oa), none] (by decide) (Nat.le_of_ble_eq_true rfl) rfl ?_
  intro K C E hkl hkD hkn
  have C1 := C.set (c := kce K + 1) (s := ksl K + 6) (by obtain ⟨q1, q2, q3, q4⟩ := E.2.2.2.1; omega) (by obtain ⟨q1, q2, q3, q4⟩ := E.2.2.2.1; omega)
  have hb1 : kce K + 1 ≤ 1 ∧ ksl K + 6 ≤ 6 ∧ kce K + 1 ≤ (kR K).cells ∧ ksl K + 6 ≤ (kR K).slots := by obtain ⟨q1, q2, q3, q4⟩ := E.2.2.2.1; omega
  refine a_aloadn C dL_rule_0 rfl rfl ?_
  refine a_iconst (v := 0) C dL_rule_1 (by decide) ?_
  refine a_aloadn C dL_rule_2 rfl rfl ?_
  refine a_dloadn C dL_rule_3 rfl rfl ?_
  refine x_I (w1 := []) (w2 := WO oa od cJ cD h.2) (WW := WS ad cI cD cZ) (x := h.1) (As := [.double w]) C E.2.2.1 (c_P_rule (kl K) (kD K) ad cI cD cZ cJ h.1 (by rw [hkl]; exact hst) w hw ht hg) wM_L_17 wI_P_rule wSel_P_rule wIni_P wC_P_rule hd_P_rule (by decide) (by decide) (q0 := 0) rfl rfl rfl rfl (Nat.le_of_ble_eq_true rfl) dL_rule_4 hb1.2.2.1 hb1.2.2.2 ?_ ?_
  · intro E1 u q hE4 hp
    have hE : E1 = "java/lang/IllegalArgumentException" ∨ E1 = "java/lang/IllegalStateException" ∨ E1 = "java/lang/UnsupportedOperationException" := by
      rcases hp with ⟨z, _⟩ | ⟨z, _⟩ | ⟨z, _⟩ | ⟨z, _⟩ <;> simp [z]
    rcases hE with rfl | rfl | rfl
    · skip
      refine ⟨12, hnd0 E.2.2.2.2 (by decide) (by decide) wCl_L_13, ?_⟩
      refine ast_4 C1 dL_rule_12 (show 4 < kn K by omega) rfl ?_
      refine a_iconst (v := 1) C1 dL_rule_14 (by decide) ?_
      exact r_h (WW := WH ad oa od cI cD cZ cJ) (u := (u, h.2)) C1 E dL_rule_15 hb1.1 hb1.2.1 (by decide) (Or.inr ⟨_, by simp, hp⟩)
    · skip
      refine ⟨16, hnd1 E.2.2.2.2 (by decide) (by decide) wCl_L_15 (by decide) wCl_L_13 (by decide) (by decide), ?_⟩
      refine ast_4 C1 dL_rule_16 (show 4 < kn K by omega) rfl ?_
      refine a_iconst (v := 2) C1 dL_rule_18 (by decide) ?_
      exact r_h (WW := WH ad oa od cI cD cZ cJ) (u := (u, h.2)) C1 E dL_rule_19 hb1.1 hb1.2.1 (by decide) (Or.inr ⟨_, by simp, hp⟩)
    · skip
      refine ⟨20, hnd2 E.2.2.2.2 (by decide) (by decide) wCl_L_21 (by decide) wCl_L_13 (by decide) (by decide) (by decide) wCl_L_15 (by decide) (by decide), ?_⟩
      refine ast_4 C1 dL_rule_20 (show 4 < kn K by omega) rfl ?_
      refine a_iconst (v := 3) C1 dL_rule_22 (by decide) ?_
      exact r_h (WW := WH ad oa od cI cD cZ cJ) (u := (u, h.2)) C1 E dL_rule_23 hb1.1 hb1.2.1 (by decide) (Or.inr ⟨_, by simp, hp⟩)
  · intro n u hn hp
    refine a_i2lg C1 dL_rule_7 ?_
    refine a_last (ws' := WH ad oa od cI cD cZ cJ (u, vp_updL h.2.1 0 (sx n), h.2.2)) C1 dL_rule_8 (q0 := 23) (t0 := 3) rfl rfl (by decide) (by decide) rfl ?_
    refine a_goto (tgt := 24) C1 dL_rule_9 (by decide) ?_
    refine a_iconst (v := 0) C1 dL_rule_24 (by decide) ?_
    exact r_h (WW := WH ad oa od cI cD cZ cJ) (u := (u, vp_updL h.2.1 0 (sx n), h.2.2)) C1 E dL_rule_25 hb1.1 hb1.2.1 (by decide) (Or.inl ⟨rfl, n, hn, hp, rfl⟩)
set_option maxHeartbeats 4000000 in
set_option maxRecDepth 100000 in
theorem c_L_mark (lc : Launch) (D : va_G) (ad : Nat → Nat) (oa od : Nat) (cI cD cZ cJ : ClassId) (h : SH) (hst : lc.stackTraces = false) (r t : Nat) (hr : r < 4294967296) (hh : t < 4294967296) (hR : h.1.1 3 ≤ 16) : CH lc D (ty4 cI cD cZ cJ) (WH ad oa od cI cD cZ cJ) yL_mark bL_mark 4 [(0, 6, 9, 13)] [.ref (ad 0), .int (nI r), .int (nI t)] h (HPV (fun u => r < h.1.1 3 ∧ t ≤ 3 ∧ u = FG (sA h.1 8 r t)) (fun E u => E = "java/lang/IllegalArgumentException" ∧ u = h.1 ∧ ¬ (r < h.1.1 3 ∧ t ≤ 3)) [(1, "java/lang/IllegalArgumentException")]) := by
  refine CH_of hst [some (.ref (ad 0)), some (.int (nI r)), some (.int (nI t)), none] (by decide) (Nat.le_of_ble_eq_true rfl) rfl ?_
  intro K C E hkl hkD hkn
  have C1 := C.set (c := kce K + 1) (s := ksl K + 6) (by obtain ⟨q1, q2, q3, q4⟩ := E.2.2.2.1; omega) (by obtain ⟨q1, q2, q3, q4⟩ := E.2.2.2.1; omega)
  have hb1 : kce K + 1 ≤ 1 ∧ ksl K + 6 ≤ 6 ∧ kce K + 1 ≤ (kR K).cells ∧ ksl K + 6 ≤ (kR K).slots := by obtain ⟨q1, q2, q3, q4⟩ := E.2.2.2.1; omega
  refine a_aloadn C dL_mark_0 rfl rfl ?_
  refine a_iloadn C dL_mark_1 rfl rfl ?_
  refine a_iloadn C dL_mark_2 rfl rfl ?_
  refine x_V (w1 := []) (w2 := WO oa od cJ cD h.2) (WW := WS ad cI cD cZ) (x := h.1) (As := [.int (nI r), .int (nI t)]) C E.2.2.1 (c_P_mark (kl K) (kD K) ad cI cD cZ cJ h.1 (by rw [hkl]; exact hst) r t hr hh hR) wM_L_23 wI_P_mark wSel_P_mark wIni_P wC_P_mark hd_P_mark (by decide) (by decide) (q0 := 0) rfl rfl rfl rfl (Nat.le_of_ble_eq_true rfl) dL_mark_3 hb1.2.2.1 hb1.2.2.2 ?_ ?_
  · intro E1 u q hE4 hp
    have hE : E1 = "java/lang/IllegalArgumentException" := by
      rcases hp with ⟨z, _⟩ <;> simp [z]
    subst hE
    refine ⟨9, hnd0 E.2.2.2.2 (by decide) (by decide) wCl_L_13, ?_⟩
    refine astn_3 C1 dL_mark_9 (show 3 < kn K by omega) rfl ?_
    refine a_iconst (v := 1) C1 dL_mark_10 (by decide) ?_
    exact r_h (WW := WH ad oa od cI cD cZ cJ) (u := (u, h.2)) C1 E dL_mark_11 hb1.1 hb1.2.1 (by decide) (Or.inr ⟨_, by simp, hp⟩)
  · intro u hp
    refine a_goto (tgt := 12) C1 dL_mark_6 (by decide) ?_
    refine a_iconst (v := 0) C1 dL_mark_12 (by decide) ?_
    exact r_h (WW := WH ad oa od cI cD cZ cJ) (u := (u, h.2)) C1 E dL_mark_13 hb1.1 hb1.2.1 (by decide) (Or.inl ⟨rfl, hp⟩)
set_option maxHeartbeats 4000000 in
set_option maxRecDepth 100000 in
theorem c_L_bar (lc : Launch) (D : va_G) (ad : Nat → Nat) (oa od : Nat) (cI cD cZ cJ : ClassId) (h : SH) (hst : lc.stackTraces = false) (r s b : Nat) (hr : r < 4294967296) (hs : s < 4294967296) (hb : b ≤ 1) (hR : h.1.1 3 ≤ 16) : CH lc D (ty4 cI cD cZ cJ) (WH ad oa od cI cD cZ cJ) yL_bar bL_bar 5 [(0, 7, 10, 13)] [.ref (ad 0), .int (nI r), .int (nI s), .int (nI b)] h (HPV (fun u => r < h.1.1 3 ∧ s < h.1.1 3 ∧ u = FG (sA h.1 9 r (if b = 0 then h.1.2.1 9 r &&& ((1 * 2 ^ s) ^^^ 4294967295) else h.1.2.1 9 r ||| (1 * 2 ^ s)))) (fun E u => E = "java/lang/IllegalArgumentException" ∧ u = h.1 ∧ ¬ (r < h.1.1 3 ∧ s < h.1.1 3)) [(1, "java/lang/IllegalArgumentException")]) := by
  refine CH_of hst [some (.ref (ad 0)), some (.int (nI r)), some (.int (nI s)), some (.int (nI b)), none] (by decide) (Nat.le_of_ble_eq_true rfl) rfl ?_
  intro K C E hkl hkD hkn
  have C1 := C.set (c := kce K + 1) (s := ksl K + 6) (by obtain ⟨q1, q2, q3, q4⟩ := E.2.2.2.1; omega) (by obtain ⟨q1, q2, q3, q4⟩ := E.2.2.2.1; omega)
  have hb1 : kce K + 1 ≤ 1 ∧ ksl K + 6 ≤ 6 ∧ kce K + 1 ≤ (kR K).cells ∧ ksl K + 6 ≤ (kR K).slots := by obtain ⟨q1, q2, q3, q4⟩ := E.2.2.2.1; omega
  refine a_aloadn C dL_bar_0 rfl rfl ?_
  refine a_iloadn C dL_bar_1 rfl rfl ?_
  refine a_iloadn C dL_bar_2 rfl rfl ?_
  refine a_iloadn C dL_bar_3 rfl rfl ?_
  refine x_V (w1 := []) (w2 := WO oa od cJ cD h.2) (WW := WS ad cI cD cZ) (x := h.1) (As := [.int (nI r), .int (nI s), .int (nI b)]) C E.2.2.1 (c_P_bar (kl K) (kD K) ad cI cD cZ cJ h.1 (by rw [hkl]; exact hst) r s b hr hs hb hR) wM_L_27 wI_P_bar wSel_P_bar wIni_P wC_P_bar hd_P_bar (by decide) (by decide) (q0 := 0) rfl rfl rfl rfl (Nat.le_of_ble_eq_true rfl) dL_bar_4 hb1.2.2.1 hb1.2.2.2 ?_ ?_
  · intro E1 u q hE4 hp
    have hE : E1 = "java/lang/IllegalArgumentException" := by
      rcases hp with ⟨z, _⟩ <;> simp [z]
    subst hE
    refine ⟨10, hnd0 E.2.2.2.2 (by decide) (by decide) wCl_L_13, ?_⟩
    refine ast_4 C1 dL_bar_10 (show 4 < kn K by omega) rfl ?_
    refine a_iconst (v := 1) C1 dL_bar_12 (by decide) ?_
    exact r_h (WW := WH ad oa od cI cD cZ cJ) (u := (u, h.2)) C1 E dL_bar_13 hb1.1 hb1.2.1 (by decide) (Or.inr ⟨_, by simp, hp⟩)
  · intro u hp
    refine a_goto (tgt := 14) C1 dL_bar_7 (by decide) ?_
    refine a_iconst (v := 0) C1 dL_bar_14 (by decide) ?_
    exact r_h (WW := WH ad oa od cI cD cZ cJ) (u := (u, h.2)) C1 E dL_bar_15 hb1.1 hb1.2.1 (by decide) (Or.inl ⟨rfl, hp⟩)
set_option maxHeartbeats 4000000 in
set_option maxRecDepth 100000 in
theorem c_L_follow (lc : Launch) (D : va_G) (ad : Nat → Nat) (oa od : Nat) (cI cD cZ cJ : ClassId) (h : SH) (hst : lc.stackTraces = false) (a c b : Nat) (hm : a < 4294967296) (hc : c < 4294967296) (hb : b ≤ 1) : CH lc D (ty4 cI cD cZ cJ) (WH ad oa od cI cD cZ cJ) yL_follow bL_follow 5 [(0, 7, 10, 13)] [.ref (ad 0), .int (nI a), .int (nI c), .int (nI b)] h (HPV (fun u => a < 6 ∧ (33 ≤ c ∧ c ≤ 126) ∧ u = FG (sA h.1 10 (a * 94 + c - 33) (1 - b))) (fun E u => E = "java/lang/IllegalArgumentException" ∧ u = h.1 ∧ ¬ (a < 6 ∧ (33 ≤ c ∧ c ≤ 126))) [(1, "java/lang/IllegalArgumentException")]) := by
  refine CH_of hst [some (.ref (ad 0)), some (.int (nI a)), some (.int (nI c)), some (.int (nI b)), none] (by decide) (Nat.le_of_ble_eq_true rfl) rfl ?_
  intro K C E hkl hkD hkn
  have C1 := C.set (c := kce K + 1) (s := ksl K + 6) (by obtain ⟨q1, q2, q3, q4⟩ := E.2.2.2.1; omega) (by obtain ⟨q1, q2, q3, q4⟩ := E.2.2.2.1; omega)
  have hb1 : kce K + 1 ≤ 1 ∧ ksl K + 6 ≤ 6 ∧ kce K + 1 ≤ (kR K).cells ∧ ksl K + 6 ≤ (kR K).slots := by obtain ⟨q1, q2, q3, q4⟩ := E.2.2.2.1; omega
  refine a_aloadn C dL_follow_0 rfl rfl ?_
  refine a_iloadn C dL_follow_1 rfl rfl ?_
  refine a_iloadn C dL_follow_2 rfl rfl ?_
  refine a_iloadn C dL_follow_3 rfl rfl ?_
  refine x_V (w1 := []) (w2 := WO oa od cJ cD h.2) (WW := WS ad cI cD cZ) (x := h.1) (As := [.int (nI a), .int (nI c), .int (nI b)]) C E.2.2.1 (c_P_follow (kl K) (kD K) ad cI cD cZ cJ h.1 (by rw [hkl]; exact hst) a c b hm hc hb) wM_L_31 wI_P_follow wSel_P_follow wIni_P wC_P_follow hd_P_follow (by decide) (by decide) (q0 := 0) rfl rfl rfl rfl (Nat.le_of_ble_eq_true rfl) dL_follow_4 hb1.2.2.1 hb1.2.2.2 ?_ ?_
  · intro E1 u q hE4 hp
    have hE : E1 = "java/lang/IllegalArgumentException" := by
      rcases hp with ⟨z, _⟩ <;> simp [z]
    subst hE
    refine ⟨10, hnd0 E.2.2.2.2 (by decide) (by decide) wCl_L_13, ?_⟩
    refine ast_4 C1 dL_follow_10 (show 4 < kn K by omega) rfl ?_
    refine a_iconst (v := 1) C1 dL_follow_12 (by decide) ?_
    exact r_h (WW := WH ad oa od cI cD cZ cJ) (u := (u, h.2)) C1 E dL_follow_13 hb1.1 hb1.2.1 (by decide) (Or.inr ⟨_, by simp, hp⟩)
  · intro u hp
    refine a_goto (tgt := 14) C1 dL_follow_7 (by decide) ?_
    refine a_iconst (v := 0) C1 dL_follow_14 (by decide) ?_
    exact r_h (WW := WH ad oa od cI cD cZ cJ) (u := (u, h.2)) C1 E dL_follow_15 hb1.1 hb1.2.1 (by decide) (Or.inl ⟨rfl, hp⟩)
set_option maxHeartbeats 4000000 in
set_option maxRecDepth 100000 in
theorem c_L_undo (lc : Launch) (D : va_G) (ad : Nat → Nat) (oa od : Nat) (cI cD cZ cJ : ClassId) (h : SH) (hst : lc.stackTraces = false) (hw : WF h.1) (hR : h.1.1 3 ≤ 16) : CH lc D (ty4 cI cD cZ cJ) (WH ad oa od cI cD cZ cJ) yL_undo bL_undo 2 [(0, 4, 7, 37)] [.ref (ad 0)] h (HPV (fun u => h.1.1 3 ≠ 0 ∧ ∃ v, REM h.1 v ∧ u = FG v) (fun E u => E = "java/util/NoSuchElementException" ∧ u = h.1 ∧ h.1.1 3 = 0) [(1, "java/util/NoSuchElementException")]) := by
  refine CH_of hst [some (.ref (ad 0)), none] (by decide) (Nat.le_of_ble_eq_true rfl) rfl ?_
  intro K C E hkl hkD hkn
  have C1 := C.set (c := kce K + 1) (s := ksl K + 6) (by obtain ⟨q1, q2, q3, q4⟩ := E.2.2.2.1; omega) (by obtain ⟨q1, q2, q3, q4⟩ := E.2.2.2.1; omega)
  have hb1 : kce K + 1 ≤ 1 ∧ ksl K + 6 ≤ 6 ∧ kce K + 1 ≤ (kR K).cells ∧ ksl K + 6 ≤ (kR K).slots := by obtain ⟨q1, q2, q3, q4⟩ := E.2.2.2.1; omega
  refine a_aloadn C dL_undo_0 rfl rfl ?_
  refine x_V (w1 := []) (w2 := WO oa od cJ cD h.2) (WW := WS ad cI cD cZ) (x := h.1) (As := []) C E.2.2.1 (c_P_undo (kl K) (kD K) ad cI cD cZ cJ h.1 (by rw [hkl]; exact hst) hw hR) wM_L_34 wI_P_undo wSel_P_undo wIni_P wC_P_undo hd_P_undo (by decide) (by decide) (q0 := 0) rfl rfl rfl rfl (Nat.le_of_ble_eq_true rfl) dL_undo_1 hb1.2.2.1 hb1.2.2.2 ?_ ?_
  · intro E1 u q hE4 hp
    have hE : E1 = "java/util/NoSuchElementException" := by
      rcases hp with ⟨z, _⟩ <;> simp [z]
    subst hE
    refine ⟨7, hnd0 E.2.2.2.2 (by decide) (by decide) wCl_L_37, ?_⟩
    refine astn_1 C1 dL_undo_7 (show 1 < kn K by omega) rfl ?_
    refine a_iconst (v := 1) C1 dL_undo_8 (by decide) ?_
    exact r_h (WW := WH ad oa od cI cD cZ cJ) (u := (u, h.2)) C1 E dL_undo_9 hb1.1 hb1.2.1 (by decide) (Or.inr ⟨_, by simp, hp⟩)
  · intro u hp
    refine a_goto (tgt := 10) C1 dL_undo_4 (by decide) ?_
    refine a_iconst (v := 0) C1 dL_undo_10 (by decide) ?_
    exact r_h (WW := WH ad oa od cI cD cZ cJ) (u := (u, h.2)) C1 E dL_undo_11 hb1.1 hb1.2.1 (by decide) (Or.inl ⟨rfl, hp⟩)
set_option maxHeartbeats 4000000 in
set_option maxRecDepth 100000 in
theorem c_L_parse (lc : Launch) (D : va_G) (ad : Nat → Nat) (oa od : Nat) (cI cD cZ cJ : ClassId) (h : SH) (hst : lc.stackTraces = false) (m : Nat) (hm : m < 4294967296) (hw : WF h.1) (ht : TXT h.1) (hg : GOk (gP h.1)) (hac : Acy (gP h.1)) (hub : UB h.1) : CH lc D (ty4 cI cD cZ cJ) (WH ad oa od cI cD cZ cJ) yL_parse bL_parse 4 [(0, 9, 12, 13), (0, 9, 15, 37)] [.ref (ad 0), .int (nI m), .ref oa] h (HPI (fun rr u => m < 6 ∧ 0 < h.1.1 2 ∧ pv (gP h.1) (h.1.1 2) (h.1.2.1 2) m ≠ 0 ∧ rr = pv (gP h.1) (h.1.1 2) (h.1.2.1 2) m ∧ PS0 h.1 u ∧ PS1 h.1 u m) (fun E u => (E = "java/lang/IllegalArgumentException" ∧ u = h.1 ∧ ¬ (m < 6 ∧ 0 < h.1.1 2)) ∨ (E = "java/util/NoSuchElementException" ∧ m < 6 ∧ 0 < h.1.1 2 ∧ pv (gP h.1) (h.1.1 2) (h.1.2.1 2) m = 0 ∧ PS0 h.1 u ∧ u.1 4 = 0)) [(1, "java/lang/IllegalArgumentException"), (2, "java/util/NoSuchElementException")]) := by
  refine CH_of hst [some (.ref (ad 0)), some (.int (nI m)), some (.ref oa), none] (by decide) (Nat.le_of_ble_eq_true rfl) rfl ?_
  intro K C E hkl hkD hkn
  have C1 := C.set (c := kce K + 1) (s := ksl K + 6) (by obtain ⟨q1, q2, q3, q4⟩ := E.2.2.2.1; omega) (by obtain ⟨q1, q2, q3, q4⟩ := E.2.2.2.1; omega)
  have hb1 : kce K + 1 ≤ 1 ∧ ksl K + 6 ≤ 6 ∧ kce K + 1 ≤ (kR K).cells ∧ ksl K + 6 ≤ (kR K).slots := by obtain ⟨q1, q2, q3, q4⟩ := E.2.2.2.1; omega
  refine a_aloadn C dL_parse_0 rfl rfl ?_
  refine a_iconst (v := 0) C dL_parse_1 (by decide) ?_
  refine a_aloadn C dL_parse_2 rfl rfl ?_
  refine a_iloadn C dL_parse_3 rfl rfl ?_
  refine x_I (w1 := []) (w2 := WO oa od cJ cD h.2) (WW := WS ad cI cD cZ) (x := h.1) (As := [.int (nI m)]) C E.2.2.1 (c_P_parse (kl K) (kD K) ad cI cD cZ cJ h.1 (by rw [hkl]; exact hst) m hm hw ht hg hac hub) wM_L_39 wI_P_parse wSel_P_parse wIni_P wC_P_parse hd_P_parse (by decide) (by decide) (q0 := 0) rfl rfl rfl rfl (Nat.le_of_ble_eq_true rfl) dL_parse_4 hb1.2.2.1 hb1.2.2.2 ?_ ?_
  · intro E1 u q hE4 hp
    have hE : E1 = "java/lang/IllegalArgumentException" ∨ E1 = "java/util/NoSuchElementException" := by
      rcases hp with ⟨z, _⟩ | ⟨z, _⟩ <;> simp [z]
    rcases hE with rfl | rfl
    · skip
      refine ⟨12, hnd0 E.2.2.2.2 (by decide) (by decide) wCl_L_13, ?_⟩
      refine astn_3 C1 dL_parse_12 (show 3 < kn K by omega) rfl ?_
      refine a_iconst (v := 1) C1 dL_parse_13 (by decide) ?_
      exact r_h (WW := WH ad oa od cI cD cZ cJ) (u := (u, h.2)) C1 E dL_parse_14 hb1.1 hb1.2.1 (by decide) (Or.inr ⟨_, by simp, hp⟩)
    · skip
      refine ⟨15, hnd1 E.2.2.2.2 (by decide) (by decide) wCl_L_37 (by decide) wCl_L_13 (by decide) (by decide), ?_⟩
      refine astn_3 C1 dL_parse_15 (show 3 < kn K by omega) rfl ?_
      refine a_iconst (v := 2) C1 dL_parse_16 (by decide) ?_
      exact r_h (WW := WH ad oa od cI cD cZ cJ) (u := (u, h.2)) C1 E dL_parse_17 hb1.1 hb1.2.1 (by decide) (Or.inr ⟨_, by simp, hp⟩)
  · intro n u hn hp
    refine a_i2lg C1 dL_parse_7 ?_
    refine a_last (ws' := WH ad oa od cI cD cZ cJ (u, vp_updL h.2.1 0 (sx n), h.2.2)) C1 dL_parse_8 (q0 := 23) (t0 := 3) rfl rfl (by decide) (by decide) rfl ?_
    refine a_goto (tgt := 18) C1 dL_parse_9 (by decide) ?_
    refine a_iconst (v := 0) C1 dL_parse_18 (by decide) ?_
    exact r_h (WW := WH ad oa od cI cD cZ cJ) (u := (u, vp_updL h.2.1 0 (sx n), h.2.2)) C1 E dL_parse_19 hb1.1 hb1.2.1 (by decide) (Or.inl ⟨rfl, n, hn, hp, rfl⟩)
set_option maxHeartbeats 4000000 in
set_option maxRecDepth 100000 in
theorem c_L_weight (lc : Launch) (D : va_G) (ad : Nat → Nat) (oa od : Nat) (cI cD cZ cJ : ClassId) (h : SH) (hst : lc.stackTraces = false) (hs : h.1.1 4 ≤ 162) : CH lc D (ty4 cI cD cZ cJ) (WH ad oa od cI cD cZ cJ) yL_weight bL_weight 3 [(0, 7, 10, 37)] [.ref (ad 0), .ref od] h (HPD (fun rr u => u = h.1 ∧ h.1.1 4 ≠ 0 ∧ rr = h.1.2.2.2) (fun E u => E = "java/util/NoSuchElementException" ∧ u = h.1 ∧ h.1.1 4 = 0) [(1, "java/util/NoSuchElementException")]) := by
  refine CH_of hst [some (.ref (ad 0)), some (.ref od), none] (by decide) (Nat.le_of_ble_eq_true rfl) rfl ?_
  intro K C E hkl hkD hkn
  have C1 := C.set (c := kce K + 1) (s := ksl K + 6) (by obtain ⟨q1, q2, q3, q4⟩ := E.2.2.2.1; omega) (by obtain ⟨q1, q2, q3, q4⟩ := E.2.2.2.1; omega)
  have hb1 : kce K + 1 ≤ 1 ∧ ksl K + 6 ≤ 6 ∧ kce K + 1 ≤ (kR K).cells ∧ ksl K + 6 ≤ (kR K).slots := by obtain ⟨q1, q2, q3, q4⟩ := E.2.2.2.1; omega
  refine a_aloadn C dL_weight_0 rfl rfl ?_
  refine a_iconst (v := 0) C dL_weight_1 (by decide) ?_
  refine a_aloadn C dL_weight_2 rfl rfl ?_
  refine x_D (w1 := []) (w2 := WO oa od cJ cD h.2) (WW := WS ad cI cD cZ) (x := h.1) (As := []) C E.2.2.1 (c_P_weight (kl K) (kD K) ad cI cD cZ cJ h.1 (by rw [hkl]; exact hst) hs) wM_L_43 wI_P_weight wSel_P_weight wIni_P wC_P_weight hd_P_weight (by decide) (by decide) (q0 := 0) rfl rfl rfl rfl (Nat.le_of_ble_eq_true rfl) dL_weight_3 hb1.2.2.1 hb1.2.2.2 ?_ ?_
  · intro E1 u q hE4 hp
    have hE : E1 = "java/util/NoSuchElementException" := by
      rcases hp with ⟨z, _⟩ <;> simp [z]
    subst hE
    refine ⟨10, hnd0 E.2.2.2.2 (by decide) (by decide) wCl_L_37, ?_⟩
    refine astn_2 C1 dL_weight_10 (show 2 < kn K by omega) rfl ?_
    refine a_iconst (v := 1) C1 dL_weight_11 (by decide) ?_
    exact r_h (WW := WH ad oa od cI cD cZ cJ) (u := (u, h.2)) C1 E dL_weight_12 hb1.1 hb1.2.1 (by decide) (Or.inr ⟨_, by simp, hp⟩)
  · intro n u hp
    refine a_dast (ws' := WH ad oa od cI cD cZ cJ (u, h.2.1, va_up h.2.2 0 n)) C1 dL_weight_6 (q0 := 24) (t0 := 1) rfl rfl (by decide) (by decide) rfl ?_
    refine a_goto (tgt := 13) C1 dL_weight_7 (by decide) ?_
    refine a_iconst (v := 0) C1 dL_weight_13 (by decide) ?_
    exact r_h (WW := WH ad oa od cI cD cZ cJ) (u := (u, h.2.1, va_up h.2.2 0 n)) C1 E dL_weight_14 hb1.1 hb1.2.1 (by decide) (Or.inl ⟨rfl, n, hp, rfl⟩)
set_option maxHeartbeats 4000000 in
set_option maxRecDepth 100000 in
theorem c_L_node (lc : Launch) (D : va_G) (ad : Nat → Nat) (oa od : Nat) (cI cD cZ cJ : ClassId) (h : SH) (hst : lc.stackTraces = false) (k t : Nat) (hk : k < 4294967296) (hh : t < 4294967296) (hw : WF h.1) (hs : h.1.1 4 ≤ 162) (hb : ∀ q, q < h.1.1 4 → h.1.2.1 21 q ≤ 14 ∧ h.1.2.1 22 q ≤ 14) : CH lc D (ty4 cI cD cZ cJ) (WH ad oa od cI cD cZ cJ) yL_node bL_node 5 [(0, 10, 13, 13), (0, 10, 17, 37)] [.ref (ad 0), .int (nI k), .int (nI t), .ref oa] h (HPI (fun rr u => u = h.1 ∧ t ≤ 3 ∧ k < h.1.1 4 ∧ rr = ndv h.1 k t) (fun E u => u = h.1 ∧ ((E = "java/lang/IllegalArgumentException" ∧ ¬ t ≤ 3) ∨ (E = "java/util/NoSuchElementException" ∧ t ≤ 3 ∧ ¬ k < h.1.1 4))) [(1, "java/lang/IllegalArgumentException"), (2, "java/util/NoSuchElementException")]) := by
  refine CH_of hst [some (.ref (ad 0)), some (.int (nI k)), some (.int (nI t)), some (.ref oa), none] (by decide) (Nat.le_of_ble_eq_true rfl) rfl ?_
  intro K C E hkl hkD hkn
  have C1 := C.set (c := kce K + 1) (s := ksl K + 6) (by obtain ⟨q1, q2, q3, q4⟩ := E.2.2.2.1; omega) (by obtain ⟨q1, q2, q3, q4⟩ := E.2.2.2.1; omega)
  have hb1 : kce K + 1 ≤ 1 ∧ ksl K + 6 ≤ 6 ∧ kce K + 1 ≤ (kR K).cells ∧ ksl K + 6 ≤ (kR K).slots := by obtain ⟨q1, q2, q3, q4⟩ := E.2.2.2.1; omega
  refine a_aloadn C dL_node_0 rfl rfl ?_
  refine a_iconst (v := 0) C dL_node_1 (by decide) ?_
  refine a_aloadn C dL_node_2 rfl rfl ?_
  refine a_iloadn C dL_node_3 rfl rfl ?_
  refine a_iloadn C dL_node_4 rfl rfl ?_
  refine x_I (w1 := []) (w2 := WO oa od cJ cD h.2) (WW := WS ad cI cD cZ) (x := h.1) (As := [.int (nI k), .int (nI t)]) C E.2.2.1 (c_P_node (kl K) (kD K) ad cI cD cZ cJ h.1 (by rw [hkl]; exact hst) k t hk hh hw hs hb) wM_L_47 wI_P_node wSel_P_node wIni_P wC_P_node hd_P_node (by decide) (by decide) (q0 := 0) rfl rfl rfl rfl (Nat.le_of_ble_eq_true rfl) dL_node_5 hb1.2.2.1 hb1.2.2.2 ?_ ?_
  · intro E1 u q hE4 hp
    have hE : E1 = "java/lang/IllegalArgumentException" ∨ E1 = "java/util/NoSuchElementException" := by
      rcases hp with ⟨_, ⟨z, _⟩ | ⟨z, _⟩⟩ <;> simp [z]
    rcases hE with rfl | rfl
    · skip
      refine ⟨13, hnd0 E.2.2.2.2 (by decide) (by decide) wCl_L_13, ?_⟩
      refine ast_4 C1 dL_node_13 (show 4 < kn K by omega) rfl ?_
      refine a_iconst (v := 1) C1 dL_node_15 (by decide) ?_
      exact r_h (WW := WH ad oa od cI cD cZ cJ) (u := (u, h.2)) C1 E dL_node_16 hb1.1 hb1.2.1 (by decide) (Or.inr ⟨_, by simp, hp⟩)
    · skip
      refine ⟨17, hnd1 E.2.2.2.2 (by decide) (by decide) wCl_L_37 (by decide) wCl_L_13 (by decide) (by decide), ?_⟩
      refine ast_4 C1 dL_node_17 (show 4 < kn K by omega) rfl ?_
      refine a_iconst (v := 2) C1 dL_node_19 (by decide) ?_
      exact r_h (WW := WH ad oa od cI cD cZ cJ) (u := (u, h.2)) C1 E dL_node_20 hb1.1 hb1.2.1 (by decide) (Or.inr ⟨_, by simp, hp⟩)
  · intro n u hn hp
    refine a_i2lg C1 dL_node_8 ?_
    refine a_last (ws' := WH ad oa od cI cD cZ cJ (u, vp_updL h.2.1 0 (sx n), h.2.2)) C1 dL_node_9 (q0 := 23) (t0 := 3) rfl rfl (by decide) (by decide) rfl ?_
    refine a_goto (tgt := 21) C1 dL_node_10 (by decide) ?_
    refine a_iconst (v := 0) C1 dL_node_21 (by decide) ?_
    exact r_h (WW := WH ad oa od cI cD cZ cJ) (u := (u, vp_updL h.2.1 0 (sx n), h.2.2)) C1 E dL_node_22 hb1.1 hb1.2.1 (by decide) (Or.inl ⟨rfl, n, hn, hp, rfl⟩)
set_option maxHeartbeats 4000000 in
set_option maxRecDepth 100000 in
theorem c_L_many (lc : Launch) (D : va_G) (ad : Nat → Nat) (oa od : Nat) (cI cD cZ cJ : ClassId) (h : SH) (hst : lc.stackTraces = false) (r i j : Nat) (hr : r < 4294967296) (hi : i < 4294967296) (hj : j < 4294967296) (hw : WF h.1) (hR : h.1.1 3 ≤ 16) (hN : h.1.1 1 ≤ 14) : CH lc D (ty4 cI cD cZ cJ) (WH ad oa od cI cD cZ cJ) yL_many bL_many 6 [(0, 12, 15, 13), (0, 12, 19, 37)] [.ref (ad 0), .int (nI r), .int (nI i), .int (nI j), .ref oa] h (HPI (fun rr u => u = h.1 ∧ r < h.1.1 3 ∧ i < j ∧ j ≤ h.1.1 1 ∧ rr = h.1.2.1 12 (r * 105 + spn i j)) (fun E u => u = h.1 ∧ ((E = "java/lang/IllegalArgumentException" ∧ ¬ r < h.1.1 3) ∨ (E = "java/util/NoSuchElementException" ∧ r < h.1.1 3 ∧ ¬ (i < j ∧ j ≤ h.1.1 1)))) [(1, "java/lang/IllegalArgumentException"), (2, "java/util/NoSuchElementException")]) := by
  refine CH_of hst [some (.ref (ad 0)), some (.int (nI r)), some (.int (nI i)), some (.int (nI j)), some (.ref oa), none] (by decide) (Nat.le_of_ble_eq_true rfl) rfl ?_
  intro K C E hkl hkD hkn
  have C1 := C.set (c := kce K + 1) (s := ksl K + 6) (by obtain ⟨q1, q2, q3, q4⟩ := E.2.2.2.1; omega) (by obtain ⟨q1, q2, q3, q4⟩ := E.2.2.2.1; omega)
  have hb1 : kce K + 1 ≤ 1 ∧ ksl K + 6 ≤ 6 ∧ kce K + 1 ≤ (kR K).cells ∧ ksl K + 6 ≤ (kR K).slots := by obtain ⟨q1, q2, q3, q4⟩ := E.2.2.2.1; omega
  refine a_aload C dL_many_0 rfl ?_
  refine a_iconst (v := 0) C dL_many_2 (by decide) ?_
  refine a_aloadn C dL_many_3 rfl rfl ?_
  refine a_iloadn C dL_many_4 rfl rfl ?_
  refine a_iloadn C dL_many_5 rfl rfl ?_
  refine a_iloadn C dL_many_6 rfl rfl ?_
  refine x_I (w1 := []) (w2 := WO oa od cJ cD h.2) (WW := WS ad cI cD cZ) (x := h.1) (As := [.int (nI r), .int (nI i), .int (nI j)]) C E.2.2.1 (c_P_many (kl K) (kD K) ad cI cD cZ cJ h.1 (by rw [hkl]; exact hst) r i j hr hi hj hw hR hN) wM_L_51 wI_P_many wSel_P_many wIni_P wC_P_many hd_P_many (by decide) (by decide) (q0 := 0) rfl rfl rfl rfl (Nat.le_of_ble_eq_true rfl) dL_many_7 hb1.2.2.1 hb1.2.2.2 ?_ ?_
  · intro E1 u q hE4 hp
    have hE : E1 = "java/lang/IllegalArgumentException" ∨ E1 = "java/util/NoSuchElementException" := by
      rcases hp with ⟨_, ⟨z, _⟩ | ⟨z, _⟩⟩ <;> simp [z]
    rcases hE with rfl | rfl
    · skip
      refine ⟨15, hnd0 E.2.2.2.2 (by decide) (by decide) wCl_L_13, ?_⟩
      refine ast_5 C1 dL_many_15 (show 5 < kn K by omega) rfl ?_
      refine a_iconst (v := 1) C1 dL_many_17 (by decide) ?_
      exact r_h (WW := WH ad oa od cI cD cZ cJ) (u := (u, h.2)) C1 E dL_many_18 hb1.1 hb1.2.1 (by decide) (Or.inr ⟨_, by simp, hp⟩)
    · skip
      refine ⟨19, hnd1 E.2.2.2.2 (by decide) (by decide) wCl_L_37 (by decide) wCl_L_13 (by decide) (by decide), ?_⟩
      refine ast_5 C1 dL_many_19 (show 5 < kn K by omega) rfl ?_
      refine a_iconst (v := 2) C1 dL_many_21 (by decide) ?_
      exact r_h (WW := WH ad oa od cI cD cZ cJ) (u := (u, h.2)) C1 E dL_many_22 hb1.1 hb1.2.1 (by decide) (Or.inr ⟨_, by simp, hp⟩)
  · intro n u hn hp
    refine a_i2lg C1 dL_many_10 ?_
    refine a_last (ws' := WH ad oa od cI cD cZ cJ (u, vp_updL h.2.1 0 (sx n), h.2.2)) C1 dL_many_11 (q0 := 23) (t0 := 3) rfl rfl (by decide) (by decide) rfl ?_
    refine a_goto (tgt := 23) C1 dL_many_12 (by decide) ?_
    refine a_iconst (v := 0) C1 dL_many_23 (by decide) ?_
    exact r_h (WW := WH ad oa od cI cD cZ cJ) (u := (u, vp_updL h.2.1 0 (sx n), h.2.2)) C1 E dL_many_24 hb1.1 hb1.2.1 (by decide) (Or.inl ⟨rfl, n, hn, hp, rfl⟩)

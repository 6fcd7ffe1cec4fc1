set_option maxHeartbeats 4000000 in
set_option maxRecDepth 100000 in
theorem c_T_length (lc : Launch) (D : va_G) (ad : Nat → Nat) (cI cD cZ cJ : ClassId) (x : ST) (hb : x.1 2 < 4294967296) : CI lc D (ty4 cI cD cZ cJ) (WS ad cI cD cZ) yT_length bT_length 1 (some .int) 0 [.ref (ad 1)] x (fun rr u => x = u ∧ rr = x.1 2) := by
  refine CI_of [some (.ref (ad 1))] (by decide) (Nat.le_of_ble_eq_true rfl) rfl ?_
  intro K C E hkl hkD hkn
  refine a_aloadn C dT_length_0 rfl rfl ?_
  refine g_T_15 C dT_length_1 ?_
  exact r_i C E dT_length_4 (by omega) ⟨rfl, rfl⟩
set_option maxHeartbeats 4000000 in
set_option maxRecDepth 100000 in
theorem c_T_at (lc : Launch) (D : va_G) (ad : Nat → Nat) (cI cD cZ cJ : ClassId) (x : ST) (i : Nat) (hi : i < 4294967296) (hl : x.1 2 ≤ 14) (hc : ∀ k, x.2.1 2 k < 4294967296) : CI lc D (ty4 cI cD cZ cJ) (WS ad cI cD cZ) yT_at bT_at 2 (some .int) 0 [.ref (ad 1), .int (nI i)] x (fun rr u => x = u ∧ rr = (if i < x.1 2 then x.2.1 2 i else 0)) := by
  refine CI_of [some (.ref (ad 1)), some (.int (nI i))] (by decide) (Nat.le_of_ble_eq_true rfl) rfl ?_
  intro K C E hkl hkD hkn
  refine a_iloadn C dT_at_0 rfl rfl ?_
  refine a_iflt (tgt := 21) C dT_at_1 (by decide) (by omega) (fun h1 => ?_) (fun h1 => ?_)
  · skip
    refine a_iconst (v := 0) C dT_at_21 (by decide) ?_
    exact r_i C E dT_at_22 (by first | omega | exact hc _) ⟨rfl, by first | rw [if_neg (by omega)] | rw [if_pos (by omega)]⟩
  · skip
    refine a_iloadn C dT_at_4 rfl rfl ?_
    refine a_aloadn C dT_at_5 rfl rfl ?_
    refine g_T_15 C dT_at_6 ?_
    refine a_cge (tgt := 21) C dT_at_9 (by decide) (by omega) (by omega) (fun h9 => ?_) (fun h9 => ?_)
    · skip
      refine a_iconst (v := 0) C dT_at_21 (by decide) ?_
      exact r_i C E dT_at_22 (by first | omega | exact hc _) ⟨rfl, by first | rw [if_neg (by omega)] | rw [if_pos (by omega)]⟩
    · skip
      refine a_aloadn C dT_at_12 rfl rfl ?_
      refine g_T_9 C dT_at_13 ?_
      refine a_iloadn C dT_at_16 rfl rfl ?_
      refine ldS_2 C dT_at_17 (by omega) ?_
      refine a_goto (tgt := 22) C dT_at_18 (by decide) ?_
      exact r_i C E dT_at_22 (by first | omega | exact hc _) ⟨rfl, by first | rw [if_neg (by omega)] | rw [if_pos (by omega)]⟩
set_option maxHeartbeats 4000000 in
set_option maxRecDepth 100000 in
theorem c_T_append (lc : Launch) (D : va_G) (ad : Nat → Nat) (cI cD cZ cJ : ClassId) (x : ST) (c : Nat) (hl : x.1 2 < 14) : CV lc D (ty4 cI cD cZ cJ) (WS ad cI cD cZ) yT_append bT_append 2 none 0 [.ref (ad 1), .int (nI c)] x (fun u => u = sS (sA x 2 (x.1 2) c) 2 (x.1 2 + 1)) := by
  refine CV_of [some (.ref (ad 1)), some (.int (nI c))] (by decide) (Nat.le_of_ble_eq_true rfl) rfl ?_
  intro K C E hkl hkD hkn
  refine a_aloadn C dT_append_0 rfl rfl ?_
  refine g_T_15 C dT_append_1 ?_
  refine a_bipush (v := 14) C dT_append_4 (by decide) ?_
  refine a_cge (tgt := 29) C dT_append_6 (by decide) (by omega) (by omega) (fun h6 => ?_) (fun h6 => ?_)
  · skip
    exact absurd h6 (by omega)
  · skip
    refine a_aloadn C dT_append_9 rfl rfl ?_
    refine g_T_9 C dT_append_10 ?_
    refine a_aloadn C dT_append_13 rfl rfl ?_
    refine g_T_15 C dT_append_14 ?_
    refine a_iloadn C dT_append_17 rfl rfl ?_
    refine stS_2 C dT_append_18 (by omega) ?_
    refine a_aloadn C dT_append_19 rfl rfl ?_
    refine a_dup C dT_append_20 rfl ?_
    refine g_T_15 C dT_append_21 ?_
    refine a_iconst (v := 1) C dT_append_24 (by decide) ?_
    refine a_iadd C dT_append_25 ?_
    refine p_T_15 C dT_append_26 ?_
    exact r_v C E dT_append_29 rfl
set_option maxHeartbeats 4000000 in
set_option maxRecDepth 100000 in
theorem c_T_clear (lc : Launch) (D : va_G) (ad : Nat → Nat) (cI cD cZ cJ : ClassId) (x : ST)  : CV lc D (ty4 cI cD cZ cJ) (WS ad cI cD cZ) yT_clear bT_clear 1 none 0 [.ref (ad 1)] x (fun u => u = sS x 2 0) := by
  refine CV_of [some (.ref (ad 1))] (by decide) (Nat.le_of_ble_eq_true rfl) rfl ?_
  intro K C E hkl hkD hkn
  refine a_aloadn C dT_clear_0 rfl rfl ?_
  refine a_iconst (v := 0) C dT_clear_1 (by decide) ?_
  refine p_T_15 C dT_clear_2 ?_
  exact r_v C E dT_clear_5 rfl
set_option maxHeartbeats 4000000 in
set_option maxRecDepth 100000 in
theorem c_G_size (lc : Launch) (D : va_G) (ad : Nat → Nat) (cI cD cZ cJ : ClassId) (x : ST) (hb : x.1 3 < 4294967296) : CI lc D (ty4 cI cD cZ cJ) (WS ad cI cD cZ) yG_size bG_size 1 (some .int) 0 [.ref (ad 3)] x (fun rr u => x = u ∧ rr = x.1 3) := by
  refine CI_of [some (.ref (ad 3))] (by decide) (Nat.le_of_ble_eq_true rfl) rfl ?_
  intro K C E hkl hkD hkn
  refine a_aloadn C dG_size_0 rfl rfl ?_
  refine g_G_35 C dG_size_1 ?_
  exact r_i C E dG_size_4 (by omega) ⟨rfl, rfl⟩
set_option maxHeartbeats 4000000 in
set_option maxRecDepth 100000 in
theorem c_G_has (lc : Launch) (D : va_G) (ad : Nat → Nat) (cI cD cZ cJ : ClassId) (x : ST) (r : Nat) (hr : r < 4294967296) (hb : x.1 3 ≤ 16) : CI lc D (ty4 cI cD cZ cJ) (WS ad cI cD cZ) yG_has bG_has 2 (some .boolean) 0 [.ref (ad 3), .int (nI r)] x (fun rr u => x = u ∧ rr = (if r < x.1 3 then 1 else 0)) := by
  refine CI_of [some (.ref (ad 3)), some (.int (nI r))] (by decide) (Nat.le_of_ble_eq_true rfl) rfl ?_
  intro K C E hkl hkD hkn
  refine a_iloadn C dG_has_0 rfl rfl ?_
  refine a_iflt (tgt := 16) C dG_has_1 (by decide) (by omega) (fun h1 => ?_) (fun h1 => ?_)
  · skip
    refine a_iconst (v := 0) C dG_has_16 (by decide) ?_
    exact r_z C E dG_has_17 (by omega) ⟨rfl, by first | rw [if_neg (by omega)] | rw [if_pos (by omega)]⟩
  · skip
    refine a_iloadn C dG_has_4 rfl rfl ?_
    refine a_aloadn C dG_has_5 rfl rfl ?_
    refine g_G_35 C dG_has_6 ?_
    refine a_cge (tgt := 16) C dG_has_9 (by decide) (by omega) (by omega) (fun h9 => ?_) (fun h9 => ?_)
    · skip
      refine a_iconst (v := 0) C dG_has_16 (by decide) ?_
      exact r_z C E dG_has_17 (by omega) ⟨rfl, by first | rw [if_neg (by omega)] | rw [if_pos (by omega)]⟩
    · skip
      refine a_iconst (v := 1) C dG_has_12 (by decide) ?_
      refine a_goto (tgt := 17) C dG_has_13 (by decide) ?_
      exact r_z C E dG_has_17 (by omega) ⟨rfl, by first | rw [if_neg (by omega)] | rw [if_pos (by omega)]⟩
set_option maxHeartbeats 4000000 in
set_option maxRecDepth 100000 in
theorem c_G_left (lc : Launch) (D : va_G) (ad : Nat → Nat) (cI cD cZ cJ : ClassId) (x : ST) (r : Nat) (hr : r < 16) (hb : x.2.1 4 r < 4294967296) : CI lc D (ty4 cI cD cZ cJ) (WS ad cI cD cZ) yG_left bG_left 2 (some .int) 0 [.ref (ad 3), .int (nI r)] x (fun rr u => x = u ∧ rr = x.2.1 4 r) := by
  refine CI_of [some (.ref (ad 3)), some (.int (nI r))] (by decide) (Nat.le_of_ble_eq_true rfl) rfl ?_
  intro K C E hkl hkD hkn
  refine a_aloadn C dG_left_0 rfl rfl ?_
  refine g_G_9 C dG_left_1 ?_
  refine a_iloadn C dG_left_4 rfl rfl ?_
  refine ldS_4 C dG_left_5 (by omega) ?_
  exact r_i C E dG_left_6 (by omega) ⟨rfl, rfl⟩
set_option maxHeartbeats 4000000 in
set_option maxRecDepth 100000 in
theorem c_G_rightLength (lc : Launch) (D : va_G) (ad : Nat → Nat) (cI cD cZ cJ : ClassId) (x : ST) (r : Nat) (hr : r < 16) (hb : x.2.1 5 r < 4294967296) : CI lc D (ty4 cI cD cZ cJ) (WS ad cI cD cZ) yG_rightLength bG_rightLength 2 (some .int) 0 [.ref (ad 3), .int (nI r)] x (fun rr u => x = u ∧ rr = x.2.1 5 r) := by
  refine CI_of [some (.ref (ad 3)), some (.int (nI r))] (by decide) (Nat.le_of_ble_eq_true rfl) rfl ?_
  intro K C E hkl hkD hkn
  refine a_aloadn C dG_rightLength_0 rfl rfl ?_
  refine g_G_15 C dG_rightLength_1 ?_
  refine a_iloadn C dG_rightLength_4 rfl rfl ?_
  refine ldS_5 C dG_rightLength_5 (by omega) ?_
  exact r_i C E dG_rightLength_6 (by omega) ⟨rfl, rfl⟩
set_option maxHeartbeats 4000000 in
set_option maxRecDepth 100000 in
theorem c_G_weightOf (lc : Launch) (D : va_G) (ad : Nat → Nat) (cI cD cZ cJ : ClassId) (x : ST) (r : Nat) (hr : r < 16) : CD lc D (ty4 cI cD cZ cJ) (WS ad cI cD cZ) yG_weightOf bG_weightOf 2 (some .double) 0 [.ref (ad 3), .int (nI r)] x (fun rr u => x = u ∧ rr = x.2.2.1 7 r) := by
  refine CD_of [some (.ref (ad 3)), some (.int (nI r))] (by decide) (Nat.le_of_ble_eq_true rfl) rfl ?_
  intro K C E hkl hkD hkn
  refine a_aloadn C dG_weightOf_0 rfl rfl ?_
  refine g_G_21 C dG_weightOf_1 ?_
  refine a_iloadn C dG_weightOf_4 rfl rfl ?_
  refine ldS_7 C dG_weightOf_5 (by omega) ?_
  exact r_d C E dG_weightOf_6 ⟨rfl, rfl⟩
set_option maxHeartbeats 4000000 in
set_option maxRecDepth 100000 in
theorem c_C_ruleIndex (lc : Launch) (D : va_G) (ad : Nat → Nat) (cI cD cZ cJ : ClassId) (x : ST) (r q : Nat) (hb : r * 105 + q < 4294967296) : CI lc D (ty4 cI cD cZ cJ) (WS ad cI cD cZ) yC_ruleIndex bC_ruleIndex 2 (some .int) 0 [.int (nI r), .int (nI q)] x (fun rr u => x = u ∧ rr = r * 105 + q) := by
  refine CI_of [some (.int (nI r)), some (.int (nI q))] (by decide) (Nat.le_of_ble_eq_true rfl) rfl ?_
  intro K C E hkl hkD hkn
  refine a_iloadn C dC_ruleIndex_0 rfl rfl ?_
  refine a_bipush (v := 105) C dC_ruleIndex_1 (by decide) ?_
  refine a_imul C dC_ruleIndex_3 ?_
  refine a_iloadn C dC_ruleIndex_4 rfl rfl ?_
  refine a_iadd C dC_ruleIndex_5 ?_
  exact r_i C E dC_ruleIndex_6 (by omega) ⟨rfl, rfl⟩
set_option maxHeartbeats 4000000 in
set_option maxRecDepth 100000 in
theorem c_C_useIndex (lc : Launch) (D : va_G) (ad : Nat → Nat) (cI cD cZ cJ : ClassId) (x : ST) (r k q : Nat) (hb : (r * 4 + k) * 105 + q < 4294967296) : CI lc D (ty4 cI cD cZ cJ) (WS ad cI cD cZ) yC_useIndex bC_useIndex 3 (some .int) 0 [.int (nI r), .int (nI k), .int (nI q)] x (fun rr u => x = u ∧ rr = (r * 4 + k) * 105 + q) := by
  refine CI_of [some (.int (nI r)), some (.int (nI k)), some (.int (nI q))] (by decide) (Nat.le_of_ble_eq_true rfl) rfl ?_
  intro K C E hkl hkD hkn
  refine a_iloadn C dC_useIndex_0 rfl rfl ?_
  refine a_iconst (v := 4) C dC_useIndex_1 (by decide) ?_
  refine a_imul C dC_useIndex_2 ?_
  refine a_iloadn C dC_useIndex_3 rfl rfl ?_
  refine a_iadd C dC_useIndex_4 ?_
  refine a_bipush (v := 105) C dC_useIndex_5 (by decide) ?_
  refine a_imul C dC_useIndex_7 ?_
  refine a_iloadn C dC_useIndex_8 rfl rfl ?_
  refine a_iadd C dC_useIndex_9 ?_
  exact r_i C E dC_useIndex_10 (by omega) ⟨rfl, rfl⟩
set_option maxHeartbeats 4000000 in
set_option maxRecDepth 100000 in
theorem c_P_spanNumber (lc : Launch) (D : va_G) (ad : Nat → Nat) (cI cD cZ cJ : ClassId) (x : ST) (i j : Nat) (hj : 1 ≤ j) (hj2 : j ≤ 14) (hi : i ≤ 14) : CI lc D (ty4 cI cD cZ cJ) (WS ad cI cD cZ) yP_spanNumber bP_spanNumber 2 (some .int) 0 [.int (nI i), .int (nI j)] x (fun rr u => x = u ∧ rr = j * (j - 1) / 2 + i) := by
  refine CI_of [some (.int (nI i)), some (.int (nI j))] (by decide) (Nat.le_of_ble_eq_true rfl) rfl ?_
  intro K C E hkl hkD hkn
  have hm : j * (j - 1) ≤ 14 * 13 := Nat.mul_le_mul hj2 (by omega)
  refine a_iloadn C dP_spanNumber_0 rfl rfl ?_
  refine a_iloadn C dP_spanNumber_1 rfl rfl ?_
  refine a_iconst (v := 1) C dP_spanNumber_2 (by decide) ?_
  refine a_isub C dP_spanNumber_3 (by omega) ?_
  refine a_imul C dP_spanNumber_4 ?_
  refine a_iconst (v := 2) C dP_spanNumber_5 (by decide) ?_
  refine a_idiv C dP_spanNumber_6 (by omega) (by omega) (by omega) ?_
  refine a_iloadn C dP_spanNumber_7 rfl rfl ?_
  refine a_iadd C dP_spanNumber_8 ?_
  exact r_i C E dP_spanNumber_9 (by omega) ⟨rfl, rfl⟩

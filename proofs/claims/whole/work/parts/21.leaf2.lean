set_option maxHeartbeats 4000000 in
set_option maxRecDepth 100000 in
theorem c_P_nonterminalNumber (lc : Launch) (D : va_G) (ad : Nat → Nat) (cI cD cZ cJ : ClassId) (x : ST) (c : Nat) (hc : c < 2147483648) : CI lc D (ty4 cI cD cZ cJ) (WS ad cI cD cZ) yP_nonterminalNumber bP_nonterminalNumber 1 (some .int) 0 [.int (nI c)] x (fun rr u => x = u ∧ rr = oN (nt c)) := by
  refine CI_of [some (.int (nI c))] (by decide) (Nat.le_of_ble_eq_true rfl) rfl ?_
  intro K C E hkl hkD hkn
  refine a_iloadn C dP_nonterminalNumber_0 rfl rfl ?_
  refine a_bipush (v := 65) C dP_nonterminalNumber_1 (by decide) ?_
  refine a_clt (tgt := 19) C dP_nonterminalNumber_3 (by decide) (by omega) (by omega) (fun h3 => ?_) (fun h3 => ?_)
  · skip
    refine a_iconst (v := 4294967295) C dP_nonterminalNumber_19 (by decide) ?_
    exact r_i C E dP_nonterminalNumber_20 (by omega) ⟨rfl, by unfold nt; first | rw [if_pos (by omega)]; rfl | rw [if_neg (by omega)]; rfl⟩
  · skip
    refine a_iloadn C dP_nonterminalNumber_6 rfl rfl ?_
    refine a_bipush (v := 70) C dP_nonterminalNumber_7 (by decide) ?_
    refine a_cgt (tgt := 19) C dP_nonterminalNumber_9 (by decide) (by omega) (by omega) (fun h9 => ?_) (fun h9 => ?_)
    · skip
      refine a_iconst (v := 4294967295) C dP_nonterminalNumber_19 (by decide) ?_
      exact r_i C E dP_nonterminalNumber_20 (by omega) ⟨rfl, by unfold nt; first | rw [if_pos (by omega)]; rfl | rw [if_neg (by omega)]; rfl⟩
    · skip
      refine a_iloadn C dP_nonterminalNumber_12 rfl rfl ?_
      refine a_bipush (v := 65) C dP_nonterminalNumber_13 (by decide) ?_
      refine a_isub C dP_nonterminalNumber_15 (by omega) ?_
      refine a_goto (tgt := 20) C dP_nonterminalNumber_16 (by decide) ?_
      exact r_i C E dP_nonterminalNumber_20 (by omega) ⟨rfl, by unfold nt; first | rw [if_pos (by omega)]; rfl | rw [if_neg (by omega)]; rfl⟩
set_option maxHeartbeats 4000000 in
set_option maxRecDepth 100000 in
theorem c_P_contains (lc : Launch) (D : va_G) (ad : Nat → Nat) (cI cD cZ cJ : ClassId) (x : ST) (t m : Nat) (ht : t < 4294967296) (hm : m < 32) : CI lc D (ty4 cI cD cZ cJ) (WS ad cI cD cZ) yP_contains bP_contains 2 (some .boolean) 0 [.int (nI t), .int (nI m)] x (fun rr u => x = u ∧ rr = (if t.testBit m = true then 1 else 0)) := by
  refine CI_of [some (.int (nI t)), some (.int (nI m))] (by decide) (Nat.le_of_ble_eq_true rfl) rfl ?_
  intro K C E hkl hkD hkn
  have hand : t &&& (1 * 2 ^ m) < 4294967296 := Nat.lt_of_le_of_lt Nat.and_le_left ht
  have hta := tb_and t m
  have hpw : 0 < 2 ^ m := Nat.pow_pos (by decide)
  refine a_iloadn C dP_contains_0 rfl rfl ?_
  refine a_iconst (v := 1) C dP_contains_1 (by decide) ?_
  refine a_iloadn C dP_contains_2 rfl rfl ?_
  refine a_ishl C dP_contains_3 (by omega) ?_
  refine a_iand C dP_contains_4 ?_
  refine a_ifeq (tgt := 12) C dP_contains_5 (by decide) (by omega) (fun h5 => ?_) (fun h5 => ?_)
  · skip
    refine a_iconst (v := 0) C dP_contains_12 (by decide) ?_
    exact r_z C E dP_contains_13 (by omega) ⟨rfl, by cases q : t.testBit m <;> simp only [q, if_true, Bool.false_eq_true, if_false] at hta ⊢ <;> omega⟩
  · skip
    refine a_iconst (v := 1) C dP_contains_8 (by decide) ?_
    refine a_goto (tgt := 13) C dP_contains_9 (by decide) ?_
    exact r_z C E dP_contains_13 (by omega) ⟨rfl, by cases q : t.testBit m <;> simp only [q, if_true, Bool.false_eq_true, if_false] at hta ⊢ <;> omega⟩
set_option maxHeartbeats 4000000 in
set_option maxRecDepth 100000 in
theorem c_P_isCharacter (lc : Launch) (D : va_G) (ad : Nat → Nat) (cI cD cZ cJ : ClassId) (x : ST) (c : Nat) (hc : c < 4294967296) : CI lc D (ty4 cI cD cZ cJ) (WS ad cI cD cZ) yP_isCharacter bP_isCharacter 1 (some .boolean) 0 [.int (nI c)] x (fun rr u => x = u ∧ rr = (if 33 ≤ c ∧ c ≤ 126 then 1 else 0)) := by
  refine CI_of [some (.int (nI c))] (by decide) (Nat.le_of_ble_eq_true rfl) rfl ?_
  intro K C E hkl hkD hkn
  refine a_iloadn C dP_isCharacter_0 rfl rfl ?_
  refine a_bipush (v := 33) C dP_isCharacter_1 (by decide) ?_
  refine a_cltG (tgt := 16) C dP_isCharacter_3 (by decide) (by omega) (by omega) (fun h3 => ?_) (fun h3 => ?_)
  · skip
    refine a_iconst (v := 0) C dP_isCharacter_16 (by decide) ?_
    exact r_z C E dP_isCharacter_17 (by omega) ⟨rfl, by first | rw [if_neg (by omega)] | rw [if_pos (by omega)]⟩
  · skip
    refine a_iloadn C dP_isCharacter_6 rfl rfl ?_
    refine a_bipush (v := 126) C dP_isCharacter_7 (by decide) ?_
    refine a_cgt (tgt := 16) C dP_isCharacter_9 (by decide) (by omega) (by omega) (fun h9 => ?_) (fun h9 => ?_)
    · skip
      refine a_iconst (v := 0) C dP_isCharacter_16 (by decide) ?_
      exact r_z C E dP_isCharacter_17 (by omega) ⟨rfl, by first | rw [if_neg (by omega)] | rw [if_pos (by omega)]⟩
    · skip
      refine a_iconst (v := 1) C dP_isCharacter_12 (by decide) ?_
      refine a_goto (tgt := 17) C dP_isCharacter_13 (by decide) ?_
      exact r_z C E dP_isCharacter_17 (by omega) ⟨rfl, by first | rw [if_neg (by omega)] | rw [if_pos (by omega)]⟩
set_option maxHeartbeats 4000000 in
set_option maxRecDepth 100000 in
theorem c_P_isNonterminalNumber (lc : Launch) (D : va_G) (ad : Nat → Nat) (cI cD cZ cJ : ClassId) (x : ST) (c : Nat) (hc : c < 4294967296) : CI lc D (ty4 cI cD cZ cJ) (WS ad cI cD cZ) yP_isNonterminalNumber bP_isNonterminalNumber 1 (some .boolean) 0 [.int (nI c)] x (fun rr u => x = u ∧ rr = (if c < 6 then 1 else 0)) := by
  refine CI_of [some (.int (nI c))] (by decide) (Nat.le_of_ble_eq_true rfl) rfl ?_
  intro K C E hkl hkD hkn
  refine a_iloadn C dP_isNonterminalNumber_0 rfl rfl ?_
  refine a_iflt (tgt := 14) C dP_isNonterminalNumber_1 (by decide) (by omega) (fun h1 => ?_) (fun h1 => ?_)
  · skip
    refine a_iconst (v := 0) C dP_isNonterminalNumber_14 (by decide) ?_
    exact r_z C E dP_isNonterminalNumber_15 (by omega) ⟨rfl, by first | rw [if_neg (by omega)] | rw [if_pos (by omega)]⟩
  · skip
    refine a_iloadn C dP_isNonterminalNumber_4 rfl rfl ?_
    refine a_bipush (v := 6) C dP_isNonterminalNumber_5 (by decide) ?_
    refine a_cge (tgt := 14) C dP_isNonterminalNumber_7 (by decide) (by omega) (by omega) (fun h7 => ?_) (fun h7 => ?_)
    · skip
      refine a_iconst (v := 0) C dP_isNonterminalNumber_14 (by decide) ?_
      exact r_z C E dP_isNonterminalNumber_15 (by omega) ⟨rfl, by first | rw [if_neg (by omega)] | rw [if_pos (by omega)]⟩
    · skip
      refine a_iconst (v := 1) C dP_isNonterminalNumber_10 (by decide) ?_
      refine a_goto (tgt := 15) C dP_isNonterminalNumber_11 (by decide) ?_
      exact r_z C E dP_isNonterminalNumber_15 (by omega) ⟨rfl, by first | rw [if_neg (by omega)] | rw [if_pos (by omega)]⟩
set_option maxHeartbeats 4000000 in
set_option maxRecDepth 100000 in
theorem c_G_symbolNonterminal (lc : Launch) (D : va_G) (ad : Nat → Nat) (cI cD cZ cJ : ClassId) (x : ST) (r k : Nat) (hr : r < 16) (hk : k < 4) (hs : x.2.1 6 (r * 4 + k) < 2147483648) : CI lc D (ty4 cI cD cZ cJ) (WS ad cI cD cZ) yG_symbolNonterminal bG_symbolNonterminal 3 (some .int) 1 [.ref (ad 3), .int (nI r), .int (nI k)] x (fun rr u => x = u ∧ rr = oN (nt (x.2.1 6 (r * 4 + k)))) := by
  refine CI_of [some (.ref (ad 3)), some (.int (nI r)), some (.int (nI k))] (by decide) (Nat.le_of_ble_eq_true rfl) rfl ?_
  intro K C E hkl hkD hkn
  refine a_aloadn C dG_symbolNonterminal_0 rfl rfl ?_
  refine g_G_18 C dG_symbolNonterminal_1 ?_
  refine a_iloadn C dG_symbolNonterminal_4 rfl rfl ?_
  refine a_iconst (v := 4) C dG_symbolNonterminal_5 (by decide) ?_
  refine a_imul C dG_symbolNonterminal_6 ?_
  refine a_iloadn C dG_symbolNonterminal_7 rfl rfl ?_
  refine a_iadd C dG_symbolNonterminal_8 ?_
  refine ldS_6 C dG_symbolNonterminal_9 (by omega) ?_
  refine tI1 C (c_P_nonterminalNumber (kl K) (kD K) ad cI cD cZ cJ _ _ (by omega)) (k0 := 4) rfl wSt_P_nonterminalNumber wIni_P wC_P_nonterminalNumber hd_P_nonterminalNumber (by decide) (by decide) (Nat.le_of_ble_eq_true rfl) dG_symbolNonterminal_10 ?_
  rintro n10 u10 b10 ⟨rfl, rfl⟩
  exact r_i C E dG_symbolNonterminal_13 (by omega) ⟨rfl, rfl⟩
set_option maxHeartbeats 4000000 in
set_option maxRecDepth 100000 in
theorem c_G_isChain (lc : Launch) (D : va_G) (ad : Nat → Nat) (cI cD cZ cJ : ClassId) (x : ST) (r : Nat) (hr : r < 16) (hw : WF x) (hs : x.2.1 6 (r * 4 + 0) < 2147483648) : CI lc D (ty4 cI cD cZ cJ) (WS ad cI cD cZ) yG_isChain bG_isChain 2 (some .boolean) 2 [.ref (ad 3), .int (nI r)] x (fun rr u => x = u ∧ rr = (if (chn (gP x) r).isSome = true then 1 else 0)) := by
  refine CI_of [some (.ref (ad 3)), some (.int (nI r))] (by decide) (Nat.le_of_ble_eq_true rfl) rfl ?_
  intro K C E hkl hkD hkn
  have h5 := hw.1 5 r
  have hch : chn (gP x) r = if x.2.1 5 r = 1 then nt (x.2.1 6 (r * 4 + 0)) else none := rfl
  refine a_aloadn C dG_isChain_0 rfl rfl ?_
  refine g_G_15 C dG_isChain_1 ?_
  refine a_iloadn C dG_isChain_4 rfl rfl ?_
  refine ldS_5 C dG_isChain_5 (by omega) ?_
  refine a_iconst (v := 1) C dG_isChain_6 (by decide) ?_
  refine a_cne (tgt := 24) C dG_isChain_7 (by decide) (by omega) (by omega) (fun h7 => ?_) (fun h7 => ?_)
  · skip
    refine a_iconst (v := 0) C dG_isChain_24 (by decide) ?_
    exact r_z C E dG_isChain_25 (by omega) ⟨rfl, by rw [hch, if_neg h7]; rfl⟩
  · skip
    refine a_aloadn C dG_isChain_10 rfl rfl ?_
    refine a_iloadn C dG_isChain_11 rfl rfl ?_
    refine a_iconst (v := 0) C dG_isChain_12 (by decide) ?_
    refine vI2 C (c_G_symbolNonterminal (kl K) (kD K) ad cI cD cZ cJ _ _ _ (by omega) (by omega) (by assumption)) wM_G_66 wI_G_symbolNonterminal wSel_G_symbolNonterminal wIni_G wC_G_symbolNonterminal hd_G_symbolNonterminal (by decide) (by decide) (q0 := 3) rfl rfl (Nat.le_of_ble_eq_true rfl) dG_isChain_13 ?_
    rintro n13 u13 b13 ⟨rfl, rfl⟩
    refine a_iconst (v := 4294967295) C dG_isChain_16 (by decide) ?_
    refine a_ceq (tgt := 24) C dG_isChain_17 (by decide) b13 (by decide) (fun h17 => ?_) (fun h17 => ?_)
    · skip
      refine a_iconst (v := 0) C dG_isChain_24 (by decide) ?_
      exact r_z C E dG_isChain_25 (by omega) ⟨rfl, by rw [hch, if_pos h7, oN_none h17]; rfl⟩
    · skip
      refine a_iconst (v := 1) C dG_isChain_20 (by decide) ?_
      refine a_goto (tgt := 25) C dG_isChain_21 (by decide) ?_
      exact r_z C E dG_isChain_25 (by omega) ⟨rfl, by rw [hch, if_pos h7, oN_some h17]; rfl⟩
set_option maxHeartbeats 4000000 in
set_option maxRecDepth 100000 in
theorem c_G_mayFollow (lc : Launch) (D : va_G) (ad : Nat → Nat) (cI cD cZ cJ : ClassId) (x : ST) (n c : Nat) (hn : n < 6) (hc : 33 ≤ c) (hc2 : c ≤ 126) (hb : x.2.1 10 (n * 94 + c - 33) < 4294967296) : CI lc D (ty4 cI cD cZ cJ) (WS ad cI cD cZ) yG_mayFollow bG_mayFollow 3 (some .boolean) 0 [.ref (ad 3), .int (nI n), .int (nI c)] x (fun rr u => x = u ∧ rr = (if x.2.1 10 (n * 94 + c - 33) = 0 then 1 else 0)) := by
  refine CI_of [some (.ref (ad 3)), some (.int (nI n)), some (.int (nI c))] (by decide) (Nat.le_of_ble_eq_true rfl) rfl ?_
  intro K C E hkl hkD hkn
  refine a_aloadn C dG_mayFollow_0 rfl rfl ?_
  refine g_G_31 C dG_mayFollow_1 ?_
  refine a_iloadn C dG_mayFollow_4 rfl rfl ?_
  refine a_bipush (v := 94) C dG_mayFollow_5 (by decide) ?_
  refine a_imul C dG_mayFollow_7 ?_
  refine a_iloadn C dG_mayFollow_8 rfl rfl ?_
  refine a_iadd C dG_mayFollow_9 ?_
  refine a_bipush (v := 33) C dG_mayFollow_10 (by decide) ?_
  refine a_isub C dG_mayFollow_12 (by omega) ?_
  refine ldS_10 C dG_mayFollow_13 (by omega) ?_
  refine a_ifne (tgt := 21) C dG_mayFollow_14 (by decide) (by omega) (fun h14 => ?_) (fun h14 => ?_)
  · skip
    refine a_iconst (v := 0) C dG_mayFollow_21 (by decide) ?_
    exact r_z C E dG_mayFollow_22 (by omega) ⟨rfl, by first | rw [if_neg (by omega)] | rw [if_pos (by omega)]⟩
  · skip
    refine a_iconst (v := 1) C dG_mayFollow_17 (by decide) ?_
    refine a_goto (tgt := 22) C dG_mayFollow_18 (by decide) ?_
    exact r_z C E dG_mayFollow_22 (by omega) ⟨rfl, by first | rw [if_neg (by omega)] | rw [if_pos (by omega)]⟩
set_option maxHeartbeats 4000000 in
set_option maxRecDepth 100000 in
theorem c_G_setMark (lc : Launch) (D : va_G) (ad : Nat → Nat) (cI cD cZ cJ : ClassId) (x : ST) (r h : Nat) (hr : r < 16) : CV lc D (ty4 cI cD cZ cJ) (WS ad cI cD cZ) yG_setMark bG_setMark 3 none 0 [.ref (ad 3), .int (nI r), .int (nI h)] x (fun u => u = sA x 8 r h) := by
  refine CV_of [some (.ref (ad 3)), some (.int (nI r)), some (.int (nI h))] (by decide) (Nat.le_of_ble_eq_true rfl) rfl ?_
  intro K C E hkl hkD hkn
  refine a_aloadn C dG_setMark_0 rfl rfl ?_
  refine g_G_25 C dG_setMark_1 ?_
  refine a_iloadn C dG_setMark_4 rfl rfl ?_
  refine a_iloadn C dG_setMark_5 rfl rfl ?_
  refine stS_8 C dG_setMark_6 (by omega) ?_
  exact r_v C E dG_setMark_7 rfl
set_option maxHeartbeats 4000000 in
set_option maxRecDepth 100000 in
theorem c_G_setMayFollow (lc : Launch) (D : va_G) (ad : Nat → Nat) (cI cD cZ cJ : ClassId) (x : ST) (n c m : Nat) (hn : n < 6) (hc : 33 ≤ c) (hc2 : c ≤ 126) (hm : m ≤ 1) : CV lc D (ty4 cI cD cZ cJ) (WS ad cI cD cZ) yG_setMayFollow bG_setMayFollow 4 none 0 [.ref (ad 3), .int (nI n), .int (nI c), .int (nI m)] x (fun u => u = sA x 10 (n * 94 + c - 33) (1 - m)) := by
  refine CV_of [some (.ref (ad 3)), some (.int (nI n)), some (.int (nI c)), some (.int (nI m))] (by decide) (Nat.le_of_ble_eq_true rfl) rfl ?_
  intro K C E hkl hkD hkn
  refine a_aloadn C dG_setMayFollow_0 rfl rfl ?_
  refine g_G_31 C dG_setMayFollow_1 ?_
  refine a_iloadn C dG_setMayFollow_4 rfl rfl ?_
  refine a_bipush (v := 94) C dG_setMayFollow_5 (by decide) ?_
  refine a_imul C dG_setMayFollow_7 ?_
  refine a_iloadn C dG_setMayFollow_8 rfl rfl ?_
  refine a_iadd C dG_setMayFollow_9 ?_
  refine a_bipush (v := 33) C dG_setMayFollow_10 (by decide) ?_
  refine a_isub C dG_setMayFollow_12 (by omega) ?_
  refine a_iloadn C dG_setMayFollow_13 rfl rfl ?_
  refine a_ifne (tgt := 21) C dG_setMayFollow_14 (by decide) (by omega) (fun h14 => ?_) (fun h14 => ?_)
  · skip
    refine a_iconst (v := 0) C dG_setMayFollow_21 (by decide) ?_
    refine stS_10 C dG_setMayFollow_22 (by omega) (by omega) ?_
    exact r_v C E dG_setMayFollow_23 (by first | (rw [show (1 : Nat) - m = 0 by omega]; done) | (rw [show (1 : Nat) - m = 1 by omega]; done))
  · skip
    refine a_iconst (v := 1) C dG_setMayFollow_17 (by decide) ?_
    refine a_goto (tgt := 22) C dG_setMayFollow_18 (by decide) ?_
    refine stS_10 C dG_setMayFollow_22 (by omega) (by omega) ?_
    exact r_v C E dG_setMayFollow_23 (by first | (rw [show (1 : Nat) - m = 0 by omega]; done) | (rw [show (1 : Nat) - m = 1 by omega]; done))
set_option maxHeartbeats 4000000 in
set_option maxRecDepth 100000 in
theorem c_C_waysOf (lc : Launch) (D : va_G) (ad : Nat → Nat) (cI cD cZ cJ : ClassId) (x : ST) (r q : Nat) (hr : r < 16) (hq : q < 105) (hw : WF x) : CI lc D (ty4 cI cD cZ cJ) (WS ad cI cD cZ) yC_waysOf bC_waysOf 3 (some .int) 1 [.ref (ad 11), .int (nI r), .int (nI q)] x (fun rr u => x = u ∧ rr = x.2.1 12 (r * 105 + q)) := by
  refine CI_of [some (.ref (ad 11)), some (.int (nI r)), some (.int (nI q))] (by decide) (Nat.le_of_ble_eq_true rfl) rfl ?_
  intro K C E hkl hkD hkn
  refine a_aloadn C dC_waysOf_0 rfl rfl ?_
  refine g_C_9 C dC_waysOf_1 ?_
  refine a_iloadn C dC_waysOf_4 rfl rfl ?_
  refine a_iloadn C dC_waysOf_5 rfl rfl ?_
  refine sI2 C (c_C_ruleIndex (kl K) (kD K) ad cI cD cZ cJ _ _ _ (by omega)) wM_C_137 wSt_C_ruleIndex wIni_C wC_C_ruleIndex hd_C_ruleIndex (by decide) (by decide) (Nat.le_of_ble_eq_true rfl) dC_waysOf_6 ?_
  rintro n6 u6 b6 ⟨rfl, rfl⟩
  refine ldS_12 C dC_waysOf_9 (by omega) ?_
  exact r_i C E dC_waysOf_10 (hw.1 _ _) ⟨rfl, rfl⟩
set_option maxHeartbeats 4000000 in
set_option maxRecDepth 100000 in
theorem c_C_heaviestWeight (lc : Launch) (D : va_G) (ad : Nat → Nat) (cI cD cZ cJ : ClassId) (x : ST) (r q : Nat) (hr : r < 16) (hq : q < 105) : CD lc D (ty4 cI cD cZ cJ) (WS ad cI cD cZ) yC_heaviestWeight bC_heaviestWeight 3 (some .double) 1 [.ref (ad 11), .int (nI r), .int (nI q)] x (fun rr u => x = u ∧ rr = x.2.2.1 13 (r * 105 + q)) := by
  refine CD_of [some (.ref (ad 11)), some (.int (nI r)), some (.int (nI q))] (by decide) (Nat.le_of_ble_eq_true rfl) rfl ?_
  intro K C E hkl hkD hkn
  refine a_aloadn C dC_heaviestWeight_0 rfl rfl ?_
  refine g_C_15 C dC_heaviestWeight_1 ?_
  refine a_iloadn C dC_heaviestWeight_4 rfl rfl ?_
  refine a_iloadn C dC_heaviestWeight_5 rfl rfl ?_
  refine sI2 C (c_C_ruleIndex (kl K) (kD K) ad cI cD cZ cJ _ _ _ (by omega)) wM_C_137 wSt_C_ruleIndex wIni_C wC_C_ruleIndex hd_C_ruleIndex (by decide) (by decide) (Nat.le_of_ble_eq_true rfl) dC_heaviestWeight_6 ?_
  rintro n6 u6 b6 ⟨rfl, rfl⟩
  refine ldS_13 C dC_heaviestWeight_9 (by omega) ?_
  exact r_d C E dC_heaviestWeight_10 ⟨rfl, rfl⟩
set_option maxHeartbeats 4000000 in
set_option maxRecDepth 100000 in
theorem c_C_ruleBelow (lc : Launch) (D : va_G) (ad : Nat → Nat) (cI cD cZ cJ : ClassId) (x : ST) (r k q : Nat) (hr : r < 16) (hk : k < 4) (hq : q < 105) (hw : WF x) : CI lc D (ty4 cI cD cZ cJ) (WS ad cI cD cZ) yC_ruleBelow bC_ruleBelow 4 (some .int) 1 [.ref (ad 11), .int (nI r), .int (nI k), .int (nI q)] x (fun rr u => x = u ∧ rr = x.2.1 16 ((r * 4 + k) * 105 + q)) := by
  refine CI_of [some (.ref (ad 11)), some (.int (nI r)), some (.int (nI k)), some (.int (nI q))] (by decide) (Nat.le_of_ble_eq_true rfl) rfl ?_
  intro K C E hkl hkD hkn
  refine a_aloadn C dC_ruleBelow_0 rfl rfl ?_
  refine g_C_25 C dC_ruleBelow_1 ?_
  refine a_iloadn C dC_ruleBelow_4 rfl rfl ?_
  refine a_iloadn C dC_ruleBelow_5 rfl rfl ?_
  refine a_iloadn C dC_ruleBelow_6 rfl rfl ?_
  refine sI3 C (c_C_useIndex (kl K) (kD K) ad cI cD cZ cJ _ _ _ _ (by omega)) wM_C_95 wSt_C_useIndex wIni_C wC_C_useIndex hd_C_useIndex (by decide) (by decide) (Nat.le_of_ble_eq_true rfl) dC_ruleBelow_7 ?_
  rintro n7 u7 b7 ⟨rfl, rfl⟩
  refine ldS_16 C dC_ruleBelow_10 (by omega) ?_
  exact r_i C E dC_ruleBelow_11 (hw.1 _ _) ⟨rfl, rfl⟩
set_option maxHeartbeats 4000000 in
set_option maxRecDepth 100000 in
theorem c_E_size (lc : Launch) (D : va_G) (ad : Nat → Nat) (cI cD cZ cJ : ClassId) (x : ST) (hb : x.1 4 < 4294967296) : CI lc D (ty4 cI cD cZ cJ) (WS ad cI cD cZ) yE_size bE_size 1 (some .int) 0 [.ref (ad 19)] x (fun rr u => x = u ∧ rr = x.1 4) := by
  refine CI_of [some (.ref (ad 19))] (by decide) (Nat.le_of_ble_eq_true rfl) rfl ?_
  intro K C E hkl hkD hkn
  refine a_aloadn C dE_size_0 rfl rfl ?_
  refine g_E_21 C dE_size_1 ?_
  exact r_i C E dE_size_4 (by omega) ⟨rfl, rfl⟩
set_option maxHeartbeats 4000000 in
set_option maxRecDepth 100000 in
theorem c_E_clear (lc : Launch) (D : va_G) (ad : Nat → Nat) (cI cD cZ cJ : ClassId) (x : ST)  : CV lc D (ty4 cI cD cZ cJ) (WS ad cI cD cZ) yE_clear bE_clear 1 none 0 [.ref (ad 19)] x (fun u => u = sS x 4 0) := by
  refine CV_of [some (.ref (ad 19))] (by decide) (Nat.le_of_ble_eq_true rfl) rfl ?_
  intro K C E hkl hkD hkn
  refine a_aloadn C dE_clear_0 rfl rfl ?_
  refine a_iconst (v := 0) C dE_clear_1 (by decide) ?_
  refine p_E_21 C dE_clear_2 ?_
  exact r_v C E dE_clear_5 rfl
set_option maxHeartbeats 4000000 in
set_option maxRecDepth 100000 in
theorem c_E_ruleAt (lc : Launch) (D : va_G) (ad : Nat → Nat) (cI cD cZ cJ : ClassId) (x : ST) (k : Nat) (hk : k < 162) (hw : WF x) : CI lc D (ty4 cI cD cZ cJ) (WS ad cI cD cZ) yE_ruleAt bE_ruleAt 2 (some .int) 0 [.ref (ad 19), .int (nI k)] x (fun rr u => x = u ∧ rr = x.2.1 20 k) := by
  refine CI_of [some (.ref (ad 19)), some (.int (nI k))] (by decide) (Nat.le_of_ble_eq_true rfl) rfl ?_
  intro K C E hkl hkD hkn
  refine a_aloadn C dE_ruleAt_0 rfl rfl ?_
  refine g_E_9 C dE_ruleAt_1 ?_
  refine a_iloadn C dE_ruleAt_4 rfl rfl ?_
  refine ldS_20 C dE_ruleAt_5 (by omega) ?_
  exact r_i C E dE_ruleAt_6 (hw.1 _ _) ⟨rfl, rfl⟩
set_option maxHeartbeats 4000000 in
set_option maxRecDepth 100000 in
theorem c_E_beginAt (lc : Launch) (D : va_G) (ad : Nat → Nat) (cI cD cZ cJ : ClassId) (x : ST) (k : Nat) (hk : k < 162) (hw : WF x) : CI lc D (ty4 cI cD cZ cJ) (WS ad cI cD cZ) yE_beginAt bE_beginAt 2 (some .int) 0 [.ref (ad 19), .int (nI k)] x (fun rr u => x = u ∧ rr = x.2.1 21 k) := by
  refine CI_of [some (.ref (ad 19)), some (.int (nI k))] (by decide) (Nat.le_of_ble_eq_true rfl) rfl ?_
  intro K C E hkl hkD hkn
  refine a_aloadn C dE_beginAt_0 rfl rfl ?_
  refine g_E_15 C dE_beginAt_1 ?_
  refine a_iloadn C dE_beginAt_4 rfl rfl ?_
  refine ldS_21 C dE_beginAt_5 (by omega) ?_
  exact r_i C E dE_beginAt_6 (hw.1 _ _) ⟨rfl, rfl⟩
set_option maxHeartbeats 4000000 in
set_option maxRecDepth 100000 in
theorem c_E_endAt (lc : Launch) (D : va_G) (ad : Nat → Nat) (cI cD cZ cJ : ClassId) (x : ST) (k : Nat) (hk : k < 162) (hw : WF x) : CI lc D (ty4 cI cD cZ cJ) (WS ad cI cD cZ) yE_endAt bE_endAt 2 (some .int) 0 [.ref (ad 19), .int (nI k)] x (fun rr u => x = u ∧ rr = x.2.1 22 k) := by
  refine CI_of [some (.ref (ad 19)), some (.int (nI k))] (by decide) (Nat.le_of_ble_eq_true rfl) rfl ?_
  intro K C E hkl hkD hkn
  refine a_aloadn C dE_endAt_0 rfl rfl ?_
  refine g_E_18 C dE_endAt_1 ?_
  refine a_iloadn C dE_endAt_4 rfl rfl ?_
  refine ldS_22 C dE_endAt_5 (by omega) ?_
  exact r_i C E dE_endAt_6 (hw.1 _ _) ⟨rfl, rfl⟩
set_option maxHeartbeats 4000000 in
set_option maxRecDepth 100000 in
theorem c_P_forgetInput (lc : Launch) (D : va_G) (ad : Nat → Nat) (cI cD cZ cJ : ClassId) (x : ST)  : CV lc D (ty4 cI cD cZ cJ) (WS ad cI cD cZ) yP_forgetInput bP_forgetInput 1 none 1 [.ref (ad 0)] x (fun u => u = sS (sT (sS x 1 0) 0) 4 0) := by
  refine CV_of [some (.ref (ad 0))] (by decide) (Nat.le_of_ble_eq_true rfl) rfl ?_
  intro K C E hkl hkD hkn
  refine a_aloadn C dP_forgetInput_0 rfl rfl ?_
  refine a_iconst (v := 0) C dP_forgetInput_1 (by decide) ?_
  refine p_P_41 C dP_forgetInput_2 ?_
  refine a_aloadn C dP_forgetInput_5 rfl rfl ?_
  refine a_dconst0 C dP_forgetInput_6 ?_
  refine p_P_44 C dP_forgetInput_7 ?_
  refine a_aloadn C dP_forgetInput_10 rfl rfl ?_
  refine g_P_33 C dP_forgetInput_11 ?_
  refine vV0 C (c_E_clear (kl K) (kD K) ad cI cD cZ cJ _ ) wM_P_166 wI_E_clear wSel_E_clear wIni_E wC_E_clear hd_E_clear (by decide) (by decide) (q0 := 19) rfl rfl (Nat.le_of_ble_eq_true rfl) dP_forgetInput_14 ?_
  rintro u14 rfl
  exact r_v C E dP_forgetInput_17 rfl

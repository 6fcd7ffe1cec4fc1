set_option maxHeartbeats 4000000 in
set_option maxRecDepth 100000 in
theorem c_M_in (lc : Launch) (D : va_G) (ad : Nat → Nat) (cI cD cZ cJ : ClassId) (x : ST) (v lo hi : Nat) (hv : v < 4294967296) (hlo : lo < 2147483648) (hhi : hi < 4294967296) : CI lc D (ty4 cI cD cZ cJ) (WM ad cI cD cZ) yM_in bM_in 3 (some .boolean) 0 [.int (nI v), .int (nI lo), .int (nI hi)] x (fun rr u => x = u ∧ rr = (if lo ≤ v ∧ v ≤ hi ∧ hi < 2147483648 then 1 else 0)) := by
  refine CI_of [some (.int (nI v)), some (.int (nI lo)), some (.int (nI hi))] (by decide) (Nat.le_of_ble_eq_true rfl) rfl ?_
  intro K C E hkl hkD hkn
  refine a_iloadn C dM_in_0 rfl rfl ?_
  refine a_iloadn C dM_in_1 rfl rfl ?_
  refine a_cltG (tgt := 14) C dM_in_2 (by decide) (by omega) (by omega) (fun h2 => ?_) (fun h2 => ?_)
  · skip
    refine a_iconst (v := 0) C dM_in_14 (by decide) ?_
    exact r_z C E dM_in_15 (by omega) ⟨rfl, by first | rw [if_neg (by omega)] | rw [if_pos (by omega)]⟩
  · skip
    refine a_iloadn C dM_in_5 rfl rfl ?_
    refine a_iloadn C dM_in_6 rfl rfl ?_
    refine a_cgtB (tgt := 14) C dM_in_7 (by decide) (by omega) (by omega) (fun h7 => ?_) (fun h7 => ?_)
    · skip
      refine a_iconst (v := 0) C dM_in_14 (by decide) ?_
      exact r_z C E dM_in_15 (by omega) ⟨rfl, by first | rw [if_neg (by omega)] | rw [if_pos (by omega)]⟩
    · skip
      refine a_iconst (v := 1) C dM_in_10 (by decide) ?_
      refine a_goto (tgt := 15) C dM_in_11 (by decide) ?_
      exact r_z C E dM_in_15 (by omega) ⟨rfl, by first | rw [if_neg (by omega)] | rw [if_pos (by omega)]⟩
set_option maxHeartbeats 4000000 in
set_option maxRecDepth 100000 in
theorem c_M_thrown (lc : Launch) (D : va_G) (ad : Nat → Nat) (cI cD cZ cJ : ClassId) (x : ST) (hw : x.1 5 < 4294967296) : CI lc D (ty4 cI cD cZ cJ) (WM ad cI cD cZ) yM_thrown bM_thrown 1 (some .int) 0 [.ref (ad 0)] x (fun rr u => x = u ∧ rr = x.1 5) := by
  refine CI_of [some (.ref (ad 0))] (by decide) (Nat.le_of_ble_eq_true rfl) rfl ?_
  intro K C E hkl hkD hkn
  refine a_aloadn C dM_thrown_0 rfl rfl ?_
  refine g_M_76 C dM_thrown_1 ?_
  exact r_i C E dM_thrown_4 (by omega) ⟨rfl, rfl⟩
set_option maxHeartbeats 4000000 in
set_option maxRecDepth 100000 in
theorem c_M_bad (lc : Launch) (D : va_G) (ad : Nat → Nat) (cI cD cZ cJ : ClassId) (x : ST) (b : Nat) (hb : b ≤ 1) : CI lc D (ty4 cI cD cZ cJ) (WM ad cI cD cZ) yM_bad bM_bad 2 (some .boolean) 0 [.ref (ad 0), .int (nI b)] x (fun rr u => u = sS x 5 (1 - b) ∧ rr = 1 - b) := by
  refine CI_of [some (.ref (ad 0)), some (.int (nI b))] (by decide) (Nat.le_of_ble_eq_true rfl) rfl ?_
  intro K C E hkl hkD hkn
  refine a_aloadn C dM_bad_0 rfl rfl ?_
  refine a_iloadn C dM_bad_1 rfl rfl ?_
  refine a_ifeq (tgt := 9) C dM_bad_2 (by decide) (by omega) (fun h2 => ?_) (fun h2 => ?_)
  · skip
    refine a_iconst (v := 1) C dM_bad_9 (by decide) ?_
    refine p_M_76 C dM_bad_10 ?_
    refine a_iloadn C dM_bad_13 rfl rfl ?_
    refine a_ifne (tgt := 21) C dM_bad_14 (by decide) (by omega) (fun h14 => ?_) (fun h14 => ?_)
    · skip
      refine a_iconst (v := 0) C dM_bad_21 (by decide) ?_
      exact r_z C E dM_bad_22 (by omega) ⟨by first | (exact absurd h2 h14) | (exact absurd h14 h2) | (rw [show (1 : Nat) - b = 0 by omega]; done) | (rw [show (1 : Nat) - b = 1 by omega]; done), by omega⟩
    · skip
      refine a_iconst (v := 1) C dM_bad_17 (by decide) ?_
      refine a_goto (tgt := 22) C dM_bad_18 (by decide) ?_
      exact r_z C E dM_bad_22 (by omega) ⟨by first | (exact absurd h2 h14) | (exact absurd h14 h2) | (rw [show (1 : Nat) - b = 0 by omega]; done) | (rw [show (1 : Nat) - b = 1 by omega]; done), by omega⟩
  · skip
    refine a_iconst (v := 0) C dM_bad_5 (by decide) ?_
    refine a_goto (tgt := 10) C dM_bad_6 (by decide) ?_
    refine p_M_76 C dM_bad_10 ?_
    refine a_iloadn C dM_bad_13 rfl rfl ?_
    refine a_ifne (tgt := 21) C dM_bad_14 (by decide) (by omega) (fun h14 => ?_) (fun h14 => ?_)
    · skip
      refine a_iconst (v := 0) C dM_bad_21 (by decide) ?_
      exact r_z C E dM_bad_22 (by omega) ⟨by first | (exact absurd h2 h14) | (exact absurd h14 h2) | (rw [show (1 : Nat) - b = 0 by omega]; done) | (rw [show (1 : Nat) - b = 1 by omega]; done), by omega⟩
    · skip
      refine a_iconst (v := 1) C dM_bad_17 (by decide) ?_
      refine a_goto (tgt := 22) C dM_bad_18 (by decide) ?_
      exact r_z C E dM_bad_22 (by omega) ⟨by first | (exact absurd h2 h14) | (exact absurd h14 h2) | (rw [show (1 : Nat) - b = 0 by omega]; done) | (rw [show (1 : Nat) - b = 1 by omega]; done), by omega⟩
set_option maxHeartbeats 4000000 in
set_option maxRecDepth 100000 in
theorem c_M_fail (lc : Launch) (D : va_G) (ad : Nat → Nat) (cI cD cZ cJ : ClassId) (x : ST) (c : Nat) : CI lc D (ty4 cI cD cZ cJ) (WM ad cI cD cZ) yM_fail bM_fail 2 (some .int) 0 [.ref (ad 0), .int (nI c)] x (fun rr u => u = sS x 5 c ∧ rr = 0) := by
  refine CI_of [some (.ref (ad 0)), some (.int (nI c))] (by decide) (Nat.le_of_ble_eq_true rfl) rfl ?_
  intro K C E hkl hkD hkn
  refine a_aloadn C dM_fail_0 rfl rfl ?_
  refine a_iloadn C dM_fail_1 rfl rfl ?_
  refine p_M_76 C dM_fail_2 ?_
  refine a_iconst (v := 0) C dM_fail_5 (by decide) ?_
  exact r_i C E dM_fail_6 (by omega) ⟨rfl, rfl⟩
set_option maxHeartbeats 4000000 in
set_option maxRecDepth 100000 in
theorem c_M_change (lc : Launch) (D : va_G) (ad : Nat → Nat) (cI cD cZ cJ : ClassId) (x : ST)  : CV lc D (ty4 cI cD cZ cJ) (WM ad cI cD cZ) yM_change bM_change 1 none 0 [.ref (ad 0)] x (fun u => u = CHm x) := by
  refine CV_of [some (.ref (ad 0))] (by decide) (Nat.le_of_ble_eq_true rfl) rfl ?_
  intro K C E hkl hkD hkn
  refine a_aloadn C dM_change_0 rfl rfl ?_
  refine a_iconst (v := 0) C dM_change_1 (by decide) ?_
  refine p_M_94 C dM_change_2 (by omega) ?_
  refine a_aloadn C dM_change_5 rfl rfl ?_
  refine a_iconst (v := 0) C dM_change_6 (by decide) ?_
  refine p_M_98 C dM_change_7 (by omega) ?_
  exact r_v C E dM_change_10 rfl
set_option maxHeartbeats 4000000 in
set_option maxRecDepth 100000 in
theorem c_M_isRule (lc : Launch) (D : va_G) (ad : Nat → Nat) (cI cD cZ cJ : ClassId) (x : ST) (r : Nat) (hr : r < 4294967296) (hR : x.1 0 ≤ 400) : CI lc D (ty4 cI cD cZ cJ) (WM ad cI cD cZ) yM_isRule bM_isRule 2 (some .boolean) 1 [.ref (ad 0), .int (nI r)] x (fun rr u => x = u ∧ rr = (if r < x.1 0 then 1 else 0)) := by
  refine CI_of [some (.ref (ad 0)), some (.int (nI r))] (by decide) (Nat.le_of_ble_eq_true rfl) rfl ?_
  intro K C E hkl hkD hkn
  refine a_iloadn C dM_isRule_0 rfl rfl ?_
  refine a_iconst (v := 0) C dM_isRule_1 (by decide) ?_
  refine a_aloadn C dM_isRule_2 rfl rfl ?_
  refine g_M_101 C dM_isRule_3 ?_
  refine a_iconst (v := 1) C dM_isRule_6 (by decide) ?_
  refine a_isubw C dM_isRule_7 (by decide) ?_
  rw [dn_1]
  refine sI3 C (c_M_in (kl K) (kD K) ad cI cD cZ cJ _ _ _ _ hr (by decide) (dnv_32 (by omega))) wM_M_79 wSt_M_in wIni_M wC_M_in hd_M_in (by decide) (by decide) (Nat.le_of_ble_eq_true rfl) dM_isRule_8 ?_
  rintro n8 u8 b8 ⟨rfl, rfl⟩
  have hdd := dnv_lt (a := x.1 0) (by omega) r
  exact r_z C E dM_isRule_11 i01_le ⟨rfl, by by_cases q : r < x.1 0; rw [if_pos q, if_pos ⟨Nat.zero_le _, hdd.mpr q⟩]; rw [if_neg q, if_neg (fun z => q (hdd.mp z.2))]⟩
set_option maxHeartbeats 4000000 in
set_option maxRecDepth 100000 in
theorem c_M_isChain (lc : Launch) (D : va_G) (ad : Nat → Nat) (cI cD cZ cJ : ClassId) (x : ST) (r : Nat) (hr : r < 16) (hw : WF x) : CI lc D (ty4 cI cD cZ cJ) (WM ad cI cD cZ) yM_isChain bM_isChain 2 (some .boolean) 1 [.ref (ad 0), .int (nI r)] x (fun rr u => x = u ∧ rr = (if (chn (gM x) r).isSome = true then 1 else 0)) := by
  refine CI_of [some (.ref (ad 0)), some (.int (nI r))] (by decide) (Nat.le_of_ble_eq_true rfl) rfl ?_
  intro K C E hkl hkD hkn
  refine a_aloadn C dM_isChain_0 rfl rfl ?_
  refine g_M_19 C dM_isChain_1 ?_
  refine a_iloadn C dM_isChain_4 rfl rfl ?_
  refine ldM_4 C dM_isChain_5 (by omega) ?_
  refine a_iconst (v := 1) C dM_isChain_6 (by decide) ?_
  refine a_cne (tgt := 32) C dM_isChain_7 (by decide) (hw.1 4 r) (by decide) (fun h7 => ?_) (fun h7 => ?_)
  · skip
    refine a_iconst (v := 0) C dM_isChain_32 (by decide) ?_
    exact r_z C E dM_isChain_33 (by omega) ⟨rfl, by first | (rw [chM_no (Or.inl h7)]; rfl) | (rw [chM_no (Or.inr (fun q => i01_eq h25 ⟨q.1, q.2, by decide⟩))]; rfl) | (rw [chM_yes h7 ⟨(i01_ne h25).1, (i01_ne h25).2.1⟩]; rfl)⟩
  · skip
    refine a_aloadn C dM_isChain_10 rfl rfl ?_
    refine g_M_22 C dM_isChain_11 ?_
    refine a_iloadn C dM_isChain_14 rfl rfl ?_
    refine a_iconst (v := 4) C dM_isChain_15 (by decide) ?_
    refine a_imul C dM_isChain_16 ?_
    refine ldM_5 C dM_isChain_17 (by omega) ?_
    refine a_bipush (v := 65) C dM_isChain_18 (by decide) ?_
    refine a_bipush (v := 70) C dM_isChain_20 (by decide) ?_
    refine sI3 C (c_M_in (kl K) (kD K) ad cI cD cZ cJ _ _ _ _ (hw.1 5 _) (by decide) (by decide)) wM_M_79 wSt_M_in wIni_M wC_M_in hd_M_in (by decide) (by decide) (Nat.le_of_ble_eq_true rfl) dM_isChain_22 ?_
    rintro n22 u22 b22 ⟨rfl, rfl⟩
    refine a_ifeq (tgt := 32) C dM_isChain_25 (by decide) i01_lt (fun h25 => ?_) (fun h25 => ?_)
    · skip
      refine a_iconst (v := 0) C dM_isChain_32 (by decide) ?_
      exact r_z C E dM_isChain_33 (by omega) ⟨rfl, by first | (rw [chM_no (Or.inl h7)]; rfl) | (rw [chM_no (Or.inr (fun q => i01_eq h25 ⟨q.1, q.2, by decide⟩))]; rfl) | (rw [chM_yes h7 ⟨(i01_ne h25).1, (i01_ne h25).2.1⟩]; rfl)⟩
    · skip
      refine a_iconst (v := 1) C dM_isChain_28 (by decide) ?_
      refine a_goto (tgt := 33) C dM_isChain_29 (by decide) ?_
      exact r_z C E dM_isChain_33 (by omega) ⟨rfl, by first | (rw [chM_no (Or.inl h7)]; rfl) | (rw [chM_no (Or.inr (fun q => i01_eq h25 ⟨q.1, q.2, by decide⟩))]; rfl) | (rw [chM_yes h7 ⟨(i01_ne h25).1, (i01_ne h25).2.1⟩]; rfl)⟩
set_option maxHeartbeats 4000000 in
set_option maxRecDepth 100000 in
theorem c_M_span (lc : Launch) (D : va_G) (ad : Nat → Nat) (cI cD cZ cJ : ClassId) (x : ST) (i j : Nat) (hi : i ≤ 14) (hj : j ≤ 14) : CI lc D (ty4 cI cD cZ cJ) (WM ad cI cD cZ) yM_span bM_span 2 (some .int) 0 [.int (nI i), .int (nI j)] x (fun rr u => x = u ∧ rr = i * 15 + j) := by
  refine CI_of [some (.int (nI i)), some (.int (nI j))] (by decide) (Nat.le_of_ble_eq_true rfl) rfl ?_
  intro K C E hkl hkD hkn
  refine a_iloadn C dM_span_0 rfl rfl ?_
  refine a_bipush (v := 15) C dM_span_1 (by decide) ?_
  refine a_imul C dM_span_3 ?_
  refine a_iloadn C dM_span_4 rfl rfl ?_
  refine a_iadd C dM_span_5 ?_
  exact r_i C E dM_span_6 (by omega) ⟨rfl, rfl⟩
set_option maxHeartbeats 4000000 in
set_option maxRecDepth 100000 in
theorem c_M_allowed (lc : Launch) (D : va_G) (ad : Nat → Nat) (cI cD cZ cJ : ClassId) (x : ST) (r k s : Nat) (hr : r < 16) (hs : s < 16) (hk : k < 4) (hw : WF x) (hz : 1 ≤ x.2.1 4 r) : CI lc D (ty4 cI cD cZ cJ) (WM ad cI cD cZ) yM_allowed bM_allowed 4 (some .boolean) 0 [.ref (ad 0), .int (nI r), .int (nI k), .int (nI s)] x (fun rr u => x = u ∧ rr = (if alw (gM x) r k s = true then 1 else 0)) := by
  refine CI_of [some (.ref (ad 0)), some (.int (nI r)), some (.int (nI k)), some (.int (nI s))] (by decide) (Nat.le_of_ble_eq_true rfl) rfl ?_
  intro K C E hkl hkD hkn
  have h4l := hw.1 4 r
  have h6l := hw.1 6 r
  have h11l := hw.1 11 (r * 16 + s)
  refine a_aloadn C dM_allowed_0 rfl rfl ?_
  refine g_M_41 C dM_allowed_1 ?_
  refine a_iloadn C dM_allowed_4 rfl rfl ?_
  refine a_bipush (v := 16) C dM_allowed_5 (by decide) ?_
  refine a_imul C dM_allowed_7 ?_
  refine a_iloadn C dM_allowed_8 rfl rfl ?_
  refine a_iadd C dM_allowed_9 ?_
  refine ldM_11 C dM_allowed_10 (by omega) ?_
  refine a_ifeq (tgt := 16) C dM_allowed_11 (by decide) h11l (fun h11 => ?_) (fun h11 => ?_)
  · skip
    refine a_iloadn C dM_allowed_16 rfl rfl ?_
    refine a_iloadn C dM_allowed_17 rfl rfl ?_
    refine a_ceq (tgt := 23) C dM_allowed_18 (by decide) (by omega) (by omega) (fun h18 => ?_) (fun h18 => ?_)
    · skip
      refine a_aloadn C dM_allowed_23 rfl rfl ?_
      refine g_M_25 C dM_allowed_24 ?_
      refine a_iloadn C dM_allowed_27 rfl rfl ?_
      refine ldM_6 C dM_allowed_28 (by omega) ?_
      refine a_iconst (v := 2) C dM_allowed_29 (by decide) ?_
      refine a_cne (tgt := 45) C dM_allowed_30 (by decide) (by omega) (by omega) (fun h30 => ?_) (fun h30 => ?_)
      · skip
        refine a_aloadn C dM_allowed_45 rfl rfl ?_
        refine g_M_25 C dM_allowed_46 ?_
        refine a_iloadn C dM_allowed_49 rfl rfl ?_
        refine ldM_6 C dM_allowed_50 (by omega) ?_
        refine a_iconst (v := 3) C dM_allowed_51 (by decide) ?_
        refine a_cne (tgt := 59) C dM_allowed_52 (by decide) (by omega) (by omega) (fun h52 => ?_) (fun h52 => ?_)
        · skip
          refine a_iconst (v := 1) C dM_allowed_59 (by decide) ?_
          refine a_goto (tgt := 64) C dM_allowed_60 (by decide) ?_
          exact r_z C E dM_allowed_64 (by omega) ⟨rfl, by first | (rw [alM_1 h11]; rfl) | (rw [alM_2 h11 h18]; rfl) | (rw [alM_3 h18 (by omega)]; rfl) | (rw [alM_4 h11 (by omega)]; rfl)⟩
        · skip
          refine a_iloadn C dM_allowed_55 rfl rfl ?_
          refine a_ifeq (tgt := 63) C dM_allowed_56 (by decide) (by omega) (fun h56 => ?_) (fun h56 => ?_)
          · skip
            refine a_iconst (v := 0) C dM_allowed_63 (by decide) ?_
            exact r_z C E dM_allowed_64 (by omega) ⟨rfl, by first | (rw [alM_1 h11]; rfl) | (rw [alM_2 h11 h18]; rfl) | (rw [alM_3 h18 (by omega)]; rfl) | (rw [alM_4 h11 (by omega)]; rfl)⟩
          · skip
            refine a_iconst (v := 1) C dM_allowed_59 (by decide) ?_
            refine a_goto (tgt := 64) C dM_allowed_60 (by decide) ?_
            exact r_z C E dM_allowed_64 (by omega) ⟨rfl, by first | (rw [alM_1 h11]; rfl) | (rw [alM_2 h11 h18]; rfl) | (rw [alM_3 h18 (by omega)]; rfl) | (rw [alM_4 h11 (by omega)]; rfl)⟩
      · skip
        refine a_iloadn C dM_allowed_33 rfl rfl ?_
        refine a_aloadn C dM_allowed_34 rfl rfl ?_
        refine g_M_19 C dM_allowed_35 ?_
        refine a_iloadn C dM_allowed_38 rfl rfl ?_
        refine ldM_4 C dM_allowed_39 (by omega) ?_
        refine a_iconst (v := 1) C dM_allowed_40 (by decide) ?_
        refine a_isub C dM_allowed_41 (by omega) ?_
        refine a_ceq (tgt := 63) C dM_allowed_42 (by decide) (by omega) (by omega) (fun h42 => ?_) (fun h42 => ?_)
        · skip
          refine a_iconst (v := 0) C dM_allowed_63 (by decide) ?_
          exact r_z C E dM_allowed_64 (by omega) ⟨rfl, by first | (rw [alM_1 h11]; rfl) | (rw [alM_2 h11 h18]; rfl) | (rw [alM_3 h18 (by omega)]; rfl) | (rw [alM_4 h11 (by omega)]; rfl)⟩
        · skip
          refine a_aloadn C dM_allowed_45 rfl rfl ?_
          refine g_M_25 C dM_allowed_46 ?_
          refine a_iloadn C dM_allowed_49 rfl rfl ?_
          refine ldM_6 C dM_allowed_50 (by omega) ?_
          refine a_iconst (v := 3) C dM_allowed_51 (by decide) ?_
          refine a_cne (tgt := 59) C dM_allowed_52 (by decide) (by omega) (by omega) (fun h52 => ?_) (fun h52 => ?_)
          · skip
            refine a_iconst (v := 1) C dM_allowed_59 (by decide) ?_
            refine a_goto (tgt := 64) C dM_allowed_60 (by decide) ?_
            exact r_z C E dM_allowed_64 (by omega) ⟨rfl, by first | (rw [alM_1 h11]; rfl) | (rw [alM_2 h11 h18]; rfl) | (rw [alM_3 h18 (by omega)]; rfl) | (rw [alM_4 h11 (by omega)]; rfl)⟩
          · skip
            refine a_iloadn C dM_allowed_55 rfl rfl ?_
            refine a_ifeq (tgt := 63) C dM_allowed_56 (by decide) (by omega) (fun h56 => ?_) (fun h56 => ?_)
            · skip
              refine a_iconst (v := 0) C dM_allowed_63 (by decide) ?_
              exact r_z C E dM_allowed_64 (by omega) ⟨rfl, by first | (rw [alM_1 h11]; rfl) | (rw [alM_2 h11 h18]; rfl) | (rw [alM_3 h18 (by omega)]; rfl) | (rw [alM_4 h11 (by omega)]; rfl)⟩
            · skip
              refine a_iconst (v := 1) C dM_allowed_59 (by decide) ?_
              refine a_goto (tgt := 64) C dM_allowed_60 (by decide) ?_
              exact r_z C E dM_allowed_64 (by omega) ⟨rfl, by first | (rw [alM_1 h11]; rfl) | (rw [alM_2 h11 h18]; rfl) | (rw [alM_3 h18 (by omega)]; rfl) | (rw [alM_4 h11 (by omega)]; rfl)⟩
    · skip
      refine a_iconst (v := 1) C dM_allowed_21 (by decide) ?_
      exact r_z C E dM_allowed_22 (by omega) ⟨rfl, by first | (rw [alM_1 h11]; rfl) | (rw [alM_2 h11 h18]; rfl) | (rw [alM_3 h18 (by omega)]; rfl) | (rw [alM_4 h11 (by omega)]; rfl)⟩
  · skip
    refine a_iconst (v := 0) C dM_allowed_14 (by decide) ?_
    exact r_z C E dM_allowed_15 (by omega) ⟨rfl, by first | (rw [alM_1 h11]; rfl) | (rw [alM_2 h11 h18]; rfl) | (rw [alM_3 h18 (by omega)]; rfl) | (rw [alM_4 h11 (by omega)]; rfl)⟩
set_option maxHeartbeats 4000000 in
set_option maxRecDepth 100000 in
theorem c_M_cutDown (lc : Launch) (D : va_G) (ad : Nat → Nat) (cI cD cZ cJ : ClassId) (x : ST) (v : Nat) (hv : v < 9223372036854775808) : CI lc D (ty4 cI cD cZ cJ) (WM ad cI cD cZ) yM_cutDown bM_cutDown 2 (some .int) 0 [.long (lN v)] x (fun rr u => x = u ∧ rr = min 1000000000 v) := by
  refine CI_of [some (.long (lN v)), none] (by decide) (Nat.le_of_ble_eq_true rfl) rfl ?_
  intro K C E hkl hkD hkn
  refine a_lloadn C dM_cutDown_0 rfl rfl ?_
  refine a_ldc2 (n := 1000000000) C wK_M_126 dM_cutDown_1 (by decide) ?_
  refine a_lcmp C dM_cutDown_4 (by omega) (by decide) (fun h4 => ?_) (fun h4 => ?_) (fun h4 => ?_)
  · skip
    refine a_ifle (tgt := 13) C dM_cutDown_5 (by decide) (by decide) (fun _ => ?_) (fun q q2 => absurd (And.intro q q2) (by decide))
    refine a_lloadn C dM_cutDown_13 rfl rfl ?_
    refine a_l2i C dM_cutDown_14 ?_
    exact r_i C E dM_cutDown_15 (by omega) ⟨rfl, by omega⟩
  · skip
    refine a_ifle (tgt := 13) C dM_cutDown_5 (by decide) (by decide) (fun _ => ?_) (fun q q2 => absurd (And.intro q q2) (by decide))
    refine a_lloadn C dM_cutDown_13 rfl rfl ?_
    refine a_l2i C dM_cutDown_14 ?_
    exact r_i C E dM_cutDown_15 (by omega) ⟨rfl, by omega⟩
  · skip
    refine a_ifle (tgt := 13) C dM_cutDown_5 (by decide) (by decide) (fun q => absurd q (by decide)) (fun _ _ => ?_)
    refine a_ldc (n := 1000000000) C wK_M_128 dM_cutDown_8 (by decide) ?_
    refine a_goto (tgt := 15) C dM_cutDown_10 (by decide) ?_
    exact r_i C E dM_cutDown_15 (by omega) ⟨rfl, by omega⟩
set_option maxHeartbeats 4000000 in
set_option maxRecDepth 100000 in
theorem c_M_stands (lc : Launch) (D : va_G) (ad : Nat → Nat) (cI cD cZ cJ : ClassId) (x : ST) (c y : Nat) (hc : c < 4294967296) (hy : y < 4294967296) : CI lc D (ty4 cI cD cZ cJ) (WM ad cI cD cZ) yM_stands bM_stands 3 (some .boolean) 1 [.ref (ad 0), .int (nI c), .int (nI y)] x (fun rr u => x = u ∧ rr = (if stands c y = true then 1 else 0)) := by
  refine CI_of [some (.ref (ad 0)), some (.int (nI c)), some (.int (nI y))] (by decide) (Nat.le_of_ble_eq_true rfl) rfl ?_
  intro K C E hkl hkD hkn
  refine a_iloadn C dM_stands_0 rfl rfl ?_
  refine a_bipush (v := 35) C dM_stands_1 (by decide) ?_
  refine a_cne (tgt := 17) C dM_stands_3 (by decide) (by omega) (by omega) (fun h3 => ?_) (fun h3 => ?_)
  · skip
    refine a_iloadn C dM_stands_17 rfl rfl ?_
    refine a_bipush (v := 64) C dM_stands_18 (by decide) ?_
    refine a_cne (tgt := 34) C dM_stands_20 (by decide) (by omega) (by omega) (fun h20 => ?_) (fun h20 => ?_)
    · skip
      refine a_iloadn C dM_stands_34 rfl rfl ?_
      refine a_iloadn C dM_stands_35 rfl rfl ?_
      refine a_cne (tgt := 43) C dM_stands_36 (by decide) (by omega) (by omega) (fun h36 => ?_) (fun h36 => ?_)
      · skip
        refine a_iconst (v := 0) C dM_stands_43 (by decide) ?_
        exact r_z C E dM_stands_44 (by first | exact i01_le | omega) ⟨rfl, by first | (rw [d01 (sdM_1 h3)]; simp) | (rw [d01 (sdM_2 h20)]; simp) | (rw [d01 (sdM_3 h3 h20), if_pos h36]) | (rw [d01 (sdM_3 h3 h20), if_neg h36])⟩
      · skip
        refine a_iconst (v := 1) C dM_stands_39 (by decide) ?_
        refine a_goto (tgt := 44) C dM_stands_40 (by decide) ?_
        exact r_z C E dM_stands_44 (by first | exact i01_le | omega) ⟨rfl, by first | (rw [d01 (sdM_1 h3)]; simp) | (rw [d01 (sdM_2 h20)]; simp) | (rw [d01 (sdM_3 h3 h20), if_pos h36]) | (rw [d01 (sdM_3 h3 h20), if_neg h36])⟩
    · skip
      refine a_iloadn C dM_stands_23 rfl rfl ?_
      refine a_bipush (v := 97) C dM_stands_24 (by decide) ?_
      refine a_bipush (v := 122) C dM_stands_26 (by decide) ?_
      refine sI3 C (c_M_in (kl K) (kD K) ad cI cD cZ cJ _ _ _ _ (by omega) (by omega) (by omega)) wM_M_79 wSt_M_in wIni_M wC_M_in hd_M_in (by decide) (by decide) (Nat.le_of_ble_eq_true rfl) dM_stands_28 ?_
      rintro n28 u28 b28 ⟨rfl, rfl⟩
      refine a_goto (tgt := 44) C dM_stands_31 (by decide) ?_
      exact r_z C E dM_stands_44 (by first | exact i01_le | omega) ⟨rfl, by first | (rw [d01 (sdM_1 h3)]; simp) | (rw [d01 (sdM_2 h20)]; simp) | (rw [d01 (sdM_3 h3 h20), if_pos h36]) | (rw [d01 (sdM_3 h3 h20), if_neg h36])⟩
  · skip
    refine a_iloadn C dM_stands_6 rfl rfl ?_
    refine a_bipush (v := 48) C dM_stands_7 (by decide) ?_
    refine a_bipush (v := 57) C dM_stands_9 (by decide) ?_
    refine sI3 C (c_M_in (kl K) (kD K) ad cI cD cZ cJ _ _ _ _ (by omega) (by omega) (by omega)) wM_M_79 wSt_M_in wIni_M wC_M_in hd_M_in (by decide) (by decide) (Nat.le_of_ble_eq_true rfl) dM_stands_11 ?_
    rintro n11 u11 b11 ⟨rfl, rfl⟩
    refine a_goto (tgt := 44) C dM_stands_14 (by decide) ?_
    exact r_z C E dM_stands_44 (by first | exact i01_le | omega) ⟨rfl, by first | (rw [d01 (sdM_1 h3)]; simp) | (rw [d01 (sdM_2 h20)]; simp) | (rw [d01 (sdM_3 h3 h20), if_pos h36]) | (rw [d01 (sdM_3 h3 h20), if_neg h36])⟩
set_option maxHeartbeats 4000000 in
set_option maxRecDepth 100000 in
theorem c_M_wrong (lc : Launch) (D : va_G) (ad : Nat → Nat) (cI cD cZ cJ : ClassId) (x : ST) (hw : WF x) (hN : x.1 1 ≤ 14) : CI lc D (ty4 cI cD cZ cJ) (WM ad cI cD cZ) yM_wrong bM_wrong 2 (some .int) 1 [.ref (ad 0)] x (fun rr u => x = u ∧ rr = wpf (x.1 1) (x.2.1 1)) := by
  refine CI_of [some (.ref (ad 0)), none] (by decide) (Nat.le_of_ble_eq_true rfl) rfl ?_
  intro K C E hkl hkD hkn
  refine a_aloadn C dM_wrong_0 rfl rfl ?_
  refine g_M_87 C dM_wrong_1 ?_
  refine a_iconst (v := 1) C dM_wrong_4 (by decide) ?_
  refine a_clt (tgt := 24) C dM_wrong_5 (by decide) (by omega) (by omega) (fun h5 => ?_) (fun h5 => ?_)
  · skip
    refine a_iconst (v := 0) C dM_wrong_24 (by decide) ?_
    exact r_i C E dM_wrong_25 (by omega) ⟨rfl, by first | exact wrM_1 h5 | exact wrM_2 (by omega) (fun q => i01_eq h21 ⟨q.1, q.2, by decide⟩)⟩
  · skip
    refine a_aloadn C dM_wrong_8 rfl rfl ?_
    refine g_M_7 C dM_wrong_9 ?_
    refine a_iconst (v := 0) C dM_wrong_12 (by decide) ?_
    refine ldM_1 C dM_wrong_13 (by omega) ?_
    refine a_bipush (v := 65) C dM_wrong_14 (by decide) ?_
    refine a_bipush (v := 70) C dM_wrong_16 (by decide) ?_
    refine sI3 C (c_M_in (kl K) (kD K) ad cI cD cZ cJ _ _ _ _ (hw.1 1 0) (by decide) (by decide)) wM_M_79 wSt_M_in wIni_M wC_M_in hd_M_in (by decide) (by decide) (Nat.le_of_ble_eq_true rfl) dM_wrong_18 ?_
    rintro n18 u18 b18 ⟨rfl, rfl⟩
    refine a_ifne (tgt := 26) C dM_wrong_21 (by decide) i01_lt (fun h21 => ?_) (fun h21 => ?_)
    · skip
      have h2c : 65 ≤ x.2.1 1 0 ∧ x.2.1 1 0 ≤ 70 := ⟨(i01_ne h21).1, (i01_ne h21).2.1⟩
      refine a_aloadn C dM_wrong_26 rfl rfl ?_
      refine g_M_87 C dM_wrong_27 ?_
      refine a_iconst (v := 2) C dM_wrong_30 (by decide) ?_
      refine a_clt (tgt := 45) C dM_wrong_31 (by decide) (by omega) (by omega) (fun h31 => ?_) (fun h31 => ?_)
      · skip
        refine a_iconst (v := 1) C dM_wrong_45 (by decide) ?_
        exact r_i C E dM_wrong_46 (by omega) ⟨rfl, by first | exact wrM_3 (by omega) h2c | exact wrM_4 (by omega) h2c h42⟩
      · skip
        refine a_aloadn C dM_wrong_34 rfl rfl ?_
        refine g_M_7 C dM_wrong_35 ?_
        refine a_iconst (v := 1) C dM_wrong_38 (by decide) ?_
        refine ldM_1 C dM_wrong_39 (by omega) ?_
        refine a_bipush (v := 58) C dM_wrong_40 (by decide) ?_
        refine a_ceq (tgt := 47) C dM_wrong_42 (by decide) (hw.1 1 1) (by decide) (fun h42 => ?_) (fun h42 => ?_)
        · skip
          refine a_iconst (v := 2) C dM_wrong_47 (by decide) ?_
          refine istn_1 C dM_wrong_48 (by omega) rfl ?_
          have LP49 : ∀ (N0 : Nat) (i : Nat), 14 - i < N0 → (2 ≤ i) → (i ≤ x.1 1) → (∀ q, q < i → fitsB q (x.2.1 1 q) = true) → WA K (WM ad cI cD cZ x) [some (.ref (ad 0)), some (.int (nI i))] 49 [] := by
            intro N0
            induction N0 with
            | zero => intro i hm; exact absurd hm (Nat.not_lt_zero _)
            | succ N0 ih49 =>
              intro i hm49 hi hi2 ha
              have hcl := hw.1 1 i
              refine a_iloadn C dM_wrong_49 rfl rfl ?_
              refine a_aloadn C dM_wrong_50 rfl rfl ?_
              refine g_M_87 C dM_wrong_51 ?_
              refine a_cge (tgt := 98) C dM_wrong_54 (by decide) (by omega) (by omega) (fun h54 => ?_) (fun h54 => ?_)
              · skip
                refine a_aloadn C dM_wrong_98 rfl rfl ?_
                refine g_M_87 C dM_wrong_99 ?_
                refine a_iconst (v := 2) C dM_wrong_102 (by decide) ?_
                refine a_cne (tgt := 110) C dM_wrong_103 (by decide) (by omega) (by omega) (fun h103 => ?_) (fun h103 => ?_)
                · skip
                  refine a_iconst (v := 4294967295) C dM_wrong_110 (by decide) ?_
                  exact r_i C E dM_wrong_111 (by omega) ⟨rfl, by rw [← wrM_7 hi (by omega) ha]; first | rw [if_pos h103] | rw [if_neg h103]⟩
                · skip
                  refine a_iconst (v := 2) C dM_wrong_106 (by decide) ?_
                  refine a_goto (tgt := 111) C dM_wrong_107 (by decide) ?_
                  exact r_i C E dM_wrong_111 (by omega) ⟨rfl, by rw [← wrM_7 hi (by omega) ha]; first | rw [if_pos h103] | rw [if_neg h103]⟩
              · skip
                refine a_iloadn C dM_wrong_57 rfl rfl ?_
                refine a_bipush (v := 6) C dM_wrong_58 (by decide) ?_
                refine a_ceq (tgt := 90) C dM_wrong_60 (by decide) (by omega) (by omega) (fun h60 => ?_) (fun h60 => ?_)
                · skip
                  refine a_iloadn C dM_wrong_90 rfl rfl ?_
                  exact r_i C E dM_wrong_91 (by omega) ⟨rfl, wrM_5 hi h54 ha (by first | exact Or.inl h60 | exact Or.inr (Or.inl h71) | exact Or.inr (Or.inr ⟨(i01_ne h87).1, (i01_ne h87).2.1⟩))⟩
                · skip
                  have hi6 : i < 6 := by have q6 : ¬ 6 < i := (fun q => absurd (ha 6 q) (by rw [wrM_f (by omega), decide_eq_false (by omega)]; decide)); omega
                  refine a_aloadn C dM_wrong_63 rfl rfl ?_
                  refine g_M_7 C dM_wrong_64 ?_
                  refine a_iloadn C dM_wrong_67 rfl rfl ?_
                  refine ldM_1 C dM_wrong_68 (by omega) ?_
                  refine a_bipush (v := 58) C dM_wrong_69 (by decide) ?_
                  refine a_ceq (tgt := 90) C dM_wrong_71 (by decide) hcl (by decide) (fun h71 => ?_) (fun h71 => ?_)
                  · skip
                    refine a_iloadn C dM_wrong_90 rfl rfl ?_
                    exact r_i C E dM_wrong_91 (by omega) ⟨rfl, wrM_5 hi h54 ha (by first | exact Or.inl h60 | exact Or.inr (Or.inl h71) | exact Or.inr (Or.inr ⟨(i01_ne h87).1, (i01_ne h87).2.1⟩))⟩
                  · skip
                    refine a_aloadn C dM_wrong_74 rfl rfl ?_
                    refine g_M_7 C dM_wrong_75 ?_
                    refine a_iloadn C dM_wrong_78 rfl rfl ?_
                    refine ldM_1 C dM_wrong_79 (by omega) ?_
                    refine a_bipush (v := 71) C dM_wrong_80 (by decide) ?_
                    refine a_bipush (v := 90) C dM_wrong_82 (by decide) ?_
                    refine sI3 C (c_M_in (kl K) (kD K) ad cI cD cZ cJ _ _ _ _ hcl (by decide) (by decide)) wM_M_79 wSt_M_in wIni_M wC_M_in hd_M_in (by decide) (by decide) (Nat.le_of_ble_eq_true rfl) dM_wrong_84 ?_
                    rintro n84 u84 b84 ⟨rfl, rfl⟩
                    refine a_ifeq (tgt := 92) C dM_wrong_87 (by decide) i01_lt (fun h87 => ?_) (fun h87 => ?_)
                    · skip
                      refine inc_1 C dM_wrong_92 rfl (inc_up (c := 1) (by decide)) (by omega) rfl ?_
                      refine a_goto (tgt := 49) C dM_wrong_95 (by decide) ?_
                      exact ih49 (i + 1) (by omega) (by omega) (by omega) (lt_s ha (wrM_6 hi hi6 h71 (fun q => i01_eq h87 ⟨q.1, q.2, by decide⟩)))
                    · skip
                      refine a_iloadn C dM_wrong_90 rfl rfl ?_
                      exact r_i C E dM_wrong_91 (by omega) ⟨rfl, wrM_5 hi h54 ha (by first | exact Or.inl h60 | exact Or.inr (Or.inl h71) | exact Or.inr (Or.inr ⟨(i01_ne h87).1, (i01_ne h87).2.1⟩))⟩
          exact LP49 _ 2 (Nat.lt_succ_self _) (Nat.le_refl _) (by omega) (wrM_0 h2c h42)
        · skip
          refine a_iconst (v := 1) C dM_wrong_45 (by decide) ?_
          exact r_i C E dM_wrong_46 (by omega) ⟨rfl, by first | exact wrM_3 (by omega) h2c | exact wrM_4 (by omega) h2c h42⟩
    · skip
      refine a_iconst (v := 0) C dM_wrong_24 (by decide) ?_
      exact r_i C E dM_wrong_25 (by omega) ⟨rfl, by first | exact wrM_1 h5 | exact wrM_2 (by omega) (fun q => i01_eq h21 ⟨q.1, q.2, by decide⟩)⟩
set_option maxHeartbeats 4000000 in
set_option maxRecDepth 100000 in
theorem c_M_leads (lc : Launch) (D : va_G) (ad : Nat → Nat) (cI cD cZ cJ : ClassId) (x : ST) (a b : Nat) (hn : a < 6) (hb : b < 6) (hw : WF x) (hg : GOk (gM x)) : CI lc D (ty4 cI cD cZ cJ) (WM ad cI cD cZ) yM_leads bM_leads 6 (some .boolean) 2 [.ref (ad 0), .int (nI a), .int (nI b)] x (fun rr u => x = u ∧ rr = (if (rch (gM x) a).testBit b = true then 1 else 0)) := by
  refine CI_of [some (.ref (ad 0)), some (.int (nI a)), some (.int (nI b)), none, none, none] (by decide) (Nat.le_of_ble_eq_true rfl) rfl ?_
  intro K C E hkl hkD hkn
  have hR : x.1 0 ≤ 16 := hg.1
  have hgl : ∀ r, r < x.1 0 → x.2.1 3 r < 6 := fun r hr => (hg.2 r hr).1
  refine a_iconst (v := 1) C dM_leads_0 (by decide) ?_
  refine a_iloadn C dM_leads_1 rfl rfl ?_
  refine a_ishl C dM_leads_2 (by omega) ?_
  refine istn_3 C dM_leads_3 (by omega) rfl ?_
  refine a_iconst (v := 0) C dM_leads_4 (by decide) ?_
  refine ist_4 C dM_leads_5 (by omega) rfl ?_
  have LP7 : ∀ (N0 : Nat) (t m : Nat) (o5 : Option Value), 6 - t < N0 → (t ≤ 6) → (m = clo (gM x) t (2 ^ a)) → (six m) → WA K (WM ad cI cD cZ x) [some (.ref (ad 0)), some (.int (nI a)), some (.int (nI b)), some (.int (nI m)), some (.int (nI t)), o5] 7 [] := by
    intro N0
    induction N0 with
    | zero => intro t m o5 hm; exact absurd hm (Nat.not_lt_zero _)
    | succ N0 ih7 =>
      intro t m o5 hm7 htt hm hs
      refine a_iload C dM_leads_7 rfl ?_
      refine a_bipush (v := 6) C dM_leads_9 (by decide) ?_
      refine a_cge (tgt := 78) C dM_leads_11 (by decide) (by omega) (by omega) (fun h11 => ?_) (fun h11 => ?_)
      · skip
        have hm64 := six_lt hs
        refine a_iloadn C dM_leads_78 rfl rfl ?_
        refine a_iloadn C dM_leads_79 rfl rfl ?_
        refine a_ishr C dM_leads_80 (by omega) (by omega) ?_
        refine a_iconst (v := 1) C dM_leads_81 (by decide) ?_
        refine a_iand C dM_leads_82 ?_
        rw [tb_shr]
        have hmr : m = rch (gM x) a := by rw [hm, show t = 6 by omega]; rfl
        rw [hmr]
        refine a_ifeq (tgt := 90) C dM_leads_83 (by decide) i01_lt (fun h83 => ?_) (fun h83 => ?_)
        · skip
          refine a_iconst (v := 0) C dM_leads_90 (by decide) ?_
          exact r_z C E dM_leads_91 (by omega) ⟨rfl, by first | rw [if_pos (i01_ne h83)] | rw [if_neg (i01_eq h83)]⟩
        · skip
          refine a_iconst (v := 1) C dM_leads_86 (by decide) ?_
          refine a_goto (tgt := 91) C dM_leads_87 (by decide) ?_
          exact r_z C E dM_leads_91 (by omega) ⟨rfl, by first | rw [if_pos (i01_ne h83)] | rw [if_neg (i01_eq h83)]⟩
      · skip
        refine a_iconst (v := 0) C dM_leads_14 (by decide) ?_
        refine ist_5 C dM_leads_15 (by omega) rfl ?_
        have LP17 : ∀ (N0 : Nat) (r m2 : Nat), x.1 0 - r < N0 → (r ≤ x.1 0) → (m2 = clR (gM x) r m) → (six m2) → WA K (WM ad cI cD cZ x) [some (.ref (ad 0)), some (.int (nI a)), some (.int (nI b)), some (.int (nI m2)), some (.int (nI t)), some (.int (nI r))] 17 [] := by
          intro N0
          induction N0 with
          | zero => intro r m2 hm; exact absurd hm (Nat.not_lt_zero _)
          | succ N0 ih17 =>
            intro r m2 hm17 hr hm2 hs2
            refine a_iload C dM_leads_17 rfl ?_
            refine a_aloadn C dM_leads_19 rfl rfl ?_
            refine g_M_101 C dM_leads_20 ?_
            refine a_cge (tgt := 72) C dM_leads_23 (by decide) (by omega) (by omega) (fun h23 => ?_) (fun h23 => ?_)
            · skip
              have hout : m2 = clo (gM x) (t + 1) (2 ^ a) := by rw [hm2, show r = x.1 0 by omega, hm]; rfl
              refine inc_4 C dM_leads_72 rfl (inc_up (c := 1) (by decide)) (by omega) rfl ?_
              refine a_goto (tgt := 7) C dM_leads_75 (by decide) ?_
              exact ih7 (t + 1) _ _ (by omega) (by omega) hout (by rw [hout]; exact clo_six (six_pow hn) _)
            · skip
              have hlt := hgl r h23
              have hm64 := six_lt hs2
              refine a_aloadn C dM_leads_26 rfl rfl ?_
              refine a_iload C dM_leads_27 rfl ?_
              refine vI1 C (c_M_isChain (kl K) (kD K) ad cI cD cZ cJ _ _ (by omega) hw) wM_M_104 wI_M_isChain wSel_M_isChain wIni_M wC_M_isChain hd_M_isChain (by decide) (by decide) (q0 := 0) rfl rfl (Nat.le_of_ble_eq_true rfl) dM_leads_29 ?_
              rintro n29 u29 b29 ⟨rfl, rfl⟩
              refine a_ifeq (tgt := 66) C dM_leads_32 (by decide) i01_lt (fun h32 => ?_) (fun h32 => ?_)
              · skip
                have hnew : m2 = clR (gM x) (r + 1) m := by rw [clR_no (Or.inr (i01_f h32)), hm2]
                refine inc_5 C dM_leads_66 rfl (inc_up (c := 1) (by decide)) (by omega) rfl ?_
                refine a_goto (tgt := 17) C dM_leads_69 (by decide) ?_
                exact ih17 (r + 1) _ (by omega) (by omega) hnew (by rw [hnew]; exact clR_six hs _)
              · skip
                refine a_iloadn C dM_leads_35 rfl rfl ?_
                refine a_aloadn C dM_leads_36 rfl rfl ?_
                refine g_M_16 C dM_leads_37 ?_
                refine a_iload C dM_leads_40 rfl ?_
                refine ldM_3 C dM_leads_42 (by omega) ?_
                refine a_ishr C dM_leads_43 (by omega) (by omega) ?_
                refine a_iconst (v := 1) C dM_leads_44 (by decide) ?_
                refine a_iand C dM_leads_45 ?_
                rw [tb_shr]
                refine a_ifeq (tgt := 66) C dM_leads_46 (by decide) i01_lt (fun h46 => ?_) (fun h46 => ?_)
                · skip
                  have hnew : m2 = clR (gM x) (r + 1) m := by rw [clR_no (Or.inl (by rw [← hm2]; exact i01_f h46)), hm2]
                  refine inc_5 C dM_leads_66 rfl (inc_up (c := 1) (by decide)) (by omega) rfl ?_
                  refine a_goto (tgt := 17) C dM_leads_69 (by decide) ?_
                  exact ih17 (r + 1) _ (by omega) (by omega) hnew (by rw [hnew]; exact clR_six hs _)
                · skip
                  obtain ⟨c, hc1, hc2, hc3, hc4⟩ := clR_yes (g := gM x) (r := r) (s := m) (by rw [← hm2]; exact i01_t h46) (i01_t h32)
                  have hc3 : nt (x.2.1 5 (r * 4)) = some c := hc3
                  have hcc : 65 ≤ x.2.1 5 (r * 4) ∧ x.2.1 5 (r * 4) - 65 = c := by unfold nt at hc3; split at hc3; exact ⟨by omega, Option.some.inj hc3⟩; cases hc3
                  have hnew : m2 ||| (1 * 2 ^ c) = clR (gM x) (r + 1) m := by rw [hc4, hm2, Nat.one_mul]
                  refine a_iloadn C dM_leads_49 rfl rfl ?_
                  refine a_iconst (v := 1) C dM_leads_50 (by decide) ?_
                  refine a_aloadn C dM_leads_51 rfl rfl ?_
                  refine g_M_22 C dM_leads_52 ?_
                  refine a_iload C dM_leads_55 rfl ?_
                  refine a_iconst (v := 4) C dM_leads_57 (by decide) ?_
                  refine a_imul C dM_leads_58 ?_
                  refine ldM_5 C dM_leads_59 (by omega) ?_
                  refine a_bipush (v := 65) C dM_leads_60 (by decide) ?_
                  refine a_isub C dM_leads_62 hcc.1 ?_
                  rw [hcc.2]
                  refine a_ishl C dM_leads_63 (by omega) ?_
                  refine a_ior C dM_leads_64 ?_
                  refine istn_3 C dM_leads_65 (by omega) rfl ?_
                  refine inc_5 C dM_leads_66 rfl (inc_up (c := 1) (by decide)) (by omega) rfl ?_
                  refine a_goto (tgt := 17) C dM_leads_69 (by decide) ?_
                  exact ih17 (r + 1) _ (by omega) (by omega) hnew (by rw [hnew]; exact clR_six hs _)
        exact LP17 _ 0 m (Nat.lt_succ_self _) (Nat.zero_le _) rfl hs
  exact LP7 _ 0 (1 * 2 ^ a) none (Nat.lt_succ_self _) (by omega) (Nat.one_mul _) (by rw [Nat.one_mul]; exact six_pow hn)
set_option maxHeartbeats 4000000 in
set_option maxRecDepth 100000 in
theorem c_M_heaviest (lc : Launch) (D : va_G) (ad : Nat → Nat) (cI cD cZ cJ : ClassId) (x : ST) (r k m i j : Nat) (sel : Nat → Bool) (hsel : (r = 4294967295 ∧ sel = fun _ => true) ∨ (r < x.1 0 ∧ sel = alw (gM x) r k)) (hk : k < 4) (hm : m < 4294967296) (hi : i ≤ 14) (hj : j ≤ 14) (hw : WF x) (hg : GOk (gM x)) (hu : ∀ q, x.2.1 14 q ≤ 1000000000) : CI lc D (ty4 cI cD cZ cJ) (WM ad cI cD cZ) yM_heaviest bM_heaviest 8 (some .int) 1 [.ref (ad 0), .int (nI r), .int (nI k), .int (nI m), .int (nI i), .int (nI j)] x (fun rr u => x = u ∧ rr = oN (tp (gM x) m sel (fun s => wM x s i j) (fun s => hM x s i j) (x.1 0))) := by
  refine CI_of [some (.ref (ad 0)), some (.int (nI r)), some (.int (nI k)), some (.int (nI m)), some (.int (nI i)), some (.int (nI j)), none, none] (by decide) (Nat.le_of_ble_eq_true rfl) rfl ?_
  intro K C E hkl hkD hkn
  have hR : x.1 0 ≤ 16 := hg.1
  have hr32 : r < 4294967296 := by omega
  refine a_iconst (v := 4294967295) C dM_heaviest_0 (by decide) ?_
  refine ist_6 C dM_heaviest_1 (by omega) rfl ?_
  refine a_iconst (v := 0) C dM_heaviest_3 (by decide) ?_
  refine ist_7 C dM_heaviest_4 (by omega) rfl ?_
  have LP6 : ∀ (N0 : Nat) (s : Nat) (o : Option Nat), x.1 0 - s < N0 → (s ≤ x.1 0) → (o = tp (gM x) m sel (fun s => wM x s i j) (fun s => hM x s i j) s) → WA K (WM ad cI cD cZ x) [some (.ref (ad 0)), some (.int (nI r)), some (.int (nI k)), some (.int (nI m)), some (.int (nI i)), some (.int (nI j)), some (.int (nI (oN o))), some (.int (nI s))] 6 [] := by
    intro N0
    induction N0 with
    | zero => intro s o hm; exact absurd hm (Nat.not_lt_zero _)
    | succ N0 ih6 =>
      intro s o hm6 hs ho
      have hob : ∀ b, o = some b → b < s := fun b q => (tp_some (ho.symm.trans q)).1
      have hob2 : ∀ b, o = some b → b < 16 := fun b q => by have := hob b q; omega
      have ho32 := oN_32 hob2
      refine a_iload C dM_heaviest_6 rfl ?_
      refine a_aloadn C dM_heaviest_8 rfl rfl ?_
      refine g_M_101 C dM_heaviest_9 ?_
      refine a_cge (tgt := 134) C dM_heaviest_12 (by decide) (by omega) (by omega) (fun h12 => ?_) (fun h12 => ?_)
      · skip
        refine a_iload C dM_heaviest_134 rfl ?_
        exact r_i C E dM_heaviest_136 ho32 ⟨rfl, by rw [ho, show s = x.1 0 by omega]⟩
      · skip
        have h3l := hw.1 3 s
        have h6l := hw.1 6 s
        have hwl := hu (s * 225 + (i * 15 + j))
        have JN128 : ∀ o2 : Option Nat, o2 = tp (gM x) m sel (fun s => wM x s i j) (fun s => hM x s i j) (s + 1) → WA K (WM ad cI cD cZ x) [some (.ref (ad 0)), some (.int (nI r)), some (.int (nI k)), some (.int (nI m)), some (.int (nI i)), some (.int (nI j)), some (.int (nI (oN o2))), some (.int (nI s))] 128 [] := by
          intro o2 ho2
          refine inc_7 C dM_heaviest_128 rfl (inc_up (c := 1) (by decide)) (by omega) rfl ?_
          refine a_goto (tgt := 6) C dM_heaviest_131 (by decide) ?_
          exact ih6 (s + 1) o2 (by omega) (by omega) ho2
        refine a_aloadn C dM_heaviest_15 rfl rfl ?_
        refine g_M_16 C dM_heaviest_16 ?_
        refine a_iload C dM_heaviest_19 rfl ?_
        refine ldM_3 C dM_heaviest_21 (by omega) ?_
        refine a_iloadn C dM_heaviest_22 rfl rfl ?_
        refine a_cne (tgt := 128) C dM_heaviest_23 (by decide) h3l hm (fun h23 => ?_) (fun h23 => ?_)
        · skip
          have hnew : o = tp (gM x) m sel (fun s => wM x s i j) (fun s => hM x s i j) (s + 1) := ho.trans (tpM_no (g := gM x) (n := m) (sel := sel) (s := s) (w := fun s => wM x s i j) (h := fun s => hM x s i j) (Or.inl (inN_1 (g := gM x) (n := m) (sel := sel) (s := s) h23))).symm
          exact JN128 o hnew
        · skip
          refine a_aloadn C dM_heaviest_26 rfl rfl ?_
          refine g_M_25 C dM_heaviest_27 ?_
          refine a_iload C dM_heaviest_30 rfl ?_
          refine ldM_6 C dM_heaviest_32 (by omega) ?_
          refine a_iconst (v := 1) C dM_heaviest_33 (by decide) ?_
          refine a_ceq (tgt := 128) C dM_heaviest_34 (by decide) h6l (by decide) (fun h34 => ?_) (fun h34 => ?_)
          · skip
            have hnew : o = tp (gM x) m sel (fun s => wM x s i j) (fun s => hM x s i j) (s + 1) := ho.trans (tpM_no (g := gM x) (n := m) (sel := sel) (s := s) (w := fun s => wM x s i j) (h := fun s => hM x s i j) (Or.inl (inN_2 (g := gM x) (n := m) (sel := sel) (s := s) h34))).symm
            exact JN128 o hnew
          · skip
            refine a_aloadn C dM_heaviest_37 rfl rfl ?_
            refine g_M_51 C dM_heaviest_38 ?_
            refine a_iload C dM_heaviest_41 rfl ?_
            refine a_sipush (v := 225) C dM_heaviest_43 (by decide) ?_
            refine a_imul C dM_heaviest_46 ?_
            refine a_iload C dM_heaviest_47 rfl ?_
            refine a_iload C dM_heaviest_49 rfl ?_
            refine sI2 C (c_M_span (kl K) (kD K) ad cI cD cZ cJ _ _ _ hi hj) wM_M_129 wSt_M_span wIni_M wC_M_span hd_M_span (by decide) (by decide) (Nat.le_of_ble_eq_true rfl) dM_heaviest_51 ?_
            rintro n51 u51 b51 ⟨rfl, rfl⟩
            refine a_iadd C dM_heaviest_54 ?_
            refine ldM_14 C dM_heaviest_55 (by omega) ?_
            refine a_ifeq (tgt := 128) C dM_heaviest_56 (by decide) (by omega) (fun h56 => ?_) (fun h56 => ?_)
            · skip
              have hnew : o = tp (gM x) m sel (fun s => wM x s i j) (fun s => hM x s i j) (s + 1) := ho.trans (tpM_no (g := gM x) (n := m) (sel := sel) (s := s) (w := fun s => wM x s i j) (h := fun s => hM x s i j) (Or.inr h56)).symm
              exact JN128 o hnew
            · skip
              have JN77 : inN (gM x) m sel s = true → WA K (WM ad cI cD cZ x) [some (.ref (ad 0)), some (.int (nI r)), some (.int (nI k)), some (.int (nI m)), some (.int (nI i)), some (.int (nI j)), some (.int (nI (oN o))), some (.int (nI s))] 77 [] := by
                intro hin
                refine a_iload C dM_heaviest_77 rfl ?_
                refine a_iflt (tgt := 124) C dM_heaviest_79 (by decide) ho32 (fun h79 => ?_) (fun h79 => ?_)
                · skip
                  have hnew : some s = tp (gM x) m sel (fun s => wM x s i j) (fun s => hM x s i j) (s + 1) := (tpM_f (g := gM x) (n := m) (sel := sel) (s := s) (w := fun s => wM x s i j) (h := fun s => hM x s i j) hin h56 (by rw [← ho]; exact oN_neg hob2 h79)).symm
                  refine a_iload C dM_heaviest_124 rfl ?_
                  refine ist_6 C dM_heaviest_126 (by omega) rfl ?_
                  exact JN128 (some s) hnew
                · skip
                  obtain ⟨b, rfl⟩ := oN_nn h79
                  have hbs := hob b rfl
                  have hob3 : oN (some b) = b := rfl
                  rw [hob3]
                  refine a_aloadn C dM_heaviest_82 rfl rfl ?_
                  refine g_M_38 C dM_heaviest_83 ?_
                  refine a_iload C dM_heaviest_86 rfl ?_
                  refine a_sipush (v := 225) C dM_heaviest_88 (by decide) ?_
                  refine a_imul C dM_heaviest_91 ?_
                  refine a_iload C dM_heaviest_92 rfl ?_
                  refine a_iload C dM_heaviest_94 rfl ?_
                  refine sI2 C (c_M_span (kl K) (kD K) ad cI cD cZ cJ _ _ _ hi hj) wM_M_129 wSt_M_span wIni_M wC_M_span hd_M_span (by decide) (by decide) (Nat.le_of_ble_eq_true rfl) dM_heaviest_96 ?_
                  rintro n96 u96 b96 ⟨rfl, rfl⟩
                  refine a_iadd C dM_heaviest_99 ?_
                  refine ldM_10 C dM_heaviest_100 (by omega) ?_
                  refine a_aloadn C dM_heaviest_101 rfl rfl ?_
                  refine g_M_38 C dM_heaviest_102 ?_
                  refine a_iload C dM_heaviest_105 rfl ?_
                  refine a_sipush (v := 225) C dM_heaviest_107 (by decide) ?_
                  refine a_imul C dM_heaviest_110 ?_
                  refine a_iload C dM_heaviest_111 rfl ?_
                  refine a_iload C dM_heaviest_113 rfl ?_
                  refine sI2 C (c_M_span (kl K) (kD K) ad cI cD cZ cJ _ _ _ hi hj) wM_M_129 wSt_M_span wIni_M wC_M_span hd_M_span (by decide) (by decide) (Nat.le_of_ble_eq_true rfl) dM_heaviest_115 ?_
                  rintro n115 u115 b115 ⟨rfl, rfl⟩
                  refine a_iadd C dM_heaviest_118 ?_
                  refine ldM_10 C dM_heaviest_119 (by omega) ?_
                  refine a_dcmp C dM_heaviest_120 (fun h120 => ?_) (fun h120 => ?_) (fun h120 => ?_) (fun h120 => ?_)
                  · skip
                    refine a_ifle (tgt := 128) C dM_heaviest_121 (by decide) (by decide) (fun _ => ?_) (fun q q2 => absurd (And.intro q q2) (by decide))
                    have hnew : some b = tp (gM x) m sel (fun s => wM x s i j) (fun s => hM x s i j) (s + 1) := (tpM_n (g := gM x) (n := m) (sel := sel) (s := s) (w := fun s => wM x s i j) (h := fun s => hM x s i j) hin h56 ho.symm (dgt_lt h120)).symm
                    rw [← hob3]
                    exact JN128 (some b) hnew
                  · skip
                    refine a_ifle (tgt := 128) C dM_heaviest_121 (by decide) (by decide) (fun _ => ?_) (fun q q2 => absurd (And.intro q q2) (by decide))
                    have hnew : some b = tp (gM x) m sel (fun s => wM x s i j) (fun s => hM x s i j) (s + 1) := (tpM_n (g := gM x) (n := m) (sel := sel) (s := s) (w := fun s => wM x s i j) (h := fun s => hM x s i j) hin h56 ho.symm (dgt_eq h120)).symm
                    rw [← hob3]
                    exact JN128 (some b) hnew
                  · skip
                    refine a_ifle (tgt := 128) C dM_heaviest_121 (by decide) (by decide) (fun q => absurd q (by decide)) (fun _ _ => ?_)
                    have hnew : some s = tp (gM x) m sel (fun s => wM x s i j) (fun s => hM x s i j) (s + 1) := (tpM_g (g := gM x) (n := m) (sel := sel) (s := s) (w := fun s => wM x s i j) (h := fun s => hM x s i j) hin h56 ho.symm (dgt_of h120)).symm
                    refine a_iload C dM_heaviest_124 rfl ?_
                    refine ist_6 C dM_heaviest_126 (by omega) rfl ?_
                    exact JN128 (some s) hnew
                  · skip
                    have hnan : nanv .l = 4294967295 := rfl
                    rw [hnan]
                    refine a_ifle (tgt := 128) C dM_heaviest_121 (by decide) (by decide) (fun _ => ?_) (fun q q2 => absurd (And.intro q q2) (by decide))
                    have hnew : some b = tp (gM x) m sel (fun s => wM x s i j) (fun s => hM x s i j) (s + 1) := (tpM_n (g := gM x) (n := m) (sel := sel) (s := s) (w := fun s => wM x s i j) (h := fun s => hM x s i j) hin h56 ho.symm (dgt_nan h120)).symm
                    rw [← hob3]
                    exact JN128 (some b) hnew
              refine a_iloadn C dM_heaviest_59 rfl rfl ?_
              refine a_iflt (tgt := 77) C dM_heaviest_60 (by decide) hr32 (fun h60 => ?_) (fun h60 => ?_)
              · skip
                exact JN77 (inN_4 (g := gM x) (n := m) (sel := sel) (s := s) h23 h34 (by rcases hsel with q | q; rw [q.2]; omega))
              · skip
                have hrR : r < x.1 0 := by rcases hsel with q | q; omega; exact q.1
                refine a_aloadn C dM_heaviest_63 rfl rfl ?_
                refine a_iloadn C dM_heaviest_64 rfl rfl ?_
                refine a_iloadn C dM_heaviest_65 rfl rfl ?_
                refine a_iload C dM_heaviest_66 rfl ?_
                refine vI3 C (c_M_allowed (kl K) (kD K) ad cI cD cZ cJ _ _ _ _ (by omega) (by omega) hk hw (hg.2 r hrR).2.1) wM_M_133 wI_M_allowed wSel_M_allowed wIni_M wC_M_allowed hd_M_allowed (by decide) (by decide) (q0 := 0) rfl rfl (Nat.le_of_ble_eq_true rfl) dM_heaviest_68 ?_
                rintro n68 u68 b68 ⟨rfl, rfl⟩
                refine a_ifne (tgt := 77) C dM_heaviest_71 (by decide) i01_lt (fun h71 => ?_) (fun h71 => ?_)
                · skip
                  exact JN77 (inN_4 (g := gM x) (n := m) (sel := sel) (s := s) h23 h34 (by rcases hsel with q | q; omega; rw [q.2]; exact i01_t h71))
                · skip
                  have hnew : o = tp (gM x) m sel (fun s => wM x s i j) (fun s => hM x s i j) (s + 1) := ho.trans (tpM_no (g := gM x) (n := m) (sel := sel) (s := s) (w := fun s => wM x s i j) (h := fun s => hM x s i j) (Or.inl (inN_3 (g := gM x) (n := m) (sel := sel) (s := s) (by rcases hsel with q | q; omega; rw [q.2]; exact i01_f h71)))).symm
                  refine a_goto (tgt := 128) C dM_heaviest_74 (by decide) ?_
                  exact JN128 o hnew
  exact LP6 _ 0 none (Nat.lt_succ_self _) (Nat.zero_le _) rfl
set_option maxHeartbeats 4000000 in
set_option maxRecDepth 100000 in
theorem c_M_count5 (lc : Launch) (D : va_G) (ad : Nat → Nat) (cI cD cZ cJ : ClassId) (x : ST) (r k m i j : Nat) (sel : Nat → Bool) (hsel : (r = 4294967295 ∧ sel = fun _ => true) ∨ (r < x.1 0 ∧ sel = alw (gM x) r k)) (hk : k < 4) (hm : m < 4294967296) (hi : i ≤ 14) (hj : j ≤ 14) (hw : WF x) (hg : GOk (gM x)) (hu : ∀ q, x.2.1 14 q ≤ 1000000000) : CI lc D (ty4 cI cD cZ cJ) (WM ad cI cD cZ) yM_count5 bM_count5 9 (some .int) 1 [.ref (ad 0), .int (nI r), .int (nI k), .int (nI m), .int (nI i), .int (nI j)] x (fun rr u => x = u ∧ rr = cn (gM x) m sel (fun s => wM x s i j) (x.1 0)) := by
  refine CI_of [some (.ref (ad 0)), some (.int (nI r)), some (.int (nI k)), some (.int (nI m)), some (.int (nI i)), some (.int (nI j)), none, none, none] (by decide) (Nat.le_of_ble_eq_true rfl) rfl ?_
  intro K C E hkl hkD hkn
  have hR : x.1 0 ≤ 16 := hg.1
  have hr32 : r < 4294967296 := by omega
  refine a_lconst (v := 0) C dM_count5_0 rfl ?_
  refine lst_6 C dM_count5_1 (by omega) rfl ?_
  refine a_iconst (v := 0) C dM_count5_3 (by decide) ?_
  refine ist_8 C dM_count5_4 (by omega) rfl ?_
  have LP6 : ∀ (N0 : Nat) (s c : Nat), x.1 0 - s < N0 → (s ≤ x.1 0) → (c = cn (gM x) m sel (fun s => wM x s i j) s) → WA K (WM ad cI cD cZ x) [some (.ref (ad 0)), some (.int (nI r)), some (.int (nI k)), some (.int (nI m)), some (.int (nI i)), some (.int (nI j)), some (.long (lN c)), none, some (.int (nI s))] 6 [] := by
    intro N0
    induction N0 with
    | zero => intro s c hm; exact absurd hm (Nat.not_lt_zero _)
    | succ N0 ih6 =>
      intro s c hm6 hs hc
      have hcl : c ≤ 1000000000 := by rw [hc]; exact cn_le _ _ _ _ _
      refine a_iload C dM_count5_6 rfl ?_
      refine a_aloadn C dM_count5_8 rfl rfl ?_
      refine g_M_101 C dM_count5_9 ?_
      refine a_cge (tgt := 87) C dM_count5_12 (by decide) (by omega) (by omega) (fun h12 => ?_) (fun h12 => ?_)
      · skip
        refine a_lload C dM_count5_87 rfl ?_
        refine a_l2i C dM_count5_89 ?_
        exact r_i C E dM_count5_90 (by omega) ⟨rfl, by rw [hc, show s = x.1 0 by omega]⟩
      · skip
        have h3l := hw.1 3 s
        have h6l := hw.1 6 s
        have hwl := hu (s * 225 + (i * 15 + j))
        have JN81 : ∀ c2 : Nat, c2 = cn (gM x) m sel (fun s => wM x s i j) (s + 1) → WA K (WM ad cI cD cZ x) [some (.ref (ad 0)), some (.int (nI r)), some (.int (nI k)), some (.int (nI m)), some (.int (nI i)), some (.int (nI j)), some (.long (lN c2)), none, some (.int (nI s))] 81 [] := by
          intro c2 hc2
          refine inc_8 C dM_count5_81 rfl (inc_up (c := 1) (by decide)) (by omega) rfl ?_
          refine a_goto (tgt := 6) C dM_count5_84 (by decide) ?_
          exact ih6 (s + 1) c2 (by omega) (by omega) hc2
        refine a_aloadn C dM_count5_15 rfl rfl ?_
        refine g_M_16 C dM_count5_16 ?_
        refine a_iload C dM_count5_19 rfl ?_
        refine ldM_3 C dM_count5_21 (by omega) ?_
        refine a_iloadn C dM_count5_22 rfl rfl ?_
        refine a_cne (tgt := 81) C dM_count5_23 (by decide) h3l hm (fun h23 => ?_) (fun h23 => ?_)
        · skip
          have hnew : c = cn (gM x) m sel (fun s => wM x s i j) (s + 1) := hc.trans (cnM_no (g := gM x) (n := m) (sel := sel) (s := s) (w := fun s => wM x s i j) (inN_1 (g := gM x) (n := m) (sel := sel) (s := s) h23)).symm
          exact JN81 _ hnew
        · skip
          refine a_aloadn C dM_count5_26 rfl rfl ?_
          refine g_M_25 C dM_count5_27 ?_
          refine a_iload C dM_count5_30 rfl ?_
          refine ldM_6 C dM_count5_32 (by omega) ?_
          refine a_iconst (v := 1) C dM_count5_33 (by decide) ?_
          refine a_ceq (tgt := 81) C dM_count5_34 (by decide) h6l (by decide) (fun h34 => ?_) (fun h34 => ?_)
          · skip
            have hnew : c = cn (gM x) m sel (fun s => wM x s i j) (s + 1) := hc.trans (cnM_no (g := gM x) (n := m) (sel := sel) (s := s) (w := fun s => wM x s i j) (inN_2 (g := gM x) (n := m) (sel := sel) (s := s) h34)).symm
            exact JN81 _ hnew
          · skip
            have JN52 : inN (gM x) m sel s = true → WA K (WM ad cI cD cZ x) [some (.ref (ad 0)), some (.int (nI r)), some (.int (nI k)), some (.int (nI m)), some (.int (nI i)), some (.int (nI j)), some (.long (lN c)), none, some (.int (nI s))] 52 [] := by
              intro hin
              refine a_lload C dM_count5_52 rfl ?_
              refine a_aloadn C dM_count5_54 rfl rfl ?_
              refine g_M_51 C dM_count5_55 ?_
              refine a_iload C dM_count5_58 rfl ?_
              refine a_sipush (v := 225) C dM_count5_60 (by decide) ?_
              refine a_imul C dM_count5_63 ?_
              refine a_iload C dM_count5_64 rfl ?_
              refine a_iload C dM_count5_66 rfl ?_
              refine sI2 C (c_M_span (kl K) (kD K) ad cI cD cZ cJ _ _ _ hi hj) wM_M_129 wSt_M_span wIni_M wC_M_span hd_M_span (by decide) (by decide) (Nat.le_of_ble_eq_true rfl) dM_count5_68 ?_
              rintro n68 u68 b68 ⟨rfl, rfl⟩
              refine a_iadd C dM_count5_71 ?_
              refine ldM_14 C dM_count5_72 (by omega) ?_
              refine a_i2l C dM_count5_73 (by omega) ?_
              refine a_ladd C dM_count5_74 ?_
              refine sI1 C (c_M_cutDown (kl K) (kD K) ad cI cD cZ cJ _ _ (by omega)) wM_M_136 wSt_M_cutDown wIni_M wC_M_cutDown hd_M_cutDown (by decide) (by decide) (Nat.le_of_ble_eq_true rfl) dM_count5_75 ?_
              rintro n75 u75 b75 ⟨rfl, rfl⟩
              refine a_i2l C dM_count5_78 (by omega) ?_
              have hnew : min 1000000000 (c + x.2.1 14 (s * 225 + (i * 15 + j))) = cn (gM x) m sel (fun s => wM x s i j) (s + 1) := by rw [cnM_y (g := gM x) (n := m) (sel := sel) (s := s) (w := fun s => wM x s i j) hin, hc]; rfl
              refine lst_6 C dM_count5_79 (by omega) rfl ?_
              exact JN81 _ hnew
            refine a_iloadn C dM_count5_37 rfl rfl ?_
            refine a_iflt (tgt := 52) C dM_count5_38 (by decide) hr32 (fun h38 => ?_) (fun h38 => ?_)
            · skip
              exact JN52 (inN_4 (g := gM x) (n := m) (sel := sel) (s := s) h23 h34 (by rcases hsel with q | q; rw [q.2]; omega))
            · skip
              have hrR : r < x.1 0 := by rcases hsel with q | q; omega; exact q.1
              refine a_aloadn C dM_count5_41 rfl rfl ?_
              refine a_iloadn C dM_count5_42 rfl rfl ?_
              refine a_iloadn C dM_count5_43 rfl rfl ?_
              refine a_iload C dM_count5_44 rfl ?_
              refine vI3 C (c_M_allowed (kl K) (kD K) ad cI cD cZ cJ _ _ _ _ (by omega) (by omega) hk hw (hg.2 r hrR).2.1) wM_M_133 wI_M_allowed wSel_M_allowed wIni_M wC_M_allowed hd_M_allowed (by decide) (by decide) (q0 := 0) rfl rfl (Nat.le_of_ble_eq_true rfl) dM_count5_46 ?_
              rintro n46 u46 b46 ⟨rfl, rfl⟩
              refine a_ifeq (tgt := 81) C dM_count5_49 (by decide) i01_lt (fun h49 => ?_) (fun h49 => ?_)
              · skip
                have hnew : c = cn (gM x) m sel (fun s => wM x s i j) (s + 1) := hc.trans (cnM_no (g := gM x) (n := m) (sel := sel) (s := s) (w := fun s => wM x s i j) (inN_3 (g := gM x) (n := m) (sel := sel) (s := s) (by rcases hsel with q | q; omega; rw [q.2]; exact i01_f h49))).symm
                exact JN81 _ hnew
              · skip
                exact JN52 (inN_4 (g := gM x) (n := m) (sel := sel) (s := s) h23 h34 (by rcases hsel with q | q; omega; rw [q.2]; exact i01_t h49))
  exact LP6 _ 0 0 (Nat.lt_succ_self _) (Nat.zero_le _) rfl
set_option maxHeartbeats 4000000 in
set_option maxRecDepth 100000 in
theorem c_M_symbol (lc : Launch) (D : va_G) (ad : Nat → Nat) (cI cD cZ cJ : ClassId) (x : ST) (N r k i j : Nat) (hr : r < x.1 0) (hk : k < gz (gM x) r) (hij : i < j) (hj : j ≤ 14) (hw : WF x) (hg : GOk (gM x)) (hu : ∀ q, x.2.1 14 q ≤ 1000000000) : CI lc D (ty4 cI cD cZ cJ) (WM ad cI cD cZ) yM_symbol bM_symbol 6 (some .int) 2 [.ref (ad 0), .int (nI r), .int (nI k), .int (nI i), .int (nI j)] x (fun rr u => x = u ∧ rr = symM x N r k i j) := by
  refine CI_of [some (.ref (ad 0)), some (.int (nI r)), some (.int (nI k)), some (.int (nI i)), some (.int (nI j)), none] (by decide) (Nat.le_of_ble_eq_true rfl) rfl ?_
  intro K C E hkl hkD hkn
  have hR : x.1 0 ≤ 16 := hg.1
  have hz := (hg.2 r hr).2.2.1
  have hgs : gs (gM x) r k = x.2.1 5 (r * 4 + k) := rfl
  have h5l := hw.1 5 (r * 4 + k)
  refine a_aloadn C dM_symbol_0 rfl rfl ?_
  refine g_M_22 C dM_symbol_1 ?_
  refine a_iloadn C dM_symbol_4 rfl rfl ?_
  refine a_iconst (v := 4) C dM_symbol_5 (by decide) ?_
  refine a_imul C dM_symbol_6 ?_
  refine a_iloadn C dM_symbol_7 rfl rfl ?_
  refine a_iadd C dM_symbol_8 ?_
  refine ldM_5 C dM_symbol_9 (by omega) ?_
  refine ist_5 C dM_symbol_10 (by omega) rfl ?_
  refine a_iload C dM_symbol_12 rfl ?_
  refine a_bipush (v := 65) C dM_symbol_14 (by decide) ?_
  refine a_bipush (v := 70) C dM_symbol_16 (by decide) ?_
  refine sI3 C (c_M_in (kl K) (kD K) ad cI cD cZ cJ _ _ _ _ h5l (by decide) (by decide)) wM_M_79 wSt_M_in wIni_M wC_M_in hd_M_in (by decide) (by decide) (Nat.le_of_ble_eq_true rfl) dM_symbol_18 ?_
  rintro n18 u18 b18 ⟨rfl, rfl⟩
  refine a_ifne (tgt := 53) C dM_symbol_21 (by decide) i01_lt (fun h21 => ?_) (fun h21 => ?_)
  · skip
    have hcc := i01_ne h21
    have hns := ntM_some (c := x.2.1 5 (r * 4 + k)) ⟨hcc.1, hcc.2.1⟩
    have hsy : symM x N r k i j = if x.2.1 13 ((x.2.1 5 (r * 4 + k) - 65) * 225 + (i * 15 + j)) ≠ 0 then cn (gM x) (x.2.1 5 (r * 4 + k) - 65) (alw (gM x) r k) (fun s => wM x s i j) (gR (gM x)) else 0 := by unfold symM; rw [hgs, hns]
    have hgl := hw.1 13 ((x.2.1 5 (r * 4 + k) - 65) * 225 + (i * 15 + j))
    refine a_aloadn C dM_symbol_53 rfl rfl ?_
    refine g_M_48 C dM_symbol_54 ?_
    refine a_iload C dM_symbol_57 rfl ?_
    refine a_bipush (v := 65) C dM_symbol_59 (by decide) ?_
    refine a_isub C dM_symbol_61 hcc.1 ?_
    refine a_sipush (v := 225) C dM_symbol_62 (by decide) ?_
    refine a_imul C dM_symbol_65 ?_
    refine a_iloadn C dM_symbol_66 rfl rfl ?_
    refine a_iload C dM_symbol_67 rfl ?_
    refine sI2 C (c_M_span (kl K) (kD K) ad cI cD cZ cJ _ _ _ (by omega) (by omega)) wM_M_129 wSt_M_span wIni_M wC_M_span hd_M_span (by decide) (by decide) (Nat.le_of_ble_eq_true rfl) dM_symbol_69 ?_
    rintro n69 u69 b69 ⟨rfl, rfl⟩
    refine a_iadd C dM_symbol_72 ?_
    refine ldM_13 C dM_symbol_73 (by omega) ?_
    refine a_ifeq (tgt := 94) C dM_symbol_74 (by decide) hgl (fun h74 => ?_) (fun h74 => ?_)
    · skip
      refine a_iconst (v := 0) C dM_symbol_94 (by decide) ?_
      exact r_i C E dM_symbol_95 (by first | (have q := cn_le (gM x) (x.2.1 5 (r * 4 + k) - 65) (alw (gM x) r k) (fun s => wM x s i j) (x.1 0); omega) | decide) ⟨rfl, by rw [hsy]; first | (rw [if_pos h74]; rfl) | rw [if_neg (fun q => q h74)]⟩
    · skip
      refine a_aloadn C dM_symbol_77 rfl rfl ?_
      refine a_iloadn C dM_symbol_78 rfl rfl ?_
      refine a_iloadn C dM_symbol_79 rfl rfl ?_
      refine a_iload C dM_symbol_80 rfl ?_
      refine a_bipush (v := 65) C dM_symbol_82 (by decide) ?_
      refine a_isub C dM_symbol_84 hcc.1 ?_
      refine a_iloadn C dM_symbol_85 rfl rfl ?_
      refine a_iload C dM_symbol_86 rfl ?_
      refine vI5 C (c_M_count5 (kl K) (kD K) ad cI cD cZ cJ _ _ _ _ _ _ (alw (gM x) r k) (Or.inr ⟨hr, rfl⟩) (by omega) (by omega) (by omega) (by omega) hw hg hu) wM_M_143 wI_M_count5 wSel_M_count5 wIni_M wC_M_count5 hd_M_count5 (by decide) (by decide) (q0 := 0) rfl rfl (Nat.le_of_ble_eq_true rfl) dM_symbol_88 ?_
      rintro n88 u88 b88 ⟨rfl, rfl⟩
      refine a_goto (tgt := 95) C dM_symbol_91 (by decide) ?_
      exact r_i C E dM_symbol_95 (by first | (have q := cn_le (gM x) (x.2.1 5 (r * 4 + k) - 65) (alw (gM x) r k) (fun s => wM x s i j) (x.1 0); omega) | decide) ⟨rfl, by rw [hsy]; first | (rw [if_pos h74]; rfl) | rw [if_neg (fun q => q h74)]⟩
  · skip
    have hnn := ntM_none (c := x.2.1 5 (r * 4 + k)) (fun q => i01_eq h21 ⟨q.1, q.2, by decide⟩)
    have hsy : symM x N r k i j = if j = i + 1 ∧ stands (x.2.1 5 (r * 4 + k)) (x.2.1 2 i) = true then 1 else 0 := by unfold symM; rw [hgs, hnn]
    refine a_iload C dM_symbol_24 rfl ?_
    refine a_iloadn C dM_symbol_26 rfl rfl ?_
    refine a_iconst (v := 1) C dM_symbol_27 (by decide) ?_
    refine a_iadd C dM_symbol_28 ?_
    refine a_cne (tgt := 51) C dM_symbol_29 (by decide) (by omega) (by omega) (fun h29 => ?_) (fun h29 => ?_)
    · skip
      refine a_iconst (v := 0) C dM_symbol_51 (by decide) ?_
      exact r_i C E dM_symbol_52 (by first | (have q := cn_le (gM x) (x.2.1 5 (r * 4 + k) - 65) (alw (gM x) r k) (fun s => wM x s i j) (x.1 0); omega) | decide) ⟨rfl, by rw [hsy]; first | rw [if_neg (fun q => h29 q.1)] | rw [if_neg (fun q => i01_eq h44 q.2)] | rw [if_pos ⟨h29, i01_t h44⟩]⟩
    · skip
      refine a_aloadn C dM_symbol_32 rfl rfl ?_
      refine a_iload C dM_symbol_33 rfl ?_
      refine a_aloadn C dM_symbol_35 rfl rfl ?_
      refine g_M_13 C dM_symbol_36 ?_
      refine a_iloadn C dM_symbol_39 rfl rfl ?_
      refine ldM_2 C dM_symbol_40 (by omega) ?_
      refine vI2 C (c_M_stands (kl K) (kD K) ad cI cD cZ cJ _ _ _ h5l (hw.1 2 i)) wM_M_140 wI_M_stands wSel_M_stands wIni_M wC_M_stands hd_M_stands (by decide) (by decide) (q0 := 0) rfl rfl (Nat.le_of_ble_eq_true rfl) dM_symbol_41 ?_
      rintro n41 u41 b41 ⟨rfl, rfl⟩
      refine a_ifeq (tgt := 51) C dM_symbol_44 (by decide) i01_lt (fun h44 => ?_) (fun h44 => ?_)
      · skip
        refine a_iconst (v := 0) C dM_symbol_51 (by decide) ?_
        exact r_i C E dM_symbol_52 (by first | (have q := cn_le (gM x) (x.2.1 5 (r * 4 + k) - 65) (alw (gM x) r k) (fun s => wM x s i j) (x.1 0); omega) | decide) ⟨rfl, by rw [hsy]; first | rw [if_neg (fun q => h29 q.1)] | rw [if_neg (fun q => i01_eq h44 q.2)] | rw [if_pos ⟨h29, i01_t h44⟩]⟩
      · skip
        refine a_iconst (v := 1) C dM_symbol_47 (by decide) ?_
        refine a_goto (tgt := 52) C dM_symbol_48 (by decide) ?_
        exact r_i C E dM_symbol_52 (by first | (have q := cn_le (gM x) (x.2.1 5 (r * 4 + k) - 65) (alw (gM x) r k) (fun s => wM x s i j) (x.1 0); omega) | decide) ⟨rfl, by rw [hsy]; first | rw [if_neg (fun q => h29 q.1)] | rw [if_neg (fun q => i01_eq h44 q.2)] | rw [if_pos ⟨h29, i01_t h44⟩]⟩
set_option maxHeartbeats 4000000 in
set_option maxRecDepth 100000 in
theorem c_M_isGood (lc : Launch) (D : va_G) (ad : Nat → Nat) (cI cD cZ cJ : ClassId) (x : ST) (m i j : Nat) (hm : m < 6) (hij : i < j) (hj : j ≤ x.1 3) (hN : x.1 3 ≤ 14) (hw : WF x) (hg : GOk (gM x)) (hu : ∀ q, x.2.1 14 q ≤ 1000000000) (hch : ∀ q, q < x.1 3 → x.2.1 2 q ≤ 126) : CI lc D (ty4 cI cD cZ cJ) (WM ad cI cD cZ) yM_isGood bM_isGood 5 (some .boolean) 1 [.ref (ad 0), .int (nI m), .int (nI i), .int (nI j)] x (fun rr u => x = u ∧ rr = (if gd (gM x) (x.1 3) (x.2.1 2) m j (fun s => wM x s i j) = true then 1 else 0)) := by
  refine CI_of [some (.ref (ad 0)), some (.int (nI m)), some (.int (nI i)), some (.int (nI j)), none] (by decide) (Nat.le_of_ble_eq_true rfl) rfl ?_
  intro K C E hkl hkD hkn
  have hR : x.1 0 ≤ 16 := hg.1
  have hgd : gd (gM x) (x.1 3) (x.2.1 2) m j (fun s => wM x s i j) = (nrej (gM x) m (fun s => wM x s i j) (x.1 0) && (decide (j = x.1 3) || !(decide (x.2.1 12 (m * 127 + x.2.1 2 j) ≠ 0)))) := rfl
  refine a_iconst (v := 0) C dM_isGood_0 (by decide) ?_
  refine ist_4 C dM_isGood_1 (by omega) rfl ?_
  have LP3 : ∀ (N0 : Nat) (s : Nat), x.1 0 - s < N0 → (s ≤ x.1 0) → (nrej (gM x) m (fun s => wM x s i j) s = true) → WA K (WM ad cI cD cZ x) [some (.ref (ad 0)), some (.int (nI m)), some (.int (nI i)), some (.int (nI j)), some (.int (nI s))] 3 [] := by
    intro N0
    induction N0 with
    | zero => intro s hm; exact absurd hm (Nat.not_lt_zero _)
    | succ N0 ih3 =>
      intro s hm3 hs hn
      refine a_iload C dM_isGood_3 rfl ?_
      refine a_aloadn C dM_isGood_5 rfl rfl ?_
      refine g_M_101 C dM_isGood_6 ?_
      refine a_cge (tgt := 62) C dM_isGood_9 (by decide) (by omega) (by omega) (fun h9 => ?_) (fun h9 => ?_)
      · skip
        rw [show s = x.1 0 by omega] at hn
        refine a_iloadn C dM_isGood_62 rfl rfl ?_
        refine a_aloadn C dM_isGood_63 rfl rfl ?_
        refine g_M_161 C dM_isGood_64 ?_
        refine a_ceq (tgt := 89) C dM_isGood_67 (by decide) (by omega) (by omega) (fun h67 => ?_) (fun h67 => ?_)
        · skip
          refine a_iconst (v := 1) C dM_isGood_89 (by decide) ?_
          refine a_goto (tgt := 94) C dM_isGood_90 (by decide) ?_
          exact r_z C E dM_isGood_94 (by omega) ⟨rfl, by rw [hgd, hn]; first | (rw [decide_eq_true h67]; rfl) | (rw [decide_eq_false h67, decide_eq_true h86]; rfl) | (rw [decide_eq_false h67, decide_eq_false (fun q => q h86)]; rfl)⟩
        · skip
          have hcj := hch j (by omega)
          have h12l := hw.1 12 (m * 127 + x.2.1 2 j)
          refine a_aloadn C dM_isGood_70 rfl rfl ?_
          refine g_M_45 C dM_isGood_71 ?_
          refine a_iloadn C dM_isGood_74 rfl rfl ?_
          refine a_bipush (v := 127) C dM_isGood_75 (by decide) ?_
          refine a_imul C dM_isGood_77 ?_
          refine a_aloadn C dM_isGood_78 rfl rfl ?_
          refine g_M_13 C dM_isGood_79 ?_
          refine a_iloadn C dM_isGood_82 rfl rfl ?_
          refine ldM_2 C dM_isGood_83 (by omega) ?_
          refine a_iadd C dM_isGood_84 ?_
          refine ldM_12 C dM_isGood_85 (by omega) ?_
          refine a_ifne (tgt := 93) C dM_isGood_86 (by decide) h12l (fun h86 => ?_) (fun h86 => ?_)
          · skip
            refine a_iconst (v := 0) C dM_isGood_93 (by decide) ?_
            exact r_z C E dM_isGood_94 (by omega) ⟨rfl, by rw [hgd, hn]; first | (rw [decide_eq_true h67]; rfl) | (rw [decide_eq_false h67, decide_eq_true h86]; rfl) | (rw [decide_eq_false h67, decide_eq_false (fun q => q h86)]; rfl)⟩
          · skip
            refine a_iconst (v := 1) C dM_isGood_89 (by decide) ?_
            refine a_goto (tgt := 94) C dM_isGood_90 (by decide) ?_
            exact r_z C E dM_isGood_94 (by omega) ⟨rfl, by rw [hgd, hn]; first | (rw [decide_eq_true h67]; rfl) | (rw [decide_eq_false h67, decide_eq_true h86]; rfl) | (rw [decide_eq_false h67, decide_eq_false (fun q => q h86)]; rfl)⟩
      · skip
        have h3l := hw.1 3 s
        have h6l := hw.1 6 s
        have hwl := hu (s * 225 + (i * 15 + j))
        refine a_aloadn C dM_isGood_12 rfl rfl ?_
        refine g_M_16 C dM_isGood_13 ?_
        refine a_iload C dM_isGood_16 rfl ?_
        refine ldM_3 C dM_isGood_18 (by omega) ?_
        refine a_iloadn C dM_isGood_19 rfl rfl ?_
        refine a_cne (tgt := 56) C dM_isGood_20 (by decide) h3l (by omega) (fun h20 => ?_) (fun h20 => ?_)
        · skip
          have hnew : nrej (gM x) m (fun s => wM x s i j) (s + 1) = true := (nrM_no (g := gM x) (n := m) (w := fun s => wM x s i j) (s := s) (fun q => h20 q.1)).trans hn
          refine inc_4 C dM_isGood_56 rfl (inc_up (c := 1) (by decide)) (by omega) rfl ?_
          refine a_goto (tgt := 3) C dM_isGood_59 (by decide) ?_
          exact ih3 (s + 1) (by omega) (by omega) hnew
        · skip
          refine a_aloadn C dM_isGood_23 rfl rfl ?_
          refine g_M_25 C dM_isGood_24 ?_
          refine a_iload C dM_isGood_27 rfl ?_
          refine ldM_6 C dM_isGood_29 (by omega) ?_
          refine a_iconst (v := 1) C dM_isGood_30 (by decide) ?_
          refine a_cne (tgt := 56) C dM_isGood_31 (by decide) h6l (by decide) (fun h31 => ?_) (fun h31 => ?_)
          · skip
            have hnew : nrej (gM x) m (fun s => wM x s i j) (s + 1) = true := (nrM_no (g := gM x) (n := m) (w := fun s => wM x s i j) (s := s) (fun q => h31 q.2.1)).trans hn
            refine inc_4 C dM_isGood_56 rfl (inc_up (c := 1) (by decide)) (by omega) rfl ?_
            refine a_goto (tgt := 3) C dM_isGood_59 (by decide) ?_
            exact ih3 (s + 1) (by omega) (by omega) hnew
          · skip
            refine a_aloadn C dM_isGood_34 rfl rfl ?_
            refine g_M_51 C dM_isGood_35 ?_
            refine a_iload C dM_isGood_38 rfl ?_
            refine a_sipush (v := 225) C dM_isGood_40 (by decide) ?_
            refine a_imul C dM_isGood_43 ?_
            refine a_iloadn C dM_isGood_44 rfl rfl ?_
            refine a_iloadn C dM_isGood_45 rfl rfl ?_
            refine sI2 C (c_M_span (kl K) (kD K) ad cI cD cZ cJ _ _ _ (by omega) (by omega)) wM_M_129 wSt_M_span wIni_M wC_M_span hd_M_span (by decide) (by decide) (Nat.le_of_ble_eq_true rfl) dM_isGood_46 ?_
            rintro n46 u46 b46 ⟨rfl, rfl⟩
            refine a_iadd C dM_isGood_49 ?_
            refine ldM_14 C dM_isGood_50 (by omega) ?_
            refine a_ifle (tgt := 56) C dM_isGood_51 (by decide) (by omega) (fun h51 => ?_) (fun h51 h51b => ?_)
            · skip
              have h510 : x.2.1 14 (s * 225 + (i * 15 + j)) = 0 := by omega
              have hnew : nrej (gM x) m (fun s => wM x s i j) (s + 1) = true := (nrM_no (g := gM x) (n := m) (w := fun s => wM x s i j) (s := s) (fun q => q.2.2 h510)).trans hn
              refine inc_4 C dM_isGood_56 rfl (inc_up (c := 1) (by decide)) (by omega) rfl ?_
              refine a_goto (tgt := 3) C dM_isGood_59 (by decide) ?_
              exact ih3 (s + 1) (by omega) (by omega) hnew
            · skip
              have hbad := nrM_bad (g := gM x) (n := m) (w := fun s => wM x s i j) (s := s) ⟨h20, h31, (fun q => absurd q (Nat.pos_iff_ne_zero.mp h51))⟩ (x.1 0 - (s + 1))
              rw [show s + 1 + (x.1 0 - (s + 1)) = x.1 0 by omega] at hbad
              refine a_iconst (v := 0) C dM_isGood_54 (by decide) ?_
              exact r_z C E dM_isGood_55 (by omega) ⟨rfl, by rw [hgd, hbad]; rfl⟩
  exact LP3 _ 0 (Nat.lt_succ_self _) (Nat.zero_le _) rfl
set_option maxHeartbeats 4000000 in
set_option maxRecDepth 100000 in
theorem c_M_mark (lc : Launch) (D : va_G) (ad : Nat → Nat) (cI cD cZ cJ : ClassId) (x : ST) (r h : Nat) (hr : r < 4294967296) (hh : h < 4294967296) (hR : x.1 0 ≤ 16) : CV lc D (ty4 cI cD cZ cJ) (WM ad cI cD cZ) yM_mark bM_mark 3 none 2 [.ref (ad 0), .int (nI r), .int (nI h)] x (fun u => (r < x.1 0 ∧ h ≤ 3 ∧ u = CHm (sA (sS x 5 0) 6 r h)) ∨ (¬ (r < x.1 0 ∧ h ≤ 3) ∧ u = sS x 5 1)) := by
  refine CV_of [some (.ref (ad 0)), some (.int (nI r)), some (.int (nI h))] (by decide) (Nat.le_of_ble_eq_true rfl) rfl ?_
  intro K C E hkl hkD hkn
  have JN23 : ∀ b : Nat, b ≤ 1 → (b ≠ 0 ↔ (r < x.1 0 ∧ h ≤ 3)) → WA K (WM ad cI cD cZ x) [some (.ref (ad 0)), some (.int (nI r)), some (.int (nI h))] 23 [.int (nI b), .ref (ad 0)] := by
    intro b hb hbb
    refine vI1 C (c_M_bad (kl K) (kD K) ad cI cD cZ cJ _ _ (by omega)) wM_M_83 wI_M_bad wSel_M_bad wIni_M wC_M_bad hd_M_bad (by decide) (by decide) (q0 := 0) rfl rfl (Nat.le_of_ble_eq_true rfl) dM_mark_23 ?_
    rintro n23 u23 b23 ⟨rfl, rfl⟩
    refine a_ifeq (tgt := 30) C dM_mark_26 (by decide) (by omega) (fun h26 => ?_) (fun h26 => ?_)
    · skip
      have hbr := hbb.mp (by omega)
      refine a_aloadn C dM_mark_30 rfl rfl ?_
      refine g_M_25 C dM_mark_31 ?_
      refine a_iloadn C dM_mark_34 rfl rfl ?_
      refine a_iloadn C dM_mark_35 rfl rfl ?_
      refine stM_6 C dM_mark_36 (by omega) ?_
      refine a_aloadn C dM_mark_37 rfl rfl ?_
      refine vV0 C (c_M_change (kl K) (kD K) ad cI cD cZ cJ _ ) wM_M_120 wI_M_change wSel_M_change wIni_M wC_M_change hd_M_change (by decide) (by decide) (q0 := 0) rfl rfl (Nat.le_of_ble_eq_true rfl) dM_mark_38 ?_
      rintro u38 rfl
      exact r_v C E dM_mark_41 (Or.inl ⟨(hbb.mp (by omega)).1, (hbb.mp (by omega)).2, by rw [show (1 : Nat) - b = 0 by omega]⟩)
    · skip
      exact r_v C E dM_mark_29 (Or.inr ⟨fun q => by have := hbb.mpr q; omega, by rw [show (1 : Nat) - b = 1 by omega]⟩)
  refine a_aloadn C dM_mark_0 rfl rfl ?_
  refine a_aloadn C dM_mark_1 rfl rfl ?_
  refine a_iloadn C dM_mark_2 rfl rfl ?_
  refine vI1 C (c_M_isRule (kl K) (kD K) ad cI cD cZ cJ _ _ hr (by omega)) wM_M_123 wI_M_isRule wSel_M_isRule wIni_M wC_M_isRule hd_M_isRule (by decide) (by decide) (q0 := 0) rfl rfl (Nat.le_of_ble_eq_true rfl) dM_mark_3 ?_
  rintro n3 u3 b3 ⟨rfl, rfl⟩
  refine a_ifeq (tgt := 22) C dM_mark_6 (by decide) i01_lt (fun h6 => ?_) (fun h6 => ?_)
  · skip
    have hrr := i01_eq h6
    refine a_iconst (v := 0) C dM_mark_22 (by decide) ?_
    exact JN23 _ (by omega) (by constructor; omega; omega)
  · skip
    have hrr := i01_ne h6
    refine a_iloadn C dM_mark_9 rfl rfl ?_
    refine a_iconst (v := 0) C dM_mark_10 (by decide) ?_
    refine a_iconst (v := 3) C dM_mark_11 (by decide) ?_
    refine sI3 C (c_M_in (kl K) (kD K) ad cI cD cZ cJ _ _ _ _ hh (by decide) (by decide)) wM_M_79 wSt_M_in wIni_M wC_M_in hd_M_in (by decide) (by decide) (Nat.le_of_ble_eq_true rfl) dM_mark_12 ?_
    rintro n12 u12 b12 ⟨rfl, rfl⟩
    refine a_ifeq (tgt := 22) C dM_mark_15 (by decide) i01_lt (fun h15 => ?_) (fun h15 => ?_)
    · skip
      have hhh := i01_eq h15
      refine a_iconst (v := 0) C dM_mark_22 (by decide) ?_
      exact JN23 _ (by omega) (by constructor; omega; omega)
    · skip
      have hhh := i01_ne h15
      refine a_iconst (v := 1) C dM_mark_18 (by decide) ?_
      refine a_goto (tgt := 23) C dM_mark_19 (by decide) ?_
      exact JN23 _ (by omega) (by constructor; omega; omega)
set_option maxHeartbeats 4000000 in
set_option maxRecDepth 100000 in
theorem c_M_bar (lc : Launch) (D : va_G) (ad : Nat → Nat) (cI cD cZ cJ : ClassId) (x : ST) (r s v : Nat) (hr : r < 4294967296) (hs : s < 4294967296) (hv : v ≤ 1) (hR : x.1 0 ≤ 16) : CV lc D (ty4 cI cD cZ cJ) (WM ad cI cD cZ) yM_bar bM_bar 4 none 2 [.ref (ad 0), .int (nI r), .int (nI s), .int (nI v)] x (fun u => (r < x.1 0 ∧ s < x.1 0 ∧ u = CHm (sA (sS x 5 0) 11 (r * 16 + s) v)) ∨ (¬ (r < x.1 0 ∧ s < x.1 0) ∧ u = sS x 5 1)) := by
  refine CV_of [some (.ref (ad 0)), some (.int (nI r)), some (.int (nI s)), some (.int (nI v))] (by decide) (Nat.le_of_ble_eq_true rfl) rfl ?_
  intro K C E hkl hkD hkn
  have JN22 : ∀ b : Nat, b ≤ 1 → (b ≠ 0 ↔ (r < x.1 0 ∧ s < x.1 0)) → WA K (WM ad cI cD cZ x) [some (.ref (ad 0)), some (.int (nI r)), some (.int (nI s)), some (.int (nI v))] 22 [.int (nI b), .ref (ad 0)] := by
    intro b hb hbb
    refine vI1 C (c_M_bad (kl K) (kD K) ad cI cD cZ cJ _ _ (by omega)) wM_M_83 wI_M_bad wSel_M_bad wIni_M wC_M_bad hd_M_bad (by decide) (by decide) (q0 := 0) rfl rfl (Nat.le_of_ble_eq_true rfl) dM_bar_22 ?_
    rintro n22 u22 b22 ⟨rfl, rfl⟩
    refine a_ifeq (tgt := 29) C dM_bar_25 (by decide) (by omega) (fun h25 => ?_) (fun h25 => ?_)
    · skip
      have hbr := hbb.mp (by omega)
      refine a_aloadn C dM_bar_29 rfl rfl ?_
      refine g_M_41 C dM_bar_30 ?_
      refine a_iloadn C dM_bar_33 rfl rfl ?_
      refine a_bipush (v := 16) C dM_bar_34 (by decide) ?_
      refine a_imul C dM_bar_36 ?_
      refine a_iloadn C dM_bar_37 rfl rfl ?_
      refine a_iadd C dM_bar_38 ?_
      refine a_iloadn C dM_bar_39 rfl rfl ?_
      refine stM_11 C dM_bar_40 (by omega) (by omega) ?_
      refine a_aloadn C dM_bar_41 rfl rfl ?_
      refine vV0 C (c_M_change (kl K) (kD K) ad cI cD cZ cJ _ ) wM_M_120 wI_M_change wSel_M_change wIni_M wC_M_change hd_M_change (by decide) (by decide) (q0 := 0) rfl rfl (Nat.le_of_ble_eq_true rfl) dM_bar_42 ?_
      rintro u42 rfl
      exact r_v C E dM_bar_45 (Or.inl ⟨hbr.1, hbr.2, by rw [show (1 : Nat) - b = 0 by omega]⟩)
    · skip
      exact r_v C E dM_bar_28 (Or.inr ⟨fun q => by have := hbb.mpr q; omega, by rw [show (1 : Nat) - b = 1 by omega]⟩)
  refine a_aloadn C dM_bar_0 rfl rfl ?_
  refine a_aloadn C dM_bar_1 rfl rfl ?_
  refine a_iloadn C dM_bar_2 rfl rfl ?_
  refine vI1 C (c_M_isRule (kl K) (kD K) ad cI cD cZ cJ _ _ hr (by omega)) wM_M_123 wI_M_isRule wSel_M_isRule wIni_M wC_M_isRule hd_M_isRule (by decide) (by decide) (q0 := 0) rfl rfl (Nat.le_of_ble_eq_true rfl) dM_bar_3 ?_
  rintro n3 u3 b3 ⟨rfl, rfl⟩
  refine a_ifeq (tgt := 21) C dM_bar_6 (by decide) i01_lt (fun h6 => ?_) (fun h6 => ?_)
  · skip
    have hrr := i01_eq h6
    refine a_iconst (v := 0) C dM_bar_21 (by decide) ?_
    exact JN22 _ (by omega) (by constructor; omega; omega)
  · skip
    have hrr := i01_ne h6
    refine a_aloadn C dM_bar_9 rfl rfl ?_
    refine a_iloadn C dM_bar_10 rfl rfl ?_
    refine vI1 C (c_M_isRule (kl K) (kD K) ad cI cD cZ cJ _ _ hs (by omega)) wM_M_123 wI_M_isRule wSel_M_isRule wIni_M wC_M_isRule hd_M_isRule (by decide) (by decide) (q0 := 0) rfl rfl (Nat.le_of_ble_eq_true rfl) dM_bar_11 ?_
    rintro n11 u11 b11 ⟨rfl, rfl⟩
    refine a_ifeq (tgt := 21) C dM_bar_14 (by decide) i01_lt (fun h14 => ?_) (fun h14 => ?_)
    · skip
      have hhh := i01_eq h14
      refine a_iconst (v := 0) C dM_bar_21 (by decide) ?_
      exact JN22 _ (by omega) (by constructor; omega; omega)
    · skip
      have hhh := i01_ne h14
      refine a_iconst (v := 1) C dM_bar_17 (by decide) ?_
      refine a_goto (tgt := 22) C dM_bar_18 (by decide) ?_
      exact JN22 _ (by omega) (by constructor; omega; omega)
set_option maxHeartbeats 4000000 in
set_option maxRecDepth 100000 in
theorem c_M_follow (lc : Launch) (D : va_G) (ad : Nat → Nat) (cI cD cZ cJ : ClassId) (x : ST) (m c v : Nat) (hm : m < 4294967296) (hc : c < 4294967296) (hv : v ≤ 1) : CV lc D (ty4 cI cD cZ cJ) (WM ad cI cD cZ) yM_follow bM_follow 4 none 2 [.ref (ad 0), .int (nI m), .int (nI c), .int (nI v)] x (fun u => (m < 6 ∧ (33 ≤ c ∧ c ≤ 126) ∧ u = CHm (sA (sS x 5 0) 12 (m * 127 + c) (1 - v))) ∨ (¬ (m < 6 ∧ (33 ≤ c ∧ c ≤ 126)) ∧ u = sS x 5 1)) := by
  refine CV_of [some (.ref (ad 0)), some (.int (nI m)), some (.int (nI c)), some (.int (nI v))] (by decide) (Nat.le_of_ble_eq_true rfl) rfl ?_
  intro K C E hkl hkD hkn
  have JN26 : ∀ b : Nat, b ≤ 1 → (b ≠ 0 ↔ (m < 6 ∧ (33 ≤ c ∧ c ≤ 126))) → WA K (WM ad cI cD cZ x) [some (.ref (ad 0)), some (.int (nI m)), some (.int (nI c)), some (.int (nI v))] 26 [.int (nI b), .ref (ad 0)] := by
    intro b hb hbb
    refine vI1 C (c_M_bad (kl K) (kD K) ad cI cD cZ cJ _ _ (by omega)) wM_M_83 wI_M_bad wSel_M_bad wIni_M wC_M_bad hd_M_bad (by decide) (by decide) (q0 := 0) rfl rfl (Nat.le_of_ble_eq_true rfl) dM_follow_26 ?_
    rintro n26 u26 b26 ⟨rfl, rfl⟩
    refine a_ifeq (tgt := 33) C dM_follow_29 (by decide) (by omega) (fun h29 => ?_) (fun h29 => ?_)
    · skip
      have hbr := hbb.mp (by omega)
      refine a_aloadn C dM_follow_33 rfl rfl ?_
      refine g_M_45 C dM_follow_34 ?_
      refine a_iloadn C dM_follow_37 rfl rfl ?_
      refine a_bipush (v := 127) C dM_follow_38 (by decide) ?_
      refine a_imul C dM_follow_40 ?_
      refine a_iloadn C dM_follow_41 rfl rfl ?_
      refine a_iadd C dM_follow_42 ?_
      refine a_iloadn C dM_follow_43 rfl rfl ?_
      refine a_ifne (tgt := 51) C dM_follow_44 (by decide) (by omega) (fun h44 => ?_) (fun h44 => ?_)
      · skip
        refine a_iconst (v := 0) C dM_follow_51 (by decide) ?_
        refine stM_12 C dM_follow_52 (by omega) (by omega) ?_
        refine a_aloadn C dM_follow_53 rfl rfl ?_
        refine vV0 C (c_M_change (kl K) (kD K) ad cI cD cZ cJ _ ) wM_M_120 wI_M_change wSel_M_change wIni_M wC_M_change hd_M_change (by decide) (by decide) (q0 := 0) rfl rfl (Nat.le_of_ble_eq_true rfl) dM_follow_54 ?_
        rintro u54 rfl
        exact r_v C E dM_follow_57 (Or.inl ⟨hbr.1, hbr.2, by rw [show (1 : Nat) - b = 0 by omega]; first | rw [show (1 : Nat) - v = 0 by omega] | rw [show (1 : Nat) - v = 1 by omega]⟩)
      · skip
        refine a_iconst (v := 1) C dM_follow_47 (by decide) ?_
        refine a_goto (tgt := 52) C dM_follow_48 (by decide) ?_
        refine stM_12 C dM_follow_52 (by omega) (by omega) ?_
        refine a_aloadn C dM_follow_53 rfl rfl ?_
        refine vV0 C (c_M_change (kl K) (kD K) ad cI cD cZ cJ _ ) wM_M_120 wI_M_change wSel_M_change wIni_M wC_M_change hd_M_change (by decide) (by decide) (q0 := 0) rfl rfl (Nat.le_of_ble_eq_true rfl) dM_follow_54 ?_
        rintro u54 rfl
        exact r_v C E dM_follow_57 (Or.inl ⟨hbr.1, hbr.2, by rw [show (1 : Nat) - b = 0 by omega]; first | rw [show (1 : Nat) - v = 0 by omega] | rw [show (1 : Nat) - v = 1 by omega]⟩)
    · skip
      exact r_v C E dM_follow_32 (Or.inr ⟨fun q => by have := hbb.mpr q; omega, by rw [show (1 : Nat) - b = 1 by omega]⟩)
  refine a_aloadn C dM_follow_0 rfl rfl ?_
  refine a_iloadn C dM_follow_1 rfl rfl ?_
  refine a_iconst (v := 0) C dM_follow_2 (by decide) ?_
  refine a_iconst (v := 5) C dM_follow_3 (by decide) ?_
  refine sI3 C (c_M_in (kl K) (kD K) ad cI cD cZ cJ _ _ _ _ hm (by decide) (by decide)) wM_M_79 wSt_M_in wIni_M wC_M_in hd_M_in (by decide) (by decide) (Nat.le_of_ble_eq_true rfl) dM_follow_4 ?_
  rintro n4 u4 b4 ⟨rfl, rfl⟩
  refine a_ifeq (tgt := 25) C dM_follow_7 (by decide) i01_lt (fun h7 => ?_) (fun h7 => ?_)
  · skip
    have hrr := i01_eq h7
    refine a_iconst (v := 0) C dM_follow_25 (by decide) ?_
    exact JN26 _ (by omega) (by constructor; omega; omega)
  · skip
    have hrr := i01_ne h7
    refine a_iloadn C dM_follow_10 rfl rfl ?_
    refine a_bipush (v := 33) C dM_follow_11 (by decide) ?_
    refine a_bipush (v := 126) C dM_follow_13 (by decide) ?_
    refine sI3 C (c_M_in (kl K) (kD K) ad cI cD cZ cJ _ _ _ _ hc (by decide) (by decide)) wM_M_79 wSt_M_in wIni_M wC_M_in hd_M_in (by decide) (by decide) (Nat.le_of_ble_eq_true rfl) dM_follow_15 ?_
    rintro n15 u15 b15 ⟨rfl, rfl⟩
    refine a_ifeq (tgt := 25) C dM_follow_18 (by decide) i01_lt (fun h18 => ?_) (fun h18 => ?_)
    · skip
      have hhh := i01_eq h18
      refine a_iconst (v := 0) C dM_follow_25 (by decide) ?_
      exact JN26 _ (by omega) (by constructor; omega; omega)
    · skip
      have hhh := i01_ne h18
      refine a_iconst (v := 1) C dM_follow_21 (by decide) ?_
      refine a_goto (tgt := 26) C dM_follow_22 (by decide) ?_
      exact JN26 _ (by omega) (by constructor; omega; omega)
set_option maxHeartbeats 4000000 in
set_option maxRecDepth 100000 in
theorem c_M_weight (lc : Launch) (D : va_G) (ad : Nat → Nat) (cI cD cZ cJ : ClassId) (x : ST) (hw : WF x) : CD lc D (ty4 cI cD cZ cJ) (WM ad cI cD cZ) yM_weight bM_weight 1 (some .double) 0 [.ref (ad 0)] x (fun rr u => (x.1 7 ≠ 0 ∧ u = sS x 5 0 ∧ rr = x.2.2.2) ∨ (x.1 7 = 0 ∧ u = sS x 5 1)) := by
  refine CD_of [some (.ref (ad 0))] (by decide) (Nat.le_of_ble_eq_true rfl) rfl ?_
  intro K C E hkl hkD hkn
  refine a_aloadn C dM_weight_0 rfl rfl ?_
  refine a_aloadn C dM_weight_1 rfl rfl ?_
  refine g_M_98 C dM_weight_2 ?_
  refine a_ifeq (tgt := 12) C dM_weight_5 (by decide) (hw.2 7) (fun h5 => ?_) (fun h5 => ?_)
  · skip
    refine a_iconst (v := 1) C dM_weight_12 (by decide) ?_
    refine p_M_76 C dM_weight_13 ?_
    refine a_aloadn C dM_weight_16 rfl rfl ?_
    refine g_M_98 C dM_weight_17 ?_
    refine a_ifeq (tgt := 30) C dM_weight_20 (by decide) (hw.2 7) (fun h20 => ?_) (fun h20 => ?_)
    · skip
      refine a_dconst0 C dM_weight_30 ?_
      exact r_d C E dM_weight_31 (by first | exact Or.inl ⟨h5, rfl, rfl⟩ | exact Or.inr ⟨h5, rfl⟩ | exact absurd h20 h5 | exact absurd h5 h20)
    · skip
      refine a_aloadn C dM_weight_23 rfl rfl ?_
      refine g_M_179 C dM_weight_24 ?_
      refine a_goto (tgt := 31) C dM_weight_27 (by decide) ?_
      exact r_d C E dM_weight_31 (by first | exact Or.inl ⟨h5, rfl, rfl⟩ | exact Or.inr ⟨h5, rfl⟩ | exact absurd h20 h5 | exact absurd h5 h20)
  · skip
    refine a_iconst (v := 0) C dM_weight_8 (by decide) ?_
    refine a_goto (tgt := 13) C dM_weight_9 (by decide) ?_
    refine p_M_76 C dM_weight_13 ?_
    refine a_aloadn C dM_weight_16 rfl rfl ?_
    refine g_M_98 C dM_weight_17 ?_
    refine a_ifeq (tgt := 30) C dM_weight_20 (by decide) (hw.2 7) (fun h20 => ?_) (fun h20 => ?_)
    · skip
      refine a_dconst0 C dM_weight_30 ?_
      exact r_d C E dM_weight_31 (by first | exact Or.inl ⟨h5, rfl, rfl⟩ | exact Or.inr ⟨h5, rfl⟩ | exact absurd h20 h5 | exact absurd h5 h20)
    · skip
      refine a_aloadn C dM_weight_23 rfl rfl ?_
      refine g_M_179 C dM_weight_24 ?_
      refine a_goto (tgt := 31) C dM_weight_27 (by decide) ?_
      exact r_d C E dM_weight_31 (by first | exact Or.inl ⟨h5, rfl, rfl⟩ | exact Or.inr ⟨h5, rfl⟩ | exact absurd h20 h5 | exact absurd h5 h20)
set_option maxHeartbeats 4000000 in
set_option maxRecDepth 100000 in
theorem c_M_many (lc : Launch) (D : va_G) (ad : Nat → Nat) (cI cD cZ cJ : ClassId) (x : ST) (r i j : Nat) (hr : r < 4294967296) (hi : i < 4294967296) (hj : j < 4294967296) (hw : WF x) (hR : x.1 0 ≤ 16) (hN : x.1 3 ≤ 14) : CI lc D (ty4 cI cD cZ cJ) (WM ad cI cD cZ) yM_many bM_many 4 (some .int) 2 [.ref (ad 0), .int (nI r), .int (nI i), .int (nI j)] x (fun rr u => (¬ r < x.1 0 ∧ u = sS x 5 1 ∧ rr = 0) ∨ (r < x.1 0 ∧ ¬ (x.1 6 ≠ 0 ∧ i < j ∧ j ≤ x.1 3) ∧ u = sS x 5 2 ∧ rr = 0) ∨ (r < x.1 0 ∧ (x.1 6 ≠ 0 ∧ i < j ∧ j ≤ x.1 3) ∧ u = sS x 5 0 ∧ rr = wM x r i j)) := by
  refine CI_of [some (.ref (ad 0)), some (.int (nI r)), some (.int (nI i)), some (.int (nI j))] (by decide) (Nat.le_of_ble_eq_true rfl) rfl ?_
  intro K C E hkl hkD hkn
  refine a_aloadn C dM_many_0 rfl rfl ?_
  refine a_aloadn C dM_many_1 rfl rfl ?_
  refine a_iloadn C dM_many_2 rfl rfl ?_
  refine vI1 C (c_M_isRule (kl K) (kD K) ad cI cD cZ cJ _ _ hr (by omega)) wM_M_123 wI_M_isRule wSel_M_isRule wIni_M wC_M_isRule hd_M_isRule (by decide) (by decide) (q0 := 0) rfl rfl (Nat.le_of_ble_eq_true rfl) dM_many_3 ?_
  rintro n3 u3 b3 ⟨rfl, rfl⟩
  have hb3 : (if r < x.1 0 then 1 else 0 : Nat) ≤ 1 := i01_le
  refine vI1 C (c_M_bad (kl K) (kD K) ad cI cD cZ cJ _ _ i01_le) wM_M_83 wI_M_bad wSel_M_bad wIni_M wC_M_bad hd_M_bad (by decide) (by decide) (q0 := 0) rfl rfl (Nat.le_of_ble_eq_true rfl) dM_many_6 ?_
  rintro n6 u6 b6 ⟨rfl, rfl⟩
  refine a_ifeq (tgt := 14) C dM_many_9 (by decide) (by omega) (fun h9 => ?_) (fun h9 => ?_)
  · skip
    have hrr : r < x.1 0 := by by_cases q : r < x.1 0; exact q; rw [if_neg q] at h9; omega
    rw [if_pos hrr]
    refine a_aloadn C dM_many_14 rfl rfl ?_
    refine g_M_94 C dM_many_15 ?_
    rw [show (sS x 5 (1 - 1)).1 6 = x.1 6 from rfl]
    refine a_ifeq (tgt := 38) C dM_many_18 (by decide) (show x.1 6 < 4294967296 from hw.2 6) (fun h18 => ?_) (fun h18 => ?_)
    · skip
      refine a_aloadn C dM_many_38 rfl rfl ?_
      refine a_iconst (v := 2) C dM_many_39 (by decide) ?_
      refine vI1 C (c_M_fail (kl K) (kD K) ad cI cD cZ cJ _ _) wM_M_90 wI_M_fail wSel_M_fail wIni_M wC_M_fail hd_M_fail (by decide) (by decide) (q0 := 0) rfl rfl (Nat.le_of_ble_eq_true rfl) dM_many_40 ?_
      rintro n40 u40 b40 ⟨rfl, rfl⟩
      exact r_i C E dM_many_43 (by first | decide | exact hw.1 _ _) (Or.inr (Or.inl ⟨hrr, by omega, sS_sS _ _ _ _, rfl⟩))
    · skip
      refine a_iloadn C dM_many_21 rfl rfl ?_
      refine a_iflt (tgt := 38) C dM_many_22 (by decide) (by omega) (fun h22 => ?_) (fun h22 => ?_)
      · skip
        refine a_aloadn C dM_many_38 rfl rfl ?_
        refine a_iconst (v := 2) C dM_many_39 (by decide) ?_
        refine vI1 C (c_M_fail (kl K) (kD K) ad cI cD cZ cJ _ _) wM_M_90 wI_M_fail wSel_M_fail wIni_M wC_M_fail hd_M_fail (by decide) (by decide) (q0 := 0) rfl rfl (Nat.le_of_ble_eq_true rfl) dM_many_40 ?_
        rintro n40 u40 b40 ⟨rfl, rfl⟩
        exact r_i C E dM_many_43 (by first | decide | exact hw.1 _ _) (Or.inr (Or.inl ⟨hrr, by omega, sS_sS _ _ _ _, rfl⟩))
      · skip
        refine a_iloadn C dM_many_25 rfl rfl ?_
        refine a_aloadn C dM_many_26 rfl rfl ?_
        refine g_M_161 C dM_many_27 ?_
        rw [show (sS x 5 (1 - 1)).1 3 = x.1 3 from rfl]
        refine a_cgtG (tgt := 38) C dM_many_30 (by decide) (by omega) (by omega) (fun h30 => ?_) (fun h30 => ?_)
        · skip
          refine a_aloadn C dM_many_38 rfl rfl ?_
          refine a_iconst (v := 2) C dM_many_39 (by decide) ?_
          refine vI1 C (c_M_fail (kl K) (kD K) ad cI cD cZ cJ _ _) wM_M_90 wI_M_fail wSel_M_fail wIni_M wC_M_fail hd_M_fail (by decide) (by decide) (q0 := 0) rfl rfl (Nat.le_of_ble_eq_true rfl) dM_many_40 ?_
          rintro n40 u40 b40 ⟨rfl, rfl⟩
          exact r_i C E dM_many_43 (by first | decide | exact hw.1 _ _) (Or.inr (Or.inl ⟨hrr, by omega, sS_sS _ _ _ _, rfl⟩))
        · skip
          refine a_iloadn C dM_many_33 rfl rfl ?_
          refine a_iloadn C dM_many_34 rfl rfl ?_
          refine a_cltB (tgt := 44) C dM_many_35 (by decide) (by omega) (by omega) (fun h35 => ?_) (fun h35 => ?_)
          · skip
            refine a_aloadn C dM_many_44 rfl rfl ?_
            refine g_M_51 C dM_many_45 ?_
            refine a_iloadn C dM_many_48 rfl rfl ?_
            refine a_sipush (v := 225) C dM_many_49 (by decide) ?_
            refine a_imul C dM_many_52 ?_
            refine a_iloadn C dM_many_53 rfl rfl ?_
            refine a_iloadn C dM_many_54 rfl rfl ?_
            refine sI2 C (c_M_span (kl K) (kD K) ad cI cD cZ cJ _ _ _ (by omega) (by omega)) wM_M_129 wSt_M_span wIni_M wC_M_span hd_M_span (by decide) (by decide) (Nat.le_of_ble_eq_true rfl) dM_many_55 ?_
            rintro n55 u55 b55 ⟨rfl, rfl⟩
            refine a_iadd C dM_many_58 ?_
            refine ldM_14 C dM_many_59 (by omega) ?_
            exact r_i C E dM_many_60 (by first | decide | exact hw.1 _ _) (Or.inr (Or.inr ⟨hrr, ⟨h18, by omega, by omega⟩, rfl, rfl⟩))
          · skip
            refine a_aloadn C dM_many_38 rfl rfl ?_
            refine a_iconst (v := 2) C dM_many_39 (by decide) ?_
            refine vI1 C (c_M_fail (kl K) (kD K) ad cI cD cZ cJ _ _) wM_M_90 wI_M_fail wSel_M_fail wIni_M wC_M_fail hd_M_fail (by decide) (by decide) (q0 := 0) rfl rfl (Nat.le_of_ble_eq_true rfl) dM_many_40 ?_
            rintro n40 u40 b40 ⟨rfl, rfl⟩
            exact r_i C E dM_many_43 (by first | decide | exact hw.1 _ _) (Or.inr (Or.inl ⟨hrr, by omega, sS_sS _ _ _ _, rfl⟩))
  · skip
    have hrn : ¬ r < x.1 0 := fun q => by rw [if_pos q] at h9; omega
    rw [if_neg hrn]
    refine a_iconst (v := 0) C dM_many_12 (by decide) ?_
    exact r_i C E dM_many_13 (by first | decide | exact hw.1 _ _) (Or.inl ⟨hrn, rfl, rfl⟩)
set_option maxHeartbeats 4000000 in
set_option maxRecDepth 100000 in
theorem c_M_node (lc : Launch) (D : va_G) (ad : Nat → Nat) (cI cD cZ cJ : ClassId) (x : ST) (k h : Nat) (hk : k < 4294967296) (hh : h < 4294967296) (hw : WF x) (hN : x.1 4 ≤ 400) : CI lc D (ty4 cI cD cZ cJ) (WM ad cI cD cZ) yM_node bM_node 3 (some .int) 2 [.ref (ad 0), .int (nI k), .int (nI h)] x (fun rr u => (¬ h ≤ 3 ∧ u = sS x 5 1 ∧ rr = 0) ∨ (h ≤ 3 ∧ ¬ (x.1 7 ≠ 0 ∧ k < x.1 4) ∧ u = sS x 5 2 ∧ rr = 0) ∨ (h ≤ 3 ∧ (x.1 7 ≠ 0 ∧ k < x.1 4) ∧ u = sS x 5 0 ∧ rr = ndM x k h)) := by
  refine CI_of [some (.ref (ad 0)), some (.int (nI k)), some (.int (nI h))] (by decide) (Nat.le_of_ble_eq_true rfl) rfl ?_
  intro K C E hkl hkD hkn
  refine a_aloadn C dM_node_0 rfl rfl ?_
  refine a_iloadn C dM_node_1 rfl rfl ?_
  refine a_iconst (v := 0) C dM_node_2 (by decide) ?_
  refine a_iconst (v := 3) C dM_node_3 (by decide) ?_
  refine sI3 C (c_M_in (kl K) (kD K) ad cI cD cZ cJ _ _ _ _ hh (by decide) (by decide)) wM_M_79 wSt_M_in wIni_M wC_M_in hd_M_in (by decide) (by decide) (Nat.le_of_ble_eq_true rfl) dM_node_4 ?_
  rintro n4 u4 b4 ⟨rfl, rfl⟩
  have hh3 : (if 0 ≤ h ∧ h ≤ 3 ∧ 3 < 2147483648 then 1 else 0 : Nat) = if h ≤ 3 then 1 else 0 := by by_cases q : h ≤ 3; rw [if_pos q, if_pos (by omega)]; rw [if_neg q, if_neg (by omega)]
  rw [hh3]
  have hb3 : (if h ≤ 3 then 1 else 0 : Nat) ≤ 1 := i01_le
  refine vI1 C (c_M_bad (kl K) (kD K) ad cI cD cZ cJ _ _ i01_le) wM_M_83 wI_M_bad wSel_M_bad wIni_M wC_M_bad hd_M_bad (by decide) (by decide) (q0 := 0) rfl rfl (Nat.le_of_ble_eq_true rfl) dM_node_7 ?_
  rintro n7 u7 b7 ⟨rfl, rfl⟩
  refine a_ifeq (tgt := 15) C dM_node_10 (by decide) (by omega) (fun h10 => ?_) (fun h10 => ?_)
  · skip
    have hrr : h ≤ 3 := by by_cases q : h ≤ 3; exact q; rw [if_neg q] at h10; omega
    rw [if_pos hrr]
    refine a_aloadn C dM_node_15 rfl rfl ?_
    refine g_M_98 C dM_node_16 ?_
    rw [show (sS x 5 (1 - 1)).1 7 = x.1 7 from rfl]
    refine a_ifeq (tgt := 36) C dM_node_19 (by decide) (show x.1 7 < 4294967296 from hw.2 7) (fun h19 => ?_) (fun h19 => ?_)
    · skip
      refine a_aloadn C dM_node_36 rfl rfl ?_
      refine a_iconst (v := 2) C dM_node_37 (by decide) ?_
      refine vI1 C (c_M_fail (kl K) (kD K) ad cI cD cZ cJ _ _) wM_M_90 wI_M_fail wSel_M_fail wIni_M wC_M_fail hd_M_fail (by decide) (by decide) (q0 := 0) rfl rfl (Nat.le_of_ble_eq_true rfl) dM_node_38 ?_
      rintro n38 u38 b38 ⟨rfl, rfl⟩
      exact r_i C E dM_node_41 (by first | decide | exact hw.1 _ _) (Or.inr (Or.inl ⟨hrr, by first | exact fun q => q.1 h19 | exact fun q => i01_eq h33 ⟨Nat.zero_le _, hdd.mpr q.2⟩, sS_sS _ _ _ _, rfl⟩))
    · skip
      refine a_iloadn C dM_node_22 rfl rfl ?_
      refine a_iconst (v := 0) C dM_node_23 (by decide) ?_
      refine a_aloadn C dM_node_24 rfl rfl ?_
      refine g_M_183 C dM_node_25 ?_
      rw [show (sS x 5 (1 - 1)).1 4 = x.1 4 from rfl]
      refine a_iconst (v := 1) C dM_node_28 (by decide) ?_
      refine a_isubw C dM_node_29 (by decide) ?_
      rw [dn_1]
      have hdd := dnv_lt (a := x.1 4) (by omega) k
      refine sI3 C (c_M_in (kl K) (kD K) ad cI cD cZ cJ _ _ _ _ hk (by decide) (dnv_32 (by omega))) wM_M_79 wSt_M_in wIni_M wC_M_in hd_M_in (by decide) (by decide) (Nat.le_of_ble_eq_true rfl) dM_node_30 ?_
      rintro n30 u30 b30 ⟨rfl, rfl⟩
      refine a_ifne (tgt := 42) C dM_node_33 (by decide) i01_lt (fun h33 => ?_) (fun h33 => ?_)
      · skip
        have hkk := hdd.mp (i01_ne h33).2
        refine a_iloadn C dM_node_42 rfl rfl ?_
        refine a_ifne (tgt := 55) C dM_node_43 (by decide) (by omega) (fun h43 => ?_) (fun h43 => ?_)
        · skip
          refine a_iloadn C dM_node_55 rfl rfl ?_
          refine a_iconst (v := 1) C dM_node_56 (by decide) ?_
          refine a_cne (tgt := 69) C dM_node_57 (by decide) (by omega) (by omega) (fun h57 => ?_) (fun h57 => ?_)
          · skip
            refine a_iloadn C dM_node_69 rfl rfl ?_
            refine a_iconst (v := 2) C dM_node_70 (by decide) ?_
            refine a_cne (tgt := 83) C dM_node_71 (by decide) (by omega) (by omega) (fun h71 => ?_) (fun h71 => ?_)
            · skip
              refine a_aloadn C dM_node_83 rfl rfl ?_
              refine g_M_66 C dM_node_84 ?_
              refine a_iloadn C dM_node_87 rfl rfl ?_
              refine ldM_19 C dM_node_88 (by omega) ?_
              exact r_i C E dM_node_89 (by first | decide | exact hw.1 _ _) (Or.inr (Or.inr ⟨hrr, ⟨h19, hkk⟩, rfl, by unfold ndM; first | (rw [if_pos h43]; rfl) | (rw [if_neg h43, if_pos h57]; rfl) | (rw [if_neg h43, if_neg h57, if_pos h71]; rfl) | (rw [if_neg h43, if_neg h57, if_neg h71]; rfl)⟩))
            · skip
              refine a_aloadn C dM_node_74 rfl rfl ?_
              refine g_M_60 C dM_node_75 ?_
              refine a_iloadn C dM_node_78 rfl rfl ?_
              refine ldM_17 C dM_node_79 (by omega) ?_
              refine a_goto (tgt := 89) C dM_node_80 (by decide) ?_
              exact r_i C E dM_node_89 (by first | decide | exact hw.1 _ _) (Or.inr (Or.inr ⟨hrr, ⟨h19, hkk⟩, rfl, by unfold ndM; first | (rw [if_pos h43]; rfl) | (rw [if_neg h43, if_pos h57]; rfl) | (rw [if_neg h43, if_neg h57, if_pos h71]; rfl) | (rw [if_neg h43, if_neg h57, if_neg h71]; rfl)⟩))
          · skip
            refine a_aloadn C dM_node_60 rfl rfl ?_
            refine g_M_57 C dM_node_61 ?_
            refine a_iloadn C dM_node_64 rfl rfl ?_
            refine ldM_16 C dM_node_65 (by omega) ?_
            refine a_goto (tgt := 89) C dM_node_66 (by decide) ?_
            exact r_i C E dM_node_89 (by first | decide | exact hw.1 _ _) (Or.inr (Or.inr ⟨hrr, ⟨h19, hkk⟩, rfl, by unfold ndM; first | (rw [if_pos h43]; rfl) | (rw [if_neg h43, if_pos h57]; rfl) | (rw [if_neg h43, if_neg h57, if_pos h71]; rfl) | (rw [if_neg h43, if_neg h57, if_neg h71]; rfl)⟩))
        · skip
          refine a_aloadn C dM_node_46 rfl rfl ?_
          refine g_M_54 C dM_node_47 ?_
          refine a_iloadn C dM_node_50 rfl rfl ?_
          refine ldM_15 C dM_node_51 (by omega) ?_
          refine a_goto (tgt := 89) C dM_node_52 (by decide) ?_
          exact r_i C E dM_node_89 (by first | decide | exact hw.1 _ _) (Or.inr (Or.inr ⟨hrr, ⟨h19, hkk⟩, rfl, by unfold ndM; first | (rw [if_pos h43]; rfl) | (rw [if_neg h43, if_pos h57]; rfl) | (rw [if_neg h43, if_neg h57, if_pos h71]; rfl) | (rw [if_neg h43, if_neg h57, if_neg h71]; rfl)⟩))
      · skip
        refine a_aloadn C dM_node_36 rfl rfl ?_
        refine a_iconst (v := 2) C dM_node_37 (by decide) ?_
        refine vI1 C (c_M_fail (kl K) (kD K) ad cI cD cZ cJ _ _) wM_M_90 wI_M_fail wSel_M_fail wIni_M wC_M_fail hd_M_fail (by decide) (by decide) (q0 := 0) rfl rfl (Nat.le_of_ble_eq_true rfl) dM_node_38 ?_
        rintro n38 u38 b38 ⟨rfl, rfl⟩
        exact r_i C E dM_node_41 (by first | decide | exact hw.1 _ _) (Or.inr (Or.inl ⟨hrr, by first | exact fun q => q.1 h19 | exact fun q => i01_eq h33 ⟨Nat.zero_le _, hdd.mpr q.2⟩, sS_sS _ _ _ _, rfl⟩))
  · skip
    have hrn : ¬ h ≤ 3 := fun q => by rw [if_pos q] at h10; omega
    rw [if_neg hrn]
    refine a_iconst (v := 0) C dM_node_13 (by decide) ?_
    exact r_i C E dM_node_14 (by first | decide | exact hw.1 _ _) (Or.inl ⟨hrn, rfl, rfl⟩)
set_option maxHeartbeats 4000000 in
set_option maxRecDepth 100000 in
theorem c_M_count1 (lc : Launch) (D : va_G) (ad : Nat → Nat) (cI cD cZ cJ : ClassId) (x : ST) (h : Nat) (hh : h < 4294967296) (hw : WF x) : CI lc D (ty4 cI cD cZ cJ) (WM ad cI cD cZ) yM_count1 bM_count1 2 (some .int) 0 [.ref (ad 0), .int (nI h)] x (fun rr u => u = sS x 5 0 ∧ rr = ctM x h) := by
  refine CI_of [some (.ref (ad 0)), some (.int (nI h))] (by decide) (Nat.le_of_ble_eq_true rfl) rfl ?_
  intro K C E hkl hkD hkn
  refine a_aloadn C dM_count1_0 rfl rfl ?_
  refine a_iconst (v := 0) C dM_count1_1 (by decide) ?_
  refine p_M_76 C dM_count1_2 ?_
  refine a_iloadn C dM_count1_5 rfl rfl ?_
  refine a_tsw (n := 5) (tgtD := 87) (fun k => [40, 45, 50, 55, 71].getD k 0) C dM_count1_6 (by omega) (by decide) (by decide) (by decide) (by decide) (fun h6 => ?_) (fun h6 => ?_)
  · skip
    rcases (show h = 0 ∨ h = 1 ∨ h = 2 ∨ h = 3 ∨ h = 4 by omega) with h6c | h6c | h6c | h6c | h6c
    · skip
      have htg6 : [40, 45, 50, 55, 71].getD (h) 0 = 40 := by rw [h6c]; rfl
      rw [htg6]
      refine a_aloadn C dM_count1_40 rfl rfl ?_
      refine g_M_101 C dM_count1_41 ?_
      exact r_i C E dM_count1_44 (by first | decide | exact hw.2 _) ⟨rfl, by first | (rw [h6c]; first | rfl | (exact (if_pos h59).symm) | (exact (if_neg h59).symm) | (exact (if_pos h75).symm) | (exact (if_neg h75).symm)) | (unfold ctM; rw [if_neg (by omega), if_neg (by omega), if_neg (by omega), if_neg (by omega), if_neg (by omega)])⟩
    · skip
      have htg6 : [40, 45, 50, 55, 71].getD (h) 0 = 45 := by rw [h6c]; rfl
      rw [htg6]
      refine a_aloadn C dM_count1_45 rfl rfl ?_
      refine g_M_72 C dM_count1_46 ?_
      exact r_i C E dM_count1_49 (by first | decide | exact hw.2 _) ⟨rfl, by first | (rw [h6c]; first | rfl | (exact (if_pos h59).symm) | (exact (if_neg h59).symm) | (exact (if_pos h75).symm) | (exact (if_neg h75).symm)) | (unfold ctM; rw [if_neg (by omega), if_neg (by omega), if_neg (by omega), if_neg (by omega), if_neg (by omega)])⟩
    · skip
      have htg6 : [40, 45, 50, 55, 71].getD (h) 0 = 50 := by rw [h6c]; rfl
      rw [htg6]
      refine a_aloadn C dM_count1_50 rfl rfl ?_
      refine g_M_87 C dM_count1_51 ?_
      exact r_i C E dM_count1_54 (by first | decide | exact hw.2 _) ⟨rfl, by first | (rw [h6c]; first | rfl | (exact (if_pos h59).symm) | (exact (if_neg h59).symm) | (exact (if_pos h75).symm) | (exact (if_neg h75).symm)) | (unfold ctM; rw [if_neg (by omega), if_neg (by omega), if_neg (by omega), if_neg (by omega), if_neg (by omega)])⟩
    · skip
      have htg6 : [40, 45, 50, 55, 71].getD (h) 0 = 55 := by rw [h6c]; rfl
      rw [htg6]
      refine a_aloadn C dM_count1_55 rfl rfl ?_
      refine g_M_98 C dM_count1_56 ?_
      refine a_ifeq (tgt := 69) C dM_count1_59 (by decide) (show x.1 7 < 4294967296 from hw.2 7) (fun h59 => ?_) (fun h59 => ?_)
      · skip
        refine a_iconst (v := 0) C dM_count1_69 (by decide) ?_
        exact r_i C E dM_count1_70 (by first | decide | exact hw.2 _) ⟨rfl, by first | (rw [h6c]; first | rfl | (exact (if_pos h59).symm) | (exact (if_neg h59).symm) | (exact (if_pos h75).symm) | (exact (if_neg h75).symm)) | (unfold ctM; rw [if_neg (by omega), if_neg (by omega), if_neg (by omega), if_neg (by omega), if_neg (by omega)])⟩
      · skip
        refine a_aloadn C dM_count1_62 rfl rfl ?_
        refine g_M_183 C dM_count1_63 ?_
        refine a_goto (tgt := 70) C dM_count1_66 (by decide) ?_
        exact r_i C E dM_count1_70 (by first | decide | exact hw.2 _) ⟨rfl, by first | (rw [h6c]; first | rfl | (exact (if_pos h59).symm) | (exact (if_neg h59).symm) | (exact (if_pos h75).symm) | (exact (if_neg h75).symm)) | (unfold ctM; rw [if_neg (by omega), if_neg (by omega), if_neg (by omega), if_neg (by omega), if_neg (by omega)])⟩
    · skip
      have htg6 : [40, 45, 50, 55, 71].getD (h) 0 = 71 := by rw [h6c]; rfl
      rw [htg6]
      refine a_aloadn C dM_count1_71 rfl rfl ?_
      refine g_M_94 C dM_count1_72 ?_
      refine a_ifeq (tgt := 85) C dM_count1_75 (by decide) (show x.1 6 < 4294967296 from hw.2 6) (fun h75 => ?_) (fun h75 => ?_)
      · skip
        refine a_iconst (v := 0) C dM_count1_85 (by decide) ?_
        exact r_i C E dM_count1_86 (by first | decide | exact hw.2 _) ⟨rfl, by first | (rw [h6c]; first | rfl | (exact (if_pos h59).symm) | (exact (if_neg h59).symm) | (exact (if_pos h75).symm) | (exact (if_neg h75).symm)) | (unfold ctM; rw [if_neg (by omega), if_neg (by omega), if_neg (by omega), if_neg (by omega), if_neg (by omega)])⟩
      · skip
        refine a_aloadn C dM_count1_78 rfl rfl ?_
        refine g_M_161 C dM_count1_79 ?_
        refine a_goto (tgt := 86) C dM_count1_82 (by decide) ?_
        exact r_i C E dM_count1_86 (by first | decide | exact hw.2 _) ⟨rfl, by first | (rw [h6c]; first | rfl | (exact (if_pos h59).symm) | (exact (if_neg h59).symm) | (exact (if_pos h75).symm) | (exact (if_neg h75).symm)) | (unfold ctM; rw [if_neg (by omega), if_neg (by omega), if_neg (by omega), if_neg (by omega), if_neg (by omega)])⟩
  · skip
    refine a_iconst (v := 4294967295) C dM_count1_87 (by decide) ?_
    exact r_i C E dM_count1_88 (by first | decide | exact hw.2 _) ⟨rfl, by first | (rw [h6c]; first | rfl | (exact (if_pos h59).symm) | (exact (if_neg h59).symm) | (exact (if_pos h75).symm) | (exact (if_neg h75).symm)) | (unfold ctM; rw [if_neg (by omega), if_neg (by omega), if_neg (by omega), if_neg (by omega), if_neg (by omega)])⟩

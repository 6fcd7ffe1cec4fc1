set_option maxHeartbeats 4000000 in
set_option maxRecDepth 100000 in
theorem c_C_waysOfAny (lc : Launch) (D : va_G) (ad : Nat → Nat) (cI cD cZ cJ : ClassId) (x : ST) (m q : Nat) (hm : m < 4294967296) (hq : q < 105) (hw : ∀ i, x.2.1 12 i ≤ 1000000000) : CI lc D (ty4 cI cD cZ cJ) (WS ad cI cD cZ) yC_waysOfAny bC_waysOfAny 6 (some .int) 1 [.ref (ad 11), .int (nI m), .int (nI q)] x (fun rr u => x = u ∧ rr = wan m (fun r => x.2.1 12 (r * 105 + q)) 16) := by
  refine CI_of [some (.ref (ad 11)), some (.int (nI m)), some (.int (nI q)), none, none, none] (by decide) (Nat.le_of_ble_eq_true rfl) rfl ?_
  intro K C E hkl hkD hkn
  refine a_lconst (v := 0) C dC_waysOfAny_0 rfl ?_
  refine lstn_3 C dC_waysOfAny_1 (by omega) rfl ?_
  refine a_iconst (v := 0) C dC_waysOfAny_2 (by decide) ?_
  refine ist_5 C dC_waysOfAny_3 (by omega) rfl ?_
  have LP5 : ∀ (N0 : Nat) (r w : Nat), 16 - r < N0 → (r ≤ 16) → (w = wan m (fun r => x.2.1 12 (r * 105 + q)) r) → WA K (WS ad cI cD cZ x) [some (.ref (ad 11)), some (.int (nI m)), some (.int (nI q)), some (.long (lN w)), none, some (.int (nI r))] 5 [] := by
    intro N0
    induction N0 with
    | zero => intro r w hm; exact absurd hm (Nat.not_lt_zero _)
    | succ N0 ih5 =>
      intro r w hm5 hr hww
      have hwl : w ≤ 1000000000 := by rw [hww]; exact wan_le _ _ _
      have hstep : wan m (fun r => x.2.1 12 (r * 105 + q)) (r + 1) = if m.testBit r = true then min 1000000000 (wan m (fun r => x.2.1 12 (r * 105 + q)) r + x.2.1 12 (r * 105 + q)) else wan m (fun r => x.2.1 12 (r * 105 + q)) r := rfl
      have hwr := hw (r * 105 + q)
      refine a_iload C dC_waysOfAny_5 rfl ?_
      refine a_bipush (v := 16) C dC_waysOfAny_7 (by decide) ?_
      refine a_cge (tgt := 48) C dC_waysOfAny_9 (by decide) (by omega) (by omega) (fun h9 => ?_) (fun h9 => ?_)
      · skip
        refine a_lloadn C dC_waysOfAny_48 rfl rfl ?_
        refine a_l2i C dC_waysOfAny_49 ?_
        exact r_i C E dC_waysOfAny_50 (by omega) ⟨rfl, by rw [hww, show r = 16 by omega]⟩
      · skip
        refine a_iloadn C dC_waysOfAny_12 rfl rfl ?_
        refine a_iload C dC_waysOfAny_13 rfl ?_
        refine tI2 C (c_P_contains (kl K) (kD K) ad cI cD cZ cJ _ _ _ (by omega) (by omega)) (k0 := 7) rfl wSt_P_contains wIni_P wC_P_contains hd_P_contains (by decide) (by decide) (Nat.le_of_ble_eq_true rfl) dC_waysOfAny_15 ?_
        rintro n15 u15 b15 ⟨rfl, rfl⟩
        refine a_ifeq (tgt := 42) C dC_waysOfAny_18 (by decide) (by omega) (fun h18 => ?_) (fun h18 => ?_)
        · skip
          have hnew : w = wan m (fun r => x.2.1 12 (r * 105 + q)) (r + 1) := by rw [hstep, if_neg (by rw [i01_f h18]; decide), hww]
          refine inc_5 C dC_waysOfAny_42 rfl (inc_up (c := 1) (by decide)) (by omega) rfl ?_
          refine a_goto (tgt := 5) C dC_waysOfAny_45 (by decide) ?_
          exact ih5 (r + 1) _ (by omega) (by omega) hnew
        · skip
          have hnew : min 1000000000 (w + x.2.1 12 (r * 105 + q)) = wan m (fun r => x.2.1 12 (r * 105 + q)) (r + 1) := by rw [hstep, if_pos (i01_t h18), hww]
          refine a_ldc2 (n := 1000000000) C wK_C_115 dC_waysOfAny_21 (by decide) ?_
          refine a_lloadn C dC_waysOfAny_24 rfl rfl ?_
          refine a_aloadn C dC_waysOfAny_25 rfl rfl ?_
          refine g_C_9 C dC_waysOfAny_26 ?_
          refine a_iload C dC_waysOfAny_29 rfl ?_
          refine a_iloadn C dC_waysOfAny_31 rfl rfl ?_
          refine sI2 C (c_C_ruleIndex (kl K) (kD K) ad cI cD cZ cJ _ _ _ (by omega)) wM_C_137 wSt_C_ruleIndex wIni_C wC_C_ruleIndex hd_C_ruleIndex (by decide) (by decide) (Nat.le_of_ble_eq_true rfl) dC_waysOfAny_32 ?_
          rintro n32 u32 b32 ⟨rfl, rfl⟩
          refine ldS_12 C dC_waysOfAny_35 (by omega) ?_
          refine a_i2l C dC_waysOfAny_36 (by omega) ?_
          refine a_ladd C dC_waysOfAny_37 ?_
          refine a_mmin C dC_waysOfAny_38 (by decide) (by omega) (by omega) (Nat.le_of_ble_eq_true rfl) ?_
          refine lstn_3 C dC_waysOfAny_41 (by omega) rfl ?_
          refine inc_5 C dC_waysOfAny_42 rfl (inc_up (c := 1) (by decide)) (by omega) rfl ?_
          refine a_goto (tgt := 5) C dC_waysOfAny_45 (by decide) ?_
          exact ih5 (r + 1) _ (by omega) (by omega) hnew
  exact LP5 _ 0 0 (Nat.lt_succ_self _) (Nat.zero_le _) rfl
set_option maxHeartbeats 4000000 in
set_option maxRecDepth 100000 in
theorem c_C_heaviestOf (lc : Launch) (D : va_G) (ad : Nat → Nat) (cI cD cZ cJ : ClassId) (x : ST) (m q : Nat) (hm : m < 4294967296) (hq : q < 105) : CI lc D (ty4 cI cD cZ cJ) (WS ad cI cD cZ) yC_heaviestOf bC_heaviestOf 7 (some .int) 1 [.ref (ad 11), .int (nI m), .int (nI q)] x (fun rr u => x = u ∧ rr = (hof m (fun r => x.2.2.1 13 (r * 105 + q)) 16).1) := by
  refine CI_of [some (.ref (ad 11)), some (.int (nI m)), some (.int (nI q)), none, none, none, none] (by decide) (Nat.le_of_ble_eq_true rfl) rfl ?_
  intro K C E hkl hkD hkn
  refine a_iconst (v := 4294967295) C dC_heaviestOf_0 (by decide) ?_
  refine istn_3 C dC_heaviestOf_1 (by omega) rfl ?_
  refine a_dconst0 C dC_heaviestOf_2 ?_
  refine dst_4 C dC_heaviestOf_3 (by omega) rfl ?_
  refine a_iconst (v := 0) C dC_heaviestOf_5 (by decide) ?_
  refine ist_6 C dC_heaviestOf_6 (by omega) rfl ?_
  have LP8 : ∀ (N0 : Nat) (r b : Nat) (w : UInt64), 16 - r < N0 → (r ≤ 16) → ((b, w) = hof m (fun r => x.2.2.1 13 (r * 105 + q)) r) → WA K (WS ad cI cD cZ x) [some (.ref (ad 11)), some (.int (nI m)), some (.int (nI q)), some (.int (nI b)), some (.double w), none, some (.int (nI r))] 8 [] := by
    intro N0
    induction N0 with
    | zero => intro r b w hm; exact absurd hm (Nat.not_lt_zero _)
    | succ N0 ih8 =>
      intro r b w hm8 hr hb
      have hbl : b < 4294967296 := by have h0 := hof_lt m (fun r => x.2.2.1 13 (r * 105 + q)) r hr; rw [← hb] at h0; exact h0
      have hstep : hof m (fun r => x.2.2.1 13 (r * 105 + q)) (r + 1) = if m.testBit r = true ∧ dgt (x.2.2.1 13 (r * 105 + q)) (hof m (fun r => x.2.2.1 13 (r * 105 + q)) r).2 = true then (r, x.2.2.1 13 (r * 105 + q)) else hof m (fun r => x.2.2.1 13 (r * 105 + q)) r := rfl
      rw [← hb] at hstep
      refine a_iload C dC_heaviestOf_8 rfl ?_
      refine a_bipush (v := 16) C dC_heaviestOf_10 (by decide) ?_
      refine a_cge (tgt := 63) C dC_heaviestOf_12 (by decide) (by omega) (by omega) (fun h12 => ?_) (fun h12 => ?_)
      · skip
        refine a_iloadn C dC_heaviestOf_63 rfl rfl ?_
        exact r_i C E dC_heaviestOf_64 (by omega) ⟨rfl, by rw [← show r = 16 by omega, ← hb]⟩
      · skip
        refine a_iloadn C dC_heaviestOf_15 rfl rfl ?_
        refine a_iload C dC_heaviestOf_16 rfl ?_
        refine tI2 C (c_P_contains (kl K) (kD K) ad cI cD cZ cJ _ _ _ (by omega) (by omega)) (k0 := 7) rfl wSt_P_contains wIni_P wC_P_contains hd_P_contains (by decide) (by decide) (Nat.le_of_ble_eq_true rfl) dC_heaviestOf_18 ?_
        rintro n18 u18 b18 ⟨rfl, rfl⟩
        refine a_ifeq (tgt := 57) C dC_heaviestOf_21 (by decide) (by omega) (fun h21 => ?_) (fun h21 => ?_)
        · skip
          have hnew : (b, w) = hof m (fun r => x.2.2.1 13 (r * 105 + q)) (r + 1) := by rw [hstep, if_neg (fun z => by rw [i01_f h21] at z; cases z.1)]
          refine inc_6 C dC_heaviestOf_57 rfl (inc_up (c := 1) (by decide)) (by omega) rfl ?_
          refine a_goto (tgt := 8) C dC_heaviestOf_60 (by decide) ?_
          exact ih8 (r + 1) _ _ (by omega) (by omega) hnew
        · skip
          refine a_aloadn C dC_heaviestOf_24 rfl rfl ?_
          refine g_C_15 C dC_heaviestOf_25 ?_
          refine a_iload C dC_heaviestOf_28 rfl ?_
          refine a_iloadn C dC_heaviestOf_30 rfl rfl ?_
          refine sI2 C (c_C_ruleIndex (kl K) (kD K) ad cI cD cZ cJ _ _ _ (by omega)) wM_C_137 wSt_C_ruleIndex wIni_C wC_C_ruleIndex hd_C_ruleIndex (by decide) (by decide) (Nat.le_of_ble_eq_true rfl) dC_heaviestOf_31 ?_
          rintro n31 u31 b31 ⟨rfl, rfl⟩
          refine ldS_13 C dC_heaviestOf_34 (by omega) ?_
          refine a_dload C dC_heaviestOf_35 rfl ?_
          refine a_dcmp C dC_heaviestOf_37 (fun h37 => ?_) (fun h37 => ?_) (fun h37 => ?_) (fun h37 => ?_)
          · skip
            refine a_ifle (tgt := 57) C dC_heaviestOf_38 (by decide) (by decide) (fun _ => ?_) (fun q q2 => absurd (And.intro q q2) (by decide))
            have hnew : (b, w) = hof m (fun r => x.2.2.1 13 (r * 105 + q)) (r + 1) := by rw [hstep, if_neg (fun z => by rw [dgt_lt h37] at z; cases z.2)]
            refine inc_6 C dC_heaviestOf_57 rfl (inc_up (c := 1) (by decide)) (by omega) rfl ?_
            refine a_goto (tgt := 8) C dC_heaviestOf_60 (by decide) ?_
            exact ih8 (r + 1) _ _ (by omega) (by omega) hnew
          · skip
            refine a_ifle (tgt := 57) C dC_heaviestOf_38 (by decide) (by decide) (fun _ => ?_) (fun q q2 => absurd (And.intro q q2) (by decide))
            have hnew : (b, w) = hof m (fun r => x.2.2.1 13 (r * 105 + q)) (r + 1) := by rw [hstep, if_neg (fun z => by rw [dgt_eq h37] at z; cases z.2)]
            refine inc_6 C dC_heaviestOf_57 rfl (inc_up (c := 1) (by decide)) (by omega) rfl ?_
            refine a_goto (tgt := 8) C dC_heaviestOf_60 (by decide) ?_
            exact ih8 (r + 1) _ _ (by omega) (by omega) hnew
          · skip
            refine a_ifle (tgt := 57) C dC_heaviestOf_38 (by decide) (by decide) (fun q => absurd q (by decide)) (fun _ _ => ?_)
            have hnew : (r, x.2.2.1 13 (r * 105 + q)) = hof m (fun r => x.2.2.1 13 (r * 105 + q)) (r + 1) := by rw [hstep, if_pos ⟨i01_t h21, dgt_of h37⟩]
            refine a_iload C dC_heaviestOf_41 rfl ?_
            refine istn_3 C dC_heaviestOf_43 (by omega) rfl ?_
            refine a_aloadn C dC_heaviestOf_44 rfl rfl ?_
            refine g_C_15 C dC_heaviestOf_45 ?_
            refine a_iload C dC_heaviestOf_48 rfl ?_
            refine a_iloadn C dC_heaviestOf_50 rfl rfl ?_
            refine sI2 C (c_C_ruleIndex (kl K) (kD K) ad cI cD cZ cJ _ _ _ (by omega)) wM_C_137 wSt_C_ruleIndex wIni_C wC_C_ruleIndex hd_C_ruleIndex (by decide) (by decide) (Nat.le_of_ble_eq_true rfl) dC_heaviestOf_51 ?_
            rintro n51 u51 b51 ⟨rfl, rfl⟩
            refine ldS_13 C dC_heaviestOf_54 (by omega) ?_
            refine dst_4 C dC_heaviestOf_55 (by omega) rfl ?_
            refine inc_6 C dC_heaviestOf_57 rfl (inc_up (c := 1) (by decide)) (by omega) rfl ?_
            refine a_goto (tgt := 8) C dC_heaviestOf_60 (by decide) ?_
            exact ih8 (r + 1) _ _ (by omega) (by omega) hnew
          · skip
            have hnan : nanv .l = 4294967295 := rfl
            rw [hnan]
            refine a_ifle (tgt := 57) C dC_heaviestOf_38 (by decide) (by decide) (fun _ => ?_) (fun q q2 => absurd (And.intro q q2) (by decide))
            have hnew : (b, w) = hof m (fun r => x.2.2.1 13 (r * 105 + q)) (r + 1) := by rw [hstep, if_neg (fun z => by rw [dgt_nan h37] at z; cases z.2)]
            refine inc_6 C dC_heaviestOf_57 rfl (inc_up (c := 1) (by decide)) (by omega) rfl ?_
            refine a_goto (tgt := 8) C dC_heaviestOf_60 (by decide) ?_
            exact ih8 (r + 1) _ _ (by omega) (by omega) hnew
  exact LP8 _ 0 4294967295 0 (Nat.lt_succ_self _) (Nat.zero_le _) rfl
set_option maxHeartbeats 4000000 in
set_option maxRecDepth 100000 in
theorem c_C_firstDivision (lc : Launch) (D : va_G) (ad : Nat → Nat) (cI cD cZ cJ : ClassId) (x : ST) (n i j : Nat) (hn : 1 ≤ n) (hn4 : n ≤ 4) (hij : i < j) (hj : j ≤ 14) : CI lc D (ty4 cI cD cZ cJ) (WS ad cI cD cZ) yC_firstDivision bC_firstDivision 5 (some .boolean) 0 [.ref (ad 11), .int (nI n), .int (nI i), .int (nI j)] x (fun rr u => Only [18] x u ∧ (∀ k, k < n → u.2.1 18 k = if k + 1 = n then j else i + k + 1) ∧ (WF x → WF u) ∧ rr = if i + n ≤ j then 1 else 0) := by
  refine CI_of [some (.ref (ad 11)), some (.int (nI n)), some (.int (nI i)), some (.int (nI j)), none] (by decide) (Nat.le_of_ble_eq_true rfl) rfl ?_
  intro K C E hkl hkD hkn
  refine a_iconst (v := 0) C dC_firstDivision_0 (by decide) ?_
  refine ist_4 C dC_firstDivision_1 (by omega) rfl ?_
  have LP3 : ∀ (N0 : Nat) (t : Nat) (y : ST), 4 - t < N0 → (t ≤ n - 1) → (Only [18] x y) → ((∀ k, k < t → y.2.1 18 k = i + k + 1)) → (WF x → WF y) → WA K (WS ad cI cD cZ y) [some (.ref (ad 11)), some (.int (nI n)), some (.int (nI i)), some (.int (nI j)), some (.int (nI t))] 3 [] := by
    intro N0
    induction N0 with
    | zero => intro t y hm; exact absurd hm (Nat.not_lt_zero _)
    | succ N0 ih3 =>
      intro t y hm3 ht ho he hwf
      refine a_iload C dC_firstDivision_3 rfl ?_
      refine a_iloadn C dC_firstDivision_5 rfl rfl ?_
      refine a_iconst (v := 1) C dC_firstDivision_6 (by decide) ?_
      refine a_isub C dC_firstDivision_7 (by omega) ?_
      refine a_cge (tgt := 30) C dC_firstDivision_8 (by decide) (by omega) (by omega) (fun h8 => ?_) (fun h8 => ?_)
      · skip
        refine a_aloadn C dC_firstDivision_30 rfl rfl ?_
        refine g_C_31 C dC_firstDivision_31 ?_
        refine a_iloadn C dC_firstDivision_34 rfl rfl ?_
        refine a_iconst (v := 1) C dC_firstDivision_35 (by decide) ?_
        refine a_isub C dC_firstDivision_36 (by omega) ?_
        refine a_iloadn C dC_firstDivision_37 rfl rfl ?_
        refine stS_18 C dC_firstDivision_38 (by omega) ?_
        refine a_iloadn C dC_firstDivision_39 rfl rfl ?_
        refine a_iloadn C dC_firstDivision_40 rfl rfl ?_
        refine a_isub C dC_firstDivision_41 (by omega) ?_
        refine a_iloadn C dC_firstDivision_42 rfl rfl ?_
        refine a_clt (tgt := 50) C dC_firstDivision_43 (by decide) (by omega) (by omega) (fun h43 => ?_) (fun h43 => ?_)
        · skip
          refine a_iconst (v := 0) C dC_firstDivision_50 (by decide) ?_
          exact r_z C E dC_firstDivision_51 (by omega) ⟨ho.set (by decide) _ _, fd_end h8 he, fun h => (hwf h).sA _ _ (by omega), by first | rw [if_pos (by omega)] | rw [if_neg (by omega)]⟩
        · skip
          refine a_iconst (v := 1) C dC_firstDivision_46 (by decide) ?_
          refine a_goto (tgt := 51) C dC_firstDivision_47 (by decide) ?_
          exact r_z C E dC_firstDivision_51 (by omega) ⟨ho.set (by decide) _ _, fd_end h8 he, fun h => (hwf h).sA _ _ (by omega), by first | rw [if_pos (by omega)] | rw [if_neg (by omega)]⟩
      · skip
        refine a_aloadn C dC_firstDivision_11 rfl rfl ?_
        refine g_C_31 C dC_firstDivision_12 ?_
        refine a_iload C dC_firstDivision_15 rfl ?_
        refine a_iloadn C dC_firstDivision_17 rfl rfl ?_
        refine a_iload C dC_firstDivision_18 rfl ?_
        refine a_iadd C dC_firstDivision_20 ?_
        refine a_iconst (v := 1) C dC_firstDivision_21 (by decide) ?_
        refine a_iadd C dC_firstDivision_22 ?_
        refine stS_18 C dC_firstDivision_23 (by omega) ?_
        refine inc_4 C dC_firstDivision_24 rfl (inc_up (c := 1) (by decide)) (by omega) rfl ?_
        refine a_goto (tgt := 3) C dC_firstDivision_27 (by decide) ?_
        exact ih3 (t + 1) _ (by omega) (by omega) (ho.set (by decide) _ _) (lt_s (fun k hk => by rw [sA_at _ _ _ (by omega)]; exact he k hk) (sA_same _ _ _ _)) (fun h => (hwf h).sA _ _ (by omega))
  exact LP3 _ 0 x (Nat.lt_succ_self _) (Nat.zero_le _) (Only.rf _ _) (fun k hk => absurd hk (Nat.not_lt_zero _)) id
set_option maxHeartbeats 4000000 in
set_option maxRecDepth 100000 in
theorem c_C_packedEnds (lc : Launch) (D : va_G) (ad : Nat → Nat) (cI cD cZ cJ : ClassId) (x : ST) (n : Nat) (e : Nat → Nat) (hn4 : n ≤ 4) (he : ∀ k, k < n → x.2.1 18 k = e k) (hb : ∀ k, k < n → e k < 16) : CI lc D (ty4 cI cD cZ cJ) (WS ad cI cD cZ) yC_packedEnds bC_packedEnds 4 (some .int) 0 [.ref (ad 11), .int (nI n)] x (fun rr u => x = u ∧ rr = pkN e n) := by
  refine CI_of [some (.ref (ad 11)), some (.int (nI n)), none, none] (by decide) (Nat.le_of_ble_eq_true rfl) rfl ?_
  intro K C E hkl hkD hkn
  refine a_iconst (v := 0) C dC_packedEnds_0 (by decide) ?_
  refine istn_2 C dC_packedEnds_1 (by omega) rfl ?_
  refine a_iconst (v := 0) C dC_packedEnds_2 (by decide) ?_
  refine istn_3 C dC_packedEnds_3 (by omega) rfl ?_
  have LP4 : ∀ (N0 : Nat) (k p : Nat), 4 - k < N0 → (k ≤ n) → (p = pkN e k) → (p < 2 ^ (4 * k)) → WA K (WS ad cI cD cZ x) [some (.ref (ad 11)), some (.int (nI n)), some (.int (nI p)), some (.int (nI k))] 4 [] := by
    intro N0
    induction N0 with
    | zero => intro k p hm; exact absurd hm (Nat.not_lt_zero _)
    | succ N0 ih4 =>
      intro k p hm4 hk hp hl
      refine a_iloadn C dC_packedEnds_4 rfl rfl ?_
      refine a_iloadn C dC_packedEnds_5 rfl rfl ?_
      refine a_cge (tgt := 28) C dC_packedEnds_6 (by decide) (by omega) (by omega) (fun h6 => ?_) (fun h6 => ?_)
      · skip
        refine a_iloadn C dC_packedEnds_28 rfl rfl ?_
        exact r_i C E dC_packedEnds_29 (by have : 2 ^ (4 * k) ≤ 2 ^ 16 := Nat.pow_le_pow_right (by decide) (by omega); omega) ⟨rfl, by rw [hp, show k = n by omega]⟩
      · skip
        refine a_iloadn C dC_packedEnds_9 rfl rfl ?_
        refine a_aloadn C dC_packedEnds_10 rfl rfl ?_
        refine g_C_31 C dC_packedEnds_11 ?_
        refine a_iloadn C dC_packedEnds_14 rfl rfl ?_
        refine ldS_18 C dC_packedEnds_15 (by omega) ?_
        rw [he k h6]
        refine a_iconst (v := 4) C dC_packedEnds_16 (by decide) ?_
        refine a_iloadn C dC_packedEnds_17 rfl rfl ?_
        refine a_imul C dC_packedEnds_18 ?_
        refine a_ishl C dC_packedEnds_19 (by omega) ?_
        refine a_ior C dC_packedEnds_20 ?_
        refine istn_2 C dC_packedEnds_21 (by omega) rfl ?_
        have hek := hb k h6
        have hnl := pk_bound (k := k) hl hek
        refine inc_3 C dC_packedEnds_22 rfl (inc_up (c := 1) (by decide)) (by omega) rfl ?_
        refine a_goto (tgt := 4) C dC_packedEnds_25 (by decide) ?_
        exact ih4 (k + 1) _ (by omega) (by omega) (by rw [hp]; rfl) hnl
  exact LP4 _ 0 0 (Nat.lt_succ_self _) (Nat.zero_le _) rfl (by decide)
set_option maxHeartbeats 4000000 in
set_option maxRecDepth 100000 in
theorem c_C_symbolEnd (lc : Launch) (D : va_G) (ad : Nat → Nat) (cI cD cZ cJ : ClassId) (x : ST) (r k q : Nat) (hr : r < 16) (hk : k < 4) (hq : q < 105) (hb : x.2.1 14 (r * 105 + q) < 2147483648) : CI lc D (ty4 cI cD cZ cJ) (WS ad cI cD cZ) yC_symbolEnd bC_symbolEnd 4 (some .int) 1 [.ref (ad 11), .int (nI r), .int (nI k), .int (nI q)] x (fun rr u => x = u ∧ rr = (x.2.1 14 (r * 105 + q) / 2 ^ (4 * k)) &&& 15) := by
  refine CI_of [some (.ref (ad 11)), some (.int (nI r)), some (.int (nI k)), some (.int (nI q))] (by decide) (Nat.le_of_ble_eq_true rfl) rfl ?_
  intro K C E hkl hkD hkn
  refine a_aloadn C dC_symbolEnd_0 rfl rfl ?_
  refine g_C_19 C dC_symbolEnd_1 ?_
  refine a_iloadn C dC_symbolEnd_4 rfl rfl ?_
  refine a_iloadn C dC_symbolEnd_5 rfl rfl ?_
  refine sI2 C (c_C_ruleIndex (kl K) (kD K) ad cI cD cZ cJ _ _ _ (by omega)) wM_C_137 wSt_C_ruleIndex wIni_C wC_C_ruleIndex hd_C_ruleIndex (by decide) (by decide) (Nat.le_of_ble_eq_true rfl) dC_symbolEnd_6 ?_
  rintro n6 u6 b6 ⟨rfl, rfl⟩
  refine ldS_14 C dC_symbolEnd_9 (by omega) ?_
  refine a_iconst (v := 4) C dC_symbolEnd_10 (by decide) ?_
  refine a_iloadn C dC_symbolEnd_11 rfl rfl ?_
  refine a_imul C dC_symbolEnd_12 ?_
  refine a_ishr C dC_symbolEnd_13 (by omega) (by omega) ?_
  refine a_bipush (v := 15) C dC_symbolEnd_14 (by decide) ?_
  refine a_iand C dC_symbolEnd_16 ?_
  exact r_i C E dC_symbolEnd_17 (Nat.lt_of_le_of_lt Nat.and_le_right (by decide)) ⟨rfl, rfl⟩
set_option maxHeartbeats 4000000 in
set_option maxRecDepth 100000 in
theorem c_C_divisionWays (lc : Launch) (D : va_G) (ad : Nat → Nat) (cI cD cZ cJ : ClassId) (x : ST) (r n i : Nat) (l : List Nat) (hr : r < 16) (hn4 : n ≤ 4) (he : ∀ k, k < n → x.2.1 18 k = lgd l k) (hb : ∀ k, k < n → bg i l k < lgd l k ∧ lgd l k ≤ 14) (hu : ∀ i, x.2.1 15 i ≤ 1000000000) : CL lc D (ty4 cI cD cZ cJ) (WS ad cI cD cZ) yC_divisionWays bC_divisionWays 8 (some .long) 1 [.ref (ad 11), .int (nI r), .int (nI n), .int (nI i)] x (fun rr u => x = u ∧ rr = pw (symP x r) i l n) := by
  refine CL_of [some (.ref (ad 11)), some (.int (nI r)), some (.int (nI n)), some (.int (nI i)), none, none, none, none] (by decide) (Nat.le_of_ble_eq_true rfl) rfl ?_
  intro K C E hkl hkD hkn
  refine a_lconst (v := 1) C dC_divisionWays_0 rfl ?_
  refine lst_4 C dC_divisionWays_1 (by omega) rfl ?_
  refine a_iloadn C dC_divisionWays_3 rfl rfl ?_
  refine ist_6 C dC_divisionWays_4 (by omega) rfl ?_
  refine a_iconst (v := 0) C dC_divisionWays_6 (by decide) ?_
  refine ist_7 C dC_divisionWays_7 (by omega) rfl ?_
  have LP9 : ∀ (N0 : Nat) (k w : Nat), 4 - k < N0 → (k ≤ n) → (w = pw (symP x r) i l k) → WA K (WS ad cI cD cZ x) [some (.ref (ad 11)), some (.int (nI r)), some (.int (nI n)), some (.int (nI i)), some (.long (lN w)), none, some (.int (nI (bg i l k))), some (.int (nI k))] 9 [] := by
    intro N0
    induction N0 with
    | zero => intro k w hm; exact absurd hm (Nat.not_lt_zero _)
    | succ N0 ih9 =>
      intro k w hm9 hk hw
      have hwl : w ≤ 1000000000 := by rw [hw]; exact pw_le _ _ _ _
      refine a_iload C dC_divisionWays_9 rfl ?_
      refine a_iloadn C dC_divisionWays_11 rfl rfl ?_
      refine a_cge (tgt := 72) C dC_divisionWays_12 (by decide) (by omega) (by omega) (fun h12 => ?_) (fun h12 => ?_)
      · skip
        refine a_lload C dC_divisionWays_72 rfl ?_
        exact r_l C E dC_divisionWays_74 (by omega) ⟨rfl, by first | (rw [hw, show k = n by omega]; done) | (have hz := pw_stop (sym := symP x r) (i := i) (l := l) (k := k) (by rw [← hw]; exact h18) (n - k); rw [show k + (n - k) = n by omega] at hz; rw [hz]; exact h18)⟩
      · skip
        refine a_lload C dC_divisionWays_15 rfl ?_
        refine a_lconst (v := 0) C dC_divisionWays_17 rfl ?_
        refine a_lcmp C dC_divisionWays_18 (by omega) (by omega) (fun h18 => ?_) (fun h18 => ?_) (fun h18 => ?_)
        · skip
          exact absurd h18 (by omega)
        · skip
          refine a_ifle (tgt := 72) C dC_divisionWays_19 (by decide) (by decide) (fun _ => ?_) (fun q q2 => absurd (And.intro q q2) (by decide))
          refine a_lload C dC_divisionWays_72 rfl ?_
          exact r_l C E dC_divisionWays_74 (by omega) ⟨rfl, by first | (rw [hw, show k = n by omega]; done) | (have hz := pw_stop (sym := symP x r) (i := i) (l := l) (k := k) (by rw [← hw]; exact h18) (n - k); rw [show k + (n - k) = n by omega] at hz; rw [hz]; exact h18)⟩
        · skip
          refine a_ifle (tgt := 72) C dC_divisionWays_19 (by decide) (by decide) (fun q => absurd q (by decide)) (fun _ _ => ?_)
          have hbk := hb k h12
          refine a_ldc2 (n := 1000000000) C wK_C_115 dC_divisionWays_22 (by decide) ?_
          refine a_lload C dC_divisionWays_25 rfl ?_
          refine a_aloadn C dC_divisionWays_27 rfl rfl ?_
          refine g_C_22 C dC_divisionWays_28 ?_
          refine a_iloadn C dC_divisionWays_31 rfl rfl ?_
          refine a_iload C dC_divisionWays_32 rfl ?_
          refine a_iload C dC_divisionWays_34 rfl ?_
          refine a_aloadn C dC_divisionWays_36 rfl rfl ?_
          refine g_C_31 C dC_divisionWays_37 ?_
          refine a_iload C dC_divisionWays_40 rfl ?_
          refine ldS_18 C dC_divisionWays_42 (by omega) ?_
          rw [he k h12]
          refine tI2 C (c_P_spanNumber (kl K) (kD K) ad cI cD cZ cJ _ _ _ (by omega) (by omega) (by omega)) (k0 := 6) rfl wSt_P_spanNumber wIni_P wC_P_spanNumber hd_P_spanNumber (by decide) (by decide) (Nat.le_of_ble_eq_true rfl) dC_divisionWays_43 ?_
          rintro n43 u43 b43 ⟨rfl, rfl⟩
          have hsp := spn_lt hbk.1 hbk.2
          unfold spn at hsp
          refine sI3 C (c_C_useIndex (kl K) (kD K) ad cI cD cZ cJ _ _ _ _ (by omega)) wM_C_95 wSt_C_useIndex wIni_C wC_C_useIndex hd_C_useIndex (by decide) (by decide) (Nat.le_of_ble_eq_true rfl) dC_divisionWays_46 ?_
          rintro n46 u46 b46 ⟨rfl, rfl⟩
          refine ldS_15 C dC_divisionWays_49 (by omega) ?_
          have hus := hu ((r * 4 + k) * 105 + (lgd l k * (lgd l k - 1) / 2 + bg i l k))
          have hmul : w * x.2.1 15 ((r * 4 + k) * 105 + (lgd l k * (lgd l k - 1) / 2 + bg i l k)) ≤ 1000000000 * 1000000000 := Nat.mul_le_mul hwl hus
          have hnew : min 1000000000 (w * x.2.1 15 ((r * 4 + k) * 105 + (lgd l k * (lgd l k - 1) / 2 + bg i l k))) = pw (symP x r) i l (k + 1) := by simp only [pw, symP, spn, MX]; rw [hw]
          refine a_i2l C dC_divisionWays_50 (by omega) ?_
          refine a_lmul C dC_divisionWays_51 ?_
          refine a_mmin C dC_divisionWays_52 (by decide) (by omega) (by omega) (Nat.le_of_ble_eq_true rfl) ?_
          refine lst_4 C dC_divisionWays_55 (by omega) rfl ?_
          refine a_aloadn C dC_divisionWays_57 rfl rfl ?_
          refine g_C_31 C dC_divisionWays_58 ?_
          refine a_iload C dC_divisionWays_61 rfl ?_
          refine ldS_18 C dC_divisionWays_63 (by omega) ?_
          rw [he k h12]
          rw [← bg_succ i l k]
          refine ist_6 C dC_divisionWays_64 (by omega) rfl ?_
          refine inc_7 C dC_divisionWays_66 rfl (inc_up (c := 1) (by decide)) (by omega) rfl ?_
          refine a_goto (tgt := 9) C dC_divisionWays_69 (by decide) ?_
          exact ih9 (k + 1) _ (by omega) (by omega) hnew
  exact LP9 _ 0 1 (Nat.lt_succ_self _) (Nat.zero_le _) rfl
set_option maxHeartbeats 4000000 in
set_option maxRecDepth 100000 in
theorem c_C_divisionWeight (lc : Launch) (D : va_G) (ad : Nat → Nat) (cI cD cZ cJ : ClassId) (x : ST) (w : UInt64) (r n i : Nat) (l : List Nat) (hr : r < 16) (hn4 : n ≤ 4) (he : ∀ k, k < n → x.2.1 18 k = lgd l k) (hb : ∀ k, k < n → bg i l k < lgd l k ∧ lgd l k ≤ 14) (hu : ∀ k, k < n → x.2.1 16 ((r * 4 + k) * 105 + spn (bg i l k) (lgd l k)) = 4294967295 ∨ x.2.1 16 ((r * 4 + k) * 105 + spn (bg i l k) (lgd l k)) < 16) (hnn : ∀ k, k < n → ∀ y, wtP x r k (bg i l k) (lgd l k) = some y → vf_n64 (FP.dmul (fw w (wtP x r) i l k) y)) : CD lc D (ty4 cI cD cZ cJ) (WS ad cI cD cZ) yC_divisionWeight bC_divisionWeight 12 (some .double) 1 [.ref (ad 11), .double w, .int (nI r), .int (nI n), .int (nI i)] x (fun rr u => x = u ∧ rr = fw w (wtP x r) i l n) := by
  refine CD_of [some (.ref (ad 11)), some (.double w), none, some (.int (nI r)), some (.int (nI n)), some (.int (nI i)), none, none, none, none, none, none] (by decide) (Nat.le_of_ble_eq_true rfl) rfl ?_
  intro K C E hkl hkD hkn
  refine a_dloadn C dC_divisionWeight_0 rfl rfl ?_
  refine dst_6 C dC_divisionWeight_1 (by omega) rfl ?_
  refine a_iload C dC_divisionWeight_3 rfl ?_
  refine ist_8 C dC_divisionWeight_5 (by omega) rfl ?_
  refine a_iconst (v := 0) C dC_divisionWeight_7 (by decide) ?_
  refine ist_9 C dC_divisionWeight_8 (by omega) rfl ?_
  have LP10 : ∀ (N0 : Nat) (k : Nat) (v : UInt64) (oa ob : Option Value), 4 - k < N0 → (k ≤ n) → (v = fw w (wtP x r) i l k) → WA K (WS ad cI cD cZ x) [some (.ref (ad 11)), some (.double w), none, some (.int (nI r)), some (.int (nI n)), some (.int (nI i)), some (.double v), none, some (.int (nI (bg i l k))), some (.int (nI k)), oa, ob] 10 [] := by
    intro N0
    induction N0 with
    | zero => intro k v oa ob hm; exact absurd hm (Nat.not_lt_zero _)
    | succ N0 ih10 =>
      intro k v oa ob hm10 hk hv
      refine a_iload C dC_divisionWeight_10 rfl ?_
      refine a_iload C dC_divisionWeight_12 rfl ?_
      refine a_cge (tgt := 84) C dC_divisionWeight_14 (by decide) (by omega) (by omega) (fun h14 => ?_) (fun h14 => ?_)
      · skip
        refine a_dload C dC_divisionWeight_84 rfl ?_
        exact r_d C E dC_divisionWeight_86 ⟨rfl, by rw [hv, show k = n by omega]⟩
      · skip
        have hbk := hb k h14
        have hsp := spn_lt hbk.1 hbk.2
        have huk := hu k h14
        have hfs : fw w (wtP x r) i l (k + 1) = match wtP x r k (bg i l k) (lgd l k) with | none => fw w (wtP x r) i l k | some y => FP.dmul (fw w (wtP x r) i l k) y := rfl
        have hwt : wtP x r k (bg i l k) (lgd l k) = if x.2.1 16 ((r * 4 + k) * 105 + spn (bg i l k) (lgd l k)) = 4294967295 then none else some (x.2.2.1 13 (x.2.1 16 ((r * 4 + k) * 105 + spn (bg i l k) (lgd l k)) * 105 + spn (bg i l k) (lgd l k))) := rfl
        refine a_iload C dC_divisionWeight_17 rfl ?_
        refine a_aloadn C dC_divisionWeight_19 rfl rfl ?_
        refine g_C_31 C dC_divisionWeight_20 ?_
        refine a_iload C dC_divisionWeight_23 rfl ?_
        refine ldS_18 C dC_divisionWeight_25 (by omega) ?_
        rw [he k h14]
        refine tI2 C (c_P_spanNumber (kl K) (kD K) ad cI cD cZ cJ _ _ _ (by omega) (by omega) (by omega)) (k0 := 6) rfl wSt_P_spanNumber wIni_P wC_P_spanNumber hd_P_spanNumber (by decide) (by decide) (Nat.le_of_ble_eq_true rfl) dC_divisionWeight_26 ?_
        rintro n26 u26 b26 ⟨rfl, rfl⟩
        have hsd : lgd l k * (lgd l k - 1) / 2 + bg i l k = spn (bg i l k) (lgd l k) := rfl
        rw [hsd]
        refine ist_10 C dC_divisionWeight_29 (by omega) rfl ?_
        refine a_aloadn C dC_divisionWeight_31 rfl rfl ?_
        refine g_C_25 C dC_divisionWeight_32 ?_
        refine a_iloadn C dC_divisionWeight_35 rfl rfl ?_
        refine a_iload C dC_divisionWeight_36 rfl ?_
        refine a_iload C dC_divisionWeight_38 rfl ?_
        refine sI3 C (c_C_useIndex (kl K) (kD K) ad cI cD cZ cJ _ _ _ _ (by omega)) wM_C_95 wSt_C_useIndex wIni_C wC_C_useIndex hd_C_useIndex (by decide) (by decide) (Nat.le_of_ble_eq_true rfl) dC_divisionWeight_40 ?_
        rintro n40 u40 b40 ⟨rfl, rfl⟩
        refine ldS_16 C dC_divisionWeight_43 (by omega) ?_
        refine ist_11 C dC_divisionWeight_44 (by omega) rfl ?_
        refine a_iload C dC_divisionWeight_46 rfl ?_
        refine a_iconst (v := 4294967295) C dC_divisionWeight_48 (by decide) ?_
        refine a_ceq (tgt := 69) C dC_divisionWeight_49 (by decide) (by omega) (by decide) (fun h49 => ?_) (fun h49 => ?_)
        · skip
          have hnew : v = fw w (wtP x r) i l (k + 1) := by rw [hfs, hwt, if_pos h49, hv]
          refine a_aloadn C dC_divisionWeight_69 rfl rfl ?_
          refine g_C_31 C dC_divisionWeight_70 ?_
          refine a_iload C dC_divisionWeight_73 rfl ?_
          refine ldS_18 C dC_divisionWeight_75 (by omega) ?_
          rw [he k h14]
          rw [← bg_succ i l k]
          refine ist_8 C dC_divisionWeight_76 (by omega) rfl ?_
          refine inc_9 C dC_divisionWeight_78 rfl (inc_up (c := 1) (by decide)) (by omega) rfl ?_
          refine a_goto (tgt := 10) C dC_divisionWeight_81 (by decide) ?_
          exact ih10 (k + 1) _ _ _ (by omega) (by omega) hnew
        · skip
          have hnew : FP.dmul v (x.2.2.1 13 (x.2.1 16 ((r * 4 + k) * 105 + spn (bg i l k) (lgd l k)) * 105 + spn (bg i l k) (lgd l k))) = fw w (wtP x r) i l (k + 1) := by rw [hfs, hwt, if_neg h49, hv]
          have hnan := hnn k h14 _ (by rw [hwt, if_neg h49])
          rw [← hv] at hnan
          refine a_dload C dC_divisionWeight_52 rfl ?_
          refine a_aloadn C dC_divisionWeight_54 rfl rfl ?_
          refine g_C_15 C dC_divisionWeight_55 ?_
          refine a_iload C dC_divisionWeight_58 rfl ?_
          refine a_iload C dC_divisionWeight_60 rfl ?_
          refine sI2 C (c_C_ruleIndex (kl K) (kD K) ad cI cD cZ cJ _ _ _ (by omega)) wM_C_137 wSt_C_ruleIndex wIni_C wC_C_ruleIndex hd_C_ruleIndex (by decide) (by decide) (Nat.le_of_ble_eq_true rfl) dC_divisionWeight_62 ?_
          rintro n62 u62 b62 ⟨rfl, rfl⟩
          refine ldS_13 C dC_divisionWeight_65 (by omega) ?_
          refine a_dmul C dC_divisionWeight_66 hnan ?_
          refine dst_6 C dC_divisionWeight_67 (by omega) rfl ?_
          refine a_aloadn C dC_divisionWeight_69 rfl rfl ?_
          refine g_C_31 C dC_divisionWeight_70 ?_
          refine a_iload C dC_divisionWeight_73 rfl ?_
          refine ldS_18 C dC_divisionWeight_75 (by omega) ?_
          rw [he k h14]
          rw [← bg_succ i l k]
          refine ist_8 C dC_divisionWeight_76 (by omega) rfl ?_
          refine inc_9 C dC_divisionWeight_78 rfl (inc_up (c := 1) (by decide)) (by omega) rfl ?_
          refine a_goto (tgt := 10) C dC_divisionWeight_81 (by decide) ?_
          exact ih10 (k + 1) _ _ _ (by omega) (by omega) hnew
  exact LP10 _ 0 w none none (Nat.lt_succ_self _) (Nat.zero_le _) rfl

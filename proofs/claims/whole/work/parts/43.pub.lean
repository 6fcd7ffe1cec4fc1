set_option maxHeartbeats 4000000 in
set_option maxRecDepth 100000 in
theorem c_P_byteAt (lc : Launch) (D : va_G) (ad : Nat → Nat) (cI cD cZ cJ : ClassId) (x : ST) (e t : Nat) (he : e < 18446744073709551616) (ht : t < 64) : CI lc D (ty4 cI cD cZ cJ) (WS ad cI cD cZ) yP_byteAt bP_byteAt 3 (some .int) 0 [.long (lN e), .int (nI t)] x (fun rr u => x = u ∧ rr = (e / 2 ^ t) &&& 255) := by
  refine CI_of [some (.long (lN e)), none, some (.int (nI t))] (by decide) (Nat.le_of_ble_eq_true rfl) rfl ?_
  intro K C E hkl hkD hkn
  refine a_lloadn C dP_byteAt_0 rfl rfl ?_
  refine a_iloadn C dP_byteAt_1 rfl rfl ?_
  refine a_lushr C dP_byteAt_2 (by omega) (by omega) ?_
  refine a_l2i C dP_byteAt_3 ?_
  refine a_sipush (v := 255) C dP_byteAt_4 (by decide) ?_
  refine a_iand C dP_byteAt_7 ?_
  exact r_i C E dP_byteAt_8 (Nat.lt_of_le_of_lt Nat.and_le_right (by decide)) ⟨rfl, rfl⟩
set_option maxHeartbeats 4000000 in
set_option maxRecDepth 100000 in
theorem c_P_type (lc : Launch) (D : va_G) (ad : Nat → Nat) (cI cD cZ cJ : ClassId) (x : ST) (hst : lc.stackTraces = false) (e : Nat) (he : e < 18446744073709551616) (hl : x.1 2 ≤ 14) : CXI lc D (ty4 cI cD cZ cJ) (WS ad cI cD cZ) yP_type bP_type 6 (some .int) 6 [.ref (ad 0), .long (lN e)] x (fun rr u => tok e 8 = true ∧ x.1 2 + tcn e 8 ≤ 14 ∧ u = apS e x 8 ∧ rr = u.1 2) (fun E u => u = x ∧ ((E = "java/lang/IllegalArgumentException" ∧ tok e 8 = false) ∨ (E = "java/lang/IllegalStateException" ∧ tok e 8 = true ∧ 14 < x.1 2 + tcn e 8))) := by
  refine CXI_of hst [some (.ref (ad 0)), some (.long (lN e)), none, none, none, none] (by decide) (Nat.le_of_ble_eq_true rfl) rfl ?_
  intro K C E hkl hkD hkn
  refine a_iconst (v := 0) C dP_type_0 (by decide) ?_
  refine istn_3 C dP_type_1 (by omega) rfl ?_
  refine a_bipush (v := 56) C dP_type_2 (by decide) ?_
  refine ist_4 C dP_type_4 (by omega) rfl ?_
  have LP6 : ∀ (N0 : Nat) (t : Nat) (o5 : Option Value), 8 - t < N0 → (t ≤ 8) → (tok e t = true) → WA K (WS ad cI cD cZ x) [some (.ref (ad 0)), some (.long (lN e)), none, some (.int (nI (tcn e t))), some (.int (nI (shv t))), o5] 6 [] := by
    intro N0
    induction N0 with
    | zero => intro t o5 hm; exact absurd hm (Nat.not_lt_zero _)
    | succ N0 ih6 =>
      intro t o5 hm6 ht hk
      have h32 := shv_32 t
      have hbl := byt_lt e t
      have htl := tcn_le e t
      refine a_iload C dP_type_6 rfl ?_
      refine a_iflt (tgt := 49) C dP_type_8 (by decide) h32 (fun h8 => ?_) (fun h8 => ?_)
      · skip
        have ht8 := shv_neg ht h8
        rw [ht8]
        rw [ht8] at hk
        have htl8 := tcn_le e 8
        refine a_aloadn C dP_type_49 rfl rfl ?_
        refine g_P_12 C dP_type_50 ?_
        refine vI0 C (c_T_length (kl K) (kD K) ad cI cD cZ cJ _ (by omega)) wM_P_59 wI_T_length wSel_T_length wIni_T wC_T_length hd_T_length (by decide) (by decide) (q0 := 1) rfl rfl (Nat.le_of_ble_eq_true rfl) dP_type_53 ?_
        rintro n53 u53 b53 ⟨rfl, rfl⟩
        refine a_iloadn C dP_type_56 rfl rfl ?_
        refine a_iadd C dP_type_57 ?_
        refine a_bipush (v := 14) C dP_type_58 (by decide) ?_
        refine a_cle (tgt := 71) C dP_type_60 (by decide) (by omega) (by omega) (fun h60 => ?_) (fun h60 => ?_)
        · skip
          refine a_bipush (v := 56) C dP_type_71 (by decide) ?_
          refine ist_4 C dP_type_73 (by omega) rfl ?_
          have LP75 : ∀ (N0 : Nat) (t : Nat) (y : ST) (o5 : Option Value), 8 - t < N0 → (t ≤ 8) → (y = apS e x t) → WA K (WS ad cI cD cZ y) [some (.ref (ad 0)), some (.long (lN e)), none, some (.int (nI (tcn e 8))), some (.int (nI (shv t))), o5] 75 [] := by
            intro N0
            induction N0 with
            | zero => intro t y o5 hm; exact absurd hm (Nat.not_lt_zero _)
            | succ N0 ih75 =>
              intro t y o5 hm75 ht hy
              have h32 := shv_32 t
              have hbl := byt_lt e t
              refine a_iload C dP_type_75 rfl ?_
              refine a_iflt (tgt := 108) C dP_type_77 (by decide) h32 (fun h77 => ?_) (fun h77 => ?_)
              · skip
                have ht8 := shv_neg ht h77
                refine a_aloadn C dP_type_108 rfl rfl ?_
                refine g_P_12 C dP_type_109 ?_
                refine vI0 C (c_T_length (kl K) (kD K) ad cI cD cZ cJ _ (by rw [hy, ht8, apS_len]; omega)) wM_P_59 wI_T_length wSel_T_length wIni_T wC_T_length hd_T_length (by decide) (by decide) (q0 := 1) rfl rfl (Nat.le_of_ble_eq_true rfl) dP_type_112 ?_
                rintro n112 u112 b112 ⟨rfl, rfl⟩
                exact rx_i C E dP_type_115 (by rw [hy, ht8, apS_len]; omega) ⟨hk, h60, by rw [hy, ht8], rfl⟩
              · skip
                obtain ⟨ht8, hsv⟩ := shv_pos h77
                refine a_lloadn C dP_type_80 rfl rfl ?_
                refine a_iload C dP_type_81 rfl ?_
                refine sI2 C (c_P_byteAt (kl K) (kD K) ad cI cD cZ cJ _ _ _ he (by omega)) wM_P_48 wSt_P_byteAt wIni_P wC_P_byteAt hd_P_byteAt (by decide) (by decide) (Nat.le_of_ble_eq_true rfl) dP_type_83 ?_
                rintro n83 u83 b83 ⟨rfl, rfl⟩
                have hb : e / 2 ^ shv t &&& 255 = byt e t := by rw [hsv]; rfl
                rw [hb]
                refine ist_5 C dP_type_86 (by omega) rfl ?_
                refine a_iload C dP_type_88 rfl ?_
                refine a_ifeq (tgt := 102) C dP_type_90 (by decide) (by omega) (fun h90 => ?_) (fun h90 => ?_)
                · skip
                  have hy2 : y = apS e x (t + 1) := by rw [apS_0 h90]; exact hy
                  refine inc_4 C dP_type_102 rfl (shv_inc t ht8) (by omega) rfl ?_
                  refine a_goto (tgt := 75) C dP_type_105 (by decide) ?_
                  exact ih75 (t + 1) _ _ (by omega) (by omega) hy2
                · skip
                  have hroom : y.1 2 < 14 := by rw [hy]; exact apS_room ht8 h90 h60
                  refine a_aloadn C dP_type_93 rfl rfl ?_
                  refine g_P_12 C dP_type_94 ?_
                  refine a_iload C dP_type_97 rfl ?_
                  refine vV1 C (c_T_append (kl K) (kD K) ad cI cD cZ cJ _ _ hroom) wM_P_66 wI_T_append wSel_T_append wIni_T wC_T_append hd_T_append (by decide) (by decide) (q0 := 1) rfl rfl (Nat.le_of_ble_eq_true rfl) dP_type_99 ?_
                  intro u99 p99
                  have hy2 : u99 = apS e x (t + 1) := by rw [apS_1 h90, ← hy]; exact p99
                  refine inc_4 C dP_type_102 rfl (shv_inc t ht8) (by omega) rfl ?_
                  refine a_goto (tgt := 75) C dP_type_105 (by decide) ?_
                  exact ih75 (t + 1) _ _ (by omega) (by omega) hy2
          exact LP75 _ 0 x _ (Nat.lt_succ_self _) (Nat.zero_le _) rfl
        · skip
          exact a_thr C E.1 E.2.2 th_63 (by decide) (Nat.le_of_ble_eq_true rfl) dP_type_63 dP_type_66 dP_type_67 dP_type_70 ⟨rfl, Or.inr ⟨rfl, hk, h60⟩⟩
      · skip
        obtain ⟨ht8, hsv⟩ := shv_pos h8
        refine a_lloadn C dP_type_11 rfl rfl ?_
        refine a_iload C dP_type_12 rfl ?_
        refine sI2 C (c_P_byteAt (kl K) (kD K) ad cI cD cZ cJ _ _ _ he (by omega)) wM_P_48 wSt_P_byteAt wIni_P wC_P_byteAt hd_P_byteAt (by decide) (by decide) (Nat.le_of_ble_eq_true rfl) dP_type_14 ?_
        rintro n14 u14 b14 ⟨rfl, rfl⟩
        have hb : e / 2 ^ shv t &&& 255 = byt e t := by rw [hsv]; rfl
        rw [hb]
        refine ist_5 C dP_type_17 (by omega) rfl ?_
        refine a_iload C dP_type_19 rfl ?_
        refine a_ifeq (tgt := 43) C dP_type_21 (by decide) (by omega) (fun h21 => ?_) (fun h21 => ?_)
        · skip
          have hk2 := tok_0 hk h21
          have hc2 := tcn_0 h21
          rw [← hc2]
          refine inc_4 C dP_type_43 rfl (shv_inc t ht8) (by omega) rfl ?_
          refine a_goto (tgt := 6) C dP_type_46 (by decide) ?_
          first | rw [show tcn e t + 1 = tcn e (t + 1) from (tcn_1 h21).symm] | skip
          exact ih6 (t + 1) _ (by omega) (by omega) hk2
        · skip
          refine a_iload C dP_type_24 rfl ?_
          refine sI1 C (c_P_isCharacter (kl K) (kD K) ad cI cD cZ cJ _ _ (by omega)) wM_P_52 wSt_P_isCharacter wIni_P wC_P_isCharacter hd_P_isCharacter (by decide) (by decide) (Nat.le_of_ble_eq_true rfl) dP_type_26 ?_
          rintro n26 u26 b26 ⟨rfl, rfl⟩
          refine a_ifne (tgt := 40) C dP_type_29 (by decide) i01_lt (fun h29 => ?_) (fun h29 => ?_)
          · skip
            have hk2 := tok_1 hk (i01_ne h29)
            refine inc_3 C dP_type_40 rfl (inc_up (c := 1) (by decide)) (by omega) rfl ?_
            refine inc_4 C dP_type_43 rfl (shv_inc t ht8) (by omega) rfl ?_
            refine a_goto (tgt := 6) C dP_type_46 (by decide) ?_
            first | rw [show tcn e t + 1 = tcn e (t + 1) from (tcn_1 h21).symm] | skip
            exact ih6 (t + 1) _ (by omega) (by omega) hk2
          · skip
            exact a_thr C E.1 E.2.2 th_56 (by decide) (Nat.le_of_ble_eq_true rfl) dP_type_32 dP_type_35 dP_type_36 dP_type_39 ⟨rfl, Or.inl ⟨rfl, tok_bad ht8 h21 (i01_eq h29)⟩⟩
  exact LP6 _ 0 none (Nat.lt_succ_self _) (Nat.zero_le _) rfl
set_option maxHeartbeats 4000000 in
set_option maxRecDepth 100000 in
theorem c_P_rule (lc : Launch) (D : va_G) (ad : Nat → Nat) (cI cD cZ cJ : ClassId) (x : ST) (hst : lc.stackTraces = false) (w : UInt64) (hw : WF x) (ht : TXT x) (hg : GOk (gP x)) : CXI lc D (ty4 cI cD cZ cJ) (WS ad cI cD cZ) yP_rule bP_rule 4 (some .int) 6 [.ref (ad 0), .double w] x (fun rr u => rokB w = true ∧ x.1 3 < 16 ∧ wpf (x.1 2) (x.2.1 2) = 4294967295 ∧ wlr x = false ∧ rr = x.1 3 ∧ ∃ v, ADD x w v ∧ u = FG (sS v 2 0)) (fun E u => (E = "java/lang/IllegalArgumentException" ∧ rokB w = false ∧ u = x) ∨ (E = "java/lang/IllegalStateException" ∧ rokB w = true ∧ 16 ≤ x.1 3 ∧ u = sS x 2 0) ∨ (E = "java/lang/IllegalArgumentException" ∧ rokB w = true ∧ x.1 3 < 16 ∧ wpf (x.1 2) (x.2.1 2) ≠ 4294967295 ∧ u = sS (sS x 0 (wpf (x.1 2) (x.2.1 2))) 2 0) ∨ (E = "java/lang/UnsupportedOperationException" ∧ rokB w = true ∧ x.1 3 < 16 ∧ wpf (x.1 2) (x.2.1 2) = 4294967295 ∧ wlr x = true ∧ u = sS x 2 0)) := by
  refine CXI_of hst [some (.ref (ad 0)), some (.double w), none, none] (by decide) (Nat.le_of_ble_eq_true rfl) rfl ?_
  intro K C E hkl hkD hkn
  have hg1 : x.1 3 ≤ 16 := hg.1
  have hl14 := ht.1
  have JN24 : rokB w = true → WA K (WS ad cI cD cZ x) [some (.ref (ad 0)), some (.double w), none, none] 24 [] := by
    intro hrk
    refine a_aloadn C dP_rule_24 rfl rfl ?_
    refine g_P_19 C dP_rule_25 ?_
    refine vI0 C (c_G_size (kl K) (kD K) ad cI cD cZ cJ _ (by omega)) wM_P_74 wI_G_size wSel_G_size wIni_G wC_G_size hd_G_size (by decide) (by decide) (q0 := 3) rfl rfl (Nat.le_of_ble_eq_true rfl) dP_rule_28 ?_
    rintro n28 u28 b28 ⟨rfl, rfl⟩
    refine a_bipush (v := 16) C dP_rule_31 (by decide) ?_
    refine a_clt (tgt := 51) C dP_rule_33 (by decide) (by omega) (by omega) (fun h33 => ?_) (fun h33 => ?_)
    · skip
      refine a_aloadn C dP_rule_51 rfl rfl ?_
      refine g_P_12 C dP_rule_52 ?_
      refine sI1 C (c_G_wrongPlace (kl K) (kD K) ad cI cD cZ cJ _ (by assumption) (by assumption)) wM_P_80 wSt_G_wrongPlace wIni_G wC_G_wrongPlace hd_G_wrongPlace (by decide) (by decide) (Nat.le_of_ble_eq_true rfl) dP_rule_55 ?_
      rintro n55 u55 b55 ⟨rfl, p55⟩
      have hwp := wpf_of p55
      rw [hwp] at b55 ⊢
      refine istn_3 C dP_rule_58 (by omega) rfl ?_
      refine a_iloadn C dP_rule_59 rfl rfl ?_
      refine a_iconst (v := 4294967295) C dP_rule_60 (by decide) ?_
      refine a_ceq (tgt := 84) C dP_rule_61 (by decide) b55 (by decide) (fun h61 => ?_) (fun h61 => ?_)
      · skip
        have hw3 := wpf_3 h61 (by omega)
        refine a_aloadn C dP_rule_84 rfl rfl ?_
        refine g_P_19 C dP_rule_85 ?_
        refine a_aloadn C dP_rule_88 rfl rfl ?_
        refine g_P_12 C dP_rule_89 ?_
        refine vI1 C (c_G_wouldLeadRound (kl K) (kD K) ad cI cD cZ cJ _ (by assumption) (by assumption) (by assumption)) wM_P_84 wI_G_wouldLeadRound wSel_G_wouldLeadRound wIni_G wC_G_wouldLeadRound hd_G_wouldLeadRound (by decide) (by decide) (q0 := 3) rfl rfl (Nat.le_of_ble_eq_true rfl) dP_rule_92 ?_
        rintro n92 u92 b92 ⟨rfl, rfl⟩
        refine a_ifeq (tgt := 113) C dP_rule_95 (by decide) i01_lt (fun h95 => ?_) (fun h95 => ?_)
        · skip
          refine a_aloadn C dP_rule_113 rfl rfl ?_
          refine g_P_19 C dP_rule_114 ?_
          refine a_aloadn C dP_rule_117 rfl rfl ?_
          refine g_P_12 C dP_rule_118 ?_
          refine a_dloadn C dP_rule_121 rfl rfl ?_
          refine vV2 C (c_G_add (kl K) (kD K) ad cI cD cZ cJ _ w hw ht (by omega) (by omega)) wM_P_91 wI_G_add wSel_G_add wIni_G wC_G_add hd_G_add (by decide) (by decide) (q0 := 3) rfl rfl (Nat.le_of_ble_eq_true rfl) dP_rule_122 ?_
          rintro u122 ⟨pw122, p1122, p4122, p5122, p8122, pa122, p6122, pd122, pt122⟩
          refine a_aloadn C dP_rule_125 rfl rfl ?_
          refine g_P_12 C dP_rule_126 ?_
          refine vV0 C (c_T_clear (kl K) (kD K) ad cI cD cZ cJ _ ) wM_P_77 wI_T_clear wSel_T_clear wIni_T wC_T_clear hd_T_clear (by decide) (by decide) (q0 := 1) rfl rfl (Nat.le_of_ble_eq_true rfl) dP_rule_129 ?_
          rintro u129 rfl
          refine a_aloadn C dP_rule_132 rfl rfl ?_
          refine vV0 C (c_P_forgetInput (kl K) (kD K) ad cI cD cZ cJ _ ) wM_P_95 wI_P_forgetInput wSel_P_forgetInput wIni_P wC_P_forgetInput hd_P_forgetInput (by decide) (by decide) (q0 := 0) rfl rfl (Nat.le_of_ble_eq_true rfl) dP_rule_133 ?_
          rintro u133 rfl
          refine a_aloadn C dP_rule_136 rfl rfl ?_
          refine g_P_19 C dP_rule_137 ?_
          refine vI0 C (c_G_size (kl K) (kD K) ad cI cD cZ cJ _ (show u122.1 3 < 4294967296 from pw122.2 3)) wM_P_74 wI_G_size wSel_G_size wIni_G wC_G_size hd_G_size (by decide) (by decide) (q0 := 3) rfl rfl (Nat.le_of_ble_eq_true rfl) dP_rule_140 ?_
          rintro n140 u140 b140 ⟨rfl, rfl⟩
          have hf3 : (sS (sT (sS (sS u122 2 0) 1 0) 0) 4 0).1 3 = x.1 3 + 1 := (show u122.1 3 = x.1 3 + 1 by rw [p1122]; rfl)
          rw [hf3]
          refine a_iconst (v := 1) C dP_rule_143 (by decide) ?_
          refine a_isub C dP_rule_144 (by omega) ?_
          exact rx_i C E dP_rule_145 (by omega) ⟨hrk, h33, h61, i01_f h95, by omega, u122, ⟨pw122, p1122, p4122, p5122, p8122, pa122, p6122, pd122, pt122⟩, rfl⟩
        · skip
          refine a_aloadn C dP_rule_98 rfl rfl ?_
          refine g_P_12 C dP_rule_99 ?_
          refine vV0 C (c_T_clear (kl K) (kD K) ad cI cD cZ cJ _ ) wM_P_77 wI_T_clear wSel_T_clear wIni_T wC_T_clear hd_T_clear (by decide) (by decide) (q0 := 1) rfl rfl (Nat.le_of_ble_eq_true rfl) dP_rule_102 ?_
          rintro u102 rfl
          exact a_thr C E.1 E.2.2 th_88 (by decide) (Nat.le_of_ble_eq_true rfl) dP_rule_105 dP_rule_108 dP_rule_109 dP_rule_112 (Or.inr (Or.inr (Or.inr ⟨rfl, hrk, h33, h61, i01_t h95, rfl⟩)))
      · skip
        refine a_aloadn C dP_rule_64 rfl rfl ?_
        refine a_iloadn C dP_rule_65 rfl rfl ?_
        refine p_P_37 C dP_rule_66 ?_
        refine a_aloadn C dP_rule_69 rfl rfl ?_
        refine g_P_12 C dP_rule_70 ?_
        refine vV0 C (c_T_clear (kl K) (kD K) ad cI cD cZ cJ _ ) wM_P_77 wI_T_clear wSel_T_clear wIni_T wC_T_clear hd_T_clear (by decide) (by decide) (q0 := 1) rfl rfl (Nat.le_of_ble_eq_true rfl) dP_rule_73 ?_
        rintro u73 rfl
        exact a_thr C E.1 E.2.2 th_56 (by decide) (Nat.le_of_ble_eq_true rfl) dP_rule_76 dP_rule_79 dP_rule_80 dP_rule_83 (Or.inr (Or.inr (Or.inl ⟨rfl, hrk, h33, h61, rfl⟩)))
    · skip
      refine a_aloadn C dP_rule_36 rfl rfl ?_
      refine g_P_12 C dP_rule_37 ?_
      refine vV0 C (c_T_clear (kl K) (kD K) ad cI cD cZ cJ _ ) wM_P_77 wI_T_clear wSel_T_clear wIni_T wC_T_clear hd_T_clear (by decide) (by decide) (q0 := 1) rfl rfl (Nat.le_of_ble_eq_true rfl) dP_rule_40 ?_
      rintro u40 rfl
      exact a_thr C E.1 E.2.2 th_63 (by decide) (Nat.le_of_ble_eq_true rfl) dP_rule_43 dP_rule_46 dP_rule_47 dP_rule_50 (Or.inr (Or.inl ⟨rfl, hrk, h33, rfl⟩))
  refine a_dloadn C dP_rule_0 rfl rfl ?_
  refine a_ldc2d C wK_P_70 dP_rule_1 ?_
  refine a_dcmp C dP_rule_4 (fun h4 => ?_) (fun h4 => ?_) (fun h4 => ?_) (fun h4 => ?_)
  · skip
    refine a_iflt (tgt := 16) C dP_rule_5 (by decide) (by decide) (fun _ => ?_) (fun q => absurd q (by decide))
    exact a_thr C E.1 E.2.2 th_56 (by decide) (Nat.le_of_ble_eq_true rfl) dP_rule_16 dP_rule_19 dP_rule_20 dP_rule_23 (Or.inl ⟨rfl, by unfold rokB; rw [h4]; rfl, rfl⟩)
  · skip
    refine a_iflt (tgt := 16) C dP_rule_5 (by decide) (by decide) (fun q => absurd q (by decide)) (fun _ => ?_)
    refine a_dloadn C dP_rule_8 rfl rfl ?_
    refine a_ldc2d C wK_P_72 dP_rule_9 ?_
    refine a_dcmp C dP_rule_12 (fun h12 => ?_) (fun h12 => ?_) (fun h12 => ?_) (fun h12 => ?_)
    · skip
      refine a_ifle (tgt := 24) C dP_rule_13 (by decide) (by decide) (fun _ => ?_) (fun q q2 => absurd (And.intro q q2) (by decide))
      exact JN24 (by unfold rokB; rw [h4, h12]; rfl)
    · skip
      refine a_ifle (tgt := 24) C dP_rule_13 (by decide) (by decide) (fun _ => ?_) (fun q q2 => absurd (And.intro q q2) (by decide))
      exact JN24 (by unfold rokB; rw [h4, h12]; rfl)
    · skip
      refine a_ifle (tgt := 24) C dP_rule_13 (by decide) (by decide) (fun q => absurd q (by decide)) (fun _ _ => ?_)
      exact a_thr C E.1 E.2.2 th_56 (by decide) (Nat.le_of_ble_eq_true rfl) dP_rule_16 dP_rule_19 dP_rule_20 dP_rule_23 (Or.inl ⟨rfl, by unfold rokB; rw [h4, h12]; rfl, rfl⟩)
    · skip
      have hnan : nanv .g = 1 := rfl
      rw [hnan]
      refine a_ifle (tgt := 24) C dP_rule_13 (by decide) (by decide) (fun q => absurd q (by decide)) (fun _ _ => ?_)
      exact a_thr C E.1 E.2.2 th_56 (by decide) (Nat.le_of_ble_eq_true rfl) dP_rule_16 dP_rule_19 dP_rule_20 dP_rule_23 (Or.inl ⟨rfl, by unfold rokB; rw [h4, h12]; rfl, rfl⟩)
  · skip
    refine a_iflt (tgt := 16) C dP_rule_5 (by decide) (by decide) (fun q => absurd q (by decide)) (fun _ => ?_)
    refine a_dloadn C dP_rule_8 rfl rfl ?_
    refine a_ldc2d C wK_P_72 dP_rule_9 ?_
    refine a_dcmp C dP_rule_12 (fun h12 => ?_) (fun h12 => ?_) (fun h12 => ?_) (fun h12 => ?_)
    · skip
      refine a_ifle (tgt := 24) C dP_rule_13 (by decide) (by decide) (fun _ => ?_) (fun q q2 => absurd (And.intro q q2) (by decide))
      exact JN24 (by unfold rokB; rw [h4, h12]; rfl)
    · skip
      refine a_ifle (tgt := 24) C dP_rule_13 (by decide) (by decide) (fun _ => ?_) (fun q q2 => absurd (And.intro q q2) (by decide))
      exact JN24 (by unfold rokB; rw [h4, h12]; rfl)
    · skip
      refine a_ifle (tgt := 24) C dP_rule_13 (by decide) (by decide) (fun q => absurd q (by decide)) (fun _ _ => ?_)
      exact a_thr C E.1 E.2.2 th_56 (by decide) (Nat.le_of_ble_eq_true rfl) dP_rule_16 dP_rule_19 dP_rule_20 dP_rule_23 (Or.inl ⟨rfl, by unfold rokB; rw [h4, h12]; rfl, rfl⟩)
    · skip
      have hnan : nanv .g = 1 := rfl
      rw [hnan]
      refine a_ifle (tgt := 24) C dP_rule_13 (by decide) (by decide) (fun q => absurd q (by decide)) (fun _ _ => ?_)
      exact a_thr C E.1 E.2.2 th_56 (by decide) (Nat.le_of_ble_eq_true rfl) dP_rule_16 dP_rule_19 dP_rule_20 dP_rule_23 (Or.inl ⟨rfl, by unfold rokB; rw [h4, h12]; rfl, rfl⟩)
  · skip
    have hnan : nanv .l = 4294967295 := rfl
    rw [hnan]
    refine a_iflt (tgt := 16) C dP_rule_5 (by decide) (by decide) (fun _ => ?_) (fun q => absurd q (by decide))
    exact a_thr C E.1 E.2.2 th_56 (by decide) (Nat.le_of_ble_eq_true rfl) dP_rule_16 dP_rule_19 dP_rule_20 dP_rule_23 (Or.inl ⟨rfl, by unfold rokB; rw [h4]; rfl, rfl⟩)
set_option maxHeartbeats 4000000 in
set_option maxRecDepth 100000 in
theorem c_P_mark (lc : Launch) (D : va_G) (ad : Nat → Nat) (cI cD cZ cJ : ClassId) (x : ST) (hst : lc.stackTraces = false) (r h : Nat) (hr : r < 4294967296) (hh : h < 4294967296) (hR : x.1 3 ≤ 16) : CXV lc D (ty4 cI cD cZ cJ) (WS ad cI cD cZ) yP_mark bP_mark 3 none 6 [.ref (ad 0), .int (nI r), .int (nI h)] x (fun u => r < x.1 3 ∧ h ≤ 3 ∧ u = FG (sA x 8 r h)) (fun E u => E = "java/lang/IllegalArgumentException" ∧ u = x ∧ ¬ (r < x.1 3 ∧ h ≤ 3)) := by
  refine CXV_of hst [some (.ref (ad 0)), some (.int (nI r)), some (.int (nI h))] (by decide) (Nat.le_of_ble_eq_true rfl) rfl ?_
  intro K C E hkl hkD hkn
  refine a_aloadn C dP_mark_0 rfl rfl ?_
  refine g_P_19 C dP_mark_1 ?_
  refine a_iloadn C dP_mark_4 rfl rfl ?_
  refine vI1 C (c_G_has (kl K) (kD K) ad cI cD cZ cJ _ _ (by omega) (by omega)) wM_P_98 wI_G_has wSel_G_has wIni_G wC_G_has hd_G_has (by decide) (by decide) (q0 := 3) rfl rfl (Nat.le_of_ble_eq_true rfl) dP_mark_5 ?_
  rintro n5 u5 b5 ⟨rfl, rfl⟩
  refine a_ifeq (tgt := 20) C dP_mark_8 (by decide) i01_lt (fun h8 => ?_) (fun h8 => ?_)
  · skip
    exact a_thr C E.1 E.2.2 th_56 (by decide) (Nat.le_of_ble_eq_true rfl) dP_mark_20 dP_mark_23 dP_mark_24 dP_mark_27 ⟨rfl, rfl, by first | (have q := i01_eq h8; omega) | omega⟩
  · skip
    have hrr := i01_ne h8
    refine a_iloadn C dP_mark_11 rfl rfl ?_
    refine a_iflt (tgt := 20) C dP_mark_12 (by decide) (by omega) (fun h12 => ?_) (fun h12 => ?_)
    · skip
      exact a_thr C E.1 E.2.2 th_56 (by decide) (Nat.le_of_ble_eq_true rfl) dP_mark_20 dP_mark_23 dP_mark_24 dP_mark_27 ⟨rfl, rfl, by first | (have q := i01_eq h8; omega) | omega⟩
    · skip
      refine a_iloadn C dP_mark_15 rfl rfl ?_
      refine a_iconst (v := 3) C dP_mark_16 (by decide) ?_
      refine a_cle (tgt := 28) C dP_mark_17 (by decide) (by omega) (by omega) (fun h17 => ?_) (fun h17 => ?_)
      · skip
        refine a_aloadn C dP_mark_28 rfl rfl ?_
        refine g_P_19 C dP_mark_29 ?_
        refine a_iloadn C dP_mark_32 rfl rfl ?_
        refine a_iloadn C dP_mark_33 rfl rfl ?_
        refine vV2 C (c_G_setMark (kl K) (kD K) ad cI cD cZ cJ _ _ _ (by omega)) wM_P_101 wI_G_setMark wSel_G_setMark wIni_G wC_G_setMark hd_G_setMark (by decide) (by decide) (q0 := 3) rfl rfl (Nat.le_of_ble_eq_true rfl) dP_mark_34 ?_
        rintro u34 rfl
        refine a_aloadn C dP_mark_37 rfl rfl ?_
        refine vV0 C (c_P_forgetInput (kl K) (kD K) ad cI cD cZ cJ _ ) wM_P_95 wI_P_forgetInput wSel_P_forgetInput wIni_P wC_P_forgetInput hd_P_forgetInput (by decide) (by decide) (q0 := 0) rfl rfl (Nat.le_of_ble_eq_true rfl) dP_mark_38 ?_
        rintro u38 rfl
        exact rx_v C E dP_mark_41 ⟨hrr, h17, rfl⟩
      · skip
        exact a_thr C E.1 E.2.2 th_56 (by decide) (Nat.le_of_ble_eq_true rfl) dP_mark_20 dP_mark_23 dP_mark_24 dP_mark_27 ⟨rfl, rfl, by first | (have q := i01_eq h8; omega) | omega⟩
set_option maxHeartbeats 4000000 in
set_option maxRecDepth 100000 in
theorem c_P_bar (lc : Launch) (D : va_G) (ad : Nat → Nat) (cI cD cZ cJ : ClassId) (x : ST) (hst : lc.stackTraces = false) (r s b : Nat) (hr : r < 4294967296) (hs : s < 4294967296) (hb : b ≤ 1) (hR : x.1 3 ≤ 16) : CXV lc D (ty4 cI cD cZ cJ) (WS ad cI cD cZ) yP_bar bP_bar 4 none 6 [.ref (ad 0), .int (nI r), .int (nI s), .int (nI b)] x (fun u => r < x.1 3 ∧ s < x.1 3 ∧ u = FG (sA x 9 r (if b = 0 then x.2.1 9 r &&& ((1 * 2 ^ s) ^^^ 4294967295) else x.2.1 9 r ||| (1 * 2 ^ s)))) (fun E u => E = "java/lang/IllegalArgumentException" ∧ u = x ∧ ¬ (r < x.1 3 ∧ s < x.1 3)) := by
  refine CXV_of hst [some (.ref (ad 0)), some (.int (nI r)), some (.int (nI s)), some (.int (nI b))] (by decide) (Nat.le_of_ble_eq_true rfl) rfl ?_
  intro K C E hkl hkD hkn
  refine a_aloadn C dP_bar_0 rfl rfl ?_
  refine g_P_19 C dP_bar_1 ?_
  refine a_iloadn C dP_bar_4 rfl rfl ?_
  refine vI1 C (c_G_has (kl K) (kD K) ad cI cD cZ cJ _ _ (by omega) (by omega)) wM_P_98 wI_G_has wSel_G_has wIni_G wC_G_has hd_G_has (by decide) (by decide) (q0 := 3) rfl rfl (Nat.le_of_ble_eq_true rfl) dP_bar_5 ?_
  rintro n5 u5 b5 ⟨rfl, rfl⟩
  refine a_ifeq (tgt := 22) C dP_bar_8 (by decide) i01_lt (fun h8 => ?_) (fun h8 => ?_)
  · skip
    exact a_thr C E.1 E.2.2 th_56 (by decide) (Nat.le_of_ble_eq_true rfl) dP_bar_22 dP_bar_25 dP_bar_26 dP_bar_29 ⟨rfl, rfl, by first | (have q := i01_eq h19; omega) | (have q := i01_eq h8; omega)⟩
  · skip
    have hrr := i01_ne h8
    refine a_aloadn C dP_bar_11 rfl rfl ?_
    refine g_P_19 C dP_bar_12 ?_
    refine a_iloadn C dP_bar_15 rfl rfl ?_
    refine vI1 C (c_G_has (kl K) (kD K) ad cI cD cZ cJ _ _ (by omega) (by omega)) wM_P_98 wI_G_has wSel_G_has wIni_G wC_G_has hd_G_has (by decide) (by decide) (q0 := 3) rfl rfl (Nat.le_of_ble_eq_true rfl) dP_bar_16 ?_
    rintro n16 u16 b16 ⟨rfl, rfl⟩
    refine a_ifne (tgt := 30) C dP_bar_19 (by decide) i01_lt (fun h19 => ?_) (fun h19 => ?_)
    · skip
      have hss := i01_ne h19
      refine a_aloadn C dP_bar_30 rfl rfl ?_
      refine g_P_19 C dP_bar_31 ?_
      refine a_iloadn C dP_bar_34 rfl rfl ?_
      refine a_iloadn C dP_bar_35 rfl rfl ?_
      refine a_iloadn C dP_bar_36 rfl rfl ?_
      refine vV3 C (c_G_setBarred (kl K) (kD K) ad cI cD cZ cJ _ _ _ _ (by omega) (by omega) (by omega)) wM_P_105 wI_G_setBarred wSel_G_setBarred wIni_G wC_G_setBarred hd_G_setBarred (by decide) (by decide) (q0 := 3) rfl rfl (Nat.le_of_ble_eq_true rfl) dP_bar_37 ?_
      rintro u37 rfl
      refine a_aloadn C dP_bar_40 rfl rfl ?_
      refine vV0 C (c_P_forgetInput (kl K) (kD K) ad cI cD cZ cJ _ ) wM_P_95 wI_P_forgetInput wSel_P_forgetInput wIni_P wC_P_forgetInput hd_P_forgetInput (by decide) (by decide) (q0 := 0) rfl rfl (Nat.le_of_ble_eq_true rfl) dP_bar_41 ?_
      rintro u41 rfl
      exact rx_v C E dP_bar_44 ⟨hrr, hss, rfl⟩
    · skip
      exact a_thr C E.1 E.2.2 th_56 (by decide) (Nat.le_of_ble_eq_true rfl) dP_bar_22 dP_bar_25 dP_bar_26 dP_bar_29 ⟨rfl, rfl, by first | (have q := i01_eq h19; omega) | (have q := i01_eq h8; omega)⟩
set_option maxHeartbeats 4000000 in
set_option maxRecDepth 100000 in
theorem c_P_follow (lc : Launch) (D : va_G) (ad : Nat → Nat) (cI cD cZ cJ : ClassId) (x : ST) (hst : lc.stackTraces = false) (m c b : Nat) (hm : m < 4294967296) (hc : c < 4294967296) (hb : b ≤ 1) : CXV lc D (ty4 cI cD cZ cJ) (WS ad cI cD cZ) yP_follow bP_follow 4 none 6 [.ref (ad 0), .int (nI m), .int (nI c), .int (nI b)] x (fun u => m < 6 ∧ (33 ≤ c ∧ c ≤ 126) ∧ u = FG (sA x 10 (m * 94 + c - 33) (1 - b))) (fun E u => E = "java/lang/IllegalArgumentException" ∧ u = x ∧ ¬ (m < 6 ∧ (33 ≤ c ∧ c ≤ 126))) := by
  refine CXV_of hst [some (.ref (ad 0)), some (.int (nI m)), some (.int (nI c)), some (.int (nI b))] (by decide) (Nat.le_of_ble_eq_true rfl) rfl ?_
  intro K C E hkl hkD hkn
  refine a_iloadn C dP_follow_0 rfl rfl ?_
  refine sI1 C (c_P_isNonterminalNumber (kl K) (kD K) ad cI cD cZ cJ _ _ (by omega)) wM_P_109 wSt_P_isNonterminalNumber wIni_P wC_P_isNonterminalNumber hd_P_isNonterminalNumber (by decide) (by decide) (Nat.le_of_ble_eq_true rfl) dP_follow_1 ?_
  rintro n1 u1 b1 ⟨rfl, rfl⟩
  refine a_ifeq (tgt := 14) C dP_follow_4 (by decide) i01_lt (fun h4 => ?_) (fun h4 => ?_)
  · skip
    exact a_thr C E.1 E.2.2 th_56 (by decide) (Nat.le_of_ble_eq_true rfl) dP_follow_14 dP_follow_17 dP_follow_18 dP_follow_21 ⟨rfl, rfl, by first | (have q := i01_eq h11; omega) | (have q := i01_eq h4; omega)⟩
  · skip
    have hrr := i01_ne h4
    refine a_iloadn C dP_follow_7 rfl rfl ?_
    refine sI1 C (c_P_isCharacter (kl K) (kD K) ad cI cD cZ cJ _ _ (by omega)) wM_P_52 wSt_P_isCharacter wIni_P wC_P_isCharacter hd_P_isCharacter (by decide) (by decide) (Nat.le_of_ble_eq_true rfl) dP_follow_8 ?_
    rintro n8 u8 b8 ⟨rfl, rfl⟩
    refine a_ifne (tgt := 22) C dP_follow_11 (by decide) i01_lt (fun h11 => ?_) (fun h11 => ?_)
    · skip
      have hss := i01_ne h11
      refine a_aloadn C dP_follow_22 rfl rfl ?_
      refine g_P_19 C dP_follow_23 ?_
      refine a_iloadn C dP_follow_26 rfl rfl ?_
      refine a_iloadn C dP_follow_27 rfl rfl ?_
      refine a_iloadn C dP_follow_28 rfl rfl ?_
      refine vV3 C (c_G_setMayFollow (kl K) (kD K) ad cI cD cZ cJ _ _ _ _ (by omega) (by omega) (by omega) (by omega)) wM_P_112 wI_G_setMayFollow wSel_G_setMayFollow wIni_G wC_G_setMayFollow hd_G_setMayFollow (by decide) (by decide) (q0 := 3) rfl rfl (Nat.le_of_ble_eq_true rfl) dP_follow_29 ?_
      rintro u29 rfl
      refine a_aloadn C dP_follow_32 rfl rfl ?_
      refine vV0 C (c_P_forgetInput (kl K) (kD K) ad cI cD cZ cJ _ ) wM_P_95 wI_P_forgetInput wSel_P_forgetInput wIni_P wC_P_forgetInput hd_P_forgetInput (by decide) (by decide) (q0 := 0) rfl rfl (Nat.le_of_ble_eq_true rfl) dP_follow_33 ?_
      rintro u33 rfl
      exact rx_v C E dP_follow_36 ⟨hrr, hss, rfl⟩
    · skip
      exact a_thr C E.1 E.2.2 th_56 (by decide) (Nat.le_of_ble_eq_true rfl) dP_follow_14 dP_follow_17 dP_follow_18 dP_follow_21 ⟨rfl, rfl, by first | (have q := i01_eq h11; omega) | (have q := i01_eq h4; omega)⟩
set_option maxHeartbeats 4000000 in
set_option maxRecDepth 100000 in
theorem c_P_undo (lc : Launch) (D : va_G) (ad : Nat → Nat) (cI cD cZ cJ : ClassId) (x : ST) (hst : lc.stackTraces = false) (hw : WF x) (hR : x.1 3 ≤ 16) : CXV lc D (ty4 cI cD cZ cJ) (WS ad cI cD cZ) yP_undo bP_undo 1 none 6 [.ref (ad 0)] x (fun u => x.1 3 ≠ 0 ∧ ∃ v, REM x v ∧ u = FG v) (fun E u => E = "java/util/NoSuchElementException" ∧ u = x ∧ x.1 3 = 0) := by
  refine CXV_of hst [some (.ref (ad 0))] (by decide) (Nat.le_of_ble_eq_true rfl) rfl ?_
  intro K C E hkl hkD hkn
  refine a_aloadn C dP_undo_0 rfl rfl ?_
  refine g_P_19 C dP_undo_1 ?_
  refine vI0 C (c_G_size (kl K) (kD K) ad cI cD cZ cJ _ (by omega)) wM_P_74 wI_G_size wSel_G_size wIni_G wC_G_size hd_G_size (by decide) (by decide) (q0 := 3) rfl rfl (Nat.le_of_ble_eq_true rfl) dP_undo_4 ?_
  rintro n4 u4 b4 ⟨rfl, rfl⟩
  refine a_ifne (tgt := 18) C dP_undo_7 (by decide) (by omega) (fun h7 => ?_) (fun h7 => ?_)
  · skip
    refine a_aloadn C dP_undo_18 rfl rfl ?_
    refine g_P_19 C dP_undo_19 ?_
    refine vV0 C (c_G_removeLatest (kl K) (kD K) ad cI cD cZ cJ _ hw (by omega) hR) wM_P_118 wI_G_removeLatest wSel_G_removeLatest wIni_G wC_G_removeLatest hd_G_removeLatest (by decide) (by decide) (q0 := 3) rfl rfl (Nat.le_of_ble_eq_true rfl) dP_undo_22 ?_
    rintro u22 ⟨pw22, p122, pa22, pd22, p922⟩
    refine a_aloadn C dP_undo_25 rfl rfl ?_
    refine vV0 C (c_P_forgetInput (kl K) (kD K) ad cI cD cZ cJ _ ) wM_P_95 wI_P_forgetInput wSel_P_forgetInput wIni_P wC_P_forgetInput hd_P_forgetInput (by decide) (by decide) (q0 := 0) rfl rfl (Nat.le_of_ble_eq_true rfl) dP_undo_26 ?_
    rintro u26 rfl
    exact rx_v C E dP_undo_29 ⟨h7, u22, ⟨pw22, p122, pa22, pd22, p922⟩, rfl⟩
  · skip
    exact a_thr C E.1 E.2.2 th_115 (by decide) (Nat.le_of_ble_eq_true rfl) dP_undo_10 dP_undo_13 dP_undo_14 dP_undo_17 ⟨rfl, rfl, h7⟩
set_option maxHeartbeats 4000000 in
set_option maxRecDepth 100000 in
theorem c_P_weight (lc : Launch) (D : va_G) (ad : Nat → Nat) (cI cD cZ cJ : ClassId) (x : ST) (hst : lc.stackTraces = false) (hs : x.1 4 ≤ 162) : CXD lc D (ty4 cI cD cZ cJ) (WS ad cI cD cZ) yP_weight bP_weight 1 (some .double) 6 [.ref (ad 0)] x (fun rr u => u = x ∧ x.1 4 ≠ 0 ∧ rr = x.2.2.2) (fun E u => E = "java/util/NoSuchElementException" ∧ u = x ∧ x.1 4 = 0) := by
  refine CXD_of hst [some (.ref (ad 0))] (by decide) (Nat.le_of_ble_eq_true rfl) rfl ?_
  intro K C E hkl hkD hkn
  refine a_aloadn C dP_weight_0 rfl rfl ?_
  refine g_P_33 C dP_weight_1 ?_
  refine vI0 C (c_E_size (kl K) (kD K) ad cI cD cZ cJ _ (by omega)) wM_P_150 wI_E_size wSel_E_size wIni_E wC_E_size hd_E_size (by decide) (by decide) (q0 := 19) rfl rfl (Nat.le_of_ble_eq_true rfl) dP_weight_4 ?_
  rintro n4 u4 b4 ⟨rfl, rfl⟩
  refine a_ifne (tgt := 18) C dP_weight_7 (by decide) (by omega) (fun h7 => ?_) (fun h7 => ?_)
  · skip
    refine a_aloadn C dP_weight_18 rfl rfl ?_
    refine g_P_44 C dP_weight_19 ?_
    exact rx_d C E dP_weight_22 ⟨rfl, h7, rfl⟩
  · skip
    exact a_thr C E.1 E.2.2 th_115 (by decide) (Nat.le_of_ble_eq_true rfl) dP_weight_10 dP_weight_13 dP_weight_14 dP_weight_17 ⟨rfl, rfl, h7⟩
set_option maxHeartbeats 4000000 in
set_option maxRecDepth 100000 in
theorem c_P_many (lc : Launch) (D : va_G) (ad : Nat → Nat) (cI cD cZ cJ : ClassId) (x : ST) (hst : lc.stackTraces = false) (r i j : Nat) (hr : r < 4294967296) (hi : i < 4294967296) (hj : j < 4294967296) (hw : WF x) (hR : x.1 3 ≤ 16) (hN : x.1 1 ≤ 14) : CXI lc D (ty4 cI cD cZ cJ) (WS ad cI cD cZ) yP_many bP_many 4 (some .int) 6 [.ref (ad 0), .int (nI r), .int (nI i), .int (nI j)] x (fun rr u => u = x ∧ r < x.1 3 ∧ i < j ∧ j ≤ x.1 1 ∧ rr = x.2.1 12 (r * 105 + spn i j)) (fun E u => u = x ∧ ((E = "java/lang/IllegalArgumentException" ∧ ¬ r < x.1 3) ∨ (E = "java/util/NoSuchElementException" ∧ r < x.1 3 ∧ ¬ (i < j ∧ j ≤ x.1 1)))) := by
  refine CXI_of hst [some (.ref (ad 0)), some (.int (nI r)), some (.int (nI i)), some (.int (nI j))] (by decide) (Nat.le_of_ble_eq_true rfl) rfl ?_
  intro K C E hkl hkD hkn
  refine a_aloadn C dP_many_0 rfl rfl ?_
  refine g_P_19 C dP_many_1 ?_
  refine a_iloadn C dP_many_4 rfl rfl ?_
  refine vI1 C (c_G_has (kl K) (kD K) ad cI cD cZ cJ _ _ (by omega) (by omega)) wM_P_98 wI_G_has wSel_G_has wIni_G wC_G_has hd_G_has (by decide) (by decide) (q0 := 3) rfl rfl (Nat.le_of_ble_eq_true rfl) dP_many_5 ?_
  rintro n5 u5 b5 ⟨rfl, rfl⟩
  refine a_ifne (tgt := 19) C dP_many_8 (by decide) i01_lt (fun h8 => ?_) (fun h8 => ?_)
  · skip
    have hrr := i01_ne h8
    refine a_iloadn C dP_many_19 rfl rfl ?_
    refine a_iflt (tgt := 36) C dP_many_20 (by decide) (by omega) (fun h20 => ?_) (fun h20 => ?_)
    · skip
      exact a_thr C E.1 E.2.2 th_115 (by decide) (Nat.le_of_ble_eq_true rfl) dP_many_36 dP_many_39 dP_many_40 dP_many_43 ⟨rfl, Or.inr ⟨rfl, hrr, by omega⟩⟩
    · skip
      refine a_iloadn C dP_many_23 rfl rfl ?_
      refine a_aloadn C dP_many_24 rfl rfl ?_
      refine g_P_41 C dP_many_25 ?_
      refine a_cgtG (tgt := 36) C dP_many_28 (by decide) (by omega) (by omega) (fun h28 => ?_) (fun h28 => ?_)
      · skip
        exact a_thr C E.1 E.2.2 th_115 (by decide) (Nat.le_of_ble_eq_true rfl) dP_many_36 dP_many_39 dP_many_40 dP_many_43 ⟨rfl, Or.inr ⟨rfl, hrr, by omega⟩⟩
      · skip
        refine a_iloadn C dP_many_31 rfl rfl ?_
        refine a_iloadn C dP_many_32 rfl rfl ?_
        refine a_cltB (tgt := 44) C dP_many_33 (by decide) (by omega) (by omega) (fun h33 => ?_) (fun h33 => ?_)
        · skip
          have hsp := spn_lt h33.1 (by omega)
          refine a_aloadn C dP_many_44 rfl rfl ?_
          refine g_P_26 C dP_many_45 ?_
          refine a_iloadn C dP_many_48 rfl rfl ?_
          refine a_iloadn C dP_many_49 rfl rfl ?_
          refine a_iloadn C dP_many_50 rfl rfl ?_
          refine sI2 C (c_P_spanNumber (kl K) (kD K) ad cI cD cZ cJ _ _ _ (by omega) (by omega) (by omega)) wM_P_125 wSt_P_spanNumber wIni_P wC_P_spanNumber hd_P_spanNumber (by decide) (by decide) (Nat.le_of_ble_eq_true rfl) dP_many_51 ?_
          rintro n51 u51 b51 ⟨rfl, rfl⟩
          have hsd : j * (j - 1) / 2 + i = spn i j := rfl
          rw [hsd]
          refine vI2 C (c_C_waysOf (kl K) (kD K) ad cI cD cZ cJ _ _ _ (by omega) hsp hw) wM_P_163 wI_C_waysOf wSel_C_waysOf wIni_C wC_C_waysOf hd_C_waysOf (by decide) (by decide) (q0 := 11) rfl rfl (Nat.le_of_ble_eq_true rfl) dP_many_54 ?_
          rintro n54 u54 b54 ⟨rfl, rfl⟩
          exact rx_i C E dP_many_57 (hw.1 _ _) ⟨rfl, hrr, h33.1, by omega, rfl⟩
        · skip
          exact a_thr C E.1 E.2.2 th_115 (by decide) (Nat.le_of_ble_eq_true rfl) dP_many_36 dP_many_39 dP_many_40 dP_many_43 ⟨rfl, Or.inr ⟨rfl, hrr, by omega⟩⟩
  · skip
    exact a_thr C E.1 E.2.2 th_56 (by decide) (Nat.le_of_ble_eq_true rfl) dP_many_11 dP_many_14 dP_many_15 dP_many_18 ⟨rfl, Or.inl ⟨rfl, i01_eq h8⟩⟩
set_option maxHeartbeats 4000000 in
set_option maxRecDepth 100000 in
theorem c_P_node (lc : Launch) (D : va_G) (ad : Nat → Nat) (cI cD cZ cJ : ClassId) (x : ST) (hst : lc.stackTraces = false) (k h : Nat) (hk : k < 4294967296) (hh : h < 4294967296) (hw : WF x) (hs : x.1 4 ≤ 162) (hb : ∀ q, q < x.1 4 → x.2.1 21 q ≤ 14 ∧ x.2.1 22 q ≤ 14) : CXI lc D (ty4 cI cD cZ cJ) (WS ad cI cD cZ) yP_node bP_node 3 (some .int) 6 [.ref (ad 0), .int (nI k), .int (nI h)] x (fun rr u => u = x ∧ h ≤ 3 ∧ k < x.1 4 ∧ rr = ndv x k h) (fun E u => u = x ∧ ((E = "java/lang/IllegalArgumentException" ∧ ¬ h ≤ 3) ∨ (E = "java/util/NoSuchElementException" ∧ h ≤ 3 ∧ ¬ k < x.1 4))) := by
  refine CXI_of hst [some (.ref (ad 0)), some (.int (nI k)), some (.int (nI h))] (by decide) (Nat.le_of_ble_eq_true rfl) rfl ?_
  intro K C E hkl hkD hkn
  refine a_iloadn C dP_node_0 rfl rfl ?_
  refine a_iflt (tgt := 9) C dP_node_1 (by decide) (by omega) (fun h1 => ?_) (fun h1 => ?_)
  · skip
    exact a_thr C E.1 E.2.2 th_56 (by decide) (Nat.le_of_ble_eq_true rfl) dP_node_9 dP_node_12 dP_node_13 dP_node_16 ⟨rfl, Or.inl ⟨rfl, by omega⟩⟩
  · skip
    refine a_iloadn C dP_node_4 rfl rfl ?_
    refine a_iconst (v := 3) C dP_node_5 (by decide) ?_
    refine a_cle (tgt := 17) C dP_node_6 (by decide) (by omega) (by omega) (fun h6 => ?_) (fun h6 => ?_)
    · skip
      refine a_iloadn C dP_node_17 rfl rfl ?_
      refine a_iflt (tgt := 32) C dP_node_18 (by decide) (by omega) (fun h18 => ?_) (fun h18 => ?_)
      · skip
        exact a_thr C E.1 E.2.2 th_115 (by decide) (Nat.le_of_ble_eq_true rfl) dP_node_32 dP_node_35 dP_node_36 dP_node_39 ⟨rfl, Or.inr ⟨rfl, h6, by omega⟩⟩
      · skip
        refine a_iloadn C dP_node_21 rfl rfl ?_
        refine a_aloadn C dP_node_22 rfl rfl ?_
        refine g_P_33 C dP_node_23 ?_
        refine vI0 C (c_E_size (kl K) (kD K) ad cI cD cZ cJ _ (by omega)) wM_P_150 wI_E_size wSel_E_size wIni_E wC_E_size hd_E_size (by decide) (by decide) (q0 := 19) rfl rfl (Nat.le_of_ble_eq_true rfl) dP_node_26 ?_
        rintro n26 u26 b26 ⟨rfl, rfl⟩
        refine a_clt (tgt := 40) C dP_node_29 (by decide) (by omega) (by omega) (fun h29 => ?_) (fun h29 => ?_)
        · skip
          refine a_iloadn C dP_node_40 rfl rfl ?_
          refine a_tsw (n := 3) (tgtD := 95) (fun k => [68, 77, 86].getD k 0) C dP_node_41 (by omega) (by decide) (by decide) (by decide) (by decide) (fun h41 => ?_) (fun h41 => ?_)
          · skip
            rcases (show h = 0 ∨ h = 1 ∨ h = 2 by omega) with h41c | h41c | h41c
            · skip
              have htg41 : [68, 77, 86].getD (h) 0 = 68 := by rw [h41c]; rfl
              rw [htg41]
              refine a_aloadn C dP_node_68 rfl rfl ?_
              refine g_P_33 C dP_node_69 ?_
              refine a_iloadn C dP_node_72 rfl rfl ?_
              refine vI1 C (c_E_ruleAt (kl K) (kD K) ad cI cD cZ cJ _ _ (by omega) (by assumption)) wM_P_151 wI_E_ruleAt wSel_E_ruleAt wIni_E wC_E_ruleAt hd_E_ruleAt (by decide) (by decide) (q0 := 19) rfl rfl (Nat.le_of_ble_eq_true rfl) dP_node_73 ?_
              rintro n73 u73 b73 ⟨rfl, rfl⟩
              exact rx_i C E dP_node_76 (by first | exact hw.1 _ _ | (have q := nbl_ge (x.2.1 21) (x.2.1 22 k) (x.1 4) 162 (k + 1); omega)) ⟨rfl, h6, by omega, by first | (rw [h41c]; rfl) | (unfold ndv; rw [if_neg (by omega), if_neg (by omega), if_neg (by omega)])⟩
            · skip
              have htg41 : [68, 77, 86].getD (h) 0 = 77 := by rw [h41c]; rfl
              rw [htg41]
              refine a_aloadn C dP_node_77 rfl rfl ?_
              refine g_P_33 C dP_node_78 ?_
              refine a_iloadn C dP_node_81 rfl rfl ?_
              refine vI1 C (c_E_beginAt (kl K) (kD K) ad cI cD cZ cJ _ _ (by omega) (by assumption)) wM_P_154 wI_E_beginAt wSel_E_beginAt wIni_E wC_E_beginAt hd_E_beginAt (by decide) (by decide) (q0 := 19) rfl rfl (Nat.le_of_ble_eq_true rfl) dP_node_82 ?_
              rintro n82 u82 b82 ⟨rfl, rfl⟩
              exact rx_i C E dP_node_85 (by first | exact hw.1 _ _ | (have q := nbl_ge (x.2.1 21) (x.2.1 22 k) (x.1 4) 162 (k + 1); omega)) ⟨rfl, h6, by omega, by first | (rw [h41c]; rfl) | (unfold ndv; rw [if_neg (by omega), if_neg (by omega), if_neg (by omega)])⟩
            · skip
              have htg41 : [68, 77, 86].getD (h) 0 = 86 := by rw [h41c]; rfl
              rw [htg41]
              refine a_aloadn C dP_node_86 rfl rfl ?_
              refine g_P_33 C dP_node_87 ?_
              refine a_iloadn C dP_node_90 rfl rfl ?_
              refine vI1 C (c_E_endAt (kl K) (kD K) ad cI cD cZ cJ _ _ (by omega) (by assumption)) wM_P_157 wI_E_endAt wSel_E_endAt wIni_E wC_E_endAt hd_E_endAt (by decide) (by decide) (q0 := 19) rfl rfl (Nat.le_of_ble_eq_true rfl) dP_node_91 ?_
              rintro n91 u91 b91 ⟨rfl, rfl⟩
              exact rx_i C E dP_node_94 (by first | exact hw.1 _ _ | (have q := nbl_ge (x.2.1 21) (x.2.1 22 k) (x.1 4) 162 (k + 1); omega)) ⟨rfl, h6, by omega, by first | (rw [h41c]; rfl) | (unfold ndv; rw [if_neg (by omega), if_neg (by omega), if_neg (by omega)])⟩
          · skip
            refine a_aloadn C dP_node_95 rfl rfl ?_
            refine g_P_33 C dP_node_96 ?_
            refine a_iloadn C dP_node_99 rfl rfl ?_
            refine vI1 C (c_E_nodesBelow (kl K) (kD K) ad cI cD cZ cJ _ _ (by omega) hs hb) wM_P_160 wI_E_nodesBelow wSel_E_nodesBelow wIni_E wC_E_nodesBelow hd_E_nodesBelow (by decide) (by decide) (q0 := 19) rfl rfl (Nat.le_of_ble_eq_true rfl) dP_node_100 ?_
            rintro n100 u100 b100 ⟨rfl, rfl⟩
            exact rx_i C E dP_node_103 (by first | exact hw.1 _ _ | (have q := nbl_ge (x.2.1 21) (x.2.1 22 k) (x.1 4) 162 (k + 1); omega)) ⟨rfl, h6, by omega, by first | (rw [h41c]; rfl) | (unfold ndv; rw [if_neg (by omega), if_neg (by omega), if_neg (by omega)])⟩
        · skip
          exact a_thr C E.1 E.2.2 th_115 (by decide) (Nat.le_of_ble_eq_true rfl) dP_node_32 dP_node_35 dP_node_36 dP_node_39 ⟨rfl, Or.inr ⟨rfl, h6, by omega⟩⟩
    · skip
      exact a_thr C E.1 E.2.2 th_56 (by decide) (Nat.le_of_ble_eq_true rfl) dP_node_9 dP_node_12 dP_node_13 dP_node_16 ⟨rfl, Or.inl ⟨rfl, by omega⟩⟩
set_option maxHeartbeats 4000000 in
set_option maxRecDepth 100000 in
theorem c_P_count (lc : Launch) (D : va_G) (ad : Nat → Nat) (cI cD cZ cJ : ClassId) (x : ST) (h : Nat) (hh : h < 4294967296) (hw : WF x) : CI lc D (ty4 cI cD cZ cJ) (WS ad cI cD cZ) yP_count bP_count 2 (some .int) 1 [.ref (ad 0), .int (nI h)] x (fun rr u => x = u ∧ rr = ctv x h) := by
  refine CI_of [some (.ref (ad 0)), some (.int (nI h))] (by decide) (Nat.le_of_ble_eq_true rfl) rfl ?_
  intro K C E hkl hkD hkn
  refine a_iloadn C dP_count_0 rfl rfl ?_
  refine a_tsw (n := 5) (tgtD := 70) (fun k => [36, 44, 49, 57, 65].getD k 0) C dP_count_1 (by omega) (by decide) (by decide) (by decide) (by decide) (fun h1 => ?_) (fun h1 => ?_)
  · skip
    rcases (show h = 0 ∨ h = 1 ∨ h = 2 ∨ h = 3 ∨ h = 4 by omega) with h1c | h1c | h1c | h1c | h1c
    · skip
      have htg1 : [36, 44, 49, 57, 65].getD (h) 0 = 36 := by rw [h1c]; rfl
      rw [htg1]
      refine a_aloadn C dP_count_36 rfl rfl ?_
      refine g_P_19 C dP_count_37 ?_
      refine vI0 C (c_G_size (kl K) (kD K) ad cI cD cZ cJ _ (hw.2 3)) wM_P_74 wI_G_size wSel_G_size wIni_G wC_G_size hd_G_size (by decide) (by decide) (q0 := 3) rfl rfl (Nat.le_of_ble_eq_true rfl) dP_count_40 ?_
      rintro n40 u40 b40 ⟨rfl, rfl⟩
      exact r_i C E dP_count_43 (by first | exact hw.2 _ | decide) ⟨rfl, by first | (rw [h1c]; rfl) | (unfold ctv; rw [if_neg (by omega), if_neg (by omega), if_neg (by omega), if_neg (by omega), if_neg (by omega)])⟩
    · skip
      have htg1 : [36, 44, 49, 57, 65].getD (h) 0 = 44 := by rw [h1c]; rfl
      rw [htg1]
      refine a_aloadn C dP_count_44 rfl rfl ?_
      refine g_P_37 C dP_count_45 ?_
      exact r_i C E dP_count_48 (by first | exact hw.2 _ | decide) ⟨rfl, by first | (rw [h1c]; rfl) | (unfold ctv; rw [if_neg (by omega), if_neg (by omega), if_neg (by omega), if_neg (by omega), if_neg (by omega)])⟩
    · skip
      have htg1 : [36, 44, 49, 57, 65].getD (h) 0 = 49 := by rw [h1c]; rfl
      rw [htg1]
      refine a_aloadn C dP_count_49 rfl rfl ?_
      refine g_P_12 C dP_count_50 ?_
      refine vI0 C (c_T_length (kl K) (kD K) ad cI cD cZ cJ _ (hw.2 2)) wM_P_59 wI_T_length wSel_T_length wIni_T wC_T_length hd_T_length (by decide) (by decide) (q0 := 1) rfl rfl (Nat.le_of_ble_eq_true rfl) dP_count_53 ?_
      rintro n53 u53 b53 ⟨rfl, rfl⟩
      exact r_i C E dP_count_56 (by first | exact hw.2 _ | decide) ⟨rfl, by first | (rw [h1c]; rfl) | (unfold ctv; rw [if_neg (by omega), if_neg (by omega), if_neg (by omega), if_neg (by omega), if_neg (by omega)])⟩
    · skip
      have htg1 : [36, 44, 49, 57, 65].getD (h) 0 = 57 := by rw [h1c]; rfl
      rw [htg1]
      refine a_aloadn C dP_count_57 rfl rfl ?_
      refine g_P_33 C dP_count_58 ?_
      refine vI0 C (c_E_size (kl K) (kD K) ad cI cD cZ cJ _ (hw.2 4)) wM_P_150 wI_E_size wSel_E_size wIni_E wC_E_size hd_E_size (by decide) (by decide) (q0 := 19) rfl rfl (Nat.le_of_ble_eq_true rfl) dP_count_61 ?_
      rintro n61 u61 b61 ⟨rfl, rfl⟩
      exact r_i C E dP_count_64 (by first | exact hw.2 _ | decide) ⟨rfl, by first | (rw [h1c]; rfl) | (unfold ctv; rw [if_neg (by omega), if_neg (by omega), if_neg (by omega), if_neg (by omega), if_neg (by omega)])⟩
    · skip
      have htg1 : [36, 44, 49, 57, 65].getD (h) 0 = 65 := by rw [h1c]; rfl
      rw [htg1]
      refine a_aloadn C dP_count_65 rfl rfl ?_
      refine g_P_41 C dP_count_66 ?_
      exact r_i C E dP_count_69 (by first | exact hw.2 _ | decide) ⟨rfl, by first | (rw [h1c]; rfl) | (unfold ctv; rw [if_neg (by omega), if_neg (by omega), if_neg (by omega), if_neg (by omega), if_neg (by omega)])⟩
  · skip
    refine a_iconst (v := 4294967295) C dP_count_70 (by decide) ?_
    exact r_i C E dP_count_71 (by first | exact hw.2 _ | decide) ⟨rfl, by first | (rw [h1c]; rfl) | (unfold ctv; rw [if_neg (by omega), if_neg (by omega), if_neg (by omega), if_neg (by omega), if_neg (by omega)])⟩
set_option maxHeartbeats 4000000 in
set_option maxRecDepth 100000 in
theorem c_P_parse (lc : Launch) (D : va_G) (ad : Nat → Nat) (cI cD cZ cJ : ClassId) (x : ST) (hst : lc.stackTraces = false) (m : Nat) (hm : m < 4294967296) (hw : WF x) (ht : TXT x) (hg : GOk (gP x)) (hac : Acy (gP x)) (hub : UB x) : CXI lc D (ty4 cI cD cZ cJ) (WS ad cI cD cZ) yP_parse bP_parse 7 (some .int) 6 [.ref (ad 0), .int (nI m)] x (fun rr u => m < 6 ∧ 0 < x.1 2 ∧ pv (gP x) (x.1 2) (x.2.1 2) m ≠ 0 ∧ rr = pv (gP x) (x.1 2) (x.2.1 2) m ∧ PS0 x u ∧ PS1 x u m) (fun E u => (E = "java/lang/IllegalArgumentException" ∧ u = x ∧ ¬ (m < 6 ∧ 0 < x.1 2)) ∨ (E = "java/util/NoSuchElementException" ∧ m < 6 ∧ 0 < x.1 2 ∧ pv (gP x) (x.1 2) (x.2.1 2) m = 0 ∧ PS0 x u ∧ u.1 4 = 0)) := by
  refine CXI_of hst [some (.ref (ad 0)), some (.int (nI m)), none, none, none, none, none] (by decide) (Nat.le_of_ble_eq_true rfl) rfl ?_
  intro K C E hkl hkD hkn
  have hl14 := ht.1
  have hg1 : x.1 3 ≤ 16 := hg.1
  refine a_iloadn C dP_parse_0 rfl rfl ?_
  refine sI1 C (c_P_isNonterminalNumber (kl K) (kD K) ad cI cD cZ cJ _ _ (by omega)) wM_P_109 wSt_P_isNonterminalNumber wIni_P wC_P_isNonterminalNumber hd_P_isNonterminalNumber (by decide) (by decide) (Nat.le_of_ble_eq_true rfl) dP_parse_1 ?_
  rintro n1 u1 b1 ⟨rfl, rfl⟩
  refine a_ifeq (tgt := 17) C dP_parse_4 (by decide) i01_lt (fun h4 => ?_) (fun h4 => ?_)
  · skip
    exact a_thr C E.1 E.2.2 th_56 (by decide) (Nat.le_of_ble_eq_true rfl) dP_parse_17 dP_parse_20 dP_parse_21 dP_parse_24 (Or.inl ⟨rfl, rfl, by first | (have q := i01_eq h4; omega) | omega⟩)
  · skip
    have hm6 := i01_ne h4
    refine a_aloadn C dP_parse_7 rfl rfl ?_
    refine g_P_12 C dP_parse_8 ?_
    refine vI0 C (c_T_length (kl K) (kD K) ad cI cD cZ cJ _ (by omega)) wM_P_59 wI_T_length wSel_T_length wIni_T wC_T_length hd_T_length (by decide) (by decide) (q0 := 1) rfl rfl (Nat.le_of_ble_eq_true rfl) dP_parse_11 ?_
    rintro n11 u11 b11 ⟨rfl, rfl⟩
    refine a_ifne (tgt := 25) C dP_parse_14 (by decide) (by omega) (fun h14 => ?_) (fun h14 => ?_)
    · skip
      have hpos : 0 < x.1 2 := by omega
      refine a_aloadn C dP_parse_25 rfl rfl ?_
      refine vV0 C (c_P_forgetInput (kl K) (kD K) ad cI cD cZ cJ _ ) wM_P_95 wI_P_forgetInput wSel_P_forgetInput wIni_P wC_P_forgetInput hd_P_forgetInput (by decide) (by decide) (q0 := 0) rfl rfl (Nat.le_of_ble_eq_true rfl) dP_parse_26 ?_
      rintro u26 rfl
      refine a_aloadn C dP_parse_29 rfl rfl ?_
      refine a_aloadn C dP_parse_30 rfl rfl ?_
      refine g_P_12 C dP_parse_31 ?_
      refine vI0 C (c_T_length (kl K) (kD K) ad cI cD cZ cJ _ (show x.1 2 < 4294967296 by omega)) wM_P_59 wI_T_length wSel_T_length wIni_T wC_T_length hd_T_length (by decide) (by decide) (q0 := 1) rfl rfl (Nat.le_of_ble_eq_true rfl) dP_parse_34 ?_
      rintro n34 u34 b34 ⟨rfl, rfl⟩
      refine p_P_41 C dP_parse_37 ?_
      have hw0 : WF (sS (sS (sT (sS x 1 0) 0) 4 0) 1 (x.1 2)) := (((hw.sS 1 (by decide)).sT 0).sS 4 (by decide)).sS 1 (hw.2 2)
      have ht0 : TXT (sS (sS (sT (sS x 1 0) 0) 4 0) 1 (x.1 2)) := ht
      refine a_aloadn C dP_parse_40 rfl rfl ?_
      refine g_P_26 C dP_parse_41 ?_
      refine a_aloadn C dP_parse_44 rfl rfl ?_
      refine g_P_19 C dP_parse_45 ?_
      refine a_aloadn C dP_parse_48 rfl rfl ?_
      refine g_P_12 C dP_parse_49 ?_
      refine vV2 C (c_C_fill (kl K) (kD K) ad cI cD cZ cJ _ hw0 ht0 hg hac hub) wM_P_121 wI_C_fill wSel_C_fill wIni_C wC_C_fill hd_C_fill (by decide) (by decide) (q0 := 11) rfl rfl (Nat.le_of_ble_eq_true rfl) dP_parse_52 ?_
      rintro u52 ⟨pf52, pw52, pu52, pc52⟩
      have pc52 : CHT (gP x) (x.1 2) (x.2.1 2) u52 15 := pc52
      have hf1 : u52.1 1 = x.1 2 := by rw [pf52.1]; rfl
      have hf3 : u52.1 3 = x.1 3 := by rw [pf52.1]; rfl
      have hgu : gP u52 = gP x := pf52.gP
      have hps := ps0_of pf52 pw52 pu52 pc52
      refine a_iconst (v := 0) C dP_parse_55 (by decide) ?_
      refine a_aloadn C dP_parse_56 rfl rfl ?_
      refine g_P_41 C dP_parse_57 ?_
      rw [hf1]
      have hsp := spn_lt hpos hl14
      refine sI2 C (c_P_spanNumber (kl K) (kD K) ad cI cD cZ cJ _ _ _ (by omega) (by omega) (by omega)) wM_P_125 wSt_P_spanNumber wIni_P wC_P_spanNumber hd_P_spanNumber (by decide) (by decide) (Nat.le_of_ble_eq_true rfl) dP_parse_60 ?_
      rintro n60 u60 b60 ⟨rfl, rfl⟩
      have hsd : x.1 2 * (x.1 2 - 1) / 2 + 0 = spn 0 (x.1 2) := rfl
      rw [hsd]
      have hrk := (pc52 0 (x.1 2) hpos (Nat.le_refl _) (by omega)).1
      have hnj := nrej_wan (g := gP x) (n := m) (f := fun r => u52.2.1 12 (r * 105 + spn 0 (x.1 2))) (w := fun s => sW (gP x) (x.1 2) (x.2.1 2) s 0 (x.1 2)) (fun s hs hl => (hrk s hs).1) hg1
      have hcn := ps_cn (g := gP x) (n := m) (f := fun r => u52.2.1 12 (r * 105 + spn 0 (x.1 2))) (w := fun s => sW (gP x) (x.1 2) (x.2.1 2) s 0 (x.1 2)) (fun s hs hl => (hrk s hs).1) hg1
      have hT := hts_of hg hac
      have htp := ps_tp (g := gP x) (n := m) (f := fun r => u52.2.2.1 13 (r * 105 + spn 0 (x.1 2))) (h := fun s => sH (gP x) (x.1 2) (x.2.1 2) s 0 (x.1 2)) (w := fun s => sW (gP x) (x.1 2) (x.2.1 2) s 0 (x.1 2)) (fun s hs hl => (hrk s hs).2.1) (fun s hs hl hz => sol_zero hg hT hs hpos (by omega) hz) (fun s hs hl hz => by obtain ⟨L, hL, _⟩ := sol_posA (N := x.1 2) (ch := x.2.1 2) hg hT hs hpos (by omega) hz; exact ⟨L, hL⟩) hg1
      refine istn_2 C dP_parse_63 (by omega) rfl ?_
      refine a_aloadn C dP_parse_64 rfl rfl ?_
      refine g_P_26 C dP_parse_65 ?_
      refine a_aloadn C dP_parse_68 rfl rfl ?_
      refine g_P_19 C dP_parse_69 ?_
      refine a_iloadn C dP_parse_72 rfl rfl ?_
      refine vI1 C (c_G_rejectingRules (kl K) (kD K) ad cI cD cZ cJ _ _ hm6 pw52 (by rw [hf3]; exact hg1)) wM_P_129 wI_G_rejectingRules wSel_G_rejectingRules wIni_G wC_G_rejectingRules hd_G_rejectingRules (by decide) (by decide) (q0 := 3) rfl rfl (Nat.le_of_ble_eq_true rfl) dP_parse_73 ?_
      rintro n73 u73 b73 ⟨rfl, rfl⟩
      rw [hgu, hf3] at b73 ⊢
      refine a_iloadn C dP_parse_76 rfl rfl ?_
      refine vI2 C (c_C_waysOfAny (kl K) (kD K) ad cI cD cZ cJ _ _ _ b73 hsp pu52.2) wM_P_133 wI_C_waysOfAny wSel_C_waysOfAny wIni_C wC_C_waysOfAny hd_C_waysOfAny (by decide) (by decide) (q0 := 11) rfl rfl (Nat.le_of_ble_eq_true rfl) dP_parse_77 ?_
      rintro n77 u77 b77 ⟨rfl, rfl⟩
      have JN88 : ∀ b : Nat, b ≤ 1 → (b ≠ 0 ↔ nrej (gP x) m (fun s => sW (gP x) (x.1 2) (x.2.1 2) s 0 (x.1 2)) (gR (gP x)) = true) → WA K (WS ad cI cD cZ u52) [some (.ref (ad 0)), some (.int (nI m)), some (.int (nI (spn 0 (x.1 2)))), none, none, none, none] 88 [.int (nI b)] := by
        intro b hb hb2
        refine istn_3 C dP_parse_88 (by omega) rfl ?_
        refine a_aloadn C dP_parse_89 rfl rfl ?_
        refine g_P_19 C dP_parse_90 ?_
        refine a_iloadn C dP_parse_93 rfl rfl ?_
        refine vI1 C (c_G_derivingRules (kl K) (kD K) ad cI cD cZ cJ _ _ hm6 pw52 (by rw [hf3]; exact hg1)) wM_P_136 wI_G_derivingRules wSel_G_derivingRules wIni_G wC_G_derivingRules hd_G_derivingRules (by decide) (by decide) (q0 := 3) rfl rfl (Nat.le_of_ble_eq_true rfl) dP_parse_94 ?_
        rintro n94 u94 b94 ⟨rfl, rfl⟩
        rw [hgu, hf3] at b94 ⊢
        refine ist_4 C dP_parse_97 (by omega) rfl ?_
        have JN117 : ∀ v : Nat, v < 4294967296 → v = pv (gP x) (x.1 2) (x.2.1 2) m → WA K (WS ad cI cD cZ u52) [some (.ref (ad 0)), some (.int (nI m)), some (.int (nI (spn 0 (x.1 2)))), some (.int (nI b)), some (.int (nI (rmk (gP x) m 0 (x.1 3)))), none, none] 117 [.int (nI v)] := by
          intro v hvl hv
          refine ist_5 C dP_parse_117 (by omega) rfl ?_
          refine a_aloadn C dP_parse_119 rfl rfl ?_
          refine g_P_12 C dP_parse_120 ?_
          refine vV0 C (c_T_clear (kl K) (kD K) ad cI cD cZ cJ _ ) wM_P_77 wI_T_clear wSel_T_clear wIni_T wC_T_clear hd_T_clear (by decide) (by decide) (q0 := 1) rfl rfl (Nat.le_of_ble_eq_true rfl) dP_parse_123 ?_
          rintro u123 rfl
          refine a_iload C dP_parse_126 rfl ?_
          refine a_ifne (tgt := 139) C dP_parse_128 (by decide) (by omega) (fun h128 => ?_) (fun h128 => ?_)
          · skip
            obtain ⟨hn1, r0, hr0, hr1, hr2, hr3⟩ := ps_root (g := gP x) (N := x.1 2) (ch := x.2.1 2) (n := m) (by rw [← hv]; exact h128)
            have hrR : gR (gP x) ≤ 16 := hg1
            refine a_aloadn C dP_parse_139 rfl rfl ?_
            refine g_P_26 C dP_parse_140 ?_
            refine a_iload C dP_parse_143 rfl ?_
            refine a_iloadn C dP_parse_145 rfl rfl ?_
            refine vI2 C (c_C_heaviestOf (kl K) (kD K) ad cI cD cZ cJ _ _ _ b94 hsp) wM_P_139 wI_C_heaviestOf wSel_C_heaviestOf wIni_C wC_C_heaviestOf hd_C_heaviestOf (by decide) (by decide) (q0 := 11) rfl rfl (Nat.le_of_ble_eq_true rfl) dP_parse_146 ?_
            rintro n146 u146 b146 ⟨rfl, rfl⟩
            have hrv : (hof (rmk (gP x) m 0 (x.1 3)) (fun r => (sS u52 2 0).2.2.1 13 (r * 105 + spn 0 (x.1 2))) 16).1 = r0 := htp.trans (by rw [hr0]; rfl)
            rw [hrv]
            refine ist_6 C dP_parse_149 (by omega) rfl ?_
            refine a_aloadn C dP_parse_151 rfl rfl ?_
            refine a_aloadn C dP_parse_152 rfl rfl ?_
            refine g_P_26 C dP_parse_153 ?_
            refine a_iload C dP_parse_156 rfl ?_
            refine a_iloadn C dP_parse_158 rfl rfl ?_
            refine vD2 C (c_C_heaviestWeight (kl K) (kD K) ad cI cD cZ cJ _ _ _ (by omega) hsp) wM_P_142 wI_C_heaviestWeight wSel_C_heaviestWeight wIni_C wC_C_heaviestWeight hd_C_heaviestWeight (by decide) (by decide) (q0 := 11) rfl rfl (Nat.le_of_ble_eq_true rfl) dP_parse_159 ?_
            rintro n159 u159 ⟨rfl, rfl⟩
            refine p_P_44 C dP_parse_162 ?_
            refine a_aloadn C dP_parse_165 rfl rfl ?_
            refine g_P_33 C dP_parse_166 ?_
            refine a_aloadn C dP_parse_169 rfl rfl ?_
            refine g_P_19 C dP_parse_170 ?_
            refine a_aloadn C dP_parse_173 rfl rfl ?_
            refine g_P_26 C dP_parse_174 ?_
            refine a_iload C dP_parse_177 rfl ?_
            refine a_aloadn C dP_parse_179 rfl rfl ?_
            refine g_P_41 C dP_parse_180 ?_
            have hgz : gP (sT (sS u52 2 0) ((sS u52 2 0).2.2.1 13 (r0 * 105 + spn 0 (x.1 2)))) = gP x := hgu
            have hv1 : (sT (sS u52 2 0) ((sS u52 2 0).2.2.1 13 (r0 * 105 + spn 0 (x.1 2)))).1 1 = x.1 2 := hf1
            rw [hv1]
            refine vV4 C (c_E_grow (kl K) (kD K) ad cI cD cZ cJ _ (x.1 2) r0 (x.2.1 2) ((pw52.sS 2 (by decide)).sT _) (by rw [hgz]; exact hg) (by rw [hgz]; exact hac) hl14 (by rw [hgz]; exact ⟨hr1, hpos, Nat.le_refl _, hr3⟩) (by rw [hgz]; exact pc52)) wM_P_146 wI_E_grow wSel_E_grow wIni_E wC_E_grow hd_E_grow (by decide) (by decide) (q0 := 19) rfl rfl (Nat.le_of_ble_eq_true rfl) dP_parse_183 ?_
            rintro u183 ⟨pt183, pw183, pm183⟩
            rw [hgz] at pm183
            refine a_iload C dP_parse_186 rfl ?_
            exact rx_i C E dP_parse_188 hvl ⟨hm6, hpos, by rw [← hv]; exact h128, hv, ps0_tr hps.1 pt183 pw183, r0, hr0, by rw [pt183.2.2]; exact (hrk r0 hr1).2.1, pm183⟩
          · skip
            exact a_thr C E.1 E.2.2 th_115 (by decide) (Nat.le_of_ble_eq_true rfl) dP_parse_131 dP_parse_134 dP_parse_135 dP_parse_138 (Or.inr ⟨rfl, hm6, hpos, by rw [← hv]; exact h128, hps.1, hps.2⟩)
        refine a_iloadn C dP_parse_99 rfl rfl ?_
        refine a_ifeq (tgt := 116) C dP_parse_100 (by decide) (by omega) (fun h100 => ?_) (fun h100 => ?_)
        · skip
          refine a_iconst (v := 0) C dP_parse_116 (by decide) ?_
          exact JN117 0 (by decide) (by unfold pv; rw [if_neg (fun q => hb2.mpr q h100)])
        · skip
          refine a_aloadn C dP_parse_103 rfl rfl ?_
          refine g_P_26 C dP_parse_104 ?_
          refine a_iload C dP_parse_107 rfl ?_
          refine a_iloadn C dP_parse_109 rfl rfl ?_
          refine vI2 C (c_C_waysOfAny (kl K) (kD K) ad cI cD cZ cJ _ _ _ b94 hsp pu52.2) wM_P_133 wI_C_waysOfAny wSel_C_waysOfAny wIni_C wC_C_waysOfAny hd_C_waysOfAny (by decide) (by decide) (q0 := 11) rfl rfl (Nat.le_of_ble_eq_true rfl) dP_parse_110 ?_
          rintro n110 u110 b110 ⟨rfl, rfl⟩
          refine a_goto (tgt := 117) C dP_parse_113 (by decide) ?_
          exact JN117 _ b110 (by unfold pv; rw [if_pos (hb2.mp h100)]; exact hcn)
      refine a_ifne (tgt := 87) C dP_parse_80 (by decide) (by omega) (fun h80 => ?_) (fun h80 => ?_)
      · skip
        refine a_iconst (v := 0) C dP_parse_87 (by decide) ?_
        exact JN88 0 (by decide) ⟨fun q => absurd rfl q, fun q => absurd (hnj.mpr q) h80⟩
      · skip
        refine a_iconst (v := 1) C dP_parse_83 (by decide) ?_
        refine a_goto (tgt := 88) C dP_parse_84 (by decide) ?_
        exact JN88 1 (by decide) ⟨fun _ => hnj.mp h80, fun _ => by decide⟩
    · skip
      exact a_thr C E.1 E.2.2 th_56 (by decide) (Nat.le_of_ble_eq_true rfl) dP_parse_17 dP_parse_20 dP_parse_21 dP_parse_24 (Or.inl ⟨rfl, rfl, by first | (have q := i01_eq h4; omega) | omega⟩)

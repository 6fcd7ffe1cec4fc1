set_option maxHeartbeats 4000000 in
set_option maxRecDepth 100000 in
theorem c_M_type (lc : Launch) (D : va_G) (ad : Nat → Nat) (cI cD cZ cJ : ClassId) (x : ST) (e : Nat) (he : e < 18446744073709551616) (hN : x.1 1 ≤ 14) : CI lc D (ty4 cI cD cZ cJ) (WM ad cI cD cZ) yM_type bM_type 7 (some .int) 1 [.ref (ad 0), .long (lN e)] x (fun rr u => (tok e 8 = false ∧ u = sS x 5 1 ∧ rr = 0) ∨ (tok e 8 = true ∧ 14 < x.1 1 + tcn e 8 ∧ u = sS x 5 2 ∧ rr = 0) ∨ (tok e 8 = true ∧ x.1 1 + tcn e 8 ≤ 14 ∧ u = apM e (sS x 5 0) 8 ∧ rr = u.1 1)) := by
  refine CI_of [some (.ref (ad 0)), some (.long (lN e)), none, none, none, none, none] (by decide) (Nat.le_of_ble_eq_true rfl) rfl ?_
  intro K C E hkl hkD hkn
  refine a_iconst (v := 0) C dM_type_0 (by decide) ?_
  refine istn_3 C dM_type_1 (by omega) rfl ?_
  refine a_iconst (v := 1) C dM_type_2 (by decide) ?_
  refine ist_4 C dM_type_3 (by omega) rfl ?_
  refine a_bipush (v := 56) C dM_type_5 (by decide) ?_
  refine ist_5 C dM_type_7 (by omega) rfl ?_
  have LP9 : ∀ (N0 : Nat) (t : Nat) (o6 : Option Value), 8 - t < N0 → (t ≤ 8) → WA K (WM ad cI cD cZ x) [some (.ref (ad 0)), some (.long (lN e)), none, some (.int (nI (tcn e t))), some (.int (nI (tkN e t))), some (.int (nI (shv t))), o6] 9 [] := by
    intro N0
    induction N0 with
    | zero => intro t o6 hm; exact absurd hm (Nat.not_lt_zero _)
    | succ N0 ih9 =>
      intro t o6 hm9 ht
      have h32 := shv_32 t
      have hbl := byt_lt e t
      have htl := tcn_le e t
      refine a_iload C dM_type_9 rfl ?_
      refine a_iflt (tgt := 59) C dM_type_11 (by decide) h32 (fun h11 => ?_) (fun h11 => ?_)
      · skip
        have ht8 := shv_neg ht h11
        rw [ht8]
        have htl8 := tcn_le e 8
        refine a_aloadn C dM_type_59 rfl rfl ?_
        refine a_iload C dM_type_60 rfl ?_
        refine vI1 C (c_M_bad (kl K) (kD K) ad cI cD cZ cJ _ _ (tkN_le e 8)) wM_M_83 wI_M_bad wSel_M_bad wIni_M wC_M_bad hd_M_bad (by decide) (by decide) (q0 := 0) rfl rfl (Nat.le_of_ble_eq_true rfl) dM_type_62 ?_
        rintro n62 u62 b62 ⟨rfl, rfl⟩
        refine a_ifeq (tgt := 70) C dM_type_65 (by decide) (by omega) (fun h65 => ?_) (fun h65 => ?_)
        · skip
          have htt := tkN_t h65
          refine a_aloadn C dM_type_70 rfl rfl ?_
          refine g_M_87 C dM_type_71 ?_
          rw [show (sS x 5 (1 - tkN e 8)).1 1 = x.1 1 from rfl]
          refine a_iloadn C dM_type_74 rfl rfl ?_
          refine a_iadd C dM_type_75 ?_
          refine a_bipush (v := 14) C dM_type_76 (by decide) ?_
          refine a_cle (tgt := 87) C dM_type_78 (by decide) (by omega) (by omega) (fun h78 => ?_) (fun h78 => ?_)
          · skip
            have hz0 : (1 : Nat) - tkN e 8 = 0 := by omega
            rw [hz0]
            refine a_bipush (v := 56) C dM_type_87 (by decide) ?_
            refine ist_5 C dM_type_89 (by omega) rfl ?_
            have LP91 : ∀ (N0 : Nat) (t : Nat) (y : ST) (o6 : Option Value), 8 - t < N0 → (t ≤ 8) → (y = apM e (sS x 5 0) t) → WA K (WM ad cI cD cZ y) [some (.ref (ad 0)), some (.long (lN e)), none, some (.int (nI (tcn e 8))), some (.int (nI (tkN e 8))), some (.int (nI (shv t))), o6] 91 [] := by
              intro N0
              induction N0 with
              | zero => intro t y o6 hm; exact absurd hm (Nat.not_lt_zero _)
              | succ N0 ih91 =>
                intro t y o6 hm91 ht hy
                have h32 := shv_32 t
                have hbl := byt_lt e t
                refine a_iload C dM_type_91 rfl ?_
                refine a_iflt (tgt := 142) C dM_type_93 (by decide) h32 (fun h93 => ?_) (fun h93 => ?_)
                · skip
                  have ht8 := shv_neg ht h93
                  refine a_aloadn C dM_type_142 rfl rfl ?_
                  refine g_M_87 C dM_type_143 ?_
                  exact r_i C E dM_type_146 (by first | decide | (rw [hy, ht8, apM_len]; show x.1 1 + tcn e 8 < 4294967296; omega)) (Or.inr (Or.inr ⟨htt, h78, by rw [hy, ht8], rfl⟩))
                · skip
                  obtain ⟨ht8, hsv⟩ := shv_pos h93
                  refine a_lloadn C dM_type_96 rfl rfl ?_
                  refine a_iload C dM_type_97 rfl ?_
                  refine a_lushr C dM_type_99 (by omega) he ?_
                  refine a_l2i C dM_type_100 ?_
                  refine a_sipush (v := 255) C dM_type_101 (by decide) ?_
                  refine a_iand C dM_type_104 ?_
                  have hb : e / 2 ^ shv t &&& 255 = byt e t := by rw [hsv]; rfl
                  rw [hb]
                  refine ist_6 C dM_type_105 (by omega) rfl ?_
                  refine a_iload C dM_type_107 rfl ?_
                  refine a_ifne (tgt := 115) C dM_type_109 (by decide) (by omega) (fun h109 => ?_) (fun h109 => ?_)
                  · skip
                    have hroom : y.1 1 < 14 := by rw [hy]; exact apM_room ht8 h109 h78
                    refine a_aloadn C dM_type_115 rfl rfl ?_
                    refine g_M_7 C dM_type_116 ?_
                    refine a_aloadn C dM_type_119 rfl rfl ?_
                    refine g_M_87 C dM_type_120 ?_
                    refine a_iload C dM_type_123 rfl ?_
                    refine stM_1 C dM_type_125 (by omega) ?_
                    have hy2 : sS (sA y 1 (y.1 1) (byt e t)) 1 (y.1 1 + 1) = apM e (sS x 5 0) (t + 1) := by rw [apM_1 h109, ← hy]
                    refine a_aloadn C dM_type_126 rfl rfl ?_
                    refine a_dup C dM_type_127 rfl ?_
                    refine g_M_87 C dM_type_128 ?_
                    refine a_iconst (v := 1) C dM_type_131 (by decide) ?_
                    refine a_iadd C dM_type_132 ?_
                    refine p_M_87 C dM_type_133 ?_
                    refine inc_5 C dM_type_136 rfl (shv_inc t ht8) (by omega) rfl ?_
                    refine a_goto (tgt := 91) C dM_type_139 (by decide) ?_
                    exact ih91 (t + 1) _ _ (by omega) (by omega) hy2
                  · skip
                    have hy2 : y = apM e (sS x 5 0) (t + 1) := by rw [apM_0 h109]; exact hy
                    refine a_goto (tgt := 136) C dM_type_112 (by decide) ?_
                    refine inc_5 C dM_type_136 rfl (shv_inc t ht8) (by omega) rfl ?_
                    refine a_goto (tgt := 91) C dM_type_139 (by decide) ?_
                    exact ih91 (t + 1) _ _ (by omega) (by omega) hy2
            exact LP91 _ 0 _ _ (Nat.lt_succ_self _) (Nat.zero_le _) rfl
          · skip
            refine a_aloadn C dM_type_81 rfl rfl ?_
            refine a_iconst (v := 2) C dM_type_82 (by decide) ?_
            refine vI1 C (c_M_fail (kl K) (kD K) ad cI cD cZ cJ _ _) wM_M_90 wI_M_fail wSel_M_fail wIni_M wC_M_fail hd_M_fail (by decide) (by decide) (q0 := 0) rfl rfl (Nat.le_of_ble_eq_true rfl) dM_type_83 ?_
            rintro n83 u83 b83 ⟨rfl, rfl⟩
            exact r_i C E dM_type_86 (by first | decide | (rw [hy, ht8, apM_len]; show x.1 1 + tcn e 8 < 4294967296; omega)) (Or.inr (Or.inl ⟨htt, h78, sS_sS _ _ _ _, rfl⟩))
        · skip
          have htf := tkN_f h65
          refine a_iconst (v := 0) C dM_type_68 (by decide) ?_
          exact r_i C E dM_type_69 (by first | decide | (rw [hy, ht8, apM_len]; show x.1 1 + tcn e 8 < 4294967296; omega)) (Or.inl ⟨htf, by rw [show (1 : Nat) - tkN e 8 = 1 by omega], rfl⟩)
      · skip
        obtain ⟨ht8, hsv⟩ := shv_pos h11
        refine a_lloadn C dM_type_14 rfl rfl ?_
        refine a_iload C dM_type_15 rfl ?_
        refine a_lushr C dM_type_17 (by omega) he ?_
        refine a_l2i C dM_type_18 ?_
        refine a_sipush (v := 255) C dM_type_19 (by decide) ?_
        refine a_iand C dM_type_22 ?_
        have hb : e / 2 ^ shv t &&& 255 = byt e t := by rw [hsv]; rfl
        rw [hb]
        refine ist_6 C dM_type_23 (by omega) rfl ?_
        have JN33 : ∀ a : Nat, a = tcn e (t + 1) → WA K (WM ad cI cD cZ x) [some (.ref (ad 0)), some (.long (lN e)), none, some (.int (nI a)), some (.int (nI (tkN e t))), some (.int (nI (shv t))), some (.int (nI (byt e t)))] 33 [] := by
          intro a ha
          have JN53 : ∀ f : Nat, f = tkN e (t + 1) → WA K (WM ad cI cD cZ x) [some (.ref (ad 0)), some (.long (lN e)), none, some (.int (nI a)), some (.int (nI f)), some (.int (nI (shv t))), some (.int (nI (byt e t)))] 53 [] := by
            intro f hf
            refine inc_5 C dM_type_53 rfl (shv_inc t ht8) (by omega) rfl ?_
            refine a_goto (tgt := 9) C dM_type_56 (by decide) ?_
            rw [ha, hf]
            exact ih9 (t + 1) _ (by omega) (by omega)
          refine a_iload C dM_type_33 rfl ?_
          refine a_ifeq (tgt := 53) C dM_type_35 (by decide) (by omega) (fun h35 => ?_) (fun h35 => ?_)
          · skip
            exact JN53 _ (tkN_0 h35)
          · skip
            refine a_iload C dM_type_38 rfl ?_
            refine a_bipush (v := 33) C dM_type_40 (by decide) ?_
            refine a_bipush (v := 126) C dM_type_42 (by decide) ?_
            refine sI3 C (c_M_in (kl K) (kD K) ad cI cD cZ cJ _ _ _ _ (by omega) (by decide) (by decide)) wM_M_79 wSt_M_in wIni_M wC_M_in hd_M_in (by decide) (by decide) (Nat.le_of_ble_eq_true rfl) dM_type_44 ?_
            rintro n44 u44 b44 ⟨rfl, rfl⟩
            refine a_ifne (tgt := 53) C dM_type_47 (by decide) i01_lt (fun h47 => ?_) (fun h47 => ?_)
            · skip
              exact JN53 _ (tkN_1 ⟨(i01_ne h47).1, (i01_ne h47).2.1⟩)
            · skip
              refine a_iconst (v := 0) C dM_type_50 (by decide) ?_
              refine ist_4 C dM_type_51 (by omega) rfl ?_
              exact JN53 _ (tkN_2 h35 (fun q => i01_eq h47 ⟨q.1, q.2, by decide⟩))
        refine a_iload C dM_type_25 rfl ?_
        refine a_ifeq (tgt := 33) C dM_type_27 (by decide) (by omega) (fun h27 => ?_) (fun h27 => ?_)
        · skip
          exact JN33 _ (tcn_0 h27).symm
        · skip
          refine inc_3 C dM_type_30 rfl (inc_up (c := 1) (by decide)) (by omega) rfl ?_
          exact JN33 _ (tcn_1 h27).symm
  exact LP9 _ 0 none (Nat.lt_succ_self _) (Nat.zero_le _)
set_option maxHeartbeats 4000000 in
set_option maxRecDepth 100000 in
theorem c_M_rule (lc : Launch) (D : va_G) (ad : Nat → Nat) (cI cD cZ cJ : ClassId) (x : ST) (w : UInt64) (hw : WF x) (hN : x.1 1 ≤ 14) (hch : ∀ q, q < x.1 1 → 33 ≤ x.2.1 1 q ∧ x.2.1 1 q ≤ 126) (hg : GOk (gM x)) : CI lc D (ty4 cI cD cZ cJ) (WM ad cI cD cZ) yM_rule bM_rule 6 (some .int) 3 [.ref (ad 0), .double w] x (fun rr u => (rokB w = false ∧ u = sS x 5 1 ∧ rr = 0) ∨ (rokB w = true ∧ 16 ≤ x.1 0 ∧ MST x u 2 ∧ rr = 0) ∨ (rokB w = true ∧ x.1 0 < 16 ∧ wpf (x.1 1) (x.2.1 1) ≠ 4294967295 ∧ SC3 x u (wpf (x.1 1) (x.2.1 1)) 1 ∧ rr = 0) ∨ (rokB w = true ∧ x.1 0 < 16 ∧ wpf (x.1 1) (x.2.1 1) = 4294967295 ∧ wlM x = true ∧ MST x u 3 ∧ rr = 0) ∨ (rokB w = true ∧ x.1 0 < 16 ∧ wpf (x.1 1) (x.2.1 1) = 4294967295 ∧ wlM x = false ∧ ADm x w u ∧ rr = x.1 0)) := by
  refine CI_of [some (.ref (ad 0)), some (.double w), none, none, none, none] (by decide) (Nat.le_of_ble_eq_true rfl) rfl ?_
  intro K C E hkl hkD hkn
  have hR : x.1 0 ≤ 16 := hg.1
  have JN22 : ∀ b : Nat, b = rkN w → WA K (WM ad cI cD cZ x) [some (.ref (ad 0)), some (.double w), none, none, none, none] 22 [.int (nI b), .ref (ad 0)] := by
    rintro b rfl
    refine vI1 C (c_M_bad (kl K) (kD K) ad cI cD cZ cJ _ _ (rkN_le w)) wM_M_83 wI_M_bad wSel_M_bad wIni_M wC_M_bad hd_M_bad (by decide) (by decide) (q0 := 0) rfl rfl (Nat.le_of_ble_eq_true rfl) dM_rule_22 ?_
    rintro n22 u22 b22 ⟨rfl, rfl⟩
    refine a_ifeq (tgt := 30) C dM_rule_25 (by decide) (by omega) (fun h25 => ?_) (fun h25 => ?_)
    · skip
      have hrt := rkN_t h25
      have hz0 : (1 : Nat) - rkN w = 0 := by omega
      refine a_aloadn C dM_rule_30 rfl rfl ?_
      refine g_M_87 C dM_rule_31 ?_
      rw [show (sS x 5 (1 - rkN w)).1 1 = x.1 1 from rfl]
      refine istn_3 C dM_rule_34 (by omega) rfl ?_
      refine a_aloadn C dM_rule_35 rfl rfl ?_
      refine a_iconst (v := 0) C dM_rule_36 (by decide) ?_
      refine p_M_87 C dM_rule_37 ?_
      refine a_aloadn C dM_rule_40 rfl rfl ?_
      refine g_M_101 C dM_rule_41 ?_
      rw [show (sS (sS x 5 (1 - rkN w)) 1 0).1 0 = x.1 0 from rfl]
      refine a_bipush (v := 16) C dM_rule_44 (by decide) ?_
      refine a_cne (tgt := 55) C dM_rule_46 (by decide) (by omega) (by omega) (fun h46 => ?_) (fun h46 => ?_)
      · skip
        have hR16 : x.1 0 < 16 := by omega
        refine a_aloadn C dM_rule_55 rfl rfl ?_
        refine a_iloadn C dM_rule_56 rfl rfl ?_
        refine p_M_87 C dM_rule_57 ?_
        refine a_aloadn C dM_rule_60 rfl rfl ?_
        refine vI0 C (c_M_wrong (kl K) (kD K) ad cI cD cZ cJ _ (((hw.sS 5 (by omega)).sS 1 (by decide)).sS 1 (hw.2 1)) hN) wM_M_112 wI_M_wrong wSel_M_wrong wIni_M wC_M_wrong hd_M_wrong (by decide) (by decide) (q0 := 0) rfl rfl (Nat.le_of_ble_eq_true rfl) dM_rule_61 ?_
        rintro n61 u61 b61 ⟨rfl, rfl⟩
        rw [show wpf ((sS (sS (sS x 5 (1 - rkN w)) 1 0) 1 (x.1 1)).1 1) ((sS (sS (sS x 5 (1 - rkN w)) 1 0) 1 (x.1 1)).2.1 1) = wpf (x.1 1) (x.2.1 1) from rfl] at b61 ⊢
        have wp32 : wpf (x.1 1) (x.2.1 1) < 4294967296 := b61
        have wpl := wpf_neg (c := x.2.1 1) hN
        refine ist_4 C dM_rule_64 (by omega) rfl ?_
        refine a_aloadn C dM_rule_66 rfl rfl ?_
        refine a_iconst (v := 0) C dM_rule_67 (by decide) ?_
        refine p_M_87 C dM_rule_68 ?_
        have hwx : WF (sS (sS (sS (sS x 5 (1 - rkN w)) 1 0) 1 (x.1 1)) 1 0) := (((hw.sS 5 (by omega)).sS 1 (by decide)).sS 1 (hw.2 1)).sS 1 (by decide)
        have JN82 : ∀ y : ST, y.2 = x.2 → (∀ k, k ≠ 1 → k ≠ 2 → y.1 k = (sS x 5 (1 - rkN w)).1 k) → y.1 1 = 0 → y.1 2 = (if wpf (x.1 1) (x.2.1 1) = 4294967295 then x.1 2 else wpf (x.1 1) (x.2.1 1)) → WF y → WA K (WM ad cI cD cZ y) [some (.ref (ad 0)), some (.double w), none, some (.int (nI (x.1 1))), some (.int (nI (wpf (x.1 1) (x.2.1 1)))), none] 82 [] := by
          intro y y1 y2 y3 y4 hwy
          have JN93 : ∀ b : Nat, b = (if wpf (x.1 1) (x.2.1 1) = 4294967295 then 1 else 0) → WA K (WM ad cI cD cZ y) [some (.ref (ad 0)), some (.double w), none, some (.int (nI (x.1 1))), some (.int (nI (wpf (x.1 1) (x.2.1 1)))), none] 93 [.int (nI b), .ref (ad 0)] := by
            rintro b rfl
            refine vI1 C (c_M_bad (kl K) (kD K) ad cI cD cZ cJ _ _ i01_le) wM_M_83 wI_M_bad wSel_M_bad wIni_M wC_M_bad hd_M_bad (by decide) (by decide) (q0 := 0) rfl rfl (Nat.le_of_ble_eq_true rfl) dM_rule_93 ?_
            rintro n93 u93 b93 ⟨rfl, rfl⟩
            have hb1 : (if wpf (x.1 1) (x.2.1 1) = 4294967295 then 1 else 0 : Nat) ≤ 1 := i01_le
            refine a_ifeq (tgt := 101) C dM_rule_96 (by decide) (by omega) (fun h96 => ?_) (fun h96 => ?_)
            · skip
              have hwn : wpf (x.1 1) (x.2.1 1) = 4294967295 := by by_cases q : wpf (x.1 1) (x.2.1 1) = 4294967295; exact q; rw [if_neg q] at h96; omega
              rw [if_pos hwn, Nat.sub_self]
              have hw3 := wpf_3 hwn (by omega)
              have hc0 : 65 ≤ x.2.1 1 0 ∧ x.2.1 1 0 ≤ 70 := by have q := hw3.2 0 (by omega); rw [fit0] at q; exact of_decide_eq_true q
              have hy1 : (sS y 5 0).2.1 = x.2.1 := by show y.2.1 = _; rw [y1]
              have hgz : gM (sS y 5 0) = gM x := gM_same (by show y.1 0 = _; rw [y2 0 (by decide) (by decide)]; rfl) (by show y.2.2.1 9 = _; rw [y1]) (fun k _ => by rw [hy1])
              have hy0 : (sS y 5 0).1 0 = x.1 0 := by show y.1 0 = _; rw [y2 0 (by decide) (by decide)]; rfl
              have hwz : WF (sS y 5 0) := hwy.sS 5 (by decide)
              have JN153 : wlM x = false → WA K (WM ad cI cD cZ (sS y 5 0)) [some (.ref (ad 0)), some (.double w), none, some (.int (nI (x.1 1))), some (.int (nI (wpf (x.1 1) (x.2.1 1)))), none] 153 [] := by
                intro hwl
                refine a_aloadn C dM_rule_153 rfl rfl ?_
                refine g_M_16 C dM_rule_154 ?_
                refine a_aloadn C dM_rule_157 rfl rfl ?_
                refine g_M_101 C dM_rule_158 ?_
                rw [hy0]
                refine a_aloadn C dM_rule_161 rfl rfl ?_
                refine g_M_7 C dM_rule_162 ?_
                refine a_iconst (v := 0) C dM_rule_165 (by decide) ?_
                refine ldM_1 C dM_rule_166 (by omega) ?_
                rw [hy1]
                refine a_bipush (v := 65) C dM_rule_167 (by decide) ?_
                refine a_isub C dM_rule_169 hc0.1 ?_
                refine stM_3 C dM_rule_170 (by omega) ?_
                refine a_aloadn C dM_rule_171 rfl rfl ?_
                refine g_M_19 C dM_rule_172 ?_
                refine a_aloadn C dM_rule_175 rfl rfl ?_
                refine g_M_101 C dM_rule_176 ?_
                rw [show (sA (sS y 5 0) 3 (x.1 0) (x.2.1 1 0 - 65)).1 0 = x.1 0 from hy0]
                refine a_iloadn C dM_rule_179 rfl rfl ?_
                refine a_iconst (v := 2) C dM_rule_180 (by decide) ?_
                refine a_isub C dM_rule_181 (by omega) ?_
                refine stM_4 C dM_rule_182 (by omega) ?_
                have hwq : WF (sA (sA (sS y 5 0) 3 (x.1 0) (x.2.1 1 0 - 65)) 4 (x.1 0) (x.1 1 - 2)) := (hwz.sA _ _ (by omega)).sA _ _ (by omega)
                refine a_iconst (v := 0) C dM_rule_183 (by decide) ?_
                refine ist_5 C dM_rule_184 (by omega) rfl ?_
                have LP186 : ∀ (N0 : Nat) (q : Nat) (z : ST), 14 - q < N0 → (q ≤ x.1 1 - 2) → (Only [5] (sA (sA (sS y 5 0) 3 (x.1 0) (x.2.1 1 0 - 65)) 4 (x.1 0) (x.1 1 - 2)) z) → (WF z) → (∀ i, z.2.1 5 i = if x.1 0 * 4 ≤ i ∧ i < x.1 0 * 4 + q then x.2.1 1 (i - x.1 0 * 4 + 2) else x.2.1 5 i) → WA K (WM ad cI cD cZ z) [some (.ref (ad 0)), some (.double w), none, some (.int (nI (x.1 1))), some (.int (nI (wpf (x.1 1) (x.2.1 1)))), some (.int (nI q))] 186 [] := by
                  intro N0
                  induction N0 with
                  | zero => intro q z hm; exact absurd hm (Nat.not_lt_zero _)
                  | succ N0 ih186 =>
                    intro q z hm186 hq ho hwz2 h5
                    have hw6 := wp6 hw3.2
                    refine a_iload C dM_rule_186 rfl ?_
                    refine a_iloadn C dM_rule_188 rfl rfl ?_
                    refine a_iconst (v := 2) C dM_rule_189 (by decide) ?_
                    refine a_isub C dM_rule_190 (by omega) ?_
                    refine a_cge (tgt := 223) C dM_rule_191 (by decide) (by omega) (by omega) (fun h191 => ?_) (fun h191 => ?_)
                    · skip
                      have hz0' : z.1 0 = x.1 0 := by rw [ho.1]; exact hy0
                      refine a_aloadn C dM_rule_223 rfl rfl ?_
                      refine g_M_34 C dM_rule_224 ?_
                      refine a_aloadn C dM_rule_227 rfl rfl ?_
                      refine g_M_101 C dM_rule_228 ?_
                      rw [hz0']
                      refine a_dloadn C dM_rule_231 rfl rfl ?_
                      refine stM_9 C dM_rule_232 (by omega) ?_
                      refine a_aloadn C dM_rule_233 rfl rfl ?_
                      refine g_M_25 C dM_rule_234 ?_
                      refine a_aloadn C dM_rule_237 rfl rfl ?_
                      refine g_M_101 C dM_rule_238 ?_
                      rw [show (sD z 9 (x.1 0) w).1 0 = x.1 0 from hz0']
                      refine a_iconst (v := 0) C dM_rule_241 (by decide) ?_
                      refine stM_6 C dM_rule_242 (by omega) ?_
                      refine a_aloadn C dM_rule_243 rfl rfl ?_
                      refine a_dup C dM_rule_244 rfl ?_
                      refine g_M_101 C dM_rule_245 ?_
                      rw [show (sA (sD z 9 (x.1 0) w) 6 (x.1 0) 0).1 0 = x.1 0 from hz0']
                      refine a_iconst (v := 1) C dM_rule_248 (by decide) ?_
                      refine a_iadd C dM_rule_249 ?_
                      refine p_M_101 C dM_rule_250 ?_
                      refine a_aloadn C dM_rule_253 rfl rfl ?_
                      refine vV0 C (c_M_change (kl K) (kD K) ad cI cD cZ cJ _ ) wM_M_120 wI_M_change wSel_M_change wIni_M wC_M_change hd_M_change (by decide) (by decide) (q0 := 0) rfl rfl (Nat.le_of_ble_eq_true rfl) dM_rule_254 ?_
                      rintro u254 rfl
                      refine a_aloadn C dM_rule_257 rfl rfl ?_
                      refine g_M_101 C dM_rule_258 ?_
                      rw [show (CHm (sS (sA (sD z 9 (x.1 0) w) 6 (x.1 0) 0) 0 (x.1 0 + 1))).1 0 = x.1 0 + 1 from rfl]
                      refine a_iconst (v := 1) C dM_rule_261 (by decide) ?_
                      refine a_isub C dM_rule_262 (by omega) ?_
                      exact r_i C E dM_rule_263 (by omega) (Or.inr (Or.inr (Or.inr (Or.inr ⟨hrt, hR16, hwn, hwl, ad_ret (x0 := sS y 5 0) y1 (mst_c hz0 y2 y3 (y4.trans (if_pos hwn))) ho hwz2 h5 (by omega) hR16, by omega⟩))))
                    · skip
                      have hz0' : z.1 0 = x.1 0 := by rw [ho.1]; exact hy0
                      have hz1 : z.2.1 1 = x.2.1 1 := (ho.2.2 1 (by decide)).trans (by show (sS y 5 0).2.1 1 = _; rw [hy1])
                      refine a_aloadn C dM_rule_194 rfl rfl ?_
                      refine g_M_22 C dM_rule_195 ?_
                      refine a_aloadn C dM_rule_198 rfl rfl ?_
                      refine g_M_101 C dM_rule_199 ?_
                      rw [hz0']
                      refine a_iconst (v := 4) C dM_rule_202 (by decide) ?_
                      refine a_imul C dM_rule_203 ?_
                      refine a_iload C dM_rule_204 rfl ?_
                      refine a_iadd C dM_rule_206 ?_
                      refine a_aloadn C dM_rule_207 rfl rfl ?_
                      refine g_M_7 C dM_rule_208 ?_
                      refine a_iload C dM_rule_211 rfl ?_
                      refine a_iconst (v := 2) C dM_rule_213 (by decide) ?_
                      refine a_iadd C dM_rule_214 ?_
                      refine ldM_1 C dM_rule_215 (by omega) ?_
                      rw [hz1]
                      have hcq := hch (q + 2) (by omega)
                      refine stM_5 C dM_rule_216 (by omega) ?_
                      refine inc_5 C dM_rule_217 rfl (inc_up (c := 1) (by decide)) (by omega) rfl ?_
                      refine a_goto (tgt := 186) C dM_rule_220 (by decide) ?_
                      exact ih186 (q + 1) _ (by omega) (by omega) (ho.set (by decide) _ _) (hwz2.sA _ _ (by omega)) (ad5 h5)
                exact LP186 _ 0 _ (Nat.lt_succ_self _) (Nat.zero_le _) (Only.rf _ _) hwq (fun i => by rw [if_neg (by omega)]; show (sS y 5 0).2.1 5 i = _; rw [hy1])
              refine a_iloadn C dM_rule_101 rfl rfl ?_
              refine a_iconst (v := 3) C dM_rule_102 (by decide) ?_
              refine a_cne (tgt := 153) C dM_rule_103 (by decide) (by omega) (by omega) (fun h103 => ?_) (fun h103 => ?_)
              · skip
                exact JN153 (by unfold wlM; rw [decide_eq_false h103]; rfl)
              · skip
                refine a_aloadn C dM_rule_106 rfl rfl ?_
                refine g_M_7 C dM_rule_107 ?_
                refine a_iconst (v := 2) C dM_rule_110 (by decide) ?_
                refine ldM_1 C dM_rule_111 (by omega) ?_
                rw [hy1]
                refine a_bipush (v := 65) C dM_rule_112 (by decide) ?_
                refine a_bipush (v := 70) C dM_rule_114 (by decide) ?_
                refine sI3 C (c_M_in (kl K) (kD K) ad cI cD cZ cJ _ _ _ _ (hw.1 1 2) (by decide) (by decide)) wM_M_79 wSt_M_in wIni_M wC_M_in hd_M_in (by decide) (by decide) (Nat.le_of_ble_eq_true rfl) dM_rule_116 ?_
                rintro n116 u116 b116 ⟨rfl, rfl⟩
                refine a_ifeq (tgt := 153) C dM_rule_119 (by decide) i01_lt (fun h119 => ?_) (fun h119 => ?_)
                · skip
                  exact JN153 (by unfold wlM; rw [ntM_none (fun q => i01_eq h119 ⟨q.1, q.2, by decide⟩)]; simp)
                · skip
                  have hc2 : 65 ≤ x.2.1 1 2 ∧ x.2.1 1 2 ≤ 70 := ⟨(i01_ne h119).1, (i01_ne h119).2.1⟩
                  refine a_aloadn C dM_rule_122 rfl rfl ?_
                  refine a_aloadn C dM_rule_123 rfl rfl ?_
                  refine g_M_7 C dM_rule_124 ?_
                  refine a_iconst (v := 2) C dM_rule_127 (by decide) ?_
                  refine ldM_1 C dM_rule_128 (by omega) ?_
                  rw [hy1]
                  refine a_bipush (v := 65) C dM_rule_129 (by decide) ?_
                  refine a_isub C dM_rule_131 hc2.1 ?_
                  refine a_aloadn C dM_rule_132 rfl rfl ?_
                  refine g_M_7 C dM_rule_133 ?_
                  refine a_iconst (v := 0) C dM_rule_136 (by decide) ?_
                  refine ldM_1 C dM_rule_137 (by omega) ?_
                  rw [hy1]
                  refine a_bipush (v := 65) C dM_rule_138 (by decide) ?_
                  refine a_isub C dM_rule_140 hc0.1 ?_
                  refine vI2 C (c_M_leads (kl K) (kD K) ad cI cD cZ cJ _ _ _ (by omega) (by omega) hwz (by rw [hgz]; exact hg)) wM_M_116 wI_M_leads wSel_M_leads wIni_M wC_M_leads hd_M_leads (by decide) (by decide) (q0 := 0) rfl rfl (Nat.le_of_ble_eq_true rfl) dM_rule_141 ?_
                  rintro n141 u141 b141 ⟨rfl, rfl⟩
                  refine a_ifeq (tgt := 153) C dM_rule_144 (by decide) i01_lt (fun h144 => ?_) (fun h144 => ?_)
                  · skip
                    exact JN153 (by unfold wlM; rw [ntM_some hc2]; simp only []; rw [show (rch (gM x) (x.2.1 1 2 - 65)).testBit (x.2.1 1 0 - 65) = false by rw [← hgz]; exact i01_f h144]; simp)
                  · skip
                    refine a_aloadn C dM_rule_147 rfl rfl ?_
                    refine a_iconst (v := 3) C dM_rule_148 (by decide) ?_
                    refine vI1 C (c_M_fail (kl K) (kD K) ad cI cD cZ cJ _ _) wM_M_90 wI_M_fail wSel_M_fail wIni_M wC_M_fail hd_M_fail (by decide) (by decide) (q0 := 0) rfl rfl (Nat.le_of_ble_eq_true rfl) dM_rule_149 ?_
                    rintro n149 u149 b149 ⟨rfl, rfl⟩
                    exact r_i C E dM_rule_152 (by omega) (Or.inr (Or.inr (Or.inr (Or.inl ⟨hrt, hR16, hwn, wlm_t h103 hc2 (by rw [← hgz]; exact i01_t h144), mst_b hz0 y1 y2 y3 (y4.trans (if_pos hwn)), rfl⟩))))
            · skip
              have hwn : wpf (x.1 1) (x.2.1 1) ≠ 4294967295 := fun q => by rw [if_pos q] at h96; omega
              rw [if_neg hwn]
              refine a_iconst (v := 0) C dM_rule_99 (by decide) ?_
              exact r_i C E dM_rule_100 (by omega) (Or.inr (Or.inr (Or.inl ⟨hrt, hR16, hwn, sc3_b hz0 y1 y2 y3 (y4.trans (if_neg hwn)), rfl⟩)))
          refine a_aloadn C dM_rule_82 rfl rfl ?_
          refine a_iload C dM_rule_83 rfl ?_
          refine a_ifge (tgt := 92) C dM_rule_85 (by decide) wp32 (fun h85 => ?_) (fun h85 => ?_)
          · skip
            refine a_iconst (v := 0) C dM_rule_92 (by decide) ?_
            exact JN93 _ (by rw [if_neg (fun q => by have := wpl.mpr q; omega)])
          · skip
            refine a_iconst (v := 1) C dM_rule_88 (by decide) ?_
            refine a_goto (tgt := 93) C dM_rule_89 (by decide) ?_
            exact JN93 _ (by rw [if_pos (wpl.mp h85)])
        refine a_iload C dM_rule_71 rfl ?_
        refine a_iflt (tgt := 82) C dM_rule_73 (by decide) wp32 (fun h73 => ?_) (fun h73 => ?_)
        · skip
          exact JN82 _ rfl (fun k h1 h2 => by simp only [sS_1, if_neg h1]) rfl (by rw [if_pos (wpl.mp h73)]; rfl) hwx
        · skip
          refine a_aloadn C dM_rule_76 rfl rfl ?_
          refine a_iload C dM_rule_77 rfl ?_
          refine p_M_72 C dM_rule_79 ?_
          exact JN82 _ rfl (fun k h1 h2 => by simp only [sS_1, if_neg h1, if_neg h2]) rfl (by rw [if_neg (fun q => by have := wpl.mpr q; omega)]; rfl) (hwx.sS 2 wp32)
      · skip
        refine a_aloadn C dM_rule_49 rfl rfl ?_
        refine a_iconst (v := 2) C dM_rule_50 (by decide) ?_
        refine vI1 C (c_M_fail (kl K) (kD K) ad cI cD cZ cJ _ _) wM_M_90 wI_M_fail wSel_M_fail wIni_M wC_M_fail hd_M_fail (by decide) (by decide) (q0 := 0) rfl rfl (Nat.le_of_ble_eq_true rfl) dM_rule_51 ?_
        rintro n51 u51 b51 ⟨rfl, rfl⟩
        exact r_i C E dM_rule_54 (by omega) (Or.inr (Or.inl ⟨hrt, by omega, mst_a, rfl⟩))
    · skip
      have hrf := rkN_f h25
      refine a_iconst (v := 0) C dM_rule_28 (by decide) ?_
      exact r_i C E dM_rule_29 (by omega) (Or.inl ⟨hrf, by rw [show (1 : Nat) - rkN w = 1 by omega], rfl⟩)
  refine a_aloadn C dM_rule_0 rfl rfl ?_
  refine a_dloadn C dM_rule_1 rfl rfl ?_
  refine a_ldc2d C wK_M_108 dM_rule_2 ?_
  refine a_dcmp C dM_rule_5 (fun h5 => ?_) (fun h5 => ?_) (fun h5 => ?_) (fun h5 => ?_)
  · skip
    refine a_iflt (tgt := 21) C dM_rule_6 (by decide) (by decide) (fun _ => ?_) (fun q => absurd q (by decide))
    refine a_iconst (v := 0) C dM_rule_21 (by decide) ?_
    exact JN22 _ (by unfold rkN rokB; first | (rw [h5, h13]; rfl) | (rw [h5]; rfl))
  · skip
    refine a_iflt (tgt := 21) C dM_rule_6 (by decide) (by decide) (fun q => absurd q (by decide)) (fun _ => ?_)
    refine a_dloadn C dM_rule_9 rfl rfl ?_
    refine a_ldc2d C wK_M_110 dM_rule_10 ?_
    refine a_dcmp C dM_rule_13 (fun h13 => ?_) (fun h13 => ?_) (fun h13 => ?_) (fun h13 => ?_)
    · skip
      refine a_ifgt (tgt := 21) C dM_rule_14 (by decide) (by decide) (fun q q2 => absurd (And.intro q q2) (by decide)) (fun _ => ?_)
      refine a_iconst (v := 1) C dM_rule_17 (by decide) ?_
      refine a_goto (tgt := 22) C dM_rule_18 (by decide) ?_
      exact JN22 _ (by unfold rkN rokB; first | (rw [h5, h13]; rfl) | (rw [h5]; rfl))
    · skip
      refine a_ifgt (tgt := 21) C dM_rule_14 (by decide) (by decide) (fun q q2 => absurd (And.intro q q2) (by decide)) (fun _ => ?_)
      refine a_iconst (v := 1) C dM_rule_17 (by decide) ?_
      refine a_goto (tgt := 22) C dM_rule_18 (by decide) ?_
      exact JN22 _ (by unfold rkN rokB; first | (rw [h5, h13]; rfl) | (rw [h5]; rfl))
    · skip
      refine a_ifgt (tgt := 21) C dM_rule_14 (by decide) (by decide) (fun _ _ => ?_) (fun q => absurd q (by decide))
      refine a_iconst (v := 0) C dM_rule_21 (by decide) ?_
      exact JN22 _ (by unfold rkN rokB; first | (rw [h5, h13]; rfl) | (rw [h5]; rfl))
    · skip
      have hnan : nanv .g = 1 := rfl
      rw [hnan]
      refine a_ifgt (tgt := 21) C dM_rule_14 (by decide) (by decide) (fun _ _ => ?_) (fun q => absurd q (by decide))
      refine a_iconst (v := 0) C dM_rule_21 (by decide) ?_
      exact JN22 _ (by unfold rkN rokB; first | (rw [h5, h13]; rfl) | (rw [h5]; rfl))
  · skip
    refine a_iflt (tgt := 21) C dM_rule_6 (by decide) (by decide) (fun q => absurd q (by decide)) (fun _ => ?_)
    refine a_dloadn C dM_rule_9 rfl rfl ?_
    refine a_ldc2d C wK_M_110 dM_rule_10 ?_
    refine a_dcmp C dM_rule_13 (fun h13 => ?_) (fun h13 => ?_) (fun h13 => ?_) (fun h13 => ?_)
    · skip
      refine a_ifgt (tgt := 21) C dM_rule_14 (by decide) (by decide) (fun q q2 => absurd (And.intro q q2) (by decide)) (fun _ => ?_)
      refine a_iconst (v := 1) C dM_rule_17 (by decide) ?_
      refine a_goto (tgt := 22) C dM_rule_18 (by decide) ?_
      exact JN22 _ (by unfold rkN rokB; first | (rw [h5, h13]; rfl) | (rw [h5]; rfl))
    · skip
      refine a_ifgt (tgt := 21) C dM_rule_14 (by decide) (by decide) (fun q q2 => absurd (And.intro q q2) (by decide)) (fun _ => ?_)
      refine a_iconst (v := 1) C dM_rule_17 (by decide) ?_
      refine a_goto (tgt := 22) C dM_rule_18 (by decide) ?_
      exact JN22 _ (by unfold rkN rokB; first | (rw [h5, h13]; rfl) | (rw [h5]; rfl))
    · skip
      refine a_ifgt (tgt := 21) C dM_rule_14 (by decide) (by decide) (fun _ _ => ?_) (fun q => absurd q (by decide))
      refine a_iconst (v := 0) C dM_rule_21 (by decide) ?_
      exact JN22 _ (by unfold rkN rokB; first | (rw [h5, h13]; rfl) | (rw [h5]; rfl))
    · skip
      have hnan : nanv .g = 1 := rfl
      rw [hnan]
      refine a_ifgt (tgt := 21) C dM_rule_14 (by decide) (by decide) (fun _ _ => ?_) (fun q => absurd q (by decide))
      refine a_iconst (v := 0) C dM_rule_21 (by decide) ?_
      exact JN22 _ (by unfold rkN rokB; first | (rw [h5, h13]; rfl) | (rw [h5]; rfl))
  · skip
    have hnan : nanv .l = 4294967295 := rfl
    rw [hnan]
    refine a_iflt (tgt := 21) C dM_rule_6 (by decide) (by decide) (fun _ => ?_) (fun q => absurd q (by decide))
    refine a_iconst (v := 0) C dM_rule_21 (by decide) ?_
    exact JN22 _ (by unfold rkN rokB; first | (rw [h5, h13]; rfl) | (rw [h5]; rfl))
set_option maxHeartbeats 4000000 in
set_option maxRecDepth 100000 in
theorem c_M_undo (lc : Launch) (D : va_G) (ad : Nat → Nat) (cI cD cZ cJ : ClassId) (x : ST) (hw : WF x) (hR : x.1 0 ≤ 16) : CV lc D (ty4 cI cD cZ cJ) (WM ad cI cD cZ) yM_undo bM_undo 2 none 1 [.ref (ad 0)] x (fun u => (x.1 0 = 0 ∧ u = sS x 5 1) ∨ (x.1 0 ≠ 0 ∧ UNm x u)) := by
  refine CV_of [some (.ref (ad 0)), none] (by decide) (Nat.le_of_ble_eq_true rfl) rfl ?_
  intro K C E hkl hkD hkn
  refine a_aloadn C dM_undo_0 rfl rfl ?_
  refine a_aloadn C dM_undo_1 rfl rfl ?_
  refine g_M_101 C dM_undo_2 ?_
  refine a_ifne (tgt := 12) C dM_undo_5 (by decide) (by omega) (fun h5 => ?_) (fun h5 => ?_)
  · skip
    refine a_iconst (v := 0) C dM_undo_12 (by decide) ?_
    refine p_M_76 C dM_undo_13 ?_
    refine a_aloadn C dM_undo_16 rfl rfl ?_
    refine g_M_101 C dM_undo_17 ?_
    first | rw [show (sS x 5 1).1 0 = x.1 0 from rfl] | rw [show (sS x 5 0).1 0 = x.1 0 from rfl]
    refine a_ifne (tgt := 24) C dM_undo_20 (by decide) (by omega) (fun h20 => ?_) (fun h20 => ?_)
    · skip
      have hne : x.1 0 ≠ 0 := h20
      refine a_aloadn C dM_undo_24 rfl rfl ?_
      refine a_dup C dM_undo_25 rfl ?_
      refine g_M_101 C dM_undo_26 ?_
      rw [show (sS x 5 0).1 0 = x.1 0 from rfl]
      refine a_iconst (v := 1) C dM_undo_29 (by decide) ?_
      refine a_isub C dM_undo_30 (by omega) ?_
      refine p_M_101 C dM_undo_31 ?_
      refine a_iconst (v := 0) C dM_undo_34 (by decide) ?_
      refine istn_1 C dM_undo_35 (by omega) rfl ?_
      have LP36 : ∀ (N0 : Nat) (i : Nat) (y : ST), 16 - i < N0 → (i ≤ 16) → (Only [11] (sS (sS x 5 0) 0 (x.1 0 - 1)) y) → (WF y) → (∀ q, q < 256 → y.2.1 11 q = UNb x i (x.1 0 - 1) q) → WA K (WM ad cI cD cZ y) [some (.ref (ad 0)), some (.int (nI i))] 36 [] := by
        intro N0
        induction N0 with
        | zero => intro i y hm; exact absurd hm (Nat.not_lt_zero _)
        | succ N0 ih36 =>
          intro i y hm36 hi ho hwy h11
          refine a_iloadn C dM_undo_36 rfl rfl ?_
          refine a_bipush (v := 16) C dM_undo_37 (by decide) ?_
          refine a_cge (tgt := 78) C dM_undo_39 (by decide) (by omega) (by omega) (fun h39 => ?_) (fun h39 => ?_)
          · skip
            refine a_aloadn C dM_undo_78 rfl rfl ?_
            refine vV0 C (c_M_change (kl K) (kD K) ad cI cD cZ cJ _ ) wM_M_120 wI_M_change wSel_M_change wIni_M wC_M_change hd_M_change (by decide) (by decide) (q0 := 0) rfl rfl (Nat.le_of_ble_eq_true rfl) dM_undo_79 ?_
            rintro u79 rfl
            exact r_v C E dM_undo_82 (Or.inr ⟨hne, un_ret ho hwy (by rw [← show i = 16 by omega]; exact h11)⟩)
          · skip
            have hy0 : y.1 0 = x.1 0 - 1 := by rw [ho.1]; rfl
            refine a_aloadn C dM_undo_42 rfl rfl ?_
            refine g_M_41 C dM_undo_43 ?_
            refine a_aloadn C dM_undo_46 rfl rfl ?_
            refine g_M_101 C dM_undo_47 ?_
            rw [hy0]
            refine a_bipush (v := 16) C dM_undo_50 (by decide) ?_
            refine a_imul C dM_undo_52 ?_
            refine a_iloadn C dM_undo_53 rfl rfl ?_
            refine a_iadd C dM_undo_54 ?_
            refine a_iconst (v := 0) C dM_undo_55 (by decide) ?_
            refine stM_11 C dM_undo_56 (by omega) (by omega) ?_
            refine a_aloadn C dM_undo_57 rfl rfl ?_
            refine g_M_41 C dM_undo_58 ?_
            refine a_iloadn C dM_undo_61 rfl rfl ?_
            refine a_bipush (v := 16) C dM_undo_62 (by decide) ?_
            refine a_imul C dM_undo_64 ?_
            refine a_aloadn C dM_undo_65 rfl rfl ?_
            refine g_M_101 C dM_undo_66 ?_
            rw [show (sA y 11 ((x.1 0 - 1) * 16 + i) 0).1 0 = x.1 0 - 1 from hy0]
            refine a_iadd C dM_undo_69 ?_
            refine a_iconst (v := 0) C dM_undo_70 (by decide) ?_
            refine stM_11 C dM_undo_71 (by omega) (by omega) ?_
            refine inc_1 C dM_undo_72 rfl (inc_up (c := 1) (by decide)) (by omega) rfl ?_
            refine a_goto (tgt := 36) C dM_undo_75 (by decide) ?_
            exact ih36 (i + 1) _ (by omega) (by omega) ((ho.set (by decide) _ _).set (by decide) _ _) ((hwy.sA _ _ (by decide)).sA _ _ (by decide)) (un_s (by omega) (by omega) h11)
      exact LP36 _ 0 _ (Nat.lt_succ_self _) (Nat.zero_le _) (Only.rf _ _) ((hw.sS 5 (by decide)).sS 0 (by omega)) un_0
    · skip
      exact r_v C E dM_undo_23 (by first | exact Or.inl ⟨h5, rfl⟩ | exact absurd h20 h5)
  · skip
    refine a_iconst (v := 1) C dM_undo_8 (by decide) ?_
    refine a_goto (tgt := 13) C dM_undo_9 (by decide) ?_
    refine p_M_76 C dM_undo_13 ?_
    refine a_aloadn C dM_undo_16 rfl rfl ?_
    refine g_M_101 C dM_undo_17 ?_
    first | rw [show (sS x 5 1).1 0 = x.1 0 from rfl] | rw [show (sS x 5 0).1 0 = x.1 0 from rfl]
    refine a_ifne (tgt := 24) C dM_undo_20 (by decide) (by omega) (fun h20 => ?_) (fun h20 => ?_)
    · skip
      exact absurd h5 h20
    · skip
      exact r_v C E dM_undo_23 (by first | exact Or.inl ⟨h5, rfl⟩ | exact absurd h20 h5)
set_option maxHeartbeats 4000000 in
set_option maxRecDepth 100000 in
theorem c_M_next (lc : Launch) (D : va_G) (ad : Nat → Nat) (cI cD cZ cJ : ClassId) (x : ST) (n j : Nat) (e : Nat → Nat) (hn : 1 ≤ n) (hn4 : n ≤ 4) (hj : j ≤ 14) (he : ∀ k, k < n → x.2.1 7 (k + 1) = e k) (hb : ∀ k, k < n → e k + (n - 1 - k) ≤ j) (hnj : n ≤ j) (hen : e (n - 1) = j) (hw : WF x) : CI lc D (ty4 cI cD cZ cJ) (WM ad cI cD cZ) yM_next bM_next 5 (some .boolean) 0 [.ref (ad 0), .int (nI n), .int (nI j)] x (fun rr u => Only [7, 8] x u ∧ WF u ∧ u.2.1 7 0 = x.2.1 7 0 ∧ u.2.1 8 = x.2.1 8 ∧ ((nx n j e = none ∧ rr = 0) ∨ (∃ e', nx n j e = some e' ∧ rr = 1 ∧ ∀ k, k < n → u.2.1 7 (k + 1) = e' k))) := by
  refine CI_of [some (.ref (ad 0)), some (.int (nI n)), some (.int (nI j)), none, none] (by decide) (Nat.le_of_ble_eq_true rfl) rfl ?_
  intro K C E hkl hkD hkn
  refine a_iloadn C dM_next_0 rfl rfl ?_
  refine a_iconst (v := 1) C dM_next_1 (by decide) ?_
  refine a_isub C dM_next_2 (by omega) ?_
  refine istn_3 C dM_next_3 (by omega) rfl ?_
  have LP4 : ∀ (N0 : Nat) (t : Nat) (o4 : Option Value), t < N0 → (t ≤ n - 1) → (nx n j e = nxk n j e t) → WA K (WM ad cI cD cZ x) [some (.ref (ad 0)), some (.int (nI n)), some (.int (nI j)), some (.int (nI t)), o4] 4 [] := by
    intro N0
    induction N0 with
    | zero => intro t o4 hm; exact absurd hm (Nat.not_lt_zero _)
    | succ N0 ih4 =>
      intro t o4 hm4 ht hx
      refine a_iloadn C dM_next_4 rfl rfl ?_
      refine a_ifle (tgt := 28) C dM_next_5 (by decide) (by omega) (fun h5 => ?_) (fun h5 h5b => ?_)
      · skip
        have ht0 : t = 0 := by omega
        subst ht0
        refine a_iloadn C dM_next_28 rfl rfl ?_
        refine a_ifne (tgt := 34) C dM_next_29 (by decide) (by omega) (fun h29 => ?_) (fun h29 => ?_)
        · skip
          exact absurd rfl h29
        · skip
          refine a_iconst (v := 0) C dM_next_32 (by decide) ?_
          exact r_z C E dM_next_33 (by omega) ⟨Only.rf _ _, hw, rfl, rfl, Or.inl ⟨hx, rfl⟩⟩
      · skip
        obtain ⟨k, rfl⟩ : ∃ k, t = k + 1 := ⟨t - 1, by omega⟩
        have hek := he k (by omega)
        have hbk := hb k (by omega)
        refine a_aloadn C dM_next_8 rfl rfl ?_
        refine g_M_28 C dM_next_9 ?_
        refine a_iloadn C dM_next_12 rfl rfl ?_
        refine ldM_7 C dM_next_13 (by omega) ?_
        rw [hek]
        refine a_iloadn C dM_next_14 rfl rfl ?_
        refine a_iloadn C dM_next_15 rfl rfl ?_
        refine a_isub C dM_next_16 (by omega) ?_
        refine a_iloadn C dM_next_17 rfl rfl ?_
        refine a_iadd C dM_next_18 ?_
        refine a_cne (tgt := 28) C dM_next_19 (by decide) (by omega) (by omega) (fun h19 => ?_) (fun h19 => ?_)
        · skip
          refine a_iloadn C dM_next_28 rfl rfl ?_
          refine a_ifne (tgt := 34) C dM_next_29 (by decide) (by omega) (fun h29 => ?_) (fun h29 => ?_)
          · skip
            refine a_aloadn C dM_next_34 rfl rfl ?_
            refine g_M_28 C dM_next_35 ?_
            refine a_iloadn C dM_next_38 rfl rfl ?_
            refine a_dup2 C dM_next_39 rfl rfl ?_
            refine ldM_7 C dM_next_40 (by omega) ?_
            rw [hek]
            refine a_iconst (v := 1) C dM_next_41 (by decide) ?_
            refine a_iadd C dM_next_42 ?_
            refine stM_7 C dM_next_43 (by omega) ?_
            refine a_iloadn C dM_next_44 rfl rfl ?_
            refine a_iconst (v := 1) C dM_next_45 (by decide) ?_
            refine a_iadd C dM_next_46 ?_
            refine ist_4 C dM_next_47 (by omega) rfl ?_
            have LP49 : ∀ (N0 : Nat) (q : Nat) (y : ST), 5 - q < N0 → (k + 2 ≤ q) → (q ≤ n) → (Only [7] x y) → (WF y) → (∀ c, c < q → y.2.1 7 c = if c < k + 1 then (if c = 0 then y.2.1 7 0 else e (c - 1)) else e k + 1 + (c - (k + 1))) → (y.2.1 7 0 = x.2.1 7 0) → (y.2.1 7 n = e (n - 1)) → WA K (WM ad cI cD cZ y) [some (.ref (ad 0)), some (.int (nI n)), some (.int (nI j)), some (.int (nI (k + 1))), some (.int (nI q))] 49 [] := by
              intro N0
              induction N0 with
              | zero => intro q y hm; exact absurd hm (Nat.not_lt_zero _)
              | succ N0 ih49 =>
                intro q y hm49 hq hqn ho hwy h1 hy0 h2
                refine a_iload C dM_next_49 rfl ?_
                refine a_iloadn C dM_next_51 rfl rfl ?_
                refine a_cge (tgt := 79) C dM_next_52 (by decide) (by omega) (by omega) (fun h52 => ?_) (fun h52 => ?_)
                · skip
                  refine a_iconst (v := 1) C dM_next_79 (by decide) ?_
                  exact r_z C E dM_next_80 (by omega) ⟨ho.mono (by decide), hwy, hy0, by rw [ho.2.2 8 (by decide)], Or.inr ⟨_, by rw [hx]; exact nx_hit (by omega), rfl, nxM_val (show q = n by omega) hq h1 h2⟩⟩
                · skip
                  have hq1 := h1 (q - 1) (by omega)
                  rw [if_neg (by omega)] at hq1
                  refine a_aloadn C dM_next_55 rfl rfl ?_
                  refine g_M_28 C dM_next_56 ?_
                  refine a_iload C dM_next_59 rfl ?_
                  refine a_aloadn C dM_next_61 rfl rfl ?_
                  refine g_M_28 C dM_next_62 ?_
                  refine a_iload C dM_next_65 rfl ?_
                  refine a_iconst (v := 1) C dM_next_67 (by decide) ?_
                  refine a_isub C dM_next_68 (by omega) ?_
                  refine ldM_7 C dM_next_69 (by omega) ?_
                  rw [hq1]
                  refine a_iconst (v := 1) C dM_next_70 (by decide) ?_
                  refine a_iadd C dM_next_71 ?_
                  refine stM_7 C dM_next_72 (by omega) ?_
                  refine inc_4 C dM_next_73 rfl (inc_up (c := 1) (by decide)) (by omega) rfl ?_
                  refine a_goto (tgt := 49) C dM_next_76 (by decide) ?_
                  exact ih49 (q + 1) _ (by omega) (by omega) (by omega) (ho.set (by decide) _ _) (hwy.sA _ _ (by omega)) (nxm_2 h1 hq) ((sA_at _ _ _ (by omega)).trans hy0) ((sA_at _ _ _ (by omega)).trans h2)
            exact LP49 _ (k + 2) _ (Nat.lt_succ_self _) (Nat.le_refl _) (by omega) ((Only.rf _ _).set (by decide) _ _) (hw.sA _ _ (by omega)) (nxm_1 he (by omega)) (sA_at _ _ _ (by omega)) (by rw [sA_at _ _ _ (by omega)]; have z := he (n - 1) (by omega); rwa [show n - 1 + 1 = n by omega] at z)
          · skip
            exact absurd h29 (by omega)
        · skip
          refine inc_3 C dM_next_22 rfl (inc_dn (c := 1) (by omega) (by decide)) (by omega) rfl ?_
          refine a_goto (tgt := 4) C dM_next_25 (by decide) ?_
          exact ih4 k _ (by omega) (by omega) (by rw [hx]; exact nxM_skip (by omega))
  exact LP4 _ (n - 1) none (Nat.lt_succ_self _) (Nat.le_refl _) rfl
set_option maxHeartbeats 4000000 in
set_option maxRecDepth 100000 in
theorem c_M_weightOf (lc : Launch) (D : va_G) (ad : Nat → Nat) (cI cD cZ cJ : ClassId) (x : ST) (r i : Nat) (zl : List Nat) (hr : r < x.1 0) (hw : WF x) (hg : GOk (gM x)) (hu : ∀ q, x.2.1 14 q ≤ 1000000000) (hcut : ∀ k, k ≤ x.2.1 4 r → x.2.1 7 k = bg i zl k) (hb : ∀ k, k < x.2.1 4 r → bg i zl k < lgd zl k ∧ lgd zl k ≤ 14) (hs : ∀ k, k < x.2.1 4 r → ∀ c, nt (gs (gM x) r k) = some c → ∃ s, tpv (gM x) (wM x) (hM x) r k (bg i zl k) (lgd zl k) = some s) (hnn : ∀ k, k < x.2.1 4 r → ∀ z, wtv (gM x) (wM x) (hM x) r k (bg i zl k) (lgd zl k) = some z → vf_n64 (FP.dmul (fw (x.2.2.1 9 r) (wtv (gM x) (wM x) (hM x) r) i zl k) z)) : CD lc D (ty4 cI cD cZ cJ) (WM ad cI cD cZ) yM_weightOf bM_weightOf 7 (some .double) 2 [.ref (ad 0), .int (nI r)] x (fun rr u => x = u ∧ rr = fw (x.2.2.1 9 r) (wtv (gM x) (wM x) (hM x) r) i zl (x.2.1 4 r)) := by
  refine CD_of [some (.ref (ad 0)), some (.int (nI r)), none, none, none, none, none] (by decide) (Nat.le_of_ble_eq_true rfl) rfl ?_
  intro K C E hkl hkD hkn
  have hR : x.1 0 ≤ 16 := hg.1
  have hz := (hg.2 r hr).2.2.1
  have hz : x.2.1 4 r ≤ 4 := hz
  refine a_aloadn C dM_weightOf_0 rfl rfl ?_
  refine g_M_34 C dM_weightOf_1 ?_
  refine a_iloadn C dM_weightOf_4 rfl rfl ?_
  refine ldM_9 C dM_weightOf_5 (by omega) ?_
  refine dstn_2 C dM_weightOf_6 (by omega) rfl ?_
  refine a_iconst (v := 0) C dM_weightOf_7 (by decide) ?_
  refine ist_4 C dM_weightOf_8 (by omega) rfl ?_
  have LP10 : ∀ (N0 : Nat) (k : Nat) (v : UInt64) (o5 o6 : Option Value), 4 - k < N0 → (k ≤ x.2.1 4 r) → (v = fw (x.2.2.1 9 r) (wtv (gM x) (wM x) (hM x) r) i zl k) → WA K (WM ad cI cD cZ x) [some (.ref (ad 0)), some (.int (nI r)), some (.double v), none, some (.int (nI k)), o5, o6] 10 [] := by
    intro N0
    induction N0 with
    | zero => intro k v o5 o6 hm; exact absurd hm (Nat.not_lt_zero _)
    | succ N0 ih10 =>
      intro k v o5 o6 hm10 hk hv
      refine a_iload C dM_weightOf_10 rfl ?_
      refine a_aloadn C dM_weightOf_12 rfl rfl ?_
      refine g_M_19 C dM_weightOf_13 ?_
      refine a_iloadn C dM_weightOf_16 rfl rfl ?_
      refine ldM_4 C dM_weightOf_17 (by omega) ?_
      refine a_cge (tgt := 119) C dM_weightOf_18 (by decide) (by omega) (by omega) (fun h18 => ?_) (fun h18 => ?_)
      · skip
        refine a_dloadn C dM_weightOf_119 rfl rfl ?_
        exact r_d C E dM_weightOf_120 ⟨rfl, by rw [hv, show k = x.2.1 4 r by omega]⟩
      · skip
        have hbk := hb k h18
        have h5l := hw.1 5 (r * 4 + k)
        have hgs : gs (gM x) r k = x.2.1 5 (r * 4 + k) := rfl
        refine a_aloadn C dM_weightOf_21 rfl rfl ?_
        refine g_M_22 C dM_weightOf_22 ?_
        refine a_iloadn C dM_weightOf_25 rfl rfl ?_
        refine a_iconst (v := 4) C dM_weightOf_26 (by decide) ?_
        refine a_imul C dM_weightOf_27 ?_
        refine a_iload C dM_weightOf_28 rfl ?_
        refine a_iadd C dM_weightOf_30 ?_
        refine ldM_5 C dM_weightOf_31 (by omega) ?_
        refine ist_5 C dM_weightOf_32 (by omega) rfl ?_
        refine a_iload C dM_weightOf_34 rfl ?_
        refine a_bipush (v := 65) C dM_weightOf_36 (by decide) ?_
        refine a_bipush (v := 70) C dM_weightOf_38 (by decide) ?_
        refine sI3 C (c_M_in (kl K) (kD K) ad cI cD cZ cJ _ _ _ _ h5l (by decide) (by decide)) wM_M_79 wSt_M_in wIni_M wC_M_in hd_M_in (by decide) (by decide) (Nat.le_of_ble_eq_true rfl) dM_weightOf_40 ?_
        rintro n40 u40 b40 ⟨rfl, rfl⟩
        refine a_ifne (tgt := 49) C dM_weightOf_43 (by decide) i01_lt (fun h43 => ?_) (fun h43 => ?_)
        · skip
          have hcc := i01_ne h43
          have hns : nt (gs (gM x) r k) = some (x.2.1 5 (r * 4 + k) - 65) := ntM_some ⟨hcc.1, hcc.2.1⟩
          obtain ⟨s0, hs0⟩ := hs k h18 _ hns
          have hs1 := hs0
          rw [tpvM hns] at hs1
          have hsl := (tp_some hs1).1
          have hsR : s0 < 16 := Nat.lt_of_lt_of_le hsl hR
          have hwt := wtM_some hs0
          have hfs := fwM_s (w0 := x.2.2.1 9 r) (f := wtv (gM x) (wM x) (hM x) r) (i := i) (l := zl) (k := k) hwt
          have hnan := hnn k h18 _ hwt
          rw [← hv] at hnan hfs
          refine a_aloadn C dM_weightOf_49 rfl rfl ?_
          refine a_iloadn C dM_weightOf_50 rfl rfl ?_
          refine a_iload C dM_weightOf_51 rfl ?_
          refine a_iload C dM_weightOf_53 rfl ?_
          refine a_bipush (v := 65) C dM_weightOf_55 (by decide) ?_
          refine a_isub C dM_weightOf_57 hcc.1 ?_
          refine a_aloadn C dM_weightOf_58 rfl rfl ?_
          refine g_M_28 C dM_weightOf_59 ?_
          refine a_iload C dM_weightOf_62 rfl ?_
          refine ldM_7 C dM_weightOf_64 (by omega) ?_
          rw [hcut k (by omega)]
          refine a_aloadn C dM_weightOf_65 rfl rfl ?_
          refine g_M_28 C dM_weightOf_66 ?_
          refine a_iload C dM_weightOf_69 rfl ?_
          refine a_iconst (v := 1) C dM_weightOf_71 (by decide) ?_
          refine a_iadd C dM_weightOf_72 ?_
          refine ldM_7 C dM_weightOf_73 (by omega) ?_
          rw [hcut (k + 1) (by omega), bg_succ]
          refine vI5 C (c_M_heaviest (kl K) (kD K) ad cI cD cZ cJ _ _ _ _ _ _ (alw (gM x) r k) (Or.inr ⟨hr, rfl⟩) (by omega) (by omega) (by omega) (by omega) hw hg hu) wM_M_158 wI_M_heaviest wSel_M_heaviest wIni_M wC_M_heaviest hd_M_heaviest (by decide) (by decide) (q0 := 0) rfl rfl (Nat.le_of_ble_eq_true rfl) dM_weightOf_74 ?_
          rintro n74 u74 b74 ⟨rfl, rfl⟩
          have hsv : oN (tp (gM x) (x.2.1 5 (r * 4 + k) - 65) (alw (gM x) r k) (fun s => wM x s (bg i zl k) (lgd zl k)) (fun s => hM x s (bg i zl k) (lgd zl k)) (x.1 0)) = s0 := by rw [show tp (gM x) (x.2.1 5 (r * 4 + k) - 65) (alw (gM x) r k) (fun s => wM x s (bg i zl k) (lgd zl k)) (fun s => hM x s (bg i zl k) (lgd zl k)) (x.1 0) = some s0 from hs1]; rfl
          rw [hsv]
          refine ist_6 C dM_weightOf_77 (by omega) rfl ?_
          refine a_dloadn C dM_weightOf_79 rfl rfl ?_
          refine a_aloadn C dM_weightOf_80 rfl rfl ?_
          refine g_M_38 C dM_weightOf_81 ?_
          refine a_iload C dM_weightOf_84 rfl ?_
          refine a_sipush (v := 225) C dM_weightOf_86 (by decide) ?_
          refine a_imul C dM_weightOf_89 ?_
          refine a_aloadn C dM_weightOf_90 rfl rfl ?_
          refine g_M_28 C dM_weightOf_91 ?_
          refine a_iload C dM_weightOf_94 rfl ?_
          refine ldM_7 C dM_weightOf_96 (by omega) ?_
          rw [hcut k (by omega)]
          refine a_aloadn C dM_weightOf_97 rfl rfl ?_
          refine g_M_28 C dM_weightOf_98 ?_
          refine a_iload C dM_weightOf_101 rfl ?_
          refine a_iconst (v := 1) C dM_weightOf_103 (by decide) ?_
          refine a_iadd C dM_weightOf_104 ?_
          refine ldM_7 C dM_weightOf_105 (by omega) ?_
          rw [hcut (k + 1) (by omega), bg_succ]
          refine sI2 C (c_M_span (kl K) (kD K) ad cI cD cZ cJ _ _ _ (by omega) (by omega)) wM_M_129 wSt_M_span wIni_M wC_M_span hd_M_span (by decide) (by decide) (Nat.le_of_ble_eq_true rfl) dM_weightOf_106 ?_
          rintro n106 u106 b106 ⟨rfl, rfl⟩
          refine a_iadd C dM_weightOf_109 ?_
          refine ldM_10 C dM_weightOf_110 (by omega) ?_
          refine a_dmul C dM_weightOf_111 hnan ?_
          have hnew := hfs.symm
          refine dstn_2 C dM_weightOf_112 (by omega) rfl ?_
          refine inc_4 C dM_weightOf_113 rfl (inc_up (c := 1) (by decide)) (by omega) rfl ?_
          refine a_goto (tgt := 10) C dM_weightOf_116 (by decide) ?_
          exact ih10 (k + 1) _ _ _ (by omega) (by omega) hnew
        · skip
          have hnn0 : nt (gs (gM x) r k) = none := ntM_none (fun q => i01_eq h43 ⟨q.1, q.2, by decide⟩)
          have hnew : v = fw (x.2.2.1 9 r) (wtv (gM x) (wM x) (hM x) r) i zl (k + 1) := hv.trans (fwM_n (wtM_none hnn0)).symm
          refine a_goto (tgt := 113) C dM_weightOf_46 (by decide) ?_
          refine inc_4 C dM_weightOf_113 rfl (inc_up (c := 1) (by decide)) (by omega) rfl ?_
          refine a_goto (tgt := 10) C dM_weightOf_116 (by decide) ?_
          exact ih10 (k + 1) _ _ _ (by omega) (by omega) hnew
  exact LP10 _ 0 _ none none (Nat.lt_succ_self _) (Nat.zero_le _) rfl
set_option maxHeartbeats 4000000 in
set_option maxRecDepth 100000 in
theorem c_M_put (lc : Launch) (D : va_G) (ad : Nat → Nat) (cI cD cZ cJ : ClassId) (x : ST) (n r i j p : Nat) (hn : n + 4 ≤ 1600) : CI lc D (ty4 cI cD cZ cJ) (WM ad cI cD cZ) yM_put bM_put 6 (some .int) 0 [.ref (ad 0), .int (nI n), .int (nI r), .int (nI i), .int (nI j), .int (nI p)] x (fun rr u => u = sA (sA (sA (sA x 20 n r) 20 (n + 1) i) 20 (n + 2) j) 20 (n + 3) p ∧ rr = n + 4) := by
  refine CI_of [some (.ref (ad 0)), some (.int (nI n)), some (.int (nI r)), some (.int (nI i)), some (.int (nI j)), some (.int (nI p))] (by decide) (Nat.le_of_ble_eq_true rfl) rfl ?_
  intro K C E hkl hkD hkn
  refine a_aloadn C dM_put_0 rfl rfl ?_
  refine g_M_69 C dM_put_1 ?_
  refine a_iloadn C dM_put_4 rfl rfl ?_
  refine a_iloadn C dM_put_5 rfl rfl ?_
  refine stM_20 C dM_put_6 (by omega) ?_
  refine a_aloadn C dM_put_7 rfl rfl ?_
  refine g_M_69 C dM_put_8 ?_
  refine a_iloadn C dM_put_11 rfl rfl ?_
  refine a_iconst (v := 1) C dM_put_12 (by decide) ?_
  refine a_iadd C dM_put_13 ?_
  refine a_iloadn C dM_put_14 rfl rfl ?_
  refine stM_20 C dM_put_15 (by omega) ?_
  refine a_aloadn C dM_put_16 rfl rfl ?_
  refine g_M_69 C dM_put_17 ?_
  refine a_iloadn C dM_put_20 rfl rfl ?_
  refine a_iconst (v := 2) C dM_put_21 (by decide) ?_
  refine a_iadd C dM_put_22 ?_
  refine a_iload C dM_put_23 rfl ?_
  refine stM_20 C dM_put_25 (by omega) ?_
  refine a_aloadn C dM_put_26 rfl rfl ?_
  refine g_M_69 C dM_put_27 ?_
  refine a_iloadn C dM_put_30 rfl rfl ?_
  refine a_iconst (v := 3) C dM_put_31 (by decide) ?_
  refine a_iadd C dM_put_32 ?_
  refine a_iload C dM_put_33 rfl ?_
  refine stM_20 C dM_put_35 (by omega) ?_
  refine a_iloadn C dM_put_36 rfl rfl ?_
  refine a_iconst (v := 4) C dM_put_37 (by decide) ?_
  refine a_iadd C dM_put_38 ?_
  exact r_i C E dM_put_39 (by omega) ⟨rfl, rfl⟩

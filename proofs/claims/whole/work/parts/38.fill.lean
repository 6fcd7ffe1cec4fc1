set_option maxHeartbeats 4000000 in
set_option maxRecDepth 100000 in
theorem c_C_fillSpan (lc : Launch) (D : va_G) (ad : Nat → Nat) (cI cD cZ cJ : ClassId) (x : ST) (i j : Nat) (hij : i < j) (hjl : j ≤ x.1 2) (hw : WF x) (htx : TXT x) (hg : GOk (gP x)) (hac : Acy (gP x)) (hub : UB x) (hord : ORD (gP x) (x.2.1 17)) (hch : CHT (gP x) (x.1 2) (x.2.1 2) x (j - i)) : CV lc D (ty4 cI cD cZ cJ) (WS ad cI cD cZ) yC_fillSpan bC_fillSpan 9 none 4 [.ref (ad 11), .ref (ad 3), .ref (ad 1), .int (nI i), .int (nI j)] x (fun u => FR i j x u ∧ WF u ∧ UB u ∧ (∀ r, r < gR (gP x) → ROK (gP x) (x.1 2) (x.2.1 2) u r i j) ∧ (∀ r, r < gR (gP x) → ∀ k, k < gz (gP x) r → UOK (gP x) (x.1 2) (x.2.1 2) u r k i j)) := by
  refine CV_of [some (.ref (ad 11)), some (.ref (ad 3)), some (.ref (ad 1)), some (.int (nI i)), some (.int (nI j)), none, none, none, none] (by decide) (Nat.le_of_ble_eq_true rfl) rfl ?_
  intro K C E hkl hkD hkn
  have hl14 := htx.1
  have hj : j ≤ 14 := Nat.le_trans hjl htx.1
  have hR : x.1 3 ≤ 16 := hg.1
  have hsp := spn_lt hij hj
  have hT := hts_of hg hac
  refine a_aloadn C dC_fillSpan_0 rfl rfl ?_
  refine a_aloadn C dC_fillSpan_1 rfl rfl ?_
  refine a_aloadn C dC_fillSpan_2 rfl rfl ?_
  refine a_iloadn C dC_fillSpan_3 rfl rfl ?_
  refine a_iload C dC_fillSpan_4 rfl ?_
  refine vV4 C (c_C_settleCharacters (kl K) (kD K) ad cI cD cZ cJ _ _ _ hij hjl hw htx hg hub) wM_C_50 wI_C_settleCharacters wSel_C_settleCharacters wIni_C wC_C_settleCharacters hd_C_settleCharacters (by decide) (by decide) (q0 := 11) rfl rfl (Nat.le_of_ble_eq_true rfl) dC_fillSpan_6 ?_
  rintro u6 ⟨p6, ub6, pw6⟩
  refine a_iconst (v := 0) C dC_fillSpan_9 (by decide) ?_
  refine ist_5 C dC_fillSpan_10 (by omega) rfl ?_
  have LP12 : ∀ (N0 : Nat) (p : Nat) (y : ST) (o6 o7 o8 : Option Value), 6 - p < N0 → (p ≤ 6) → (FR i j x y) → (WF y) → (UB y) → (FP3 (gP x) (x.1 2) (x.2.1 2) y i j) → (FP4 (gP x) (x.1 2) (x.2.1 2) (x.2.1 17) y i j p) → WA K (WS ad cI cD cZ y) [some (.ref (ad 11)), some (.ref (ad 3)), some (.ref (ad 1)), some (.int (nI i)), some (.int (nI j)), some (.int (nI p)), o6, o7, o8] 12 [] := by
    intro N0
    induction N0 with
    | zero => intro p y o6 o7 o8 hm; exact absurd hm (Nat.not_lt_zero _)
    | succ N0 ih12 =>
      intro p y o6 o7 o8 hm12 hp hf hwy hu h3 h4
      refine a_iload C dC_fillSpan_12 rfl ?_
      refine a_bipush (v := 6) C dC_fillSpan_14 (by decide) ?_
      refine a_cge (tgt := 138) C dC_fillSpan_16 (by decide) (by omega) (by omega) (fun h16 => ?_) (fun h16 => ?_)
      · skip
        exact r_v C E dC_fillSpan_138 ⟨hf, hwy, hu, fun r hr => by obtain ⟨q, q1, q2⟩ := hord.2.1 (gl (gP x) r) (hg.2 r hr).1; exact h4.1 q (by omega) r hr q2.symm, fun r hr k hk => fs_uall hord h3 (by rw [show (6 : Nat) = p by omega]; exact h4) r hr k hk⟩
      · skip
        refine a_aloadn C dC_fillSpan_19 rfl rfl ?_
        refine g_C_28 C dC_fillSpan_20 ?_
        refine a_iload C dC_fillSpan_23 rfl ?_
        have hn6 := hord.1 p h16
        refine ldS_17 C dC_fillSpan_25 (by omega) ?_
        rw [hf.2.1 17 (by decide)]
        refine ist_6 C dC_fillSpan_26 (by omega) rfl ?_
        refine a_iconst (v := 0) C dC_fillSpan_28 (by decide) ?_
        refine ist_7 C dC_fillSpan_29 (by omega) rfl ?_
        have LP31 : ∀ (N0 : Nat) (r : Nat) (y : ST), x.1 3 - r < N0 → (r ≤ x.1 3) → (FR i j x y) → (WF y) → (UB y) → (FP3 (gP x) (x.1 2) (x.2.1 2) y i j) → (FP4 (gP x) (x.1 2) (x.2.1 2) (x.2.1 17) y i j p) → (∀ r', r' < r → gl (gP x) r' = x.2.1 17 p → ROK (gP x) (x.1 2) (x.2.1 2) y r' i j) → WA K (WS ad cI cD cZ y) [some (.ref (ad 11)), some (.ref (ad 3)), some (.ref (ad 1)), some (.int (nI i)), some (.int (nI j)), some (.int (nI p)), some (.int (nI (x.2.1 17 p))), some (.int (nI r)), o8] 31 [] := by
          intro N0
          induction N0 with
          | zero => intro r y hm; exact absurd hm (Nat.not_lt_zero _)
          | succ N0 ih31 =>
            intro r y hm31 hr hf hwy hu h3 h4 hq
            refine a_iload C dC_fillSpan_31 rfl ?_
            refine a_aloadn C dC_fillSpan_33 rfl rfl ?_
            refine vI0 C (c_G_size (kl K) (kD K) ad cI cD cZ cJ _ (by rw [hf.1]; omega)) wM_C_53 wI_G_size wSel_G_size wIni_G wC_G_size hd_G_size (by decide) (by decide) (q0 := 3) rfl rfl (Nat.le_of_ble_eq_true rfl) dC_fillSpan_34 ?_
            rintro n34 u34 b34 ⟨rfl, rfl⟩
            rw [hf.1]
            refine a_cge (tgt := 67) C dC_fillSpan_37 (by decide) (by omega) (by omega) (fun h37 => ?_) (fun h37 => ?_)
            · skip
              have hr2 : ∀ s, s < gR (gP y) → gl (gP y) s = x.2.1 17 p → ROK (gP y) (x.1 2) (x.2.1 2) y s i j := by rw [hf.gP]; exact fun s hs hl => hq s (Nat.lt_of_lt_of_le hs (show gR (gP x) ≤ r from h37)) hl
              refine a_iloadn C dC_fillSpan_67 rfl rfl ?_
              refine a_iload C dC_fillSpan_68 rfl ?_
              refine tI2 C (c_P_spanNumber (kl K) (kD K) ad cI cD cZ cJ _ _ _ (by omega) hj (by omega)) (k0 := 6) rfl wSt_P_spanNumber wIni_P wC_P_spanNumber hd_P_spanNumber (by decide) (by decide) (Nat.le_of_ble_eq_true rfl) dC_fillSpan_70 ?_
              rintro n70 u70 b70 ⟨rfl, rfl⟩
              have hsd : j * (j - 1) / 2 + i = spn i j := rfl
              rw [hsd]
              refine ist_7 C dC_fillSpan_73 (by omega) rfl ?_
              refine a_aloadn C dC_fillSpan_75 rfl rfl ?_
              refine a_aloadn C dC_fillSpan_76 rfl rfl ?_
              refine a_iload C dC_fillSpan_77 rfl ?_
              refine vI1 C (c_G_rejectingRules (kl K) (kD K) ad cI cD cZ cJ _ _ hn6 hwy (by rw [hf.1]; exact hR)) wM_C_68 wI_G_rejectingRules wSel_G_rejectingRules wIni_G wC_G_rejectingRules hd_G_rejectingRules (by decide) (by decide) (q0 := 3) rfl rfl (Nat.le_of_ble_eq_true rfl) dC_fillSpan_79 ?_
              rintro n79 u79 b79 ⟨rfl, rfl⟩
              have hmk : rmk (gP y) (x.2.1 17 p) 1 (y.1 3) < 4294967296 := b79
              refine a_iload C dC_fillSpan_82 rfl ?_
              refine vI2 C (c_C_waysOfAny (kl K) (kD K) ad cI cD cZ cJ _ _ _ hmk hsp hu.2) wM_C_71 wI_C_waysOfAny wSel_C_waysOfAny wIni_C wC_C_waysOfAny hd_C_waysOfAny (by decide) (by decide) (q0 := 11) rfl rfl (Nat.le_of_ble_eq_true rfl) dC_fillSpan_84 ?_
              rintro n84 u84 b84 ⟨rfl, rfl⟩
              have hnj := nrej_wan (g := gP y) (n := x.2.1 17 p) (f := fun r => y.2.1 12 (r * 105 + spn i j)) (w := fun s => sW (gP y) (x.1 2) (x.2.1 2) s i j) (fun s hs hl => (hr2 s hs hl).1) (by rw [hf.gP]; exact hR)
              have hnj : wan (rmk (gP y) (x.2.1 17 p) 1 (y.1 3)) (fun r => y.2.1 12 (r * 105 + spn i j)) 16 = 0 ↔ nrej (gP y) (x.2.1 17 p) (fun s => sW (gP y) (x.1 2) (x.2.1 2) s i j) (gR (gP y)) = true := hnj
              have JN119 : ∀ b : Nat, b ≤ 1 → decide (b ≠ 0) = gd (gP y) (x.1 2) (x.2.1 2) (x.2.1 17 p) j (fun s => sW (gP y) (x.1 2) (x.2.1 2) s i j) → WA K (WS ad cI cD cZ y) [some (.ref (ad 11)), some (.ref (ad 3)), some (.ref (ad 1)), some (.int (nI i)), some (.int (nI j)), some (.int (nI p)), some (.int (nI (x.2.1 17 p))), some (.int (nI (spn i j))), o8] 119 [.int (nI b)] := by
                intro b hb hbg
                refine ist_8 C dC_fillSpan_119 (by omega) rfl ?_
                refine a_aloadn C dC_fillSpan_121 rfl rfl ?_
                refine a_aloadn C dC_fillSpan_122 rfl rfl ?_
                refine a_iload C dC_fillSpan_123 rfl ?_
                refine a_iload C dC_fillSpan_125 rfl ?_
                refine a_iload C dC_fillSpan_127 rfl ?_
                refine vV4 C (c_C_settleNonterminal (kl K) (kD K) ad cI cD cZ cJ _ _ _ _ hn6 hsp hb hwy (by rw [hf.gP]; exact hg) hu) wM_C_81 wI_C_settleNonterminal wSel_C_settleNonterminal wIni_C wC_C_settleNonterminal hd_C_settleNonterminal (by decide) (by decide) (q0 := 11) rfl rfl (Nat.le_of_ble_eq_true rfl) dC_fillSpan_129 ?_
                rintro u129 ⟨p129, ub129, pw129⟩
                have hgy := hf.gP
                have hnn := fs_nt (x := x) (o := x.2.1 17) (ht := hgt (gP x)) (N := x.1 2) (ch := x.2.1 2) hl14 hij hjl (by rw [hgy]; exact hg) (by rw [hgy]; exact hT) rfl (by rw [hgy]; exact h3) (by rw [hgy]; exact h4) hr2 hbg p129
                rw [hgy] at hnn
                obtain ⟨hn3, hn4⟩ := hnn
                refine inc_5 C dC_fillSpan_132 rfl (inc_up (c := 1) (by decide)) (by omega) rfl ?_
                refine a_goto (tgt := 12) C dC_fillSpan_135 (by decide) ?_
                exact ih12 (p + 1) _ _ _ _ (by omega) (by omega) (hf.trans (FR_tf p129)) pw129 ub129 hn3 hn4
              refine a_ifne (tgt := 118) C dC_fillSpan_87 (by decide) (by omega) (fun h87 => ?_) (fun h87 => ?_)
              · skip
                refine a_iconst (v := 0) C dC_fillSpan_118 (by decide) ?_
                exact JN119 _ (by decide) (by first | exact gd_0 (fun q => h87 (hnj.mpr q)) | exact gd_e (hnj.mp h87) h96 | exact gd_y (hnj.mp h87) (i01_ne h111) | exact gd_n h96 (i01_eq h111))
              · skip
                refine a_iload C dC_fillSpan_90 rfl ?_
                refine a_aloadn C dC_fillSpan_92 rfl rfl ?_
                refine vI0 C (c_T_length (kl K) (kD K) ad cI cD cZ cJ _ (by rw [hf.1]; omega)) wM_C_40 wI_T_length wSel_T_length wIni_T wC_T_length hd_T_length (by decide) (by decide) (q0 := 1) rfl rfl (Nat.le_of_ble_eq_true rfl) dC_fillSpan_93 ?_
                rintro n93 u93 b93 ⟨rfl, rfl⟩
                rw [hf.1]
                refine a_ceq (tgt := 114) C dC_fillSpan_96 (by decide) (by omega) (by omega) (fun h96 => ?_) (fun h96 => ?_)
                · skip
                  refine a_iconst (v := 1) C dC_fillSpan_114 (by decide) ?_
                  refine a_goto (tgt := 119) C dC_fillSpan_115 (by decide) ?_
                  exact JN119 _ (by decide) (by first | exact gd_0 (fun q => h87 (hnj.mpr q)) | exact gd_e (hnj.mp h87) h96 | exact gd_y (hnj.mp h87) (i01_ne h111) | exact gd_n h96 (i01_eq h111))
                · skip
                  have hjN : j < x.1 2 := by omega
                  refine a_aloadn C dC_fillSpan_99 rfl rfl ?_
                  refine a_iload C dC_fillSpan_100 rfl ?_
                  refine a_aloadn C dC_fillSpan_102 rfl rfl ?_
                  refine a_iload C dC_fillSpan_103 rfl ?_
                  refine vI1 C (c_T_at (kl K) (kD K) ad cI cD cZ cJ _ _ (by omega) (by rw [hf.1]; exact hl14) (fun k => hwy.1 2 k)) wM_C_74 wI_T_at wSel_T_at wIni_T wC_T_at hd_T_at (by decide) (by decide) (q0 := 1) rfl rfl (Nat.le_of_ble_eq_true rfl) dC_fillSpan_105 ?_
                  rintro n105 u105 b105 ⟨rfl, rfl⟩
                  have hat : (if j < y.1 2 then y.2.1 2 j else 0) = x.2.1 2 j := by rw [hf.1, if_pos hjN, hf.2.1 2 (by decide)]
                  rw [hat]
                  have hcc := htx.2 j hjN
                  refine vI2 C (c_G_mayFollow (kl K) (kD K) ad cI cD cZ cJ _ _ _ hn6 hcc.1 hcc.2 (hwy.1 10 _)) wM_C_77 wI_G_mayFollow wSel_G_mayFollow wIni_G wC_G_mayFollow hd_G_mayFollow (by decide) (by decide) (q0 := 3) rfl rfl (Nat.le_of_ble_eq_true rfl) dC_fillSpan_108 ?_
                  rintro n108 u108 b108 ⟨rfl, rfl⟩
                  refine a_ifeq (tgt := 118) C dC_fillSpan_111 (by decide) (by omega) (fun h111 => ?_) (fun h111 => ?_)
                  · skip
                    refine a_iconst (v := 0) C dC_fillSpan_118 (by decide) ?_
                    exact JN119 _ (by decide) (by first | exact gd_0 (fun q => h87 (hnj.mpr q)) | exact gd_e (hnj.mp h87) h96 | exact gd_y (hnj.mp h87) (i01_ne h111) | exact gd_n h96 (i01_eq h111))
                  · skip
                    refine a_iconst (v := 1) C dC_fillSpan_114 (by decide) ?_
                    refine a_goto (tgt := 119) C dC_fillSpan_115 (by decide) ?_
                    exact JN119 _ (by decide) (by first | exact gd_0 (fun q => h87 (hnj.mpr q)) | exact gd_e (hnj.mp h87) h96 | exact gd_y (hnj.mp h87) (i01_ne h111) | exact gd_n h96 (i01_eq h111))
            · skip
              obtain ⟨g1, g2, g3, g4, g5, g6⟩ := hg.2 r h37
              rw [show gz (gP x) r = y.2.1 5 r by rw [hf.2.1 5 (by decide)]; rfl] at g2 g3
              refine a_aloadn C dC_fillSpan_40 rfl rfl ?_
              refine a_iload C dC_fillSpan_41 rfl ?_
              refine vI1 C (c_G_left (kl K) (kD K) ad cI cD cZ cJ _ _ (by omega) (hwy.1 4 r)) wM_C_56 wI_G_left wSel_G_left wIni_G wC_G_left hd_G_left (by decide) (by decide) (q0 := 3) rfl rfl (Nat.le_of_ble_eq_true rfl) dC_fillSpan_43 ?_
              rintro n43 u43 b43 ⟨rfl, rfl⟩
              rw [hf.2.1 4 (by decide)]
              have h4l := hw.1 4 r
              refine a_iload C dC_fillSpan_46 rfl ?_
              refine a_cne (tgt := 61) C dC_fillSpan_48 (by decide) (by omega) (by omega) (fun h48 => ?_) (fun h48 => ?_)
              · skip
                have hf2 := hf
                have hw2 := hwy
                have hu2 := hu
                have h32 := h3
                have h42 := h4
                have hq2 : ∀ r', r' < r + 1 → gl (gP x) r' = x.2.1 17 p → ROK (gP x) (x.1 2) (x.2.1 2) y r' i j := lt_s (p := fun r' => gl (gP x) r' = x.2.1 17 p → ROK (gP x) (x.1 2) (x.2.1 2) y r' i j) hq (fun q => absurd q h48)
                refine inc_7 C dC_fillSpan_61 rfl (inc_up (c := 1) (by decide)) (by omega) rfl ?_
                refine a_goto (tgt := 31) C dC_fillSpan_64 (by decide) ?_
                exact ih31 (r + 1) _ (by omega) (by omega) hf2 hw2 hu2 h32 h42 hq2
              · skip
                have hgl : gl (gP x) r = x.2.1 17 p := h48
                have hinp := fs_inp hg hac hord hl14 hij hjl hch hf h3 h4 h16 h37 hgl
                have hgy := hf.gP
                have hinp2 : INP (gP y) (x.1 2) (x.2.1 2) y r i j := by rw [hgy]; exact hinp
                have hpre := der_pre (ht := hgt (gP x)) (by rw [hgy]; exact hg) (by rw [hgy]; exact hT) (by omega) (by rw [hgy]; exact h37) hij hjl hinp2
                refine a_aloadn C dC_fillSpan_51 rfl rfl ?_
                refine a_aloadn C dC_fillSpan_52 rfl rfl ?_
                refine a_iload C dC_fillSpan_53 rfl ?_
                refine a_iloadn C dC_fillSpan_55 rfl rfl ?_
                refine a_iload C dC_fillSpan_56 rfl ?_
                refine vV4 C (c_C_deriveRule (kl K) (kD K) ad cI cD cZ cJ _ _ _ _ (by omega) g2 g3 hij hj hu.1 hpre) wM_C_60 wI_C_deriveRule wSel_C_deriveRule wIni_C wC_C_deriveRule hd_C_deriveRule (by decide) (by decide) (q0 := 11) rfl rfl (Nat.le_of_ble_eq_true rfl) dC_fillSpan_58 ?_
                rintro u58 ⟨p58, pf58⟩
                have hdp := der_post (ht := hgt (gP x)) (by rw [hgy]; exact hg) (by rw [hgy]; exact hT) (by omega) (by rw [hgy]; exact h37) hij hjl hinp2 p58
                rw [hgy] at hdp
                have hf2 := hf.trans (FR_der (by omega) hsp p58)
                have hw2 := pf58 hwy
                have hu2 := DER_ub p58 hu
                have hrk : ∀ s, ROK (gP x) (x.1 2) (x.2.1 2) y s i j → ROK (gP x) (x.1 2) (x.2.1 2) u58 s i j := fun s hs => by by_cases e : s = r; exact e ▸ hdp; exact DER_rok p58 e hs
                have h32 : FP3 (gP x) (x.1 2) (x.2.1 2) u58 i j := fun r hr k hk hn => DER_uok p58 (h3 r hr k hk hn)
                have h42 : FP4 (gP x) (x.1 2) (x.2.1 2) (x.2.1 17) u58 i j p := ⟨fun q hq r hr hl => hrk r (h4.1 q hq r hr hl), fun q hq r hr k hk hn => DER_uok p58 (h4.2 q hq r hr k hk hn)⟩
                have hq2 : ∀ r', r' < r + 1 → gl (gP x) r' = x.2.1 17 p → ROK (gP x) (x.1 2) (x.2.1 2) u58 r' i j := lt_s (p := fun r' => gl (gP x) r' = x.2.1 17 p → ROK (gP x) (x.1 2) (x.2.1 2) u58 r' i j) (fun r' h1 h2 => hrk r' (hq r' h1 h2)) (fun _ => hdp)
                refine inc_7 C dC_fillSpan_61 rfl (inc_up (c := 1) (by decide)) (by omega) rfl ?_
                refine a_goto (tgt := 31) C dC_fillSpan_64 (by decide) ?_
                exact ih31 (r + 1) _ (by omega) (by omega) hf2 hw2 hu2 h32 h42 hq2
        exact LP31 _ 0 _ (Nat.lt_succ_self _) (by omega) hf hwy hu h3 h4 (fun r' h => absurd h (Nat.not_lt_zero _))
  exact LP12 _ 0 _ none none none (Nat.lt_succ_self _) (by omega) (FR_tf p6) pw6 ub6 (fs_chars hij hjl hj hg p6) ⟨fun q hq => absurd hq (Nat.not_lt_zero _), fun q hq => absurd hq (Nat.not_lt_zero _)⟩
set_option maxHeartbeats 4000000 in
set_option maxRecDepth 100000 in
theorem c_C_fill (lc : Launch) (D : va_G) (ad : Nat → Nat) (cI cD cZ cJ : ClassId) (x : ST) (hw : WF x) (htx : TXT x) (hg : GOk (gP x)) (hac : Acy (gP x)) (hub : UB x) : CV lc D (ty4 cI cD cZ cJ) (WS ad cI cD cZ) yC_fill bC_fill 5 none 5 [.ref (ad 11), .ref (ad 3), .ref (ad 1)] x (fun u => FA x u ∧ WF u ∧ UB u ∧ CHT (gP x) (x.1 2) (x.2.1 2) u 15) := by
  refine CV_of [some (.ref (ad 11)), some (.ref (ad 3)), some (.ref (ad 1)), none, none] (by decide) (Nat.le_of_ble_eq_true rfl) rfl ?_
  intro K C E hkl hkD hkn
  have hl14 := htx.1
  refine a_aloadn C dC_fill_0 rfl rfl ?_
  refine a_aloadn C dC_fill_1 rfl rfl ?_
  refine g_C_28 C dC_fill_2 ?_
  refine vV1 C (c_G_orderByChains (kl K) (kD K) ad cI cD cZ cJ _ hw hg hac) wM_C_34 wI_G_orderByChains wSel_G_orderByChains wIni_G wC_G_orderByChains hd_G_orderByChains (by decide) (by decide) (q0 := 3) rfl rfl (Nat.le_of_ble_eq_true rfl) dC_fill_5 ?_
  rintro u5 ⟨po5, pr5, pw5⟩
  refine a_iconst (v := 1) C dC_fill_8 (by decide) ?_
  refine istn_3 C dC_fill_9 (by omega) rfl ?_
  have LP10 : ∀ (N0 : Nat) (d : Nat) (y : ST) (o4 : Option Value), 15 - d < N0 → (1 ≤ d) → (d ≤ x.1 2 + 1) → (FA x y) → (WF y) → (UB y) → (ORD (gP x) (y.2.1 17)) → (CHT (gP x) (x.1 2) (x.2.1 2) y d) → WA K (WS ad cI cD cZ y) [some (.ref (ad 11)), some (.ref (ad 3)), some (.ref (ad 1)), some (.int (nI d)), o4] 10 [] := by
    intro N0
    induction N0 with
    | zero => intro d y o4 hm; exact absurd hm (Nat.not_lt_zero _)
    | succ N0 ih10 =>
      intro d y o4 hm10 hd1 hd hf hwy hu hor hc
      refine a_iloadn C dC_fill_10 rfl rfl ?_
      refine a_aloadn C dC_fill_11 rfl rfl ?_
      refine vI0 C (c_T_length (kl K) (kD K) ad cI cD cZ cJ _ (by rw [hf.1]; omega)) wM_C_40 wI_T_length wSel_T_length wIni_T wC_T_length hd_T_length (by decide) (by decide) (q0 := 1) rfl rfl (Nat.le_of_ble_eq_true rfl) dC_fill_12 ?_
      rintro n12 u12 b12 ⟨rfl, rfl⟩
      rw [hf.1]
      refine a_cgt (tgt := 56) C dC_fill_15 (by decide) (by omega) (by omega) (fun h15 => ?_) (fun h15 => ?_)
      · skip
        exact r_v C E dC_fill_56 ⟨hf, hwy, hu, fun a b h1 h2 h3 => hc a b h1 h2 (by omega)⟩
      · skip
        refine a_iconst (v := 0) C dC_fill_18 (by decide) ?_
        refine ist_4 C dC_fill_19 (by omega) rfl ?_
        have LP21 : ∀ (N0 : Nat) (i : Nat) (y : ST), 15 - i < N0 → (FA x y) → (WF y) → (UB y) → (ORD (gP x) (y.2.1 17)) → (CHT (gP x) (x.1 2) (x.2.1 2) y d) → (∀ a, a < i → a + d ≤ x.1 2 → (∀ r, r < gR (gP x) → ROK (gP x) (x.1 2) (x.2.1 2) y r a (a + d)) ∧ (∀ r, r < gR (gP x) → ∀ k, k < gz (gP x) r → UOK (gP x) (x.1 2) (x.2.1 2) y r k a (a + d))) → (i ≤ 14) → WA K (WS ad cI cD cZ y) [some (.ref (ad 11)), some (.ref (ad 3)), some (.ref (ad 1)), some (.int (nI d)), some (.int (nI i))] 21 [] := by
          intro N0
          induction N0 with
          | zero => intro i y hm; exact absurd hm (Nat.not_lt_zero _)
          | succ N0 ih21 =>
            intro i y hm21 hf hwy hu hor hc hi hil
            refine a_iload C dC_fill_21 rfl ?_
            refine a_iloadn C dC_fill_23 rfl rfl ?_
            refine a_iadd C dC_fill_24 ?_
            refine a_aloadn C dC_fill_25 rfl rfl ?_
            refine vI0 C (c_T_length (kl K) (kD K) ad cI cD cZ cJ _ (by rw [hf.1]; omega)) wM_C_40 wI_T_length wSel_T_length wIni_T wC_T_length hd_T_length (by decide) (by decide) (q0 := 1) rfl rfl (Nat.le_of_ble_eq_true rfl) dC_fill_26 ?_
            rintro n26 u26 b26 ⟨rfl, rfl⟩
            rw [hf.1]
            refine a_cgt (tgt := 50) C dC_fill_29 (by decide) (by omega) (by omega) (fun h29 => ?_) (fun h29 => ?_)
            · skip
              refine inc_3 C dC_fill_50 rfl (inc_up (c := 1) (by decide)) (by omega) rfl ?_
              refine a_goto (tgt := 10) C dC_fill_53 (by decide) ?_
              exact ih10 (d + 1) _ _ (by omega) (by omega) (by omega) hf hwy hu hor (cht_up hc hi (by omega))
            · skip
              have hcy : CHT (gP y) (y.1 2) (y.2.1 2) y (i + d - i) := by rw [hf.gP, hf.1, hf.2.1 2 (by decide), show i + d - i = d by omega]; exact hc
              refine a_aloadn C dC_fill_32 rfl rfl ?_
              refine a_aloadn C dC_fill_33 rfl rfl ?_
              refine a_aloadn C dC_fill_34 rfl rfl ?_
              refine a_iload C dC_fill_35 rfl ?_
              refine a_iload C dC_fill_37 rfl ?_
              refine a_iloadn C dC_fill_39 rfl rfl ?_
              refine a_iadd C dC_fill_40 ?_
              refine vV4 C (c_C_fillSpan (kl K) (kD K) ad cI cD cZ cJ _ _ _ (by omega) (by rw [hf.1]; omega) hwy (hf.txt htx) (by rw [hf.gP]; exact hg) (by rw [hf.gP]; exact hac) hu (by rw [hf.gP]; exact hor) hcy) wM_C_46 wI_C_fillSpan wSel_C_fillSpan wIni_C wC_C_fillSpan hd_C_fillSpan (by decide) (by decide) (q0 := 11) rfl rfl (Nat.le_of_ble_eq_true rfl) dC_fill_41 ?_
              rintro u41 ⟨pf41, pw41, pu41, pr41, pk41⟩
              rw [hf.gP, hf.1, hf.2.1 2 (by decide)] at pr41 pk41
              refine inc_4 C dC_fill_44 rfl (inc_up (c := 1) (by decide)) (by omega) rfl ?_
              refine a_goto (tgt := 21) C dC_fill_47 (by decide) ?_
              exact ih21 (i + 1) _ (by omega) (hf.tr pf41) pw41 pu41 (by rw [pf41.2.1 17 (by decide)]; exact hor) (cht_fr hg hl14 (by omega) (by omega) hc pf41) (cht_in hg hl14 (by omega) (by omega) hi pf41 pr41 pk41) (by omega)
        exact LP21 _ 0 _ (Nat.lt_succ_self _) hf hwy hu hor hc (fun a h => absurd h (Nat.not_lt_zero _)) (by omega)
  exact LP10 _ 1 _ none (Nat.lt_succ_self _) (by omega) (by omega) (FA.of17 po5) pw5 (UB_17 po5 hub) pr5 (fun a b h1 h2 h3 => absurd h3 (by omega))

set_option maxHeartbeats 4000000 in
set_option maxRecDepth 100000 in
theorem c_M_fill (lc : Launch) (D : va_G) (ad : Nat → Nat) (cI cD cZ cJ : ClassId) (x : ST) (i j : Nat) (hij : i < j) (hj : j ≤ x.1 3) (hN : x.1 3 ≤ 14) (hw : WF x) (hg : GOk (gM x)) (hac : Acy (gM x)) (hu : ∀ q, x.2.1 14 q ≤ 1000000000) (hch : ∀ q, q < x.1 3 → x.2.1 2 q ≤ 126) (hcm : CHM (gM x) (x.1 3) (x.2.1 2) x (j - i)) : CV lc D (ty4 cI cD cZ cJ) (WM ad cI cD cZ) yM_fill bM_fill 5 none 4 [.ref (ad 0), .int (nI i), .int (nI j)] x (fun u => FM i j x u ∧ WF u ∧ (∀ q, u.2.1 14 q ≤ 1000000000) ∧ (∀ r, r < gR (gM x) → RMok (gM x) (x.1 3) (x.2.1 2) u r i j) ∧ (∀ c, c < 6 → GMok (gM x) (x.1 3) (x.2.1 2) u c i j)) := by
  refine CV_of [some (.ref (ad 0)), some (.int (nI i)), some (.int (nI j)), none, none] (by decide) (Nat.le_of_ble_eq_true rfl) rfl ?_
  intro K C E hkl hkD hkn
  have hR : x.1 0 ≤ 16 := hg.1
  have hT := hts_of hg hac
  have hi14 : i ≤ 14 := by omega
  have hj14 : j ≤ 14 := by omega
  refine a_iconst (v := 0) C dM_fill_0 (by decide) ?_
  refine istn_3 C dM_fill_1 (by omega) rfl ?_
  have LP2 : ∀ (N0 : Nat) (r : Nat) (y : ST), x.1 0 - r < N0 → (r ≤ x.1 0) → (FM i j x y) → (WF y) → (∀ q, y.2.1 14 q ≤ 1000000000) → (F1 (gM x) (x.1 3) (x.2.1 2) y i j r) → WA K (WM ad cI cD cZ y) [some (.ref (ad 0)), some (.int (nI i)), some (.int (nI j)), some (.int (nI r)), none] 2 [] := by
    intro N0
    induction N0 with
    | zero => intro r y hm; exact absurd hm (Nat.not_lt_zero _)
    | succ N0 ih2 =>
      intro r y hm2 hr hf hwy huy hF
      refine a_iloadn C dM_fill_2 rfl rfl ?_
      refine a_aloadn C dM_fill_3 rfl rfl ?_
      refine g_M_101 C dM_fill_4 ?_
      rw [hf.1]
      refine a_cge (tgt := 48) C dM_fill_7 (by decide) (by omega) (by omega) (fun h7 => ?_) (fun h7 => ?_)
      · skip
        have hF3 : F1 (gM x) (x.1 3) (x.2.1 2) y i j (gR (gM x)) := by have q : gR (gM x) = r := (show x.1 0 = r by omega); rw [q]; exact hF
        refine a_iconst (v := 0) C dM_fill_48 (by decide) ?_
        refine istn_3 C dM_fill_49 (by omega) rfl ?_
        have LP50 : ∀ (N0 : Nat) (t : Nat) (y : ST) (o4 : Option Value), 7 - t < N0 → (t ≤ 7) → (FM i j x y) → (WF y) → (∀ q, y.2.1 14 q ≤ 1000000000) → (LV (gM x) (x.1 3) (x.2.1 2) y i j t) → (PI (gM x) y i j) → WA K (WM ad cI cD cZ y) [some (.ref (ad 0)), some (.int (nI i)), some (.int (nI j)), some (.int (nI t)), o4] 50 [] := by
          intro N0
          induction N0 with
          | zero => intro t y o4 hm; exact absurd hm (Nat.not_lt_zero _)
          | succ N0 ih50 =>
            intro t y o4 hm50 ht hf hwy huy hL hP
            refine a_iloadn C dM_fill_50 rfl rfl ?_
            refine a_bipush (v := 7) C dM_fill_51 (by decide) ?_
            refine a_cge (tgt := 138) C dM_fill_53 (by decide) (by omega) (by omega) (fun h53 => ?_) (fun h53 => ?_)
            · skip
              rw [show t = 7 by omega] at hL
              refine a_iconst (v := 0) C dM_fill_138 (by decide) ?_
              refine istn_3 C dM_fill_139 (by omega) rfl ?_
              have LP140 : ∀ (N0 : Nat) (m : Nat) (y : ST), 6 - m < N0 → (m ≤ 6) → (FM i j x y) → (WF y) → (∀ q, y.2.1 14 q ≤ 1000000000) → (LV (gM x) (x.1 3) (x.2.1 2) y i j 7) → (∀ c, c < m → hgt (gM x) c < 7 → GMok (gM x) (x.1 3) (x.2.1 2) y c i j) → WA K (WM ad cI cD cZ y) [some (.ref (ad 0)), some (.int (nI i)), some (.int (nI j)), some (.int (nI m)), o4] 140 [] := by
                intro N0
                induction N0 with
                | zero => intro m y hm; exact absurd hm (Nat.not_lt_zero _)
                | succ N0 ih140 =>
                  intro m y hm140 hm hf hwy huy hL hG
                  refine a_iloadn C dM_fill_140 rfl rfl ?_
                  refine a_bipush (v := 6) C dM_fill_141 (by decide) ?_
                  refine a_cge (tgt := 175) C dM_fill_143 (by decide) (by omega) (by omega) (fun h143 => ?_) (fun h143 => ?_)
                  · skip
                    exact r_v C E dM_fill_175 ⟨hf, hwy, huy, fun r hr => hL r hr (Or.inr (by have q := hgt_5 hg hac (gl (gM x) r); omega)), fun c hc => hG c (by omega) (by have q := hgt_5 hg hac c; omega)⟩
                  · skip
                    refine a_aloadn C dM_fill_146 rfl rfl ?_
                    refine g_M_48 C dM_fill_147 ?_
                    refine a_iloadn C dM_fill_150 rfl rfl ?_
                    refine a_sipush (v := 225) C dM_fill_151 (by decide) ?_
                    refine a_imul C dM_fill_154 ?_
                    refine a_iloadn C dM_fill_155 rfl rfl ?_
                    refine a_iloadn C dM_fill_156 rfl rfl ?_
                    refine sI2 C (c_M_span (kl K) (kD K) ad cI cD cZ cJ _ _ _ hi14 hj14) wM_M_129 wSt_M_span wIni_M wC_M_span hd_M_span (by decide) (by decide) (Nat.le_of_ble_eq_true rfl) dM_fill_157 ?_
                    rintro n157 u157 b157 ⟨rfl, rfl⟩
                    refine a_iadd C dM_fill_160 ?_
                    refine a_aloadn C dM_fill_161 rfl rfl ?_
                    refine a_iloadn C dM_fill_162 rfl rfl ?_
                    refine a_iloadn C dM_fill_163 rfl rfl ?_
                    refine a_iloadn C dM_fill_164 rfl rfl ?_
                    refine vI3 C (c_M_isGood (kl K) (kD K) ad cI cD cZ cJ _ _ _ _ (by omega) hij (by rw [hf.1]; exact hj) (by rw [hf.1]; exact hN) hwy (by rw [hf.gM]; exact hg) huy (by rw [hf.1, hf.2.1 2 (by decide)]; exact hch)) wM_M_168 wI_M_isGood wSel_M_isGood wIni_M wC_M_isGood hd_M_isGood (by decide) (by decide) (q0 := 0) rfl rfl (Nat.le_of_ble_eq_true rfl) dM_fill_165 ?_
                    rintro n165 u165 b165 ⟨rfl, rfl⟩
                    refine stM_13 C dM_fill_168 (by omega) i01_le ?_
                    refine inc_3 C dM_fill_169 rfl (inc_up (c := 1) (by decide)) (by omega) rfl ?_
                    refine a_goto (tgt := 140) C dM_fill_172 (by decide) ?_
                    exact ih140 (m + 1) _ (by omega) (by omega) (hf.trans (FM_13 hi14 hj14)) (hwy.sA _ _ (Nat.lt_of_le_of_lt i01_le (by decide))) (u13 huy) (lv_13 hL) (gl_s hG hL (by rw [hf.gM, hf.1, hf.2.1 2 (by decide)]))
              exact LP140 _ 0 _ (Nat.lt_succ_self _) (Nat.zero_le _) hf hwy huy hL (fun c hc => absurd hc (Nat.not_lt_zero _))
            · skip
              refine a_iconst (v := 0) C dM_fill_56 (by decide) ?_
              refine ist_4 C dM_fill_57 (by omega) rfl ?_
              have LP59 : ∀ (N0 : Nat) (m : Nat) (y : ST), 6 - m < N0 → (m ≤ 6) → (FM i j x y) → (WF y) → (∀ q, y.2.1 14 q ≤ 1000000000) → (LV (gM x) (x.1 3) (x.2.1 2) y i j t) → (PI (gM x) y i j) → (∀ c, c < m → hgt (gM x) c < t → GMok (gM x) (x.1 3) (x.2.1 2) y c i j) → WA K (WM ad cI cD cZ y) [some (.ref (ad 0)), some (.int (nI i)), some (.int (nI j)), some (.int (nI t)), some (.int (nI m))] 59 [] := by
                intro N0
                induction N0 with
                | zero => intro m y hm; exact absurd hm (Nat.not_lt_zero _)
                | succ N0 ih59 =>
                  intro m y hm59 hm hf hwy huy hL hP hG
                  refine a_iload C dM_fill_59 rfl ?_
                  refine a_bipush (v := 6) C dM_fill_61 (by decide) ?_
                  refine a_cge (tgt := 97) C dM_fill_63 (by decide) (by omega) (by omega) (fun h63 => ?_) (fun h63 => ?_)
                  · skip
                    refine a_iconst (v := 0) C dM_fill_97 (by decide) ?_
                    refine ist_4 C dM_fill_98 (by omega) rfl ?_
                    have LP100 : ∀ (N0 : Nat) (r : Nat) (y : ST), x.1 0 - r < N0 → (r ≤ x.1 0) → (FM i j x y) → (WF y) → (∀ q, y.2.1 14 q ≤ 1000000000) → (LV (gM x) (x.1 3) (x.2.1 2) y i j t) → (PI (gM x) y i j) → (GL (gM x) (x.1 3) (x.2.1 2) y i j t) → (∀ s, s < r → hgt (gM x) (gl (gM x) s) < t + 1 → RMok (gM x) (x.1 3) (x.2.1 2) y s i j) → WA K (WM ad cI cD cZ y) [some (.ref (ad 0)), some (.int (nI i)), some (.int (nI j)), some (.int (nI t)), some (.int (nI r))] 100 [] := by
                      intro N0
                      induction N0 with
                      | zero => intro r y hm; exact absurd hm (Nat.not_lt_zero _)
                      | succ N0 ih100 =>
                        intro r y hm100 hr hf hwy huy hL hP hG hL2
                        refine a_iload C dM_fill_100 rfl ?_
                        refine a_aloadn C dM_fill_102 rfl rfl ?_
                        refine g_M_101 C dM_fill_103 ?_
                        rw [hf.1]
                        refine a_cge (tgt := 132) C dM_fill_106 (by decide) (by omega) (by omega) (fun h106 => ?_) (fun h106 => ?_)
                        · skip
                          refine inc_3 C dM_fill_132 rfl (inc_up (c := 1) (by decide)) (by omega) rfl ?_
                          refine a_goto (tgt := 50) C dM_fill_135 (by decide) ?_
                          exact ih50 (t + 1) _ _ (by omega) (by omega) hf hwy huy (lv_n (by show x.1 0 ≤ r; omega) hL hL2) hP
                        · skip
                          refine a_aloadn C dM_fill_109 rfl rfl ?_
                          refine a_iload C dM_fill_110 rfl ?_
                          refine vI1 C (c_M_isChain (kl K) (kD K) ad cI cD cZ cJ _ _ (by omega) hwy) wM_M_104 wI_M_isChain wSel_M_isChain wIni_M wC_M_isChain hd_M_isChain (by decide) (by decide) (q0 := 0) rfl rfl (Nat.le_of_ble_eq_true rfl) dM_fill_112 ?_
                          rintro n112 u112 b112 ⟨rfl, rfl⟩
                          rw [hf.gM]
                          refine a_ifeq (tgt := 126) C dM_fill_115 (by decide) i01_lt (fun h115 => ?_) (fun h115 => ?_)
                          · skip
                            have hch2 := chn_f (i01_eq h115)
                            have hf2 := hf
                            have hw2 := hwy
                            have hu2 := huy
                            have hA := And.intro hL (And.intro hP (And.intro hG (rd_k h106 hL hL2 hch2)))
                            refine inc_4 C dM_fill_126 rfl (inc_up (c := 1) (by decide)) (by omega) rfl ?_
                            refine a_goto (tgt := 100) C dM_fill_129 (by decide) ?_
                            exact ih100 (r + 1) _ (by omega) (by omega) hf2 hw2 hu2 hA.1 hA.2.1 hA.2.2.1 hA.2.2.2
                          · skip
                            have hch2 := i01_ne h115
                            refine a_aloadn C dM_fill_118 rfl rfl ?_
                            refine a_iload C dM_fill_119 rfl ?_
                            refine a_iloadn C dM_fill_121 rfl rfl ?_
                            refine a_iloadn C dM_fill_122 rfl rfl ?_
                            refine vV3 C (c_M_divide (kl K) (kD K) ad cI cD cZ cJ _ (x.1 3) _ _ _ (by rw [hf.1]; exact h106) hij hj14 hwy (by rw [hf.gM]; exact hg) huy (dm_pre hf.gM hg hT h106 hij (by omega) (posa_of hg hac hN hj hcm hf (fun c _ s hs _ => hP s hs)))) wM_M_164 wI_M_divide wSel_M_divide wIni_M wC_M_divide hd_M_divide (by decide) (by decide) (q0 := 0) rfl rfl (Nat.le_of_ble_eq_true rfl) dM_fill_123 ?_
                            rintro u123 ⟨pd123, pw123, pu123⟩
                            have hf2 := hf.trans (FM_div hi14 hj14 pd123)
                            have hw2 := pw123
                            have hu2 := pu123
                            have hA := rd_s hf.gM (hf.2.1 2 (by decide)) hg hac hN hij hj h106 hcm hf hL hP hG hL2 hch2 pd123
                            refine inc_4 C dM_fill_126 rfl (inc_up (c := 1) (by decide)) (by omega) rfl ?_
                            refine a_goto (tgt := 100) C dM_fill_129 (by decide) ?_
                            exact ih100 (r + 1) _ (by omega) (by omega) hf2 hw2 hu2 hA.1 hA.2.1 hA.2.2.1 hA.2.2.2
                    exact LP100 _ 0 _ (Nat.lt_succ_self _) (Nat.zero_le _) hf hwy huy hL hP (fun c hc => hG c (by omega)) (fun s hs => absurd hs (Nat.not_lt_zero _))
                  · skip
                    refine a_aloadn C dM_fill_66 rfl rfl ?_
                    refine g_M_48 C dM_fill_67 ?_
                    refine a_iload C dM_fill_70 rfl ?_
                    refine a_sipush (v := 225) C dM_fill_72 (by decide) ?_
                    refine a_imul C dM_fill_75 ?_
                    refine a_iloadn C dM_fill_76 rfl rfl ?_
                    refine a_iloadn C dM_fill_77 rfl rfl ?_
                    refine sI2 C (c_M_span (kl K) (kD K) ad cI cD cZ cJ _ _ _ hi14 hj14) wM_M_129 wSt_M_span wIni_M wC_M_span hd_M_span (by decide) (by decide) (Nat.le_of_ble_eq_true rfl) dM_fill_78 ?_
                    rintro n78 u78 b78 ⟨rfl, rfl⟩
                    refine a_iadd C dM_fill_81 ?_
                    refine a_aloadn C dM_fill_82 rfl rfl ?_
                    refine a_iload C dM_fill_83 rfl ?_
                    refine a_iloadn C dM_fill_85 rfl rfl ?_
                    refine a_iloadn C dM_fill_86 rfl rfl ?_
                    refine vI3 C (c_M_isGood (kl K) (kD K) ad cI cD cZ cJ _ _ _ _ (by omega) hij (by rw [hf.1]; exact hj) (by rw [hf.1]; exact hN) hwy (by rw [hf.gM]; exact hg) huy (by rw [hf.1, hf.2.1 2 (by decide)]; exact hch)) wM_M_168 wI_M_isGood wSel_M_isGood wIni_M wC_M_isGood hd_M_isGood (by decide) (by decide) (q0 := 0) rfl rfl (Nat.le_of_ble_eq_true rfl) dM_fill_87 ?_
                    rintro n87 u87 b87 ⟨rfl, rfl⟩
                    refine stM_13 C dM_fill_90 (by omega) i01_le ?_
                    refine inc_4 C dM_fill_91 rfl (inc_up (c := 1) (by decide)) (by omega) rfl ?_
                    refine a_goto (tgt := 59) C dM_fill_94 (by decide) ?_
                    exact ih59 (m + 1) _ (by omega) (by omega) (hf.trans (FM_13 hi14 hj14)) (hwy.sA _ _ (Nat.lt_of_le_of_lt i01_le (by decide))) (u13 huy) (lv_13 hL) (pi_13 hP) (gl_s hG hL (by rw [hf.gM, hf.1, hf.2.1 2 (by decide)]))
              exact LP59 _ 0 _ (Nat.lt_succ_self _) (Nat.zero_le _) hf hwy huy hL hP (fun c hc => absurd hc (Nat.not_lt_zero _))
        exact LP50 _ 0 _ none (Nat.lt_succ_self _) (Nat.zero_le _) hf hwy huy (lv_0 hF3) (pi_0 hg hac hij hj14 hF3)
      · skip
        refine a_aloadn C dM_fill_10 rfl rfl ?_
        refine g_M_51 C dM_fill_11 ?_
        refine a_iloadn C dM_fill_14 rfl rfl ?_
        refine a_sipush (v := 225) C dM_fill_15 (by decide) ?_
        refine a_imul C dM_fill_18 ?_
        refine a_iloadn C dM_fill_19 rfl rfl ?_
        refine a_iloadn C dM_fill_20 rfl rfl ?_
        refine sI2 C (c_M_span (kl K) (kD K) ad cI cD cZ cJ _ _ _ hi14 hj14) wM_M_129 wSt_M_span wIni_M wC_M_span hd_M_span (by decide) (by decide) (Nat.le_of_ble_eq_true rfl) dM_fill_21 ?_
        rintro n21 u21 b21 ⟨rfl, rfl⟩
        refine a_iadd C dM_fill_24 ?_
        refine a_iconst (v := 0) C dM_fill_25 (by decide) ?_
        refine stM_14 C dM_fill_26 (by omega) ?_
        have hf1 : FM i j x (sA y 14 (r * 225 + (i * 15 + j)) 0) := hf.trans (FM_14 hi14 hj14)
        have hw1 : WF (sA y 14 (r * 225 + (i * 15 + j)) 0) := hwy.sA _ _ (by decide)
        have hu1 := u14 (q0 := r * 225 + (i * 15 + j)) (v := 0) huy (by decide)
        have hz4 := (hg.2 r h7).2.2.1
        refine a_aloadn C dM_fill_27 rfl rfl ?_
        refine a_iloadn C dM_fill_28 rfl rfl ?_
        refine vI1 C (c_M_isChain (kl K) (kD K) ad cI cD cZ cJ _ _ (by omega) hw1) wM_M_104 wI_M_isChain wSel_M_isChain wIni_M wC_M_isChain hd_M_isChain (by decide) (by decide) (q0 := 0) rfl rfl (Nat.le_of_ble_eq_true rfl) dM_fill_29 ?_
        rintro n29 u29 b29 ⟨rfl, rfl⟩
        rw [hf1.gM]
        refine a_ifne (tgt := 42) C dM_fill_32 (by decide) i01_lt (fun h32 => ?_) (fun h32 => ?_)
        · skip
          have hch1 := i01_ne h32
          have hf2 := hf1
          have hw2 := hw1
          have hu2 := hu1
          have hF2 := f1_c hF (chn_t hch1)
          refine inc_3 C dM_fill_42 rfl (inc_up (c := 1) (by decide)) (by omega) rfl ?_
          refine a_goto (tgt := 2) C dM_fill_45 (by decide) ?_
          exact ih2 (r + 1) _ (by omega) (by omega) hf2 hw2 hu2 hF2
        · skip
          have hch1 := chn_f (i01_eq h32)
          refine a_aloadn C dM_fill_35 rfl rfl ?_
          refine a_iloadn C dM_fill_36 rfl rfl ?_
          refine a_iloadn C dM_fill_37 rfl rfl ?_
          refine a_iloadn C dM_fill_38 rfl rfl ?_
          refine vV3 C (c_M_divide (kl K) (kD K) ad cI cD cZ cJ _ (x.1 3) _ _ _ (by rw [hf1.1]; exact h7) hij hj14 hw1 (by rw [hf1.gM]; exact hg) hu1 (dm_pre hf1.gM hg hT h7 hij (by omega) (posa_of hg hac hN hj hcm hf1 (fun c q => by rw [hch1] at q; cases q)))) wM_M_164 wI_M_divide wSel_M_divide wIni_M wC_M_divide hd_M_divide (by decide) (by decide) (q0 := 0) rfl rfl (Nat.le_of_ble_eq_true rfl) dM_fill_39 ?_
          rintro u39 ⟨pd39, pw39, pu39⟩
          have hf2 := hf1.trans (FM_div hi14 hj14 pd39)
          have hw2 := pw39
          have hu2 := pu39
          have hF2 := f1_n hF pd39 hch1 (dm_eq hf1.gM (hf1.2.1 2 (by decide)) hg hT (by omega) h7 hij hj (inm_of hN hj hz4 hcm hf1 (fun c q => by rw [hch1] at q; cases q)) pd39).1
          refine inc_3 C dM_fill_42 rfl (inc_up (c := 1) (by decide)) (by omega) rfl ?_
          refine a_goto (tgt := 2) C dM_fill_45 (by decide) ?_
          exact ih2 (r + 1) _ (by omega) (by omega) hf2 hw2 hu2 hF2
  exact LP2 _ 0 _ (Nat.lt_succ_self _) (Nat.zero_le _) (FM.rf _ _ _) hw hu (fun s hs => absurd hs (Nat.not_lt_zero _))

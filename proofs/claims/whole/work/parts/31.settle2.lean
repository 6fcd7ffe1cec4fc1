set_option maxHeartbeats 4000000 in
set_option maxRecDepth 100000 in
theorem c_C_settleNonterminal (lc : Launch) (D : va_G) (ad : Nat → Nat) (cI cD cZ cJ : ClassId) (x : ST) (n q b : Nat) (hn : n < 6) (hq : q < 105) (hb : b ≤ 1) (hw : WF x) (hg : GOk (gP x)) (hub : UB x) : CV lc D (ty4 cI cD cZ cJ) (WS ad cI cD cZ) yC_settleNonterminal bC_settleNonterminal 9 none 2 [.ref (ad 11), .ref (ad 3), .int (nI n), .int (nI q), .int (nI b)] x (fun u => TF (fun r k => decide (nt (x.2.1 6 (r * 4 + k)) = some n)) (fun r k => wanB (selU (gP x) n (decide (b ≠ 0)) r k) (fun s => x.2.1 12 (s * 105 + q)) 16) (fun r k => (hofB (selU (gP x) n (decide (b ≠ 0)) r k) (fun s => x.2.2.1 13 (s * 105 + q)) 16).1) (x.1 3) (fun r => x.2.1 5 r) q x u (x.1 3) 0 ∧ UB u ∧ WF u) := by
  refine CV_of [some (.ref (ad 11)), some (.ref (ad 3)), some (.int (nI n)), some (.int (nI q)), some (.int (nI b)), none, none, none, none] (by decide) (Nat.le_of_ble_eq_true rfl) rfl ?_
  intro K C E hkl hkD hkn
  have hR : x.1 3 ≤ 16 := hg.1
  have JN14 : ∀ m : Nat, m < 65536 → (m = if decide (b ≠ 0) = true then rmk (gP x) n 0 (gR (gP x)) else 0) → WA K (WS ad cI cD cZ x) [some (.ref (ad 11)), some (.ref (ad 3)), some (.int (nI n)), some (.int (nI q)), some (.int (nI b)), none, none, none, none] 14 [.int (nI m)] := by
    intro m hm hmv
    refine ist_5 C dC_settleNonterminal_14 (by omega) rfl ?_
    refine a_iconst (v := 0) C dC_settleNonterminal_16 (by decide) ?_
    refine ist_6 C dC_settleNonterminal_17 (by omega) rfl ?_
    have LP19 : ∀ (N0 : Nat) (r : Nat) (y : ST) (o7 o8 : Option Value), x.1 3 - r < N0 → (r ≤ x.1 3) → (TF (fun r k => decide (nt (x.2.1 6 (r * 4 + k)) = some n)) (fun r k => wanB (selU (gP x) n (decide (b ≠ 0)) r k) (fun s => x.2.1 12 (s * 105 + q)) 16) (fun r k => (hofB (selU (gP x) n (decide (b ≠ 0)) r k) (fun s => x.2.2.1 13 (s * 105 + q)) 16).1) (x.1 3) (fun r => x.2.1 5 r) q x y r 0) → (UB y) → (WF y) → WA K (WS ad cI cD cZ y) [some (.ref (ad 11)), some (.ref (ad 3)), some (.int (nI n)), some (.int (nI q)), some (.int (nI b)), some (.int (nI m)), some (.int (nI r)), o7, o8] 19 [] := by
      intro N0
      induction N0 with
      | zero => intro r y o7 o8 hm; exact absurd hm (Nat.not_lt_zero _)
      | succ N0 ih19 =>
        intro r y o7 o8 hm19 hr hf hu hwy
        refine a_iload C dC_settleNonterminal_19 rfl ?_
        refine a_aloadn C dC_settleNonterminal_21 rfl rfl ?_
        refine vI0 C (c_G_size (kl K) (kD K) ad cI cD cZ cJ _ (by rw [hf.1.1]; omega)) wM_C_53 wI_G_size wSel_G_size wIni_G wC_G_size hd_G_size (by decide) (by decide) (q0 := 3) rfl rfl (Nat.le_of_ble_eq_true rfl) dC_settleNonterminal_22 ?_
        rintro n22 u22 b22 ⟨rfl, rfl⟩
        rw [hf.1.1]
        refine a_cge (tgt := 118) C dC_settleNonterminal_25 (by decide) (by omega) (by omega) (fun h25 => ?_) (fun h25 => ?_)
        · skip
          exact r_v C E dC_settleNonterminal_118 ⟨by rw [show x.1 3 = r by omega] at hf ⊢; exact hf, hu, hwy⟩
        · skip
          obtain ⟨g1, g2, g3, g4, g5, g6⟩ := hg.2 r h25
          have g2 : 1 ≤ x.2.1 5 r := g2
          have g3 : x.2.1 5 r ≤ 4 := g3
          refine a_iconst (v := 0) C dC_settleNonterminal_28 (by decide) ?_
          refine ist_7 C dC_settleNonterminal_29 (by omega) rfl ?_
          have LP31 : ∀ (N0 : Nat) (k : Nat) (y : ST) (o8 : Option Value), 4 - k < N0 → (k ≤ x.2.1 5 r) → (TF (fun r k => decide (nt (x.2.1 6 (r * 4 + k)) = some n)) (fun r k => wanB (selU (gP x) n (decide (b ≠ 0)) r k) (fun s => x.2.1 12 (s * 105 + q)) 16) (fun r k => (hofB (selU (gP x) n (decide (b ≠ 0)) r k) (fun s => x.2.2.1 13 (s * 105 + q)) 16).1) (x.1 3) (fun r => x.2.1 5 r) q x y r k) → (UB y) → (WF y) → WA K (WS ad cI cD cZ y) [some (.ref (ad 11)), some (.ref (ad 3)), some (.int (nI n)), some (.int (nI q)), some (.int (nI b)), some (.int (nI m)), some (.int (nI r)), some (.int (nI k)), o8] 31 [] := by
            intro N0
            induction N0 with
            | zero => intro k y o8 hm; exact absurd hm (Nat.not_lt_zero _)
            | succ N0 ih31 =>
              intro k y o8 hm31 hk hf hu hwy
              refine a_iload C dC_settleNonterminal_31 rfl ?_
              refine a_aloadn C dC_settleNonterminal_33 rfl rfl ?_
              refine a_iload C dC_settleNonterminal_34 rfl ?_
              refine vI1 C (c_G_rightLength (kl K) (kD K) ad cI cD cZ cJ _ _ (by omega) (by rw [hf.1.2.2 5 (by decide)]; omega)) wM_C_85 wI_G_rightLength wSel_G_rightLength wIni_G wC_G_rightLength hd_G_rightLength (by decide) (by decide) (q0 := 3) rfl rfl (Nat.le_of_ble_eq_true rfl) dC_settleNonterminal_36 ?_
              rintro n36 u36 b36 ⟨rfl, rfl⟩
              rw [hf.1.2.2 5 (by decide)]
              refine a_cge (tgt := 112) C dC_settleNonterminal_39 (by decide) (by omega) (by omega) (fun h39 => ?_) (fun h39 => ?_)
              · skip
                refine inc_6 C dC_settleNonterminal_112 rfl (inc_up (c := 1) (by decide)) (by omega) rfl ?_
                refine a_goto (tgt := 19) C dC_settleNonterminal_115 (by decide) ?_
                exact ih19 (r + 1) _ _ _ (by omega) (by omega) (TF_row hf h39) hu hwy
              · skip
                have g7 : 33 ≤ x.2.1 6 (r * 4 + k) ∧ x.2.1 6 (r * 4 + k) ≤ 126 := g6 k h39
                refine a_aloadn C dC_settleNonterminal_42 rfl rfl ?_
                refine a_iload C dC_settleNonterminal_43 rfl ?_
                refine a_iload C dC_settleNonterminal_45 rfl ?_
                refine vI2 C (c_G_symbolNonterminal (kl K) (kD K) ad cI cD cZ cJ _ _ _ (by omega) (by omega) (by rw [hf.1.2.2 6 (by decide)]; omega)) wM_C_88 wI_G_symbolNonterminal wSel_G_symbolNonterminal wIni_G wC_G_symbolNonterminal hd_G_symbolNonterminal (by decide) (by decide) (q0 := 3) rfl rfl (Nat.le_of_ble_eq_true rfl) dC_settleNonterminal_47 ?_
                rintro n47 u47 b47 ⟨rfl, rfl⟩
                rw [hf.1.2.2 6 (by decide)]
                refine a_iloadn C dC_settleNonterminal_50 rfl rfl ?_
                refine a_cne (tgt := 106) C dC_settleNonterminal_51 (by decide) (oN_lt _) (by omega) (fun h51 => ?_) (fun h51 => ?_)
                · skip
                  have hnf := TF_skip hf (oN_isnt h51)
                  have hnu := hu
                  have hnw := hwy
                  refine inc_7 C dC_settleNonterminal_106 rfl (inc_up (c := 1) (by decide)) (by omega) rfl ?_
                  refine a_goto (tgt := 31) C dC_settleNonterminal_109 (by decide) ?_
                  exact ih31 (k + 1) _ _ (by omega) (by omega) hnf hnu hnw
                · skip
                  refine a_aloadn C dC_settleNonterminal_54 rfl rfl ?_
                  refine a_iload C dC_settleNonterminal_55 rfl ?_
                  refine a_iload C dC_settleNonterminal_57 rfl ?_
                  refine a_iload C dC_settleNonterminal_59 rfl ?_
                  refine vI3 C (c_G_allowedUnder (kl K) (kD K) ad cI cD cZ cJ _ _ _ _ (by omega) (by omega) (by omega) hwy (by rw [hf.1.2.2 5 (by decide)]; omega)) wM_C_102 wI_G_allowedUnder wSel_G_allowedUnder wIni_G wC_G_allowedUnder hd_G_allowedUnder (by decide) (by decide) (q0 := 3) rfl rfl (Nat.le_of_ble_eq_true rfl) dC_settleNonterminal_61 ?_
                  rintro n61 u61 b61 ⟨rfl, p61⟩
                  rw [gP_only hf.1] at p61
                  have hsb := selU_bit (g := gP x) hR hmv p61
                  refine ist_8 C dC_settleNonterminal_64 (by omega) rfl ?_
                  refine a_aloadn C dC_settleNonterminal_66 rfl rfl ?_
                  refine g_C_22 C dC_settleNonterminal_67 ?_
                  refine a_iload C dC_settleNonterminal_70 rfl ?_
                  refine a_iload C dC_settleNonterminal_72 rfl ?_
                  refine a_iloadn C dC_settleNonterminal_74 rfl rfl ?_
                  refine sI3 C (c_C_useIndex (kl K) (kD K) ad cI cD cZ cJ _ _ _ _ (by omega)) wM_C_95 wSt_C_useIndex wIni_C wC_C_useIndex hd_C_useIndex (by decide) (by decide) (Nat.le_of_ble_eq_true rfl) dC_settleNonterminal_75 ?_
                  rintro n75 u75 b75 ⟨rfl, rfl⟩
                  refine a_aloadn C dC_settleNonterminal_78 rfl rfl ?_
                  refine a_iload C dC_settleNonterminal_79 rfl ?_
                  refine a_iloadn C dC_settleNonterminal_81 rfl rfl ?_
                  refine vI2 C (c_C_waysOfAny (kl K) (kD K) ad cI cD cZ cJ _ _ _ (by omega) hq hu.2) wM_C_71 wI_C_waysOfAny wSel_C_waysOfAny wIni_C wC_C_waysOfAny hd_C_waysOfAny (by decide) (by decide) (q0 := 11) rfl rfl (Nat.le_of_ble_eq_true rfl) dC_settleNonterminal_82 ?_
                  rintro n82 u82 b82 ⟨rfl, rfl⟩
                  have hV : wan n61 (fun r => y.2.1 12 (r * 105 + q)) 16 = (fun r k => wanB (selU (gP x) n (decide (b ≠ 0)) r k) (fun s => x.2.1 12 (s * 105 + q)) 16) r k := by rw [hf.1.2.2 12 (by decide)]; exact wan_B 16 hsb
                  rw [hV]
                  have hVl : (fun r k => wanB (selU (gP x) n (decide (b ≠ 0)) r k) (fun s => x.2.1 12 (s * 105 + q)) 16) r k ≤ 1000000000 := wanB_le _ _ _
                  refine stS_15 C dC_settleNonterminal_85 (by omega) ?_
                  refine a_aloadn C dC_settleNonterminal_86 rfl rfl ?_
                  refine g_C_25 C dC_settleNonterminal_87 ?_
                  refine a_iload C dC_settleNonterminal_90 rfl ?_
                  refine a_iload C dC_settleNonterminal_92 rfl ?_
                  refine a_iloadn C dC_settleNonterminal_94 rfl rfl ?_
                  refine sI3 C (c_C_useIndex (kl K) (kD K) ad cI cD cZ cJ _ _ _ _ (by omega)) wM_C_95 wSt_C_useIndex wIni_C wC_C_useIndex hd_C_useIndex (by decide) (by decide) (Nat.le_of_ble_eq_true rfl) dC_settleNonterminal_95 ?_
                  rintro n95 u95 b95 ⟨rfl, rfl⟩
                  refine a_aloadn C dC_settleNonterminal_98 rfl rfl ?_
                  refine a_iload C dC_settleNonterminal_99 rfl ?_
                  refine a_iloadn C dC_settleNonterminal_101 rfl rfl ?_
                  refine vI2 C (c_C_heaviestOf (kl K) (kD K) ad cI cD cZ cJ _ _ _ (by omega) hq) wM_C_105 wI_C_heaviestOf wSel_C_heaviestOf wIni_C wC_C_heaviestOf hd_C_heaviestOf (by decide) (by decide) (q0 := 11) rfl rfl (Nat.le_of_ble_eq_true rfl) dC_settleNonterminal_102 ?_
                  rintro n102 u102 b102 ⟨rfl, rfl⟩
                  have hW2 : (hof n61 (fun r1 => (sA y 15 ((r * 4 + k) * 105 + q) ((fun r k => wanB (selU (gP x) n (decide (b ≠ 0)) r k) (fun s => x.2.1 12 (s * 105 + q)) 16) r k)).2.2.1 13 (r1 * 105 + q)) 16).1 = (fun r k => (hofB (selU (gP x) n (decide (b ≠ 0)) r k) (fun s => x.2.2.1 13 (s * 105 + q)) 16).1) r k := by show (hof n61 (fun r => y.2.2.1 13 (r * 105 + q)) 16).1 = _; rw [hf.1.2.1]; exact congrArg Prod.fst (hof_B 16 hsb)
                  have hHl := hof_lt n61 (fun r => y.2.2.1 13 (r * 105 + q)) 16 (Nat.le_refl _)
                  rw [hW2]
                  have hWl : (fun r k => (hofB (selU (gP x) n (decide (b ≠ 0)) r k) (fun s => x.2.2.1 13 (s * 105 + q)) 16).1) r k < 4294967296 := by rw [← hW2]; exact hHl
                  have hnf := TF_put hf (by omega) (by omega) hq h25 h39 (oN_is hn h51)
                  have hnu := UB_put hu ((r * 4 + k) * 105 + q) ((fun r k => wanB (selU (gP x) n (decide (b ≠ 0)) r k) (fun s => x.2.1 12 (s * 105 + q)) 16) r k) ((r * 4 + k) * 105 + q) ((fun r k => (hofB (selU (gP x) n (decide (b ≠ 0)) r k) (fun s => x.2.2.1 13 (s * 105 + q)) 16).1) r k) hVl
                  have hnw := (hwy.sA 15 ((r * 4 + k) * 105 + q) (Nat.lt_of_le_of_lt hVl (by decide))).sA 16 ((r * 4 + k) * 105 + q) hWl
                  refine stS_16 C dC_settleNonterminal_105 (by omega) ?_
                  refine inc_7 C dC_settleNonterminal_106 rfl (inc_up (c := 1) (by decide)) (by omega) rfl ?_
                  refine a_goto (tgt := 31) C dC_settleNonterminal_109 (by decide) ?_
                  exact ih31 (k + 1) _ _ (by omega) (by omega) hnf hnu hnw
          exact LP31 _ 0 y o8 (Nat.lt_succ_self _) (Nat.zero_le _) hf hu hwy
    exact LP19 _ 0 x none none (Nat.lt_succ_self _) (Nat.zero_le _) (TF_0 _ _ _ _ _ _ _) hub hw
  refine a_iload C dC_settleNonterminal_0 rfl ?_
  refine a_ifeq (tgt := 13) C dC_settleNonterminal_2 (by decide) (by omega) (fun h2 => ?_) (fun h2 => ?_)
  · skip
    refine a_iconst (v := 0) C dC_settleNonterminal_13 (by decide) ?_
    exact JN14 _ (by first | decide | exact rmk_lt hR) (by first | (rw [if_neg (by simp [h2])]; done) | (rw [if_pos (by simp [h2])]; rfl))
  · skip
    refine a_aloadn C dC_settleNonterminal_5 rfl rfl ?_
    refine a_iloadn C dC_settleNonterminal_6 rfl rfl ?_
    refine vI1 C (c_G_derivingRules (kl K) (kD K) ad cI cD cZ cJ _ _ hn hw hR) wM_C_99 wI_G_derivingRules wSel_G_derivingRules wIni_G wC_G_derivingRules hd_G_derivingRules (by decide) (by decide) (q0 := 3) rfl rfl (Nat.le_of_ble_eq_true rfl) dC_settleNonterminal_7 ?_
    rintro n7 u7 b7 ⟨rfl, rfl⟩
    refine a_goto (tgt := 14) C dC_settleNonterminal_10 (by decide) ?_
    exact JN14 _ (by first | decide | exact rmk_lt hR) (by first | (rw [if_neg (by simp [h2])]; done) | (rw [if_pos (by simp [h2])]; rfl))

set_option maxHeartbeats 4000000 in
set_option maxRecDepth 100000 in
theorem c_G_allowedUnder (lc : Launch) (D : va_G) (ad : Nat → Nat) (cI cD cZ cJ : ClassId) (x : ST) (r k m : Nat) (hr : r < 16) (hk : k < 4) (hm : m < 4294967296) (hw : WF x) (hz : 1 ≤ x.2.1 5 r) : CI lc D (ty4 cI cD cZ cJ) (WS ad cI cD cZ) yG_allowedUnder bG_allowedUnder 6 (some .int) 0 [.ref (ad 3), .int (nI r), .int (nI k), .int (nI m)] x (fun rr u => x = u ∧ ∀ s, s < 16 → rr.testBit s = (m.testBit s && alw (gP x) r k s)) := by
  refine CI_of [some (.ref (ad 3)), some (.int (nI r)), some (.int (nI k)), some (.int (nI m)), none, none] (by decide) (Nat.le_of_ble_eq_true rfl) rfl ?_
  intro K C E hkl hkD hkn
  have h8 := hw.1 8 r
  have h5 := hw.1 5 r
  refine a_iloadn C dG_allowedUnder_0 rfl rfl ?_
  refine a_aloadn C dG_allowedUnder_1 rfl rfl ?_
  refine g_G_28 C dG_allowedUnder_2 ?_
  refine a_iloadn C dG_allowedUnder_5 rfl rfl ?_
  refine ldS_9 C dG_allowedUnder_6 (by omega) ?_
  refine a_iconst (v := 4294967295) C dG_allowedUnder_7 (by decide) ?_
  refine a_ixor C dG_allowedUnder_8 ?_
  refine a_iand C dG_allowedUnder_9 ?_
  refine ist_4 C dG_allowedUnder_10 (by omega) rfl ?_
  have JN53 : ∀ b : Nat, b ≤ 1 → (b = 1 ↔ ((x.2.1 8 r = 2 ∧ k + 1 = x.2.1 5 r) ∨ (x.2.1 8 r = 3 ∧ k = 0))) → WA K (WS ad cI cD cZ x) [some (.ref (ad 3)), some (.int (nI r)), some (.int (nI k)), some (.int (nI m)), some (.int (nI (m &&& (x.2.1 9 r ^^^ 4294967295)))), none] 53 [.int (nI b)] := by
    intro b hb hbl
    refine ist_5 C dG_allowedUnder_53 (by omega) rfl ?_
    refine a_iload C dG_allowedUnder_55 rfl ?_
    refine a_ifeq (tgt := 71) C dG_allowedUnder_57 (by decide) (by omega) (fun h57 => ?_) (fun h57 => ?_)
    · skip
      refine a_iload C dG_allowedUnder_71 rfl ?_
      exact r_i C E dG_allowedUnder_73 (by first | exact Nat.lt_of_le_of_lt Nat.and_le_left hm | exact Nat.lt_of_le_of_lt Nat.and_le_left (Nat.lt_of_le_of_lt Nat.and_le_left hm)) ⟨rfl, au_0 (by omega)⟩
    · skip
      refine a_iload C dG_allowedUnder_60 rfl ?_
      refine a_iconst (v := 1) C dG_allowedUnder_62 (by decide) ?_
      refine a_iloadn C dG_allowedUnder_63 rfl rfl ?_
      refine a_ishl C dG_allowedUnder_64 (by omega) ?_
      refine a_iconst (v := 4294967295) C dG_allowedUnder_65 (by decide) ?_
      refine a_ixor C dG_allowedUnder_66 ?_
      refine a_iand C dG_allowedUnder_67 ?_
      refine a_goto (tgt := 73) C dG_allowedUnder_68 (by decide) ?_
      exact r_i C E dG_allowedUnder_73 (by first | exact Nat.lt_of_le_of_lt Nat.and_le_left hm | exact Nat.lt_of_le_of_lt Nat.and_le_left (Nat.lt_of_le_of_lt Nat.and_le_left hm)) ⟨rfl, au_1 hr (by omega)⟩
  refine a_aloadn C dG_allowedUnder_12 rfl rfl ?_
  refine g_G_25 C dG_allowedUnder_13 ?_
  refine a_iloadn C dG_allowedUnder_16 rfl rfl ?_
  refine ldS_8 C dG_allowedUnder_17 (by omega) ?_
  refine a_iconst (v := 2) C dG_allowedUnder_18 (by decide) ?_
  refine a_cne (tgt := 34) C dG_allowedUnder_19 (by decide) (by omega) (by omega) (fun h19 => ?_) (fun h19 => ?_)
  · skip
    refine a_aloadn C dG_allowedUnder_34 rfl rfl ?_
    refine g_G_25 C dG_allowedUnder_35 ?_
    refine a_iloadn C dG_allowedUnder_38 rfl rfl ?_
    refine ldS_8 C dG_allowedUnder_39 (by omega) ?_
    refine a_iconst (v := 3) C dG_allowedUnder_40 (by decide) ?_
    refine a_cne (tgt := 52) C dG_allowedUnder_41 (by decide) (by omega) (by omega) (fun h41 => ?_) (fun h41 => ?_)
    · skip
      refine a_iconst (v := 0) C dG_allowedUnder_52 (by decide) ?_
      exact JN53 _ (by decide) (by omega)
    · skip
      refine a_iloadn C dG_allowedUnder_44 rfl rfl ?_
      refine a_ifne (tgt := 52) C dG_allowedUnder_45 (by decide) (by omega) (fun h45 => ?_) (fun h45 => ?_)
      · skip
        refine a_iconst (v := 0) C dG_allowedUnder_52 (by decide) ?_
        exact JN53 _ (by decide) (by omega)
      · skip
        refine a_iconst (v := 1) C dG_allowedUnder_48 (by decide) ?_
        refine a_goto (tgt := 53) C dG_allowedUnder_49 (by decide) ?_
        exact JN53 _ (by decide) (by omega)
  · skip
    refine a_iloadn C dG_allowedUnder_22 rfl rfl ?_
    refine a_aloadn C dG_allowedUnder_23 rfl rfl ?_
    refine g_G_15 C dG_allowedUnder_24 ?_
    refine a_iloadn C dG_allowedUnder_27 rfl rfl ?_
    refine ldS_5 C dG_allowedUnder_28 (by omega) ?_
    refine a_iconst (v := 1) C dG_allowedUnder_29 (by decide) ?_
    refine a_isub C dG_allowedUnder_30 (by omega) ?_
    refine a_ceq (tgt := 48) C dG_allowedUnder_31 (by decide) (by omega) (by omega) (fun h31 => ?_) (fun h31 => ?_)
    · skip
      refine a_iconst (v := 1) C dG_allowedUnder_48 (by decide) ?_
      refine a_goto (tgt := 53) C dG_allowedUnder_49 (by decide) ?_
      exact JN53 _ (by decide) (by omega)
    · skip
      refine a_aloadn C dG_allowedUnder_34 rfl rfl ?_
      refine g_G_25 C dG_allowedUnder_35 ?_
      refine a_iloadn C dG_allowedUnder_38 rfl rfl ?_
      refine ldS_8 C dG_allowedUnder_39 (by omega) ?_
      refine a_iconst (v := 3) C dG_allowedUnder_40 (by decide) ?_
      refine a_cne (tgt := 52) C dG_allowedUnder_41 (by decide) (by omega) (by omega) (fun h41 => ?_) (fun h41 => ?_)
      · skip
        refine a_iconst (v := 0) C dG_allowedUnder_52 (by decide) ?_
        exact JN53 _ (by decide) (by omega)
      · skip
        refine a_iloadn C dG_allowedUnder_44 rfl rfl ?_
        refine a_ifne (tgt := 52) C dG_allowedUnder_45 (by decide) (by omega) (fun h45 => ?_) (fun h45 => ?_)
        · skip
          refine a_iconst (v := 0) C dG_allowedUnder_52 (by decide) ?_
          exact JN53 _ (by decide) (by omega)
        · skip
          refine a_iconst (v := 1) C dG_allowedUnder_48 (by decide) ?_
          refine a_goto (tgt := 53) C dG_allowedUnder_49 (by decide) ?_
          exact JN53 _ (by decide) (by omega)
set_option maxHeartbeats 4000000 in
set_option maxRecDepth 100000 in
theorem c_C_settleCharacters (lc : Launch) (D : va_G) (ad : Nat → Nat) (cI cD cZ cJ : ClassId) (x : ST) (i j : Nat) (hij : i < j) (hjl : j ≤ x.1 2) (hw : WF x) (ht : TXT x) (hg : GOk (gP x)) (hub : UB x) : CV lc D (ty4 cI cD cZ cJ) (WS ad cI cD cZ) yC_settleCharacters bC_settleCharacters 9 none 2 [.ref (ad 11), .ref (ad 3), .ref (ad 1), .int (nI i), .int (nI j)] x (fun u => TF (fun r k => (nt (x.2.1 6 (r * 4 + k))).isNone) (fun r k => if j = i + 1 ∧ stands (x.2.1 6 (r * 4 + k)) (tAt x i) = true then 1 else 0) (fun _ _ => 4294967295) (x.1 3) (fun r => x.2.1 5 r) (spn i j) x u (x.1 3) 0 ∧ UB u ∧ WF u) := by
  refine CV_of [some (.ref (ad 11)), some (.ref (ad 3)), some (.ref (ad 1)), some (.int (nI i)), some (.int (nI j)), none, none, none, none] (by decide) (Nat.le_of_ble_eq_true rfl) rfl ?_
  intro K C E hkl hkD hkn
  have hj : j ≤ 14 := Nat.le_trans hjl ht.1
  have hR : x.1 3 ≤ 16 := hg.1
  have hsp := spn_lt hij hj
  have hta := tAt_lt ht i
  have htl := ht.1
  refine a_iloadn C dC_settleCharacters_0 rfl rfl ?_
  refine a_iload C dC_settleCharacters_1 rfl ?_
  refine tI2 C (c_P_spanNumber (kl K) (kD K) ad cI cD cZ cJ _ _ _ (by omega) hj (by omega)) (k0 := 6) rfl wSt_P_spanNumber wIni_P wC_P_spanNumber hd_P_spanNumber (by decide) (by decide) (Nat.le_of_ble_eq_true rfl) dC_settleCharacters_3 ?_
  rintro n3 u3 b3 ⟨rfl, rfl⟩
  have hsd : j * (j - 1) / 2 + i = spn i j := rfl
  rw [hsd]
  refine ist_5 C dC_settleCharacters_6 (by omega) rfl ?_
  refine a_iconst (v := 0) C dC_settleCharacters_8 (by decide) ?_
  refine ist_6 C dC_settleCharacters_9 (by omega) rfl ?_
  have LP11 : ∀ (N0 : Nat) (r : Nat) (y : ST) (o7 o8 : Option Value), x.1 3 - r < N0 → (r ≤ x.1 3) → (TF (fun r k => (nt (x.2.1 6 (r * 4 + k))).isNone) (fun r k => if j = i + 1 ∧ stands (x.2.1 6 (r * 4 + k)) (tAt x i) = true then 1 else 0) (fun _ _ => 4294967295) (x.1 3) (fun r => x.2.1 5 r) (spn i j) x y r 0) → (UB y) → (WF y) → WA K (WS ad cI cD cZ y) [some (.ref (ad 11)), some (.ref (ad 3)), some (.ref (ad 1)), some (.int (nI i)), some (.int (nI j)), some (.int (nI (spn i j))), some (.int (nI r)), o7, o8] 11 [] := by
    intro N0
    induction N0 with
    | zero => intro r y o7 o8 hm; exact absurd hm (Nat.not_lt_zero _)
    | succ N0 ih11 =>
      intro r y o7 o8 hm11 hr hf hu hwy
      refine a_iload C dC_settleCharacters_11 rfl ?_
      refine a_aloadn C dC_settleCharacters_13 rfl rfl ?_
      refine vI0 C (c_G_size (kl K) (kD K) ad cI cD cZ cJ _ (by rw [hf.1.1]; omega)) wM_C_53 wI_G_size wSel_G_size wIni_G wC_G_size hd_G_size (by decide) (by decide) (q0 := 3) rfl rfl (Nat.le_of_ble_eq_true rfl) dC_settleCharacters_14 ?_
      rintro n14 u14 b14 ⟨rfl, rfl⟩
      rw [hf.1.1]
      refine a_cge (tgt := 128) C dC_settleCharacters_17 (by decide) (by omega) (by omega) (fun h17 => ?_) (fun h17 => ?_)
      · skip
        exact r_v C E dC_settleCharacters_128 ⟨by rw [show x.1 3 = r by omega] at hf ⊢; exact hf, hu, hwy⟩
      · skip
        obtain ⟨g1, g2, g3, g4, g5, g6⟩ := hg.2 r h17
        have g2 : 1 ≤ x.2.1 5 r := g2
        have g3 : x.2.1 5 r ≤ 4 := g3
        refine a_iconst (v := 0) C dC_settleCharacters_20 (by decide) ?_
        refine ist_7 C dC_settleCharacters_21 (by omega) rfl ?_
        have LP23 : ∀ (N0 : Nat) (k : Nat) (y : ST) (o8 : Option Value), 4 - k < N0 → (k ≤ x.2.1 5 r) → (TF (fun r k => (nt (x.2.1 6 (r * 4 + k))).isNone) (fun r k => if j = i + 1 ∧ stands (x.2.1 6 (r * 4 + k)) (tAt x i) = true then 1 else 0) (fun _ _ => 4294967295) (x.1 3) (fun r => x.2.1 5 r) (spn i j) x y r k) → (UB y) → (WF y) → WA K (WS ad cI cD cZ y) [some (.ref (ad 11)), some (.ref (ad 3)), some (.ref (ad 1)), some (.int (nI i)), some (.int (nI j)), some (.int (nI (spn i j))), some (.int (nI r)), some (.int (nI k)), o8] 23 [] := by
          intro N0
          induction N0 with
          | zero => intro k y o8 hm; exact absurd hm (Nat.not_lt_zero _)
          | succ N0 ih23 =>
            intro k y o8 hm23 hk hf hu hwy
            refine a_iload C dC_settleCharacters_23 rfl ?_
            refine a_aloadn C dC_settleCharacters_25 rfl rfl ?_
            refine a_iload C dC_settleCharacters_26 rfl ?_
            refine vI1 C (c_G_rightLength (kl K) (kD K) ad cI cD cZ cJ _ _ (by omega) (by rw [hf.1.2.2 5 (by decide)]; omega)) wM_C_85 wI_G_rightLength wSel_G_rightLength wIni_G wC_G_rightLength hd_G_rightLength (by decide) (by decide) (q0 := 3) rfl rfl (Nat.le_of_ble_eq_true rfl) dC_settleCharacters_28 ?_
            rintro n28 u28 b28 ⟨rfl, rfl⟩
            rw [hf.1.2.2 5 (by decide)]
            refine a_cge (tgt := 122) C dC_settleCharacters_31 (by decide) (by omega) (by omega) (fun h31 => ?_) (fun h31 => ?_)
            · skip
              refine inc_6 C dC_settleCharacters_122 rfl (inc_up (c := 1) (by decide)) (by omega) rfl ?_
              refine a_goto (tgt := 11) C dC_settleCharacters_125 (by decide) ?_
              exact ih11 (r + 1) _ _ _ (by omega) (by omega) (TF_row hf h31) hu hwy
            · skip
              have g7 : 33 ≤ x.2.1 6 (r * 4 + k) ∧ x.2.1 6 (r * 4 + k) ≤ 126 := g6 k h31
              refine a_aloadn C dC_settleCharacters_34 rfl rfl ?_
              refine a_iload C dC_settleCharacters_35 rfl ?_
              refine a_iload C dC_settleCharacters_37 rfl ?_
              refine vI2 C (c_G_symbolNonterminal (kl K) (kD K) ad cI cD cZ cJ _ _ _ (by omega) (by omega) (by rw [hf.1.2.2 6 (by decide)]; omega)) wM_C_88 wI_G_symbolNonterminal wSel_G_symbolNonterminal wIni_G wC_G_symbolNonterminal hd_G_symbolNonterminal (by decide) (by decide) (q0 := 3) rfl rfl (Nat.le_of_ble_eq_true rfl) dC_settleCharacters_39 ?_
              rintro n39 u39 b39 ⟨rfl, rfl⟩
              rw [hf.1.2.2 6 (by decide)]
              refine a_iconst (v := 4294967295) C dC_settleCharacters_42 (by decide) ?_
              refine a_cne (tgt := 116) C dC_settleCharacters_43 (by decide) (oN_lt _) (by decide) (fun h43 => ?_) (fun h43 => ?_)
              · skip
                have hnf := TF_skip hf (isNone_f h43)
                have hnu := hu
                have hnw := hwy
                refine inc_7 C dC_settleCharacters_116 rfl (inc_up (c := 1) (by decide)) (by omega) rfl ?_
                refine a_goto (tgt := 23) C dC_settleCharacters_119 (by decide) ?_
                exact ih23 (k + 1) _ _ (by omega) (by omega) hnf hnu hnw
              · skip
                have hno := oN_none h43
                have JN75 : ∀ b : Nat, b ≤ 1 → (b = if j = i + 1 ∧ stands (x.2.1 6 (r * 4 + k)) (tAt x i) = true then 1 else 0) → WA K (WS ad cI cD cZ y) [some (.ref (ad 11)), some (.ref (ad 3)), some (.ref (ad 1)), some (.int (nI i)), some (.int (nI j)), some (.int (nI (spn i j))), some (.int (nI r)), some (.int (nI k)), o8] 75 [.int (nI b)] := by
                  intro b hb hbv
                  refine ist_8 C dC_settleCharacters_75 (by omega) rfl ?_
                  refine a_aloadn C dC_settleCharacters_77 rfl rfl ?_
                  refine g_C_22 C dC_settleCharacters_78 ?_
                  refine a_iload C dC_settleCharacters_81 rfl ?_
                  refine a_iload C dC_settleCharacters_83 rfl ?_
                  refine a_iload C dC_settleCharacters_85 rfl ?_
                  refine sI3 C (c_C_useIndex (kl K) (kD K) ad cI cD cZ cJ _ _ _ _ (by omega)) wM_C_95 wSt_C_useIndex wIni_C wC_C_useIndex hd_C_useIndex (by decide) (by decide) (Nat.le_of_ble_eq_true rfl) dC_settleCharacters_87 ?_
                  rintro n87 u87 b87 ⟨rfl, rfl⟩
                  have JN100 : ∀ v : Nat, b = v → WA K (WS ad cI cD cZ y) [some (.ref (ad 11)), some (.ref (ad 3)), some (.ref (ad 1)), some (.int (nI i)), some (.int (nI j)), some (.int (nI (spn i j))), some (.int (nI r)), some (.int (nI k)), some (.int (nI b))] 100 [.int (nI v), .int (nI ((r * 4 + k) * 105 + spn i j)), .ref (ad 15)] := by
                    rintro v rfl
                    refine stS_15 C dC_settleCharacters_100 (by omega) ?_
                    refine a_aloadn C dC_settleCharacters_101 rfl rfl ?_
                    refine g_C_25 C dC_settleCharacters_102 ?_
                    refine a_iload C dC_settleCharacters_105 rfl ?_
                    refine a_iload C dC_settleCharacters_107 rfl ?_
                    refine a_iload C dC_settleCharacters_109 rfl ?_
                    refine sI3 C (c_C_useIndex (kl K) (kD K) ad cI cD cZ cJ _ _ _ _ (by omega)) wM_C_95 wSt_C_useIndex wIni_C wC_C_useIndex hd_C_useIndex (by decide) (by decide) (Nat.le_of_ble_eq_true rfl) dC_settleCharacters_111 ?_
                    rintro n111 u111 b111 ⟨rfl, rfl⟩
                    refine a_iconst (v := 4294967295) C dC_settleCharacters_114 (by decide) ?_
                    have hnf := TF_put hf (by omega) (by omega) hsp h17 h31 (isNone_t hno)
                    have hnu := UB_put hu ((r * 4 + k) * 105 + spn i j) b ((r * 4 + k) * 105 + spn i j) 4294967295 (by omega)
                    rw [← hbv] at hnf
                    have hnw := (hwy.sA 15 ((r * 4 + k) * 105 + spn i j) (v := b) (by omega)).sA 16 ((r * 4 + k) * 105 + spn i j) (v := 4294967295) (by decide)
                    refine stS_16 C dC_settleCharacters_115 (by omega) ?_
                    refine inc_7 C dC_settleCharacters_116 rfl (inc_up (c := 1) (by decide)) (by omega) rfl ?_
                    refine a_goto (tgt := 23) C dC_settleCharacters_119 (by decide) ?_
                    exact ih23 (k + 1) _ _ (by omega) (by omega) hnf hnu hnw
                  refine a_iload C dC_settleCharacters_90 rfl ?_
                  refine a_ifeq (tgt := 99) C dC_settleCharacters_92 (by decide) (by omega) (fun h92 => ?_) (fun h92 => ?_)
                  · skip
                    refine a_iconst (v := 0) C dC_settleCharacters_99 (by decide) ?_
                    exact JN100 _ (by omega)
                  · skip
                    refine a_iconst (v := 1) C dC_settleCharacters_95 (by decide) ?_
                    refine a_goto (tgt := 100) C dC_settleCharacters_96 (by decide) ?_
                    exact JN100 _ (by omega)
                refine a_iload C dC_settleCharacters_46 rfl ?_
                refine a_iloadn C dC_settleCharacters_48 rfl rfl ?_
                refine a_isub C dC_settleCharacters_49 (by omega) ?_
                refine a_iconst (v := 1) C dC_settleCharacters_50 (by decide) ?_
                refine a_cne (tgt := 74) C dC_settleCharacters_51 (by decide) (by omega) (by omega) (fun h51 => ?_) (fun h51 => ?_)
                · skip
                  refine a_iconst (v := 0) C dC_settleCharacters_74 (by decide) ?_
                  exact JN75 _ (by decide) (by first | (rw [if_pos ⟨by omega, i01_t h67⟩]; done) | (rw [if_neg (fun z => by rw [i01_f h67] at z; cases z.2)]; done) | (rw [if_neg (fun z => by omega)]; done))
                · skip
                  refine a_aloadn C dC_settleCharacters_54 rfl rfl ?_
                  refine a_iload C dC_settleCharacters_55 rfl ?_
                  refine a_iload C dC_settleCharacters_57 rfl ?_
                  refine a_aloadn C dC_settleCharacters_59 rfl rfl ?_
                  refine a_iloadn C dC_settleCharacters_60 rfl rfl ?_
                  refine vI1 C (c_T_at (kl K) (kD K) ad cI cD cZ cJ _ _ (by omega) (by rw [hf.1.1]; exact ht.1) (fun k => by rw [hf.1.2.2 2 (by decide)]; exact hw.1 2 k)) wM_C_74 wI_T_at wSel_T_at wIni_T wC_T_at hd_T_at (by decide) (by decide) (q0 := 1) rfl rfl (Nat.le_of_ble_eq_true rfl) dC_settleCharacters_61 ?_
                  rintro n61 u61 b61 ⟨rfl, rfl⟩
                  have hat : (if i < y.1 2 then y.2.1 2 i else 0) = tAt x i := by rw [hf.1.1, hf.1.2.2 2 (by decide)]; rfl
                  rw [hat]
                  have hta2 : tAt x i < 127 := hta
                  refine vI3 C (c_G_symbolStandsFor (kl K) (kD K) ad cI cD cZ cJ _ _ _ _ (by omega) (by omega) hta2 (by rw [hf.1.2.2 6 (by decide)]; omega) (by rw [hf.1.2.2 6 (by decide)]; exact hno)) wM_C_91 wI_G_symbolStandsFor wSel_G_symbolStandsFor wIni_G wC_G_symbolStandsFor hd_G_symbolStandsFor (by decide) (by decide) (q0 := 3) rfl rfl (Nat.le_of_ble_eq_true rfl) dC_settleCharacters_64 ?_
                  rintro n64 u64 b64 ⟨rfl, rfl⟩
                  rw [hf.1.2.2 6 (by decide)]
                  refine a_ifeq (tgt := 74) C dC_settleCharacters_67 (by decide) i01_lt (fun h67 => ?_) (fun h67 => ?_)
                  · skip
                    refine a_iconst (v := 0) C dC_settleCharacters_74 (by decide) ?_
                    exact JN75 _ (by decide) (by first | (rw [if_pos ⟨by omega, i01_t h67⟩]; done) | (rw [if_neg (fun z => by rw [i01_f h67] at z; cases z.2)]; done) | (rw [if_neg (fun z => by omega)]; done))
                  · skip
                    refine a_iconst (v := 1) C dC_settleCharacters_70 (by decide) ?_
                    refine a_goto (tgt := 75) C dC_settleCharacters_71 (by decide) ?_
                    exact JN75 _ (by decide) (by first | (rw [if_pos ⟨by omega, i01_t h67⟩]; done) | (rw [if_neg (fun z => by rw [i01_f h67] at z; cases z.2)]; done) | (rw [if_neg (fun z => by omega)]; done))
        exact LP23 _ 0 y o8 (Nat.lt_succ_self _) (Nat.zero_le _) hf hu hwy
  exact LP11 _ 0 x none none (Nat.lt_succ_self _) (Nat.zero_le _) (TF_0 _ _ _ _ _ _ _) hub hw

set_option maxHeartbeats 4000000 in
set_option maxRecDepth 100000 in
theorem c_E_insert (lc : Launch) (D : va_G) (ad : Nat → Nat) (cI cD cZ cJ : ClassId) (x : ST) (p r b e : Nat) (hs : x.1 4 < 162) (hp : p ≤ x.1 4) : CV lc D (ty4 cI cD cZ cJ) (WS ad cI cD cZ) yE_insert bE_insert 5 none 1 [.ref (ad 19), .int (nI p), .int (nI r), .int (nI b), .int (nI e)] x (fun u => u = INS x p r b e) := by
  refine CV_of [some (.ref (ad 19)), some (.int (nI p)), some (.int (nI r)), some (.int (nI b)), some (.int (nI e))] (by decide) (Nat.le_of_ble_eq_true rfl) rfl ?_
  intro K C E hkl hkD hkn
  refine a_aloadn C dE_insert_0 rfl rfl ?_
  refine g_E_21 C dE_insert_1 ?_
  refine a_sipush (v := 162) C dE_insert_4 (by decide) ?_
  refine a_cge (tgt := 113) C dE_insert_7 (by decide) (by omega) (by omega) (fun h7 => ?_) (fun h7 => ?_)
  · skip
    exact absurd h7 (by omega)
  · skip
    refine a_iloadn C dE_insert_10 rfl rfl ?_
    refine a_aloadn C dE_insert_11 rfl rfl ?_
    refine g_E_21 C dE_insert_12 ?_
    refine a_cgt (tgt := 113) C dE_insert_15 (by decide) (by omega) (by omega) (fun h15 => ?_) (fun h15 => ?_)
    · skip
      exact absurd h15 (by omega)
    · skip
      refine a_aloadn C dE_insert_18 rfl rfl ?_
      refine g_E_9 C dE_insert_19 ?_
      refine a_iloadn C dE_insert_22 rfl rfl ?_
      refine a_aloadn C dE_insert_23 rfl rfl ?_
      refine g_E_9 C dE_insert_24 ?_
      refine a_iloadn C dE_insert_27 rfl rfl ?_
      refine a_iconst (v := 1) C dE_insert_28 (by decide) ?_
      refine a_iadd C dE_insert_29 ?_
      refine a_aloadn C dE_insert_30 rfl rfl ?_
      refine g_E_21 C dE_insert_31 ?_
      refine a_iloadn C dE_insert_34 rfl rfl ?_
      refine a_isub C dE_insert_35 (by omega) ?_
      refine cpS_20 C wM_E_52 dE_insert_36 (by omega) (by omega) (by decide) (Nat.le_of_ble_eq_true rfl) ?_
      refine a_aloadn C dE_insert_39 rfl rfl ?_
      refine g_E_15 C dE_insert_40 ?_
      refine a_iloadn C dE_insert_43 rfl rfl ?_
      refine a_aloadn C dE_insert_44 rfl rfl ?_
      refine g_E_15 C dE_insert_45 ?_
      refine a_iloadn C dE_insert_48 rfl rfl ?_
      refine a_iconst (v := 1) C dE_insert_49 (by decide) ?_
      refine a_iadd C dE_insert_50 ?_
      refine a_aloadn C dE_insert_51 rfl rfl ?_
      refine g_E_21 C dE_insert_52 ?_
      rw [show (sC x 20 p (p + 1) (x.1 4 - p)).1 4 = x.1 4 from rfl]
      refine a_iloadn C dE_insert_55 rfl rfl ?_
      refine a_isub C dE_insert_56 (by omega) ?_
      refine cpS_21 C wM_E_52 dE_insert_57 (by omega) (by omega) (by decide) (Nat.le_of_ble_eq_true rfl) ?_
      refine a_aloadn C dE_insert_60 rfl rfl ?_
      refine g_E_18 C dE_insert_61 ?_
      refine a_iloadn C dE_insert_64 rfl rfl ?_
      refine a_aloadn C dE_insert_65 rfl rfl ?_
      refine g_E_18 C dE_insert_66 ?_
      refine a_iloadn C dE_insert_69 rfl rfl ?_
      refine a_iconst (v := 1) C dE_insert_70 (by decide) ?_
      refine a_iadd C dE_insert_71 ?_
      refine a_aloadn C dE_insert_72 rfl rfl ?_
      refine g_E_21 C dE_insert_73 ?_
      rw [show (sC (sC x 20 p (p + 1) (x.1 4 - p)) 21 p (p + 1) (x.1 4 - p)).1 4 = x.1 4 from rfl]
      refine a_iloadn C dE_insert_76 rfl rfl ?_
      refine a_isub C dE_insert_77 (by omega) ?_
      refine cpS_22 C wM_E_52 dE_insert_78 (by omega) (by omega) (by decide) (Nat.le_of_ble_eq_true rfl) ?_
      refine a_aloadn C dE_insert_81 rfl rfl ?_
      refine g_E_9 C dE_insert_82 ?_
      refine a_iloadn C dE_insert_85 rfl rfl ?_
      refine a_iloadn C dE_insert_86 rfl rfl ?_
      refine stS_20 C dE_insert_87 (by omega) ?_
      refine a_aloadn C dE_insert_88 rfl rfl ?_
      refine g_E_15 C dE_insert_89 ?_
      refine a_iloadn C dE_insert_92 rfl rfl ?_
      refine a_iloadn C dE_insert_93 rfl rfl ?_
      refine stS_21 C dE_insert_94 (by omega) ?_
      refine a_aloadn C dE_insert_95 rfl rfl ?_
      refine g_E_18 C dE_insert_96 ?_
      refine a_iloadn C dE_insert_99 rfl rfl ?_
      refine a_iload C dE_insert_100 rfl ?_
      refine stS_22 C dE_insert_102 (by omega) ?_
      refine a_aloadn C dE_insert_103 rfl rfl ?_
      refine a_dup C dE_insert_104 rfl ?_
      refine g_E_21 C dE_insert_105 ?_
      refine a_iconst (v := 1) C dE_insert_108 (by decide) ?_
      refine a_iadd C dE_insert_109 ?_
      refine p_E_21 C dE_insert_110 ?_
      exact r_v C E dE_insert_113 rfl
set_option maxHeartbeats 4000000 in
set_option maxRecDepth 100000 in
theorem c_E_insertBelow (lc : Launch) (D : va_G) (ad : Nat → Nat) (cI cD cZ cJ : ClassId) (x : ST) (N : Nat) (ch : Nat → Nat) (A t : List Nd) (r i j : Nat) (hw : WF x) (hL : TLs (A ++ (r, i, j) :: t) x) (hg : GOk (gP x)) (hac : Acy (gP x)) (hN : N ≤ 14) (hv : Vd (gP x) N ch (r, i, j)) (hc : CHT (gP x) N ch x 15) (hsz : A.length + 1 + (kids (gP x) N ch (r, i, j)).length + t.length ≤ 162) : CV lc D (ty4 cI cD cZ cJ) (WS ad cI cD cZ) yE_insertBelow bE_insertBelow 11 none 2 [.ref (ad 19), .ref (ad 3), .ref (ad 11), .int (nI A.length)] x (fun u => TR x u ∧ WF u ∧ TLs (A ++ (r, i, j) :: (kids (gP x) N ch (r, i, j) ++ t)) u) := by
  refine CV_of [some (.ref (ad 19)), some (.ref (ad 3)), some (.ref (ad 11)), some (.int (nI A.length)), none, none, none, none, none, none, none] (by decide) (Nat.le_of_ble_eq_true rfl) rfl ?_
  intro K C E hkl hkD hkn
  obtain ⟨e20, e21, e22⟩ := TL_hd hL
  obtain ⟨zl, hkd, hpc, h14, hse, hbe⟩ := ib_facts hg hac hN hv hc
  obtain ⟨v1, v2, v3, v4⟩ := hv
  dsimp only at v1 v2 v3 v4
  have hg1 := hg.1
  have hz := hg.2 r v1
  have hsp := spn_lt v2 (by omega)
  refine a_aloadn C dE_insertBelow_0 rfl rfl ?_
  refine g_E_9 C dE_insertBelow_1 ?_
  refine a_iloadn C dE_insertBelow_4 rfl rfl ?_
  refine ldS_20 C dE_insertBelow_5 (by omega) ?_
  rw [e20]
  refine ist_4 C dE_insertBelow_6 (by omega) rfl ?_
  refine a_aloadn C dE_insertBelow_8 rfl rfl ?_
  refine g_E_15 C dE_insertBelow_9 ?_
  refine a_iloadn C dE_insertBelow_12 rfl rfl ?_
  refine ldS_21 C dE_insertBelow_13 (by omega) ?_
  rw [e21]
  refine a_aloadn C dE_insertBelow_14 rfl rfl ?_
  refine g_E_18 C dE_insertBelow_15 ?_
  refine a_iloadn C dE_insertBelow_18 rfl rfl ?_
  refine ldS_22 C dE_insertBelow_19 (by omega) ?_
  rw [e22]
  refine tI2 C (c_P_spanNumber (kl K) (kD K) ad cI cD cZ cJ _ _ _ (by omega) (by omega) (by omega)) (k0 := 8) rfl wSt_P_spanNumber wIni_P wC_P_spanNumber hd_P_spanNumber (by decide) (by decide) (Nat.le_of_ble_eq_true rfl) dE_insertBelow_20 ?_
  rintro n20 u20 b20 ⟨rfl, rfl⟩
  have hsd : j * (j - 1) / 2 + i = spn i j := rfl
  rw [hsd]
  refine ist_5 C dE_insertBelow_23 (by omega) rfl ?_
  refine a_aloadn C dE_insertBelow_25 rfl rfl ?_
  refine g_E_15 C dE_insertBelow_26 ?_
  refine a_iloadn C dE_insertBelow_29 rfl rfl ?_
  refine ldS_21 C dE_insertBelow_30 (by omega) ?_
  rw [e21]
  refine ist_6 C dE_insertBelow_31 (by omega) rfl ?_
  refine a_iloadn C dE_insertBelow_33 rfl rfl ?_
  refine a_iconst (v := 1) C dE_insertBelow_34 (by decide) ?_
  refine a_iadd C dE_insertBelow_35 ?_
  refine ist_7 C dE_insertBelow_36 (by omega) rfl ?_
  refine a_iconst (v := 0) C dE_insertBelow_38 (by decide) ?_
  refine ist_8 C dE_insertBelow_39 (by omega) rfl ?_
  have LP41 : ∀ (N0 : Nat) (sy : Nat) (y : ST) (o9 o10 : Option Value), 4 - sy < N0 → (sy ≤ gz (gP x) r) → (TR x y) → (WF y) → (TLs (A ++ (r, i, j) :: ((kidsK (gP x) (sW (gP x) N ch) (sH (gP x) N ch) r i zl sy) ++ t)) y) → WA K (WS ad cI cD cZ y) [some (.ref (ad 19)), some (.ref (ad 3)), some (.ref (ad 11)), some (.int (nI A.length)), some (.int (nI r)), some (.int (nI (spn i j))), some (.int (nI (bg i zl sy))), some (.int (nI (A.length + 1 + (kidsK (gP x) (sW (gP x) N ch) (sH (gP x) N ch) r i zl sy).length))), some (.int (nI sy)), o9, o10] 41 [] := by
    intro N0
    induction N0 with
    | zero => intro sy y o9 o10 hm; exact absurd hm (Nat.not_lt_zero _)
    | succ N0 ih41 =>
      intro sy y o9 o10 hm41 hs hf hwy hLy
      refine a_iload C dE_insertBelow_41 rfl ?_
      refine a_aloadn C dE_insertBelow_43 rfl rfl ?_
      refine a_iload C dE_insertBelow_44 rfl ?_
      refine vI1 C (c_G_rightLength (kl K) (kD K) ad cI cD cZ cJ _ _ (by omega) (hwy.1 5 r)) wM_E_37 wI_G_rightLength wSel_G_rightLength wIni_G wC_G_rightLength hd_G_rightLength (by decide) (by decide) (q0 := 3) rfl rfl (Nat.le_of_ble_eq_true rfl) dE_insertBelow_46 ?_
      rintro n46 u46 b46 ⟨rfl, rfl⟩
      rw [hf.2.1 5 (by decide)]
      have hgz : x.2.1 5 r = gz (gP x) r := rfl
      rw [hgz]
      refine a_cge (tgt := 112) C dE_insertBelow_49 (by decide) (by omega) (by omega) (fun h49 => ?_) (fun h49 => ?_)
      · skip
        exact r_v C E dE_insertBelow_112 ⟨hf, hwy, by rw [hkd, show gz (gP x) r = sy by omega]; exact hLy⟩
      · skip
        have hps := hpc sy h49
        have hsp2 := spn_lt hps.2.1 (by omega)
        refine a_aloadn C dE_insertBelow_52 rfl rfl ?_
        refine a_iload C dE_insertBelow_53 rfl ?_
        refine a_iload C dE_insertBelow_55 rfl ?_
        refine a_iload C dE_insertBelow_57 rfl ?_
        refine vI3 C (c_C_symbolEnd (kl K) (kD K) ad cI cD cZ cJ _ _ _ _ (by omega) (by omega) (by omega) (by rw [hf.2.1 14 (by decide)]; omega)) wM_E_43 wI_C_symbolEnd wSel_C_symbolEnd wIni_C wC_C_symbolEnd hd_C_symbolEnd (by decide) (by decide) (q0 := 11) rfl rfl (Nat.le_of_ble_eq_true rfl) dE_insertBelow_59 ?_
        rintro n59 u59 b59 ⟨rfl, rfl⟩
        rw [hf.2.1 14 (by decide), hse sy h49]
        refine ist_9 C dE_insertBelow_62 (by omega) rfl ?_
        refine a_aloadn C dE_insertBelow_64 rfl rfl ?_
        refine a_iload C dE_insertBelow_65 rfl ?_
        refine a_iload C dE_insertBelow_67 rfl ?_
        refine a_iload C dE_insertBelow_69 rfl ?_
        refine a_iload C dE_insertBelow_71 rfl ?_
        refine tI2 C (c_P_spanNumber (kl K) (kD K) ad cI cD cZ cJ _ _ _ (by omega) (by omega) (by omega)) (k0 := 8) rfl wSt_P_spanNumber wIni_P wC_P_spanNumber hd_P_spanNumber (by decide) (by decide) (Nat.le_of_ble_eq_true rfl) dE_insertBelow_73 ?_
        rintro n73 u73 b73 ⟨rfl, rfl⟩
        have hsd2 : lgd zl sy * (lgd zl sy - 1) / 2 + bg i zl sy = spn (bg i zl sy) (lgd zl sy) := rfl
        rw [hsd2]
        refine vI3 C (c_C_ruleBelow (kl K) (kD K) ad cI cD cZ cJ _ _ _ _ (by omega) (by omega) hsp2 hwy) wM_E_49 wI_C_ruleBelow wSel_C_ruleBelow wIni_C wC_C_ruleBelow hd_C_ruleBelow (by decide) (by decide) (q0 := 11) rfl rfl (Nat.le_of_ble_eq_true rfl) dE_insertBelow_76 ?_
        rintro n76 u76 b76 ⟨rfl, rfl⟩
        rw [hf.2.1 16 (by decide), hbe sy h49]
        have hq := oN_lt16 (w := sW (gP x) N ch) (h := sH (gP x) N ch) (r := r) (k := sy) (a := bg i zl sy) (b := lgd zl sy) hg
        have hkl := kidsK_le (g := gP x) (w := sW (gP x) N ch) (h := sH (gP x) N ch) (r := r) (i := i) (l := zl) (sy + 1) (gz (gP x) r) h49
        rw [← hkd] at hkl
        refine ist_10 C dE_insertBelow_79 (by omega) rfl ?_
        refine a_iload C dE_insertBelow_81 rfl ?_
        refine a_iconst (v := 4294967295) C dE_insertBelow_83 (by decide) ?_
        refine a_ceq (tgt := 102) C dE_insertBelow_84 (by decide) (by omega) (by omega) (fun h84 => ?_) (fun h84 => ?_)
        · skip
          have hq2 := hq.resolve_right (fun ⟨s, _, h2, h3⟩ => by omega)
          have hkn := kidsK_n hq2.2
          have hf2 := hf
          have hw2 := hwy
          have hL2 := hLy
          rw [← hkn] at hL2
          rw [show A.length + 1 + (kidsK (gP x) (sW (gP x) N ch) (sH (gP x) N ch) r i zl sy).length = A.length + 1 + (kidsK (gP x) (sW (gP x) N ch) (sH (gP x) N ch) r i zl (sy + 1)).length by rw [hkn]]
          refine a_iload C dE_insertBelow_102 rfl ?_
          refine ist_6 C dE_insertBelow_104 (by omega) rfl ?_
          refine inc_8 C dE_insertBelow_106 rfl (inc_up (c := 1) (by decide)) (by omega) rfl ?_
          refine a_goto (tgt := 41) C dE_insertBelow_109 (by decide) ?_
          first | rw [show A.length + 1 + (kidsK (gP x) (sW (gP x) N ch) (sH (gP x) N ch) r i zl sy).length + 1 = A.length + 1 + (kidsK (gP x) (sW (gP x) N ch) (sH (gP x) N ch) r i zl (sy + 1)).length by rw [hks2]; omega] | skip
          exact ih41 (sy + 1) _ _ _ (by omega) (by omega) hf2 hw2 hL2
        · skip
          obtain ⟨s0, hs1, hs2, hs3⟩ := hq.resolve_left (fun q => h84 q.1)
          rw [hs2]
          have hks := kidsK_s hs1
          have hks2 : (kidsK (gP x) (sW (gP x) N ch) (sH (gP x) N ch) r i zl (sy + 1)).length = (kidsK (gP x) (sW (gP x) N ch) (sH (gP x) N ch) r i zl sy).length + 1 := by rw [hks, List.length_append]; rfl
          have hy4 := hLy.1
          simp only [List.length_append, List.length_cons] at hy4
          refine a_aloadn C dE_insertBelow_87 rfl rfl ?_
          refine a_iload C dE_insertBelow_88 rfl ?_
          refine a_iload C dE_insertBelow_90 rfl ?_
          refine a_iload C dE_insertBelow_92 rfl ?_
          refine a_iload C dE_insertBelow_94 rfl ?_
          refine vV4 C (c_E_insert (kl K) (kD K) ad cI cD cZ cJ _ _ _ _ _ (by omega) (by omega)) wM_E_25 wI_E_insert wSel_E_insert wIni_E wC_E_insert hd_E_insert (by decide) (by decide) (q0 := 19) rfl rfl (Nat.le_of_ble_eq_true rfl) dE_insertBelow_96 ?_
          rintro u96 rfl
          have hf2 := hf.trans (TR_ins y (A.length + 1 + (kidsK (gP x) (sW (gP x) N ch) (sH (gP x) N ch) r i zl sy).length) s0 (bg i zl sy) (lgd zl sy))
          have hw2 := WF_ins (p := A.length + 1 + (kidsK (gP x) (sW (gP x) N ch) (sH (gP x) N ch) r i zl sy).length) hwy (show s0 < 4294967296 by omega) (show bg i zl sy < 4294967296 by omega) (show lgd zl sy < 4294967296 by omega) (by omega)
          have hL2 := TL_ins2 (A := A ++ [(r, i, j)]) (M := (kidsK (gP x) (sW (gP x) N ch) (sH (gP x) N ch) r i zl sy)) (t := t) (x := y) (p := A.length + 1 + (kidsK (gP x) (sW (gP x) N ch) (sH (gP x) N ch) r i zl sy).length) (r := s0) (b := bg i zl sy) (e := lgd zl sy) (by rw [List.append_assoc]; exact hLy) (by rw [List.length_append]; rfl)
          rw [← hks, List.append_assoc] at hL2
          refine inc_7 C dE_insertBelow_99 rfl (inc_up (c := 1) (by decide)) (by omega) rfl ?_
          refine a_iload C dE_insertBelow_102 rfl ?_
          refine ist_6 C dE_insertBelow_104 (by omega) rfl ?_
          refine inc_8 C dE_insertBelow_106 rfl (inc_up (c := 1) (by decide)) (by omega) rfl ?_
          refine a_goto (tgt := 41) C dE_insertBelow_109 (by decide) ?_
          first | rw [show A.length + 1 + (kidsK (gP x) (sW (gP x) N ch) (sH (gP x) N ch) r i zl sy).length + 1 = A.length + 1 + (kidsK (gP x) (sW (gP x) N ch) (sH (gP x) N ch) r i zl (sy + 1)).length by rw [hks2]; omega] | skip
          exact ih41 (sy + 1) _ _ _ (by omega) (by omega) hf2 hw2 hL2
  exact LP41 _ 0 x none none (Nat.lt_succ_self _) (Nat.zero_le _) (TR.rf x) hw hL
set_option maxHeartbeats 4000000 in
set_option maxRecDepth 100000 in
theorem c_E_grow (lc : Launch) (D : va_G) (ad : Nat → Nat) (cI cD cZ cJ : ClassId) (x : ST) (N r : Nat) (ch : Nat → Nat) (hw : WF x) (hg : GOk (gP x)) (hac : Acy (gP x)) (hN : N ≤ 14) (hv : Vd (gP x) N ch (r, 0, N)) (hc : CHT (gP x) N ch x 15) : CV lc D (ty4 cI cD cZ cJ) (WS ad cI cD cZ) yE_grow bE_grow 6 none 3 [.ref (ad 19), .ref (ad 3), .ref (ad 11), .int (nI r), .int (nI N)] x (fun u => TR x u ∧ WF u ∧ ∃ m, (tst (kids (gP x) N ch) (r, 0, N) m).2 = [] ∧ TLs (tst (kids (gP x) N ch) (r, 0, N) m).1 u) := by
  refine CV_of [some (.ref (ad 19)), some (.ref (ad 3)), some (.ref (ad 11)), some (.int (nI r)), some (.int (nI N)), none] (by decide) (Nat.le_of_ble_eq_true rfl) rfl ?_
  intro K C E hkl hkD hkn
  have hr1 := hv.1
  have hg1 := hg.1
  dsimp only at hr1
  refine a_aloadn C dE_grow_0 rfl rfl ?_
  refine a_iconst (v := 0) C dE_grow_1 (by decide) ?_
  refine p_E_21 C dE_grow_2 ?_
  refine a_aloadn C dE_grow_5 rfl rfl ?_
  refine a_iconst (v := 0) C dE_grow_6 (by decide) ?_
  refine a_iloadn C dE_grow_7 rfl rfl ?_
  refine a_iconst (v := 0) C dE_grow_8 (by decide) ?_
  refine a_iload C dE_grow_9 rfl ?_
  refine vV4 C (c_E_insert (kl K) (kD K) ad cI cD cZ cJ _ _ _ _ _ (by show (0 : Nat) < 162; decide) (Nat.zero_le _)) wM_E_25 wI_E_insert wSel_E_insert wIni_E wC_E_insert hd_E_insert (by decide) (by decide) (q0 := 19) rfl rfl (Nat.le_of_ble_eq_true rfl) dE_grow_11 ?_
  rintro u11 rfl
  have hf0 : TR x (INS (sS x 4 0) 0 r 0 N) := TR.trans (y := sS x 4 0) ⟨fun k hk => vup_ne _ _ hk, fun _ _ => rfl, rfl⟩ (TR_ins _ _ _ _ _)
  have hw0 : WF (INS (sS x 4 0) 0 r 0 N) := WF_ins (hw.sS 4 (by decide)) (by omega) (by decide) (by omega) (by show (0 : Nat) < 162; decide)
  have hL0 : TLs ((tst (kids (gP x) N ch) (r, 0, N) 0).1 ++ (tst (kids (gP x) N ch) (r, 0, N) 0).2) (INS (sS x 4 0) 0 r 0 N) := TL_ins (L := []) (x := sS x 4 0) (p := 0) ⟨rfl, fun k hk => absurd hk (Nat.not_lt_zero _)⟩ (Nat.le_refl _)
  refine a_iconst (v := 0) C dE_grow_14 (by decide) ?_
  refine ist_5 C dE_grow_15 (by omega) rfl ?_
  have LP17 : ∀ (N0 : Nat) (k : Nat) (y : ST), 163 - k < N0 → ((tst (kids (gP x) N ch) (r, 0, N) k).1.length = k) → (TR x y) → (WF y) → (TLs ((tst (kids (gP x) N ch) (r, 0, N) k).1 ++ (tst (kids (gP x) N ch) (r, 0, N) k).2) y) → WA K (WS ad cI cD cZ y) [some (.ref (ad 19)), some (.ref (ad 3)), some (.ref (ad 11)), some (.int (nI r)), some (.int (nI N)), some (.int (nI k))] 17 [] := by
    intro N0
    induction N0 with
    | zero => intro k y hm; exact absurd hm (Nat.not_lt_zero _)
    | succ N0 ih17 =>
      intro k y hm17 hk hf hwy hLy
      refine a_iload C dE_grow_17 rfl ?_
      refine a_aloadn C dE_grow_19 rfl rfl ?_
      have hsz := hLy.1
      have hful := gr_full hg hac hN hv hk
      have hful2 := hful
      rw [List.length_append, hk] at hful2
      refine g_E_21 C dE_grow_20 ?_
      refine a_cge (tgt := 48) C dE_grow_23 (by decide) (by omega) (by omega) (fun h23 => ?_) (fun h23 => ?_)
      · skip
        exact r_v C E dE_grow_48 ⟨hf, hwy, k, gr_end hk (by omega), by have hz := gr_end hk (by omega); rw [hz, List.append_nil] at hLy; exact hLy⟩
      · skip
        obtain ⟨r1, i1, j1, t1, q1, q2, q3, q4, q5⟩ := gr_step hg hac hN hv hk (by omega)
        refine a_iload C dE_grow_26 rfl ?_
        refine a_sipush (v := 162) C dE_grow_28 (by decide) ?_
        refine a_cge (tgt := 48) C dE_grow_31 (by decide) (by omega) (by omega) (fun h31 => ?_) (fun h31 => ?_)
        · skip
          exact absurd h31 (by omega)
        · skip
          rw [← hk]
          refine a_aloadn C dE_grow_34 rfl rfl ?_
          refine a_aloadn C dE_grow_35 rfl rfl ?_
          refine a_aloadn C dE_grow_36 rfl rfl ?_
          refine a_iload C dE_grow_37 rfl ?_
          refine vV3 C (c_E_insertBelow (kl K) (kD K) ad cI cD cZ cJ _ N ch (tst (kids (gP x) N ch) (r, 0, N) k).1 t1 r1 i1 j1 hwy (by rw [← q1]; exact hLy) (by rw [hf.gP]; exact hg) (by rw [hf.gP]; exact hac) hN (by rw [hf.gP]; exact q2) (by rw [hf.gP]; exact hf.cht hc) (by rw [hf.gP, hk]; exact q3)) wM_E_29 wI_E_insertBelow wSel_E_insertBelow wIni_E wC_E_insertBelow hd_E_insertBelow (by decide) (by decide) (q0 := 19) rfl rfl (Nat.le_of_ble_eq_true rfl) dE_grow_39 ?_
          rintro u39 ⟨pt39, pw39, pl39⟩
          rw [hf.gP, ← q5] at pl39
          rw [hk]
          refine inc_5 C dE_grow_42 rfl (inc_up (c := 1) (by decide)) (by omega) rfl ?_
          refine a_goto (tgt := 17) C dE_grow_45 (by decide) ?_
          exact ih17 (k + 1) _ (by omega) q4 (hf.trans pt39) pw39 pl39
  exact LP17 _ 0 _ (Nat.lt_succ_self _) rfl hf0 hw0 hL0
set_option maxHeartbeats 4000000 in
set_option maxRecDepth 100000 in
theorem c_E_nodesBelow (lc : Launch) (D : va_G) (ad : Nat → Nat) (cI cD cZ cJ : ClassId) (x : ST) (k : Nat) (hk : k < x.1 4) (hs : x.1 4 ≤ 162) (hb : ∀ q, q < x.1 4 → x.2.1 21 q ≤ 14 ∧ x.2.1 22 q ≤ 14) : CI lc D (ty4 cI cD cZ cJ) (WS ad cI cD cZ) yE_nodesBelow bE_nodesBelow 3 (some .int) 0 [.ref (ad 19), .int (nI k)] x (fun rr u => x = u ∧ rr = nbl (x.2.1 21) (x.2.1 22 k) (x.1 4) 162 (k + 1) - k - 1) := by
  refine CI_of [some (.ref (ad 19)), some (.int (nI k)), none] (by decide) (Nat.le_of_ble_eq_true rfl) rfl ?_
  intro K C E hkl hkD hkn
  refine a_iloadn C dE_nodesBelow_0 rfl rfl ?_
  refine a_iconst (v := 1) C dE_nodesBelow_1 (by decide) ?_
  refine a_iadd C dE_nodesBelow_2 ?_
  refine istn_2 C dE_nodesBelow_3 (by omega) rfl ?_
  have LP4 : ∀ (N0 : Nat) (q f : Nat), 163 - q < N0 → (k + 1 ≤ q) → (q ≤ x.1 4) → (162 ≤ q + f) → (nbl (x.2.1 21) (x.2.1 22 k) (x.1 4) 162 (k + 1) = nbl (x.2.1 21) (x.2.1 22 k) (x.1 4) f q) → WA K (WS ad cI cD cZ x) [some (.ref (ad 19)), some (.int (nI k)), some (.int (nI q))] 4 [] := by
    intro N0
    induction N0 with
    | zero => intro q f hm; exact absurd hm (Nat.not_lt_zero _)
    | succ N0 ih4 =>
      intro q f hm4 hq1 hq hq2 hn
      refine a_iloadn C dE_nodesBelow_4 rfl rfl ?_
      refine a_aloadn C dE_nodesBelow_5 rfl rfl ?_
      refine g_E_21 C dE_nodesBelow_6 ?_
      refine a_cge (tgt := 33) C dE_nodesBelow_9 (by decide) (by omega) (by omega) (fun h9 => ?_) (fun h9 => ?_)
      · skip
        refine a_iloadn C dE_nodesBelow_33 rfl rfl ?_
        refine a_iloadn C dE_nodesBelow_34 rfl rfl ?_
        refine a_isub C dE_nodesBelow_35 (by omega) ?_
        refine a_iconst (v := 1) C dE_nodesBelow_36 (by decide) ?_
        refine a_isub C dE_nodesBelow_37 (by omega) ?_
        exact r_i C E dE_nodesBelow_38 (by omega) ⟨rfl, by have hz : nbl (x.2.1 21) (x.2.1 22 k) (x.1 4) f q = q := (by cases f with | zero => rfl | succ f => (simp only [nbl]; rw [if_neg (by omega)])); rw [hn, hz]⟩
      · skip
        have hbq := hb q h9
        have hbk := hb k hk
        refine a_aloadn C dE_nodesBelow_12 rfl rfl ?_
        refine g_E_15 C dE_nodesBelow_13 ?_
        refine a_iloadn C dE_nodesBelow_16 rfl rfl ?_
        refine ldS_21 C dE_nodesBelow_17 (by omega) ?_
        refine a_aloadn C dE_nodesBelow_18 rfl rfl ?_
        refine g_E_18 C dE_nodesBelow_19 ?_
        refine a_iloadn C dE_nodesBelow_22 rfl rfl ?_
        refine ldS_22 C dE_nodesBelow_23 (by omega) ?_
        refine a_cge (tgt := 33) C dE_nodesBelow_24 (by decide) (by omega) (by omega) (fun h24 => ?_) (fun h24 => ?_)
        · skip
          refine a_iloadn C dE_nodesBelow_33 rfl rfl ?_
          refine a_iloadn C dE_nodesBelow_34 rfl rfl ?_
          refine a_isub C dE_nodesBelow_35 (by omega) ?_
          refine a_iconst (v := 1) C dE_nodesBelow_36 (by decide) ?_
          refine a_isub C dE_nodesBelow_37 (by omega) ?_
          exact r_i C E dE_nodesBelow_38 (by omega) ⟨rfl, by have hz : nbl (x.2.1 21) (x.2.1 22 k) (x.1 4) f q = q := (by cases f with | zero => rfl | succ f => (simp only [nbl]; rw [if_neg (by omega)])); rw [hn, hz]⟩
        · skip
          refine inc_2 C dE_nodesBelow_27 rfl (inc_up (c := 1) (by decide)) (by omega) rfl ?_
          refine a_goto (tgt := 4) C dE_nodesBelow_30 (by decide) ?_
          exact ih4 (q + 1) (f - 1) (by omega) (by omega) (by omega) (by omega) (by rw [hn]; obtain ⟨f0, rfl⟩ : ∃ f0, f = f0 + 1 := ⟨f - 1, by omega⟩; simp only [nbl]; rw [if_pos ⟨h9, h24⟩, show f0 + 1 - 1 = f0 by omega])
  exact LP4 _ (k + 1) 162 (Nat.lt_succ_self _) (Nat.le_refl _) (by omega) (by omega) rfl
set_option maxHeartbeats 4000000 in
set_option maxRecDepth 100000 in
theorem c_G_add (lc : Launch) (D : va_G) (ad : Nat → Nat) (cI cD cZ cJ : ClassId) (x : ST) (w : UInt64) (hw : WF x) (ht : TXT x) (hl : 2 ≤ x.1 2) (hR : x.1 3 < 16) : CV lc D (ty4 cI cD cZ cJ) (WS ad cI cD cZ) yG_add bG_add 6 none 1 [.ref (ad 3), .ref (ad 1), .double w] x (fun u => WF u ∧ u.1 = va_up x.1 3 (x.1 3 + 1) ∧ u.2.1 4 = va_up (x.2.1 4) (x.1 3) (oN (nt (tAt x 0))) ∧ u.2.1 5 = va_up (x.2.1 5) (x.1 3) (x.1 2 - 2) ∧ u.2.1 8 = va_up (x.2.1 8) (x.1 3) 0 ∧ (∀ k, k ∉ [4, 5, 6, 8] → u.2.1 k = x.2.1 k) ∧ (∀ i, u.2.1 6 i = if x.1 3 * 4 ≤ i ∧ i < x.1 3 * 4 + 4 then tAt x (i - x.1 3 * 4 + 2) else x.2.1 6 i) ∧ u.2.2.1 = va_up x.2.2.1 7 (va_up (x.2.2.1 7) (x.1 3) w) ∧ u.2.2.2 = x.2.2.2) := by
  refine CV_of [some (.ref (ad 3)), some (.ref (ad 1)), some (.double w), none, none, none] (by decide) (Nat.le_of_ble_eq_true rfl) rfl ?_
  intro K C E hkl hkD hkn
  have hl14 := ht.1
  have ht0 := tAt_lt ht 0
  have hon := oN_lt (tAt x 0)
  refine a_aloadn C dG_add_0 rfl rfl ?_
  refine g_G_35 C dG_add_1 ?_
  refine ist_4 C dG_add_4 (by omega) rfl ?_
  refine a_aloadn C dG_add_6 rfl rfl ?_
  refine g_G_9 C dG_add_7 ?_
  refine a_iload C dG_add_10 rfl ?_
  refine a_aloadn C dG_add_12 rfl rfl ?_
  refine a_iconst (v := 0) C dG_add_13 (by decide) ?_
  refine vI1 C (c_T_at (kl K) (kD K) ad cI cD cZ cJ _ _ (by decide) hl14 (fun k => hw.1 2 k)) wM_G_45 wI_T_at wSel_T_at wIni_T wC_T_at hd_T_at (by decide) (by decide) (q0 := 1) rfl rfl (Nat.le_of_ble_eq_true rfl) dG_add_14 ?_
  rintro n14 u14 b14 ⟨rfl, rfl⟩
  have hta : (if 0 < x.1 2 then x.2.1 2 0 else 0) = tAt x 0 := rfl
  rw [hta]
  refine tI1 C (c_P_nonterminalNumber (kl K) (kD K) ad cI cD cZ cJ _ _ (by omega)) (k0 := 4) rfl wSt_P_nonterminalNumber wIni_P wC_P_nonterminalNumber hd_P_nonterminalNumber (by decide) (by decide) (Nat.le_of_ble_eq_true rfl) dG_add_17 ?_
  rintro n17 u17 b17 ⟨rfl, rfl⟩
  refine stS_4 C dG_add_20 (by omega) ?_
  refine a_aloadn C dG_add_21 rfl rfl ?_
  refine g_G_15 C dG_add_22 ?_
  refine a_iload C dG_add_25 rfl ?_
  refine a_aloadn C dG_add_27 rfl rfl ?_
  refine vI0 C (c_T_length (kl K) (kD K) ad cI cD cZ cJ _ (show x.1 2 < 4294967296 by omega)) wM_G_39 wI_T_length wSel_T_length wIni_T wC_T_length hd_T_length (by decide) (by decide) (q0 := 1) rfl rfl (Nat.le_of_ble_eq_true rfl) dG_add_28 ?_
  rintro n28 u28 b28 ⟨rfl, rfl⟩
  rw [show (sA x 4 (x.1 3) (oN (nt (tAt x 0)))).1 2 = x.1 2 from rfl]
  refine a_iconst (v := 2) C dG_add_31 (by decide) ?_
  refine a_isub C dG_add_32 (by omega) ?_
  refine stS_5 C dG_add_33 (by omega) ?_
  have hwx : WF (sA (sA x 4 (x.1 3) (oN (nt (tAt x 0)))) 5 (x.1 3) (x.1 2 - 2)) := (hw.sA _ _ hon).sA _ _ (by omega)
  refine a_iconst (v := 0) C dG_add_34 (by decide) ?_
  refine ist_5 C dG_add_35 (by omega) rfl ?_
  have LP37 : ∀ (N0 : Nat) (k : Nat) (y : ST), 4 - k < N0 → (k ≤ 4) → (Only [6] (sA (sA x 4 (x.1 3) (oN (nt (tAt x 0)))) 5 (x.1 3) (x.1 2 - 2)) y) → (WF y) → (∀ i, y.2.1 6 i = if x.1 3 * 4 ≤ i ∧ i < x.1 3 * 4 + k then tAt x (i - x.1 3 * 4 + 2) else x.2.1 6 i) → WA K (WS ad cI cD cZ y) [some (.ref (ad 3)), some (.ref (ad 1)), some (.double w), none, some (.int (nI (x.1 3))), some (.int (nI k))] 37 [] := by
    intro N0
    induction N0 with
    | zero => intro k y hm; exact absurd hm (Nat.not_lt_zero _)
    | succ N0 ih37 =>
      intro k y hm37 hk ho hwy h6
      refine a_iload C dG_add_37 rfl ?_
      refine a_iconst (v := 4) C dG_add_39 (by decide) ?_
      refine a_cge (tgt := 69) C dG_add_40 (by decide) (by omega) (by omega) (fun h40 => ?_) (fun h40 => ?_)
      · skip
        refine a_aloadn C dG_add_69 rfl rfl ?_
        refine g_G_21 C dG_add_70 ?_
        refine a_iload C dG_add_73 rfl ?_
        refine a_dloadn C dG_add_75 rfl rfl ?_
        refine stS_7 C dG_add_76 (by omega) ?_
        refine a_aloadn C dG_add_77 rfl rfl ?_
        refine g_G_25 C dG_add_78 ?_
        refine a_iload C dG_add_81 rfl ?_
        refine a_iconst (v := 0) C dG_add_83 (by decide) ?_
        refine stS_8 C dG_add_84 (by omega) ?_
        refine a_aloadn C dG_add_85 rfl rfl ?_
        refine a_dup C dG_add_86 rfl ?_
        refine g_G_35 C dG_add_87 ?_
        refine a_iconst (v := 1) C dG_add_90 (by decide) ?_
        refine a_iadd C dG_add_91 ?_
        refine p_G_35 C dG_add_92 ?_
        exact r_v C E dG_add_95 (ga_ret ho hwy h6 (show 4 ≤ k from h40) hk hR)
      · skip
        refine a_aloadn C dG_add_43 rfl rfl ?_
        refine g_G_18 C dG_add_44 ?_
        refine a_iload C dG_add_47 rfl ?_
        refine a_iconst (v := 4) C dG_add_49 (by decide) ?_
        refine a_imul C dG_add_50 ?_
        refine a_iload C dG_add_51 rfl ?_
        refine a_iadd C dG_add_53 ?_
        refine a_aloadn C dG_add_54 rfl rfl ?_
        refine a_iload C dG_add_55 rfl ?_
        refine a_iconst (v := 2) C dG_add_57 (by decide) ?_
        refine a_iadd C dG_add_58 ?_
        refine vI1 C (c_T_at (kl K) (kD K) ad cI cD cZ cJ _ _ (by omega) (by rw [ho.1]; exact hl14) (fun k => hwy.1 2 k)) wM_G_45 wI_T_at wSel_T_at wIni_T wC_T_at hd_T_at (by decide) (by decide) (q0 := 1) rfl rfl (Nat.le_of_ble_eq_true rfl) dG_add_59 ?_
        rintro n59 u59 b59 ⟨rfl, rfl⟩
        have htk : (if k + 2 < y.1 2 then y.2.1 2 (k + 2) else 0) = tAt x (k + 2) := by rw [ho.1, ho.2.2 2 (by decide)]; rfl
        rw [htk]
        have htl := tAt_lt ht (k + 2)
        refine stS_6 C dG_add_62 (by omega) ?_
        refine inc_5 C dG_add_63 rfl (inc_up (c := 1) (by decide)) (by omega) rfl ?_
        refine a_goto (tgt := 37) C dG_add_66 (by decide) ?_
        exact ih37 (k + 1) _ (by omega) (by omega) (ho.set (by decide) _ _) (hwy.sA _ _ (by omega)) (ga_6 h6)
  exact LP37 _ 0 _ (Nat.lt_succ_self _) (Nat.zero_le _) (Only.rf _ _) hwx (fun i => by rw [if_neg (by omega)]; rfl)
set_option maxHeartbeats 4000000 in
set_option maxRecDepth 100000 in
theorem c_G_removeLatest (lc : Launch) (D : va_G) (ad : Nat → Nat) (cI cD cZ cJ : ClassId) (x : ST) (hw : WF x) (hR : 1 ≤ x.1 3) (hR2 : x.1 3 ≤ 16) : CV lc D (ty4 cI cD cZ cJ) (WS ad cI cD cZ) yG_removeLatest bG_removeLatest 2 none 1 [.ref (ad 3)] x (fun u => WF u ∧ u.1 = va_up x.1 3 (x.1 3 - 1) ∧ (∀ k, k ≠ 9 → u.2.1 k = x.2.1 k) ∧ u.2.2 = x.2.2 ∧ (∀ r, u.2.1 9 r = if r < x.1 3 - 1 then x.2.1 9 r &&& ((1 * 2 ^ (x.1 3 - 1)) ^^^ 4294967295) else if r = x.1 3 - 1 then 0 else x.2.1 9 r)) := by
  refine CV_of [some (.ref (ad 3)), none] (by decide) (Nat.le_of_ble_eq_true rfl) rfl ?_
  intro K C E hkl hkD hkn
  refine a_aloadn C dG_removeLatest_0 rfl rfl ?_
  refine a_dup C dG_removeLatest_1 rfl ?_
  refine g_G_35 C dG_removeLatest_2 ?_
  refine a_iconst (v := 1) C dG_removeLatest_5 (by decide) ?_
  refine a_isub C dG_removeLatest_6 (by omega) ?_
  refine p_G_35 C dG_removeLatest_7 ?_
  refine a_aloadn C dG_removeLatest_10 rfl rfl ?_
  refine g_G_28 C dG_removeLatest_11 ?_
  refine a_aloadn C dG_removeLatest_14 rfl rfl ?_
  refine g_G_35 C dG_removeLatest_15 ?_
  refine a_iconst (v := 0) C dG_removeLatest_18 (by decide) ?_
  refine stS_9 C dG_removeLatest_19 (by show x.1 3 - 1 < 16; omega) ?_
  have hs3 : (sS x 3 (x.1 3 - 1)).1 3 = x.1 3 - 1 := rfl
  rw [hs3]
  refine a_iconst (v := 0) C dG_removeLatest_20 (by decide) ?_
  refine istn_1 C dG_removeLatest_21 (by omega) rfl ?_
  have LP22 : ∀ (N0 : Nat) (r : Nat) (y : ST), 16 - r < N0 → (r ≤ x.1 3 - 1) → (Only [9] (sA (sS x 3 (x.1 3 - 1)) 9 (x.1 3 - 1) 0) y) → (WF y) → (∀ i, y.2.1 9 i = if i < r then x.2.1 9 i &&& ((1 * 2 ^ (x.1 3 - 1)) ^^^ 4294967295) else if i = x.1 3 - 1 then 0 else x.2.1 9 i) → WA K (WS ad cI cD cZ y) [some (.ref (ad 3)), some (.int (nI r))] 22 [] := by
    intro N0
    induction N0 with
    | zero => intro r y hm; exact absurd hm (Nat.not_lt_zero _)
    | succ N0 ih22 =>
      intro r y hm22 hr ho hwy h9
      refine a_iloadn C dG_removeLatest_22 rfl rfl ?_
      refine a_aloadn C dG_removeLatest_23 rfl rfl ?_
      have hy3 : y.1 3 = x.1 3 - 1 := by rw [ho.1]; rfl
      refine g_G_35 C dG_removeLatest_24 ?_
      rw [hy3]
      refine a_cge (tgt := 46) C dG_removeLatest_27 (by decide) (by omega) (by omega) (fun h27 => ?_) (fun h27 => ?_)
      · skip
        exact r_v C E dG_removeLatest_46 ⟨hwy, by rw [ho.1]; rfl, fun k hk => (ho.2.2 k (by simpa using hk)).trans (vup_ne _ _ hk), by rw [ho.2.1]; rfl, fun i => by rw [h9 i, show r = x.1 3 - 1 by omega]⟩
      · skip
        refine a_aloadn C dG_removeLatest_30 rfl rfl ?_
        refine a_iloadn C dG_removeLatest_31 rfl rfl ?_
        refine a_aloadn C dG_removeLatest_32 rfl rfl ?_
        refine g_G_35 C dG_removeLatest_33 ?_
        refine a_iconst (v := 0) C dG_removeLatest_36 (by decide) ?_
        rw [hy3]
        refine vV3 C (c_G_setBarred (kl K) (kD K) ad cI cD cZ cJ _ _ _ _ (by omega) (by omega) (by omega)) wM_G_70 wI_G_setBarred wSel_G_setBarred wIni_G wC_G_setBarred hd_G_setBarred (by decide) (by decide) (q0 := 3) rfl rfl (Nat.le_of_ble_eq_true rfl) dG_removeLatest_37 ?_
        rintro u37 rfl
        refine inc_1 C dG_removeLatest_40 rfl (inc_up (c := 1) (by decide)) (by omega) rfl ?_
        refine a_goto (tgt := 22) C dG_removeLatest_43 (by decide) ?_
        exact ih22 (r + 1) _ (by omega) (by omega) (ho.set (by decide) _ _) (hwy.sA _ _ (Nat.lt_of_le_of_lt Nat.and_le_left (hwy.1 9 r))) (rl_9 h9 (show r < x.1 3 - 1 from h27))
  exact LP22 _ 0 _ (Nat.lt_succ_self _) (Nat.zero_le _) (Only.rf _ _) ((hw.sS 3 (by omega)).sA 9 _ (by decide)) (fun i => by rw [if_neg (by omega)]; rfl)

set_option maxHeartbeats 4000000 in
set_option maxRecDepth 100000 in
theorem c_C_nextDivision (lc : Launch) (D : va_G) (ad : Nat → Nat) (cI cD cZ cJ : ClassId) (x : ST) (n j : Nat) (e : Nat → Nat) (hn : 1 ≤ n) (hn4 : n ≤ 4) (hj : j ≤ 14) (he : ∀ k, k < n → x.2.1 18 k = e k) (hb : ∀ k, k < n → e k ≤ 14) : CI lc D (ty4 cI cD cZ cJ) (WS ad cI cD cZ) yC_nextDivision bC_nextDivision 6 (some .boolean) 0 [.ref (ad 11), .int (nI n), .int (nI j)] x (fun rr u => Only [18] x u ∧ (WF x → WF u) ∧ ((nx n j e = none ∧ rr = 0) ∨ (∃ e', nx n j e = some e' ∧ rr = 1 ∧ ∀ k, k < n → u.2.1 18 k = e' k))) := by
  refine CI_of [some (.ref (ad 11)), some (.int (nI n)), some (.int (nI j)), none, none, none] (by decide) (Nat.le_of_ble_eq_true rfl) rfl ?_
  intro K C E hkl hkD hkn
  refine a_iloadn C dC_nextDivision_0 rfl rfl ?_
  refine a_iconst (v := 2) C dC_nextDivision_1 (by decide) ?_
  refine a_isubw C dC_nextDivision_2 (by decide) ?_
  rw [dn_2 hn]
  refine istn_3 C dC_nextDivision_3 (by omega) rfl ?_
  have LP4 : ∀ (N0 : Nat) (t : Nat) (o4 o5 : Option Value), t < N0 → (t ≤ n - 1) → (nx n j e = nxk n j e t) → WA K (WS ad cI cD cZ x) [some (.ref (ad 11)), some (.int (nI n)), some (.int (nI j)), some (.int (nI (dnv t))), o4, o5] 4 [] := by
    intro N0
    induction N0 with
    | zero => intro t o4 o5 hm; exact absurd hm (Nat.not_lt_zero _)
    | succ N0 ih4 =>
      intro t o4 o5 hm4 ht hx
      have hdl : dnv t < 4294967296 := by unfold dnv; split <;> omega
      refine a_iloadn C dC_nextDivision_4 rfl rfl ?_
      refine a_iflt (tgt := 83) C dC_nextDivision_5 (by decide) (by omega) (fun h5 => ?_) (fun h5 => ?_)
      · skip
        have ht0 := dnv_neg h5 (by omega)
        subst ht0
        refine a_iconst (v := 0) C dC_nextDivision_83 (by decide) ?_
        exact r_z C E dC_nextDivision_84 (by omega) ⟨Only.rf _ _, id, Or.inl ⟨hx, rfl⟩⟩
      · skip
        obtain ⟨k, rfl⟩ := dnv_pos h5
        have hdk : dnv (k + 1) = k := rfl
        rw [hdk]
        refine a_iloadn C dC_nextDivision_8 rfl rfl ?_
        refine a_iconst (v := 1) C dC_nextDivision_9 (by decide) ?_
        refine a_isub C dC_nextDivision_10 (by omega) ?_
        refine a_iloadn C dC_nextDivision_11 rfl rfl ?_
        refine a_isub C dC_nextDivision_12 (by omega) ?_
        refine ist_4 C dC_nextDivision_13 (by omega) rfl ?_
        refine a_aloadn C dC_nextDivision_15 rfl rfl ?_
        refine g_C_31 C dC_nextDivision_16 ?_
        refine a_iloadn C dC_nextDivision_19 rfl rfl ?_
        refine ldS_18 C dC_nextDivision_20 (by omega) ?_
        rw [he k (by omega)]
        have hek := hb k (by omega)
        refine a_iload C dC_nextDivision_21 rfl ?_
        refine a_iadd C dC_nextDivision_23 ?_
        refine a_iloadn C dC_nextDivision_24 rfl rfl ?_
        refine a_cge (tgt := 77) C dC_nextDivision_25 (by decide) (by omega) (by omega) (fun h25 => ?_) (fun h25 => ?_)
        · skip
          refine inc_3 C dC_nextDivision_77 rfl (inc_m1 _) (by omega) rfl ?_
          refine a_goto (tgt := 4) C dC_nextDivision_80 (by decide) ?_
          exact ih4 k _ _ (by omega) (by omega) (by rw [hx]; exact nxk_skip h25)
        · skip
          refine a_aloadn C dC_nextDivision_28 rfl rfl ?_
          refine g_C_31 C dC_nextDivision_29 ?_
          refine a_iloadn C dC_nextDivision_32 rfl rfl ?_
          refine a_dup2 C dC_nextDivision_33 rfl rfl ?_
          refine ldS_18 C dC_nextDivision_34 (by omega) ?_
          rw [he k (by omega)]
          refine a_iconst (v := 1) C dC_nextDivision_35 (by decide) ?_
          refine a_iadd C dC_nextDivision_36 ?_
          refine stS_18 C dC_nextDivision_37 (by omega) ?_
          refine a_iloadn C dC_nextDivision_38 rfl rfl ?_
          refine a_iconst (v := 1) C dC_nextDivision_39 (by decide) ?_
          refine a_iadd C dC_nextDivision_40 ?_
          refine ist_5 C dC_nextDivision_41 (by omega) rfl ?_
          have LP43 : ∀ (N0 : Nat) (q : Nat) (y : ST), 4 - q < N0 → (k + 1 ≤ q) → (q ≤ n - 1) → (Only [18] x y) → ((∀ c, c < q → y.2.1 18 c = if c < k then e c else e k + 1 + (c - k))) → ((∀ c, q ≤ c → c < n → y.2.1 18 c = e c)) → (WF x → WF y) → WA K (WS ad cI cD cZ y) [some (.ref (ad 11)), some (.int (nI n)), some (.int (nI j)), some (.int (nI k)), some (.int (nI (n - 1 - k))), some (.int (nI q))] 43 [] := by
            intro N0
            induction N0 with
            | zero => intro q y hm; exact absurd hm (Nat.not_lt_zero _)
            | succ N0 ih43 =>
              intro q y hm43 hq hqn ho h1 h2 hwf
              refine a_iload C dC_nextDivision_43 rfl ?_
              refine a_iloadn C dC_nextDivision_45 rfl rfl ?_
              refine a_iconst (v := 1) C dC_nextDivision_46 (by decide) ?_
              refine a_isub C dC_nextDivision_47 (by omega) ?_
              refine a_cge (tgt := 75) C dC_nextDivision_48 (by decide) (by omega) (by omega) (fun h48 => ?_) (fun h48 => ?_)
              · skip
                refine a_iconst (v := 1) C dC_nextDivision_75 (by decide) ?_
                exact r_z C E dC_nextDivision_76 (by omega) ⟨ho, hwf, Or.inr ⟨_, by rw [hx]; exact nx_hit h25, rfl, nx_val (by omega) (by omega) (by omega) h1 h2⟩⟩
              · skip
                refine a_aloadn C dC_nextDivision_51 rfl rfl ?_
                refine g_C_31 C dC_nextDivision_52 ?_
                refine a_iload C dC_nextDivision_55 rfl ?_
                refine a_aloadn C dC_nextDivision_57 rfl rfl ?_
                refine g_C_31 C dC_nextDivision_58 ?_
                refine a_iload C dC_nextDivision_61 rfl ?_
                refine a_iconst (v := 1) C dC_nextDivision_63 (by decide) ?_
                refine a_isub C dC_nextDivision_64 (by omega) ?_
                refine ldS_18 C dC_nextDivision_65 (by omega) ?_
                refine a_iconst (v := 1) C dC_nextDivision_66 (by decide) ?_
                refine a_iadd C dC_nextDivision_67 ?_
                refine stS_18 C dC_nextDivision_68 (by omega) ?_
                refine inc_5 C dC_nextDivision_69 rfl (inc_up (c := 1) (by decide)) (by omega) rfl ?_
                refine a_goto (tgt := 43) C dC_nextDivision_72 (by decide) ?_
                exact ih43 (q + 1) _ (by omega) (by omega) (by omega) (ho.set (by decide) _ _) (lt_s (fun c hc => by rw [sA_at _ _ _ (by omega)]; exact h1 c hc) (by rw [sA_same, h1 (q - 1) (by omega), if_neg (by omega), if_neg (by omega)]; omega)) (fun c hc hcn => by rw [sA_at _ _ _ (by omega)]; exact h2 c (by omega) hcn) (fun h => (hwf h).sA _ _ (by have hv := h1 (q - 1) (by omega); rw [if_neg (by omega)] at hv; omega))
          exact LP43 _ (k + 1) _ (Nat.lt_succ_self _) (Nat.le_refl _) (by omega) ((Only.rf _ _).set (by decide) _ _) (lt_s (fun c hc => by rw [sA_at _ _ _ (by omega), if_pos hc]; exact he c (by omega)) (by rw [sA_same, if_neg (by omega), Nat.sub_self])) (fun c hc hcn => by rw [sA_at _ _ _ (by omega)]; exact he c hcn) (fun h => h.sA _ _ (by omega))
  exact LP4 _ (n - 1) none none (Nat.lt_succ_self _) (Nat.le_refl _) rfl
set_option maxHeartbeats 4000000 in
set_option maxRecDepth 100000 in
theorem c_C_deriveRule (lc : Launch) (D : va_G) (ad : Nat → Nat) (cI cD cZ cJ : ClassId) (x : ST) (r i j : Nat) (hr : r < 16) (hn : 1 ≤ x.2.1 5 r) (hn4 : x.2.1 5 r ≤ 4) (hij : i < j) (hj : j ≤ 14) (hu : ∀ i, x.2.1 15 i ≤ 1000000000) (hU : ∀ t, t < (dv (x.2.1 5 r) i j).length → pw (symP x r) i ((dv (x.2.1 5 r) i j).getD t []) (x.2.1 5 r) ≠ 0 → (∀ k, k < x.2.1 5 r → x.2.1 16 ((r * 4 + k) * 105 + spn (bg i ((dv (x.2.1 5 r) i j).getD t []) k) (lgd ((dv (x.2.1 5 r) i j).getD t []) k)) = 4294967295 ∨ x.2.1 16 ((r * 4 + k) * 105 + spn (bg i ((dv (x.2.1 5 r) i j).getD t []) k) (lgd ((dv (x.2.1 5 r) i j).getD t []) k)) < 16) ∧ (∀ k, k < x.2.1 5 r → ∀ y, wtP x r k (bg i ((dv (x.2.1 5 r) i j).getD t []) k) (lgd ((dv (x.2.1 5 r) i j).getD t []) k) = some y → vf_n64 (FP.dmul (fw (x.2.2.1 7 r) (wtP x r) i ((dv (x.2.1 5 r) i j).getD t []) k) y)) ∧ dgt (fw (x.2.2.1 7 r) (wtP x r) i ((dv (x.2.1 5 r) i j).getD t []) (x.2.1 5 r)) 0 = true) : CV lc D (ty4 cI cD cZ cJ) (WS ad cI cD cZ) yC_deriveRule bC_deriveRule 17 none 3 [.ref (ad 11), .ref (ad 3), .int (nI r), .int (nI i), .int (nI j)] x (fun u => DER x r i j u ∧ (WF x → WF u)) := by
  refine CV_of [some (.ref (ad 11)), some (.ref (ad 3)), some (.int (nI r)), some (.int (nI i)), some (.int (nI j)), none, none, none, none, none, none, none, none, none, none, none, none] (by decide) (Nat.le_of_ble_eq_true rfl) rfl ?_
  intro K C E hkl hkD hkn
  have hsp := spn_lt hij hj
  have hT := dv_len (x.2.1 5 r) (by omega) j (by omega) i (by omega)
  refine a_aloadn C dC_deriveRule_0 rfl rfl ?_
  refine a_iloadn C dC_deriveRule_1 rfl rfl ?_
  refine vI1 C (c_G_rightLength (kl K) (kD K) ad cI cD cZ cJ _ _ (by omega) (by omega)) wM_C_85 wI_G_rightLength wSel_G_rightLength wIni_G wC_G_rightLength hd_G_rightLength (by decide) (by decide) (q0 := 3) rfl rfl (Nat.le_of_ble_eq_true rfl) dC_deriveRule_2 ?_
  rintro n2 u2 b2 ⟨rfl, rfl⟩
  refine ist_5 C dC_deriveRule_5 (by omega) rfl ?_
  refine a_lconst (v := 0) C dC_deriveRule_7 rfl ?_
  refine lst_6 C dC_deriveRule_8 (by omega) rfl ?_
  refine a_dconst0 C dC_deriveRule_10 ?_
  refine dst_8 C dC_deriveRule_11 (by omega) rfl ?_
  refine a_iconst (v := 0) C dC_deriveRule_13 (by decide) ?_
  refine ist_10 C dC_deriveRule_14 (by omega) rfl ?_
  refine a_aloadn C dC_deriveRule_16 rfl rfl ?_
  refine a_iload C dC_deriveRule_17 rfl ?_
  refine a_iloadn C dC_deriveRule_19 rfl rfl ?_
  refine a_iload C dC_deriveRule_20 rfl ?_
  refine vI3 C (c_C_firstDivision (kl K) (kD K) ad cI cD cZ cJ _ _ _ _ hn hn4 hij hj) wM_C_108 wI_C_firstDivision wSel_C_firstDivision wIni_C wC_C_firstDivision hd_C_firstDivision (by decide) (by decide) (q0 := 11) rfl rfl (Nat.le_of_ble_eq_true rfl) dC_deriveRule_22 ?_
  rintro n22 u22 b22 ⟨po22, pe22, pf22, rfl⟩
  refine ist_11 C dC_deriveRule_25 (by omega) rfl ?_
  refine a_iconst (v := 0) C dC_deriveRule_27 (by decide) ?_
  refine ist_12 C dC_deriveRule_28 (by omega) rfl ?_
  have LP30 : ∀ (N0 : Nat) (t w p m : Nat) (h : UInt64) (y : ST) (o13 o14 o15 o16 : Option Value), (dv (x.2.1 5 r) i j).length - t < N0 → (t ≤ (dv (x.2.1 5 r) i j).length) → (Only [18] x y) → (w = aw (symP x r) (x.2.1 5 r) i (dv (x.2.1 5 r) i j) t) → (h = HV (bs (symP x r) (fun l => fw (x.2.2.1 7 r) (wtP x r) i l (x.2.1 5 r)) (x.2.1 5 r) i (dv (x.2.1 5 r) i j) t) (fun b => fw (x.2.2.1 7 r) (wtP x r) i ((dv (x.2.1 5 r) i j).getD b []) (x.2.1 5 r))) → (p = PK (bs (symP x r) (fun l => fw (x.2.2.1 7 r) (wtP x r) i l (x.2.1 5 r)) (x.2.1 5 r) i (dv (x.2.1 5 r) i j) t) (fun b => pkN (lgd ((dv (x.2.1 5 r) i j).getD b [])) (x.2.1 5 r))) → (p < 65536) → (m = if t < (dv (x.2.1 5 r) i j).length then 1 else 0) → ((t < (dv (x.2.1 5 r) i j).length → ∀ k, k < x.2.1 5 r → y.2.1 18 k = lgd ((dv (x.2.1 5 r) i j).getD t []) k)) → (WF x → WF y) → WA K (WS ad cI cD cZ y) [some (.ref (ad 11)), some (.ref (ad 3)), some (.int (nI r)), some (.int (nI i)), some (.int (nI j)), some (.int (nI (x.2.1 5 r))), some (.long (lN w)), none, some (.double h), none, some (.int (nI p)), some (.int (nI m)), some (.int (nI t)), o13, o14, o15, o16] 30 [] := by
    intro N0
    induction N0 with
    | zero => intro t w p m h y o13 o14 o15 o16 hm; exact absurd hm (Nat.not_lt_zero _)
    | succ N0 ih30 =>
      intro t w p m h y o13 o14 o15 o16 hm30 ht ho hw hh hp hp16 hm he hwf
      have hml : m < 4294967296 := by rw [hm]; exact i01_lt
      have hwl : w ≤ 1000000000 := by rw [hw]; exact aw_le _ _ _ _ _
      refine a_iload C dC_deriveRule_30 rfl ?_
      refine a_sipush (v := 286) C dC_deriveRule_32 (by decide) ?_
      refine a_cge (tgt := 124) C dC_deriveRule_35 (by decide) (by omega) (by omega) (fun h35 => ?_) (fun h35 => ?_)
      · skip
        have htt : t = (dv (x.2.1 5 r) i j).length := by first | omega | (rw [hm] at h40; have := i01_eq h40; omega)
        subst htt
        have hsd : j * (j - 1) / 2 + i = spn i j := rfl
        refine a_iloadn C dC_deriveRule_124 rfl rfl ?_
        refine a_iloadn C dC_deriveRule_125 rfl rfl ?_
        refine a_iload C dC_deriveRule_126 rfl ?_
        refine tI2 C (c_P_spanNumber (kl K) (kD K) ad cI cD cZ cJ _ _ _ (by omega) hj (by omega)) (k0 := 6) rfl wSt_P_spanNumber wIni_P wC_P_spanNumber hd_P_spanNumber (by decide) (by decide) (Nat.le_of_ble_eq_true rfl) dC_deriveRule_128 ?_
        rintro n128 u128 b128 ⟨rfl, rfl⟩
        refine sI2 C (c_C_ruleIndex (kl K) (kD K) ad cI cD cZ cJ _ _ _ (by omega)) wM_C_137 wSt_C_ruleIndex wIni_C wC_C_ruleIndex hd_C_ruleIndex (by decide) (by decide) (Nat.le_of_ble_eq_true rfl) dC_deriveRule_131 ?_
        rintro n131 u131 b131 ⟨rfl, rfl⟩
        refine ist_12 C dC_deriveRule_134 (by omega) rfl ?_
        refine a_aloadn C dC_deriveRule_136 rfl rfl ?_
        refine g_C_9 C dC_deriveRule_137 ?_
        refine a_iload C dC_deriveRule_140 rfl ?_
        refine a_lload C dC_deriveRule_142 rfl ?_
        refine a_l2i C dC_deriveRule_144 ?_
        refine stS_12 C dC_deriveRule_145 (by omega) ?_
        refine a_aloadn C dC_deriveRule_146 rfl rfl ?_
        refine g_C_15 C dC_deriveRule_147 ?_
        refine a_iload C dC_deriveRule_150 rfl ?_
        refine a_dload C dC_deriveRule_152 rfl ?_
        refine stS_13 C dC_deriveRule_154 (by omega) ?_
        refine a_aloadn C dC_deriveRule_155 rfl rfl ?_
        refine g_C_19 C dC_deriveRule_156 ?_
        refine a_iload C dC_deriveRule_159 rfl ?_
        refine a_iload C dC_deriveRule_161 rfl ?_
        refine stS_14 C dC_deriveRule_163 (by omega) ?_
        exact r_v C E dC_deriveRule_164 ⟨der_ret ho hw hh hp hp16, fun h => (((hwf h).sA 12 _ (Nat.lt_of_le_of_lt hwl (by decide))).sD 13 _ _).sA 14 _ (by omega)⟩
      · skip
        refine a_iload C dC_deriveRule_38 rfl ?_
        refine a_ifeq (tgt := 124) C dC_deriveRule_40 (by decide) (by omega) (fun h40 => ?_) (fun h40 => ?_)
        · skip
          have htt : t = (dv (x.2.1 5 r) i j).length := by first | omega | (rw [hm] at h40; have := i01_eq h40; omega)
          subst htt
          have hsd : j * (j - 1) / 2 + i = spn i j := rfl
          refine a_iloadn C dC_deriveRule_124 rfl rfl ?_
          refine a_iloadn C dC_deriveRule_125 rfl rfl ?_
          refine a_iload C dC_deriveRule_126 rfl ?_
          refine tI2 C (c_P_spanNumber (kl K) (kD K) ad cI cD cZ cJ _ _ _ (by omega) hj (by omega)) (k0 := 6) rfl wSt_P_spanNumber wIni_P wC_P_spanNumber hd_P_spanNumber (by decide) (by decide) (Nat.le_of_ble_eq_true rfl) dC_deriveRule_128 ?_
          rintro n128 u128 b128 ⟨rfl, rfl⟩
          refine sI2 C (c_C_ruleIndex (kl K) (kD K) ad cI cD cZ cJ _ _ _ (by omega)) wM_C_137 wSt_C_ruleIndex wIni_C wC_C_ruleIndex hd_C_ruleIndex (by decide) (by decide) (Nat.le_of_ble_eq_true rfl) dC_deriveRule_131 ?_
          rintro n131 u131 b131 ⟨rfl, rfl⟩
          refine ist_12 C dC_deriveRule_134 (by omega) rfl ?_
          refine a_aloadn C dC_deriveRule_136 rfl rfl ?_
          refine g_C_9 C dC_deriveRule_137 ?_
          refine a_iload C dC_deriveRule_140 rfl ?_
          refine a_lload C dC_deriveRule_142 rfl ?_
          refine a_l2i C dC_deriveRule_144 ?_
          refine stS_12 C dC_deriveRule_145 (by omega) ?_
          refine a_aloadn C dC_deriveRule_146 rfl rfl ?_
          refine g_C_15 C dC_deriveRule_147 ?_
          refine a_iload C dC_deriveRule_150 rfl ?_
          refine a_dload C dC_deriveRule_152 rfl ?_
          refine stS_13 C dC_deriveRule_154 (by omega) ?_
          refine a_aloadn C dC_deriveRule_155 rfl rfl ?_
          refine g_C_19 C dC_deriveRule_156 ?_
          refine a_iload C dC_deriveRule_159 rfl ?_
          refine a_iload C dC_deriveRule_161 rfl ?_
          refine stS_14 C dC_deriveRule_163 (by omega) ?_
          exact r_v C E dC_deriveRule_164 ⟨der_ret ho hw hh hp hp16, fun h => (((hwf h).sA 12 _ (Nat.lt_of_le_of_lt hwl (by decide))).sD 13 _ _).sA 14 _ (by omega)⟩
        · skip
          have htT : t < (dv (x.2.1 5 r) i j).length := by rw [hm] at h40; exact i01_ne h40
          have hey := he htT
          have hpc := fun k (hk : k < x.2.1 5 r) => piece (show x.2.1 5 r < 5 by omega) (show j < 15 by omega) (show i < 15 by omega) htT hk
          have hbl : ∀ k, k < x.2.1 5 r → bg i ((dv (x.2.1 5 r) i j).getD t []) k < lgd ((dv (x.2.1 5 r) i j).getD t []) k ∧ lgd ((dv (x.2.1 5 r) i j).getD t []) k ≤ 14 := fun k hk => ⟨(hpc k hk).2.1, by have := (hpc k hk).2.2.1; omega⟩
          have hb14 : ∀ k, k < x.2.1 5 r → lgd ((dv (x.2.1 5 r) i j).getD t []) k ≤ 14 := fun k hk => (hbl k hk).2
          have hb16 : ∀ k, k < x.2.1 5 r → lgd ((dv (x.2.1 5 r) i j).getD t []) k < 16 := fun k hk => by have := (hbl k hk).2; omega
          have huy : ∀ i, y.2.1 15 i ≤ 1000000000 := by rw [ho.2.2 15 (by decide)]; exact hu
          have hsy := symP_only ho r
          have hwy := wtP_only ho r
          have h7y : y.2.2.1 7 r = x.2.2.1 7 r := by rw [ho.2.1]
          have h16y := ho.2.2 16 (by decide)
          refine a_aloadn C dC_deriveRule_43 rfl rfl ?_
          refine a_iloadn C dC_deriveRule_44 rfl rfl ?_
          refine a_iload C dC_deriveRule_45 rfl ?_
          refine a_iloadn C dC_deriveRule_47 rfl rfl ?_
          refine vL3 C (c_C_divisionWays (kl K) (kD K) ad cI cD cZ cJ _ _ _ _ ((dv (x.2.1 5 r) i j).getD t []) hr hn4 hey hbl huy) wM_C_111 wI_C_divisionWays wSel_C_divisionWays wIni_C wC_C_divisionWays hd_C_divisionWays (by decide) (by decide) (q0 := 11) rfl rfl (Nat.le_of_ble_eq_true rfl) dC_deriveRule_48 ?_
          rintro n48 u48 b48 ⟨rfl, rfl⟩
          rw [hsy]
          have hpl := pw_le (symP x r) i ((dv (x.2.1 5 r) i j).getD t []) (x.2.1 5 r)
          refine lst_13 C dC_deriveRule_51 (by omega) rfl ?_
          have JN108 : ∀ (w2 p2 : Nat) (h2 : UInt64) (o13 o14 o15 o16 : Option Value), w2 = aw (symP x r) (x.2.1 5 r) i (dv (x.2.1 5 r) i j) (t + 1) → h2 = HV (bs (symP x r) (fun l => fw (x.2.2.1 7 r) (wtP x r) i l (x.2.1 5 r)) (x.2.1 5 r) i (dv (x.2.1 5 r) i j) (t + 1)) (fun b => fw (x.2.2.1 7 r) (wtP x r) i ((dv (x.2.1 5 r) i j).getD b []) (x.2.1 5 r)) → p2 = PK (bs (symP x r) (fun l => fw (x.2.2.1 7 r) (wtP x r) i l (x.2.1 5 r)) (x.2.1 5 r) i (dv (x.2.1 5 r) i j) (t + 1)) (fun b => pkN (lgd ((dv (x.2.1 5 r) i j).getD b [])) (x.2.1 5 r)) → p2 < 65536 → WA K (WS ad cI cD cZ y) [some (.ref (ad 11)), some (.ref (ad 3)), some (.int (nI r)), some (.int (nI i)), some (.int (nI j)), some (.int (nI (x.2.1 5 r))), some (.long (lN w2)), none, some (.double h2), none, some (.int (nI p2)), some (.int (nI m)), some (.int (nI t)), o13, o14, o15, o16] 108 [] := by
            intro w2 p2 h2 o13 o14 o15 o16 hw2 hh2 hp2 hp22
            refine a_aloadn C dC_deriveRule_108 rfl rfl ?_
            refine a_iload C dC_deriveRule_109 rfl ?_
            refine a_iload C dC_deriveRule_111 rfl ?_
            refine vI2 C (c_C_nextDivision (kl K) (kD K) ad cI cD cZ cJ _ _ _ (lgd ((dv (x.2.1 5 r) i j).getD t [])) hn hn4 hj hey hb14) wM_C_134 wI_C_nextDivision wSel_C_nextDivision wIni_C wC_C_nextDivision hd_C_nextDivision (by decide) (by decide) (q0 := 11) rfl rfl (Nat.le_of_ble_eq_true rfl) dC_deriveRule_113 ?_
            rintro n113 u113 b113 ⟨po113, pf113, pe113⟩
            obtain ⟨hmn, hen⟩ := der_nx hn hn4 hij hj htT pe113
            refine ist_11 C dC_deriveRule_116 (by omega) rfl ?_
            refine inc_12 C dC_deriveRule_118 rfl (inc_up (c := 1) (by decide)) (by omega) rfl ?_
            refine a_goto (tgt := 30) C dC_deriveRule_121 (by decide) ?_
            exact ih30 (t + 1) w2 p2 _ h2 _ _ _ _ _ (by omega) (by omega) (ho.trans po113) hw2 hh2 hp2 hp22 hmn hen (fun h => pf113 (hwf h))
          refine a_lload C dC_deriveRule_53 rfl ?_
          refine a_lconst (v := 0) C dC_deriveRule_55 rfl ?_
          refine a_lcmp C dC_deriveRule_56 (by omega) (by omega) (fun h56 => ?_) (fun h56 => ?_) (fun h56 => ?_)
          · skip
            exact absurd h56 (by omega)
          · skip
            refine a_ifle (tgt := 108) C dC_deriveRule_57 (by decide) (by decide) (fun _ => ?_) (fun q q2 => absurd (And.intro q q2) (by decide))
            have hw2 : w = aw (symP x r) (x.2.1 5 r) i (dv (x.2.1 5 r) i j) (t + 1) := by rw [aw_z h56, hw]
            have hh2 : h = HV (bs (symP x r) (fun l => fw (x.2.2.1 7 r) (wtP x r) i l (x.2.1 5 r)) (x.2.1 5 r) i (dv (x.2.1 5 r) i j) (t + 1)) (fun b => fw (x.2.2.1 7 r) (wtP x r) i ((dv (x.2.1 5 r) i j).getD b []) (x.2.1 5 r)) := by rw [bs_z h56, hh]
            have hp2 : p = PK (bs (symP x r) (fun l => fw (x.2.2.1 7 r) (wtP x r) i l (x.2.1 5 r)) (x.2.1 5 r) i (dv (x.2.1 5 r) i j) (t + 1)) (fun b => pkN (lgd ((dv (x.2.1 5 r) i j).getD b [])) (x.2.1 5 r)) := by rw [bs_z h56, hp]
            exact JN108 _ _ _ _ _ _ _ hw2 hh2 hp2 hp16
          · skip
            refine a_ifle (tgt := 108) C dC_deriveRule_57 (by decide) (by decide) (fun q => absurd q (by decide)) (fun _ _ => ?_)
            have hpz : pw (symP x r) i ((dv (x.2.1 5 r) i j).getD t []) (x.2.1 5 r) ≠ 0 := by omega
            obtain ⟨hU1, hU2, hU3⟩ := hU t htT hpz
            rw [← hwy, ← h7y] at hU2
            rw [← h16y] at hU1
            have hw2 : min 1000000000 (w + pw (symP x r) i ((dv (x.2.1 5 r) i j).getD t []) (x.2.1 5 r)) = aw (symP x r) (x.2.1 5 r) i (dv (x.2.1 5 r) i j) (t + 1) := by rw [hw]; rfl
            refine a_ldc2 (n := 1000000000) C wK_C_115 dC_deriveRule_60 (by decide) ?_
            refine a_lload C dC_deriveRule_63 rfl ?_
            refine a_lload C dC_deriveRule_65 rfl ?_
            refine a_ladd C dC_deriveRule_67 ?_
            refine a_mmin C dC_deriveRule_68 (by decide) (by omega) (by omega) (Nat.le_of_ble_eq_true rfl) ?_
            refine lst_6 C dC_deriveRule_71 (by omega) rfl ?_
            refine a_aloadn C dC_deriveRule_73 rfl rfl ?_
            refine a_aloadn C dC_deriveRule_74 rfl rfl ?_
            refine a_iloadn C dC_deriveRule_75 rfl rfl ?_
            refine vD1 C (c_G_weightOf (kl K) (kD K) ad cI cD cZ cJ _ _ hr) wM_C_123 wI_G_weightOf wSel_G_weightOf wIni_G wC_G_weightOf hd_G_weightOf (by decide) (by decide) (q0 := 3) rfl rfl (Nat.le_of_ble_eq_true rfl) dC_deriveRule_76 ?_
            rintro n76 u76 ⟨rfl, rfl⟩
            refine a_iloadn C dC_deriveRule_79 rfl rfl ?_
            refine a_iload C dC_deriveRule_80 rfl ?_
            refine a_iloadn C dC_deriveRule_82 rfl rfl ?_
            refine vD4 C (c_C_divisionWeight (kl K) (kD K) ad cI cD cZ cJ _ _ _ _ _ ((dv (x.2.1 5 r) i j).getD t []) hr hn4 hey hbl hU1 hU2) wM_C_127 wI_C_divisionWeight wSel_C_divisionWeight wIni_C wC_C_divisionWeight hd_C_divisionWeight (by decide) (by decide) (q0 := 11) rfl rfl (Nat.le_of_ble_eq_true rfl) dC_deriveRule_83 ?_
            rintro n83 u83 ⟨rfl, rfl⟩
            rw [hwy, h7y]
            refine dst_15 C dC_deriveRule_86 (by omega) rfl ?_
            refine a_dload C dC_deriveRule_88 rfl ?_
            refine a_dload C dC_deriveRule_90 rfl ?_
            refine a_dcmp C dC_deriveRule_92 (fun h92 => ?_) (fun h92 => ?_) (fun h92 => ?_) (fun h92 => ?_)
            · skip
              refine a_ifle (tgt := 108) C dC_deriveRule_93 (by decide) (by decide) (fun _ => ?_) (fun q q2 => absurd (And.intro q q2) (by decide))
              have hbn := bs_n (fwt := (fun l => fw (x.2.2.1 7 r) (wtP x r) i l (x.2.1 5 r))) hpz hU3 (by rw [← hh]; exact dgt_lt h92)
              have hh2 : h = HV (bs (symP x r) (fun l => fw (x.2.2.1 7 r) (wtP x r) i l (x.2.1 5 r)) (x.2.1 5 r) i (dv (x.2.1 5 r) i j) (t + 1)) (fun b => fw (x.2.2.1 7 r) (wtP x r) i ((dv (x.2.1 5 r) i j).getD b []) (x.2.1 5 r)) := by rw [hbn, hh]
              have hp2 : p = PK (bs (symP x r) (fun l => fw (x.2.2.1 7 r) (wtP x r) i l (x.2.1 5 r)) (x.2.1 5 r) i (dv (x.2.1 5 r) i j) (t + 1)) (fun b => pkN (lgd ((dv (x.2.1 5 r) i j).getD b [])) (x.2.1 5 r)) := by rw [hbn, hp]
              exact JN108 _ _ _ _ _ _ _ hw2 hh2 hp2 hp16
            · skip
              refine a_ifle (tgt := 108) C dC_deriveRule_93 (by decide) (by decide) (fun _ => ?_) (fun q q2 => absurd (And.intro q q2) (by decide))
              have hbn := bs_n (fwt := (fun l => fw (x.2.2.1 7 r) (wtP x r) i l (x.2.1 5 r))) hpz hU3 (by rw [← hh]; exact dgt_eq h92)
              have hh2 : h = HV (bs (symP x r) (fun l => fw (x.2.2.1 7 r) (wtP x r) i l (x.2.1 5 r)) (x.2.1 5 r) i (dv (x.2.1 5 r) i j) (t + 1)) (fun b => fw (x.2.2.1 7 r) (wtP x r) i ((dv (x.2.1 5 r) i j).getD b []) (x.2.1 5 r)) := by rw [hbn, hh]
              have hp2 : p = PK (bs (symP x r) (fun l => fw (x.2.2.1 7 r) (wtP x r) i l (x.2.1 5 r)) (x.2.1 5 r) i (dv (x.2.1 5 r) i j) (t + 1)) (fun b => pkN (lgd ((dv (x.2.1 5 r) i j).getD b [])) (x.2.1 5 r)) := by rw [hbn, hp]
              exact JN108 _ _ _ _ _ _ _ hw2 hh2 hp2 hp16
            · skip
              refine a_ifle (tgt := 108) C dC_deriveRule_93 (by decide) (by decide) (fun q => absurd q (by decide)) (fun _ _ => ?_)
              have hbn := bs_g (fwt := (fun l => fw (x.2.2.1 7 r) (wtP x r) i l (x.2.1 5 r))) hpz (by rw [← hh]; exact dgt_of h92)
              have hh2 : fw (x.2.2.1 7 r) (wtP x r) i ((dv (x.2.1 5 r) i j).getD t []) (x.2.1 5 r) = HV (bs (symP x r) (fun l => fw (x.2.2.1 7 r) (wtP x r) i l (x.2.1 5 r)) (x.2.1 5 r) i (dv (x.2.1 5 r) i j) (t + 1)) (fun b => fw (x.2.2.1 7 r) (wtP x r) i ((dv (x.2.1 5 r) i j).getD b []) (x.2.1 5 r)) := by rw [hbn]; rfl
              have hp2 : pkN (lgd ((dv (x.2.1 5 r) i j).getD t [])) (x.2.1 5 r) = PK (bs (symP x r) (fun l => fw (x.2.2.1 7 r) (wtP x r) i l (x.2.1 5 r)) (x.2.1 5 r) i (dv (x.2.1 5 r) i j) (t + 1)) (fun b => pkN (lgd ((dv (x.2.1 5 r) i j).getD b [])) (x.2.1 5 r)) := by rw [hbn]; rfl
              have hp16 : pkN (lgd ((dv (x.2.1 5 r) i j).getD t [])) (x.2.1 5 r) < 65536 := Nat.lt_of_lt_of_le (pkN_lt hb16) (show 2 ^ (4 * x.2.1 5 r) ≤ 2 ^ 16 from Nat.pow_le_pow_right (by decide) (by omega))
              refine a_dload C dC_deriveRule_96 rfl ?_
              refine dst_8 C dC_deriveRule_98 (by omega) rfl ?_
              refine a_aloadn C dC_deriveRule_100 rfl rfl ?_
              refine a_iload C dC_deriveRule_101 rfl ?_
              refine vI1 C (c_C_packedEnds (kl K) (kD K) ad cI cD cZ cJ _ _ (lgd ((dv (x.2.1 5 r) i j).getD t [])) hn4 hey hb16) wM_C_131 wI_C_packedEnds wSel_C_packedEnds wIni_C wC_C_packedEnds hd_C_packedEnds (by decide) (by decide) (q0 := 11) rfl rfl (Nat.le_of_ble_eq_true rfl) dC_deriveRule_103 ?_
              rintro n103 u103 b103 ⟨rfl, rfl⟩
              refine ist_10 C dC_deriveRule_106 (by omega) rfl ?_
              exact JN108 _ _ _ _ _ _ _ hw2 hh2 hp2 hp16
            · skip
              have hnan : nanv .l = 4294967295 := rfl
              rw [hnan]
              refine a_ifle (tgt := 108) C dC_deriveRule_93 (by decide) (by decide) (fun _ => ?_) (fun q q2 => absurd (And.intro q q2) (by decide))
              have hbn := bs_n (fwt := (fun l => fw (x.2.2.1 7 r) (wtP x r) i l (x.2.1 5 r))) hpz hU3 (by rw [← hh]; exact dgt_nan h92)
              have hh2 : h = HV (bs (symP x r) (fun l => fw (x.2.2.1 7 r) (wtP x r) i l (x.2.1 5 r)) (x.2.1 5 r) i (dv (x.2.1 5 r) i j) (t + 1)) (fun b => fw (x.2.2.1 7 r) (wtP x r) i ((dv (x.2.1 5 r) i j).getD b []) (x.2.1 5 r)) := by rw [hbn, hh]
              have hp2 : p = PK (bs (symP x r) (fun l => fw (x.2.2.1 7 r) (wtP x r) i l (x.2.1 5 r)) (x.2.1 5 r) i (dv (x.2.1 5 r) i j) (t + 1)) (fun b => pkN (lgd ((dv (x.2.1 5 r) i j).getD b [])) (x.2.1 5 r)) := by rw [hbn, hp]
              exact JN108 _ _ _ _ _ _ _ hw2 hh2 hp2 hp16
  exact LP30 _ 0 0 0 _ 0 _ none none none none (Nat.lt_succ_self _) (Nat.zero_le _) po22 rfl rfl rfl (by decide) (der_m hn hn4 hij hj) (der_e hn hn4 hij hj pe22) pf22

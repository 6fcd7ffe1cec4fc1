set_option maxHeartbeats 4000000 in
set_option maxRecDepth 100000 in
theorem c_G_fits (lc : Launch) (D : va_G) (ad : Nat → Nat) (cI cD cZ cJ : ClassId) (x : ST) (p c : Nat) (hp : p < 2147483648) (hc : c < 2147483648) : CI lc D (ty4 cI cD cZ cJ) (WS ad cI cD cZ) yG_fits bG_fits 2 (some .boolean) 1 [.int (nI p), .int (nI c)] x (fun rr u => x = u ∧ rr = (if fitsB p c = true then 1 else 0)) := by
  refine CI_of [some (.int (nI p)), some (.int (nI c))] (by decide) (Nat.le_of_ble_eq_true rfl) rfl ?_
  intro K C E hkl hkD hkn
  refine a_iloadn C dG_fits_0 rfl rfl ?_
  refine a_ifne (tgt := 18) C dG_fits_1 (by decide) (by omega) (fun h1 => ?_) (fun h1 => ?_)
  · skip
    refine a_iloadn C dG_fits_18 rfl rfl ?_
    refine a_iconst (v := 1) C dG_fits_19 (by decide) ?_
    refine a_cne (tgt := 35) C dG_fits_20 (by decide) (by omega) (by omega) (fun h20 => ?_) (fun h20 => ?_)
    · skip
      refine a_iloadn C dG_fits_35 rfl rfl ?_
      refine a_bipush (v := 6) C dG_fits_36 (by decide) ?_
      refine a_cge (tgt := 63) C dG_fits_38 (by decide) (by omega) (by omega) (fun h38 => ?_) (fun h38 => ?_)
      · skip
        refine a_iconst (v := 0) C dG_fits_63 (by decide) ?_
        exact r_z C E dG_fits_64 (by omega) ⟨rfl, by first | rw [if_pos ((fitsB_z h1).mpr (by omega))] | rw [if_neg (fun q => absurd ((fitsB_z h1).mp q) (by omega))] | rw [if_pos ((fitsB_1 h1 h20).mpr (by omega))] | rw [if_neg (fun q => absurd ((fitsB_1 h1 h20).mp q) (by omega))] | rw [if_pos ((fitsB_ge h1 h20).mpr (by omega))] | rw [if_neg (fun q => absurd ((fitsB_ge h1 h20).mp q) (by omega))]⟩
      · skip
        refine a_iloadn C dG_fits_41 rfl rfl ?_
        refine a_bipush (v := 58) C dG_fits_42 (by decide) ?_
        refine a_ceq (tgt := 63) C dG_fits_44 (by decide) (by omega) (by omega) (fun h44 => ?_) (fun h44 => ?_)
        · skip
          refine a_iconst (v := 0) C dG_fits_63 (by decide) ?_
          exact r_z C E dG_fits_64 (by omega) ⟨rfl, by first | rw [if_pos ((fitsB_z h1).mpr (by omega))] | rw [if_neg (fun q => absurd ((fitsB_z h1).mp q) (by omega))] | rw [if_pos ((fitsB_1 h1 h20).mpr (by omega))] | rw [if_neg (fun q => absurd ((fitsB_1 h1 h20).mp q) (by omega))] | rw [if_pos ((fitsB_ge h1 h20).mpr (by omega))] | rw [if_neg (fun q => absurd ((fitsB_ge h1 h20).mp q) (by omega))]⟩
        · skip
          refine a_iloadn C dG_fits_47 rfl rfl ?_
          refine a_bipush (v := 71) C dG_fits_48 (by decide) ?_
          refine a_clt (tgt := 59) C dG_fits_50 (by decide) (by omega) (by omega) (fun h50 => ?_) (fun h50 => ?_)
          · skip
            refine a_iconst (v := 1) C dG_fits_59 (by decide) ?_
            refine a_goto (tgt := 64) C dG_fits_60 (by decide) ?_
            exact r_z C E dG_fits_64 (by omega) ⟨rfl, by first | rw [if_pos ((fitsB_z h1).mpr (by omega))] | rw [if_neg (fun q => absurd ((fitsB_z h1).mp q) (by omega))] | rw [if_pos ((fitsB_1 h1 h20).mpr (by omega))] | rw [if_neg (fun q => absurd ((fitsB_1 h1 h20).mp q) (by omega))] | rw [if_pos ((fitsB_ge h1 h20).mpr (by omega))] | rw [if_neg (fun q => absurd ((fitsB_ge h1 h20).mp q) (by omega))]⟩
          · skip
            refine a_iloadn C dG_fits_53 rfl rfl ?_
            refine a_bipush (v := 90) C dG_fits_54 (by decide) ?_
            refine a_cle (tgt := 63) C dG_fits_56 (by decide) (by omega) (by omega) (fun h56 => ?_) (fun h56 => ?_)
            · skip
              refine a_iconst (v := 0) C dG_fits_63 (by decide) ?_
              exact r_z C E dG_fits_64 (by omega) ⟨rfl, by first | rw [if_pos ((fitsB_z h1).mpr (by omega))] | rw [if_neg (fun q => absurd ((fitsB_z h1).mp q) (by omega))] | rw [if_pos ((fitsB_1 h1 h20).mpr (by omega))] | rw [if_neg (fun q => absurd ((fitsB_1 h1 h20).mp q) (by omega))] | rw [if_pos ((fitsB_ge h1 h20).mpr (by omega))] | rw [if_neg (fun q => absurd ((fitsB_ge h1 h20).mp q) (by omega))]⟩
            · skip
              refine a_iconst (v := 1) C dG_fits_59 (by decide) ?_
              refine a_goto (tgt := 64) C dG_fits_60 (by decide) ?_
              exact r_z C E dG_fits_64 (by omega) ⟨rfl, by first | rw [if_pos ((fitsB_z h1).mpr (by omega))] | rw [if_neg (fun q => absurd ((fitsB_z h1).mp q) (by omega))] | rw [if_pos ((fitsB_1 h1 h20).mpr (by omega))] | rw [if_neg (fun q => absurd ((fitsB_1 h1 h20).mp q) (by omega))] | rw [if_pos ((fitsB_ge h1 h20).mpr (by omega))] | rw [if_neg (fun q => absurd ((fitsB_ge h1 h20).mp q) (by omega))]⟩
    · skip
      refine a_iloadn C dG_fits_23 rfl rfl ?_
      refine a_bipush (v := 58) C dG_fits_24 (by decide) ?_
      refine a_cne (tgt := 33) C dG_fits_26 (by decide) (by omega) (by omega) (fun h26 => ?_) (fun h26 => ?_)
      · skip
        refine a_iconst (v := 0) C dG_fits_33 (by decide) ?_
        exact r_z C E dG_fits_34 (by omega) ⟨rfl, by first | rw [if_pos ((fitsB_z h1).mpr (by omega))] | rw [if_neg (fun q => absurd ((fitsB_z h1).mp q) (by omega))] | rw [if_pos ((fitsB_1 h1 h20).mpr (by omega))] | rw [if_neg (fun q => absurd ((fitsB_1 h1 h20).mp q) (by omega))] | rw [if_pos ((fitsB_ge h1 h20).mpr (by omega))] | rw [if_neg (fun q => absurd ((fitsB_ge h1 h20).mp q) (by omega))]⟩
      · skip
        refine a_iconst (v := 1) C dG_fits_29 (by decide) ?_
        refine a_goto (tgt := 34) C dG_fits_30 (by decide) ?_
        exact r_z C E dG_fits_34 (by omega) ⟨rfl, by first | rw [if_pos ((fitsB_z h1).mpr (by omega))] | rw [if_neg (fun q => absurd ((fitsB_z h1).mp q) (by omega))] | rw [if_pos ((fitsB_1 h1 h20).mpr (by omega))] | rw [if_neg (fun q => absurd ((fitsB_1 h1 h20).mp q) (by omega))] | rw [if_pos ((fitsB_ge h1 h20).mpr (by omega))] | rw [if_neg (fun q => absurd ((fitsB_ge h1 h20).mp q) (by omega))]⟩
  · skip
    refine a_iloadn C dG_fits_4 rfl rfl ?_
    refine tI1 C (c_P_nonterminalNumber (kl K) (kD K) ad cI cD cZ cJ _ _ (by omega)) (k0 := 4) rfl wSt_P_nonterminalNumber wIni_P wC_P_nonterminalNumber hd_P_nonterminalNumber (by decide) (by decide) (Nat.le_of_ble_eq_true rfl) dG_fits_5 ?_
    rintro n5 u5 b5 ⟨rfl, rfl⟩
    refine a_iconst (v := 4294967295) C dG_fits_8 (by decide) ?_
    refine a_ceq (tgt := 16) C dG_fits_9 (by decide) (by omega) (by omega) (fun h9 => ?_) (fun h9 => ?_)
    · skip
      refine a_iconst (v := 0) C dG_fits_16 (by decide) ?_
      exact r_z C E dG_fits_17 (by omega) ⟨rfl, by first | rw [if_pos ((fitsB_z h1).mpr (by omega))] | rw [if_neg (fun q => absurd ((fitsB_z h1).mp q) (by omega))] | rw [if_pos ((fitsB_1 h1 h20).mpr (by omega))] | rw [if_neg (fun q => absurd ((fitsB_1 h1 h20).mp q) (by omega))] | rw [if_pos ((fitsB_ge h1 h20).mpr (by omega))] | rw [if_neg (fun q => absurd ((fitsB_ge h1 h20).mp q) (by omega))]⟩
    · skip
      refine a_iconst (v := 1) C dG_fits_12 (by decide) ?_
      refine a_goto (tgt := 17) C dG_fits_13 (by decide) ?_
      exact r_z C E dG_fits_17 (by omega) ⟨rfl, by first | rw [if_pos ((fitsB_z h1).mpr (by omega))] | rw [if_neg (fun q => absurd ((fitsB_z h1).mp q) (by omega))] | rw [if_pos ((fitsB_1 h1 h20).mpr (by omega))] | rw [if_neg (fun q => absurd ((fitsB_1 h1 h20).mp q) (by omega))] | rw [if_pos ((fitsB_ge h1 h20).mpr (by omega))] | rw [if_neg (fun q => absurd ((fitsB_ge h1 h20).mp q) (by omega))]⟩
set_option maxHeartbeats 4000000 in
set_option maxRecDepth 100000 in
theorem c_G_wrongPlace (lc : Launch) (D : va_G) (ad : Nat → Nat) (cI cD cZ cJ : ClassId) (x : ST) (hw : WF x) (ht : TXT x) : CI lc D (ty4 cI cD cZ cJ) (WS ad cI cD cZ) yG_wrongPlace bG_wrongPlace 2 (some .int) 2 [.ref (ad 1)] x (fun rr u => x = u ∧ ((∃ p, p < x.1 2 ∧ rr = p ∧ fitsB p (x.2.1 2 p) = false ∧ ∀ q, q < p → fitsB q (x.2.1 2 q) = true) ∨ ((∀ q, q < x.1 2 → fitsB q (x.2.1 2 q) = true) ∧ rr = if x.1 2 < 3 then x.1 2 else 4294967295))) := by
  refine CI_of [some (.ref (ad 1)), none] (by decide) (Nat.le_of_ble_eq_true rfl) rfl ?_
  intro K C E hkl hkD hkn
  have hl := ht.1
  refine a_iconst (v := 0) C dG_wrongPlace_0 (by decide) ?_
  refine istn_1 C dG_wrongPlace_1 (by omega) rfl ?_
  have LP2 : ∀ (N0 : Nat) (p : Nat), x.1 2 - p < N0 → (p ≤ x.1 2) → ((∀ q, q < p → fitsB q (x.2.1 2 q) = true)) → WA K (WS ad cI cD cZ x) [some (.ref (ad 1)), some (.int (nI p))] 2 [] := by
    intro N0
    induction N0 with
    | zero => intro p hm; exact absurd hm (Nat.not_lt_zero _)
    | succ N0 ih2 =>
      intro p hm2 hp ha
      refine a_iloadn C dG_wrongPlace_2 rfl rfl ?_
      refine a_aloadn C dG_wrongPlace_3 rfl rfl ?_
      refine vI0 C (c_T_length (kl K) (kD K) ad cI cD cZ cJ _ (by omega)) wM_G_39 wI_T_length wSel_T_length wIni_T wC_T_length hd_T_length (by decide) (by decide) (q0 := 1) rfl rfl (Nat.le_of_ble_eq_true rfl) dG_wrongPlace_4 ?_
      rintro n4 u4 b4 ⟨rfl, rfl⟩
      refine a_cge (tgt := 30) C dG_wrongPlace_7 (by decide) (by omega) (by omega) (fun h7 => ?_) (fun h7 => ?_)
      · skip
        refine a_aloadn C dG_wrongPlace_30 rfl rfl ?_
        refine vI0 C (c_T_length (kl K) (kD K) ad cI cD cZ cJ _ (by omega)) wM_G_39 wI_T_length wSel_T_length wIni_T wC_T_length hd_T_length (by decide) (by decide) (q0 := 1) rfl rfl (Nat.le_of_ble_eq_true rfl) dG_wrongPlace_31 ?_
        rintro n31 u31 b31 ⟨rfl, rfl⟩
        refine a_iconst (v := 3) C dG_wrongPlace_34 (by decide) ?_
        refine a_cge (tgt := 45) C dG_wrongPlace_35 (by decide) (by omega) (by omega) (fun h35 => ?_) (fun h35 => ?_)
        · skip
          refine a_iconst (v := 4294967295) C dG_wrongPlace_45 (by decide) ?_
          exact r_i C E dG_wrongPlace_46 (by omega) ⟨rfl, Or.inr ⟨fun q hq => ha q (by omega), by first | rw [if_neg (by omega)] | rw [if_pos (by omega)]⟩⟩
        · skip
          refine a_aloadn C dG_wrongPlace_38 rfl rfl ?_
          refine vI0 C (c_T_length (kl K) (kD K) ad cI cD cZ cJ _ (by omega)) wM_G_39 wI_T_length wSel_T_length wIni_T wC_T_length hd_T_length (by decide) (by decide) (q0 := 1) rfl rfl (Nat.le_of_ble_eq_true rfl) dG_wrongPlace_39 ?_
          rintro n39 u39 b39 ⟨rfl, rfl⟩
          refine a_goto (tgt := 46) C dG_wrongPlace_42 (by decide) ?_
          exact r_i C E dG_wrongPlace_46 (by omega) ⟨rfl, Or.inr ⟨fun q hq => ha q (by omega), by first | rw [if_neg (by omega)] | rw [if_pos (by omega)]⟩⟩
      · skip
        refine a_iloadn C dG_wrongPlace_10 rfl rfl ?_
        refine a_aloadn C dG_wrongPlace_11 rfl rfl ?_
        refine a_iloadn C dG_wrongPlace_12 rfl rfl ?_
        refine vI1 C (c_T_at (kl K) (kD K) ad cI cD cZ cJ _ _ (by omega) hl (fun k => hw.1 2 k)) wM_G_45 wI_T_at wSel_T_at wIni_T wC_T_at hd_T_at (by decide) (by decide) (q0 := 1) rfl rfl (Nat.le_of_ble_eq_true rfl) dG_wrongPlace_13 ?_
        rintro n13 u13 b13 ⟨rfl, rfl⟩
        rw [if_pos h7] at b13 ⊢
        have hcp := ht.2 p h7
        refine sI2 C (c_G_fits (kl K) (kD K) ad cI cD cZ cJ _ _ _ (by omega) (by omega)) wM_G_49 wSt_G_fits wIni_G wC_G_fits hd_G_fits (by decide) (by decide) (Nat.le_of_ble_eq_true rfl) dG_wrongPlace_16 ?_
        rintro n16 u16 b16 ⟨rfl, rfl⟩
        refine a_ifne (tgt := 24) C dG_wrongPlace_19 (by decide) (by omega) (fun h19 => ?_) (fun h19 => ?_)
        · skip
          refine inc_1 C dG_wrongPlace_24 rfl (inc_up (c := 1) (by decide)) (by omega) rfl ?_
          refine a_goto (tgt := 2) C dG_wrongPlace_27 (by decide) ?_
          exact ih2 (p + 1) (by omega) (by omega) (lt_s ha (i01_t h19))
        · skip
          refine a_iloadn C dG_wrongPlace_22 rfl rfl ?_
          exact r_i C E dG_wrongPlace_23 (by omega) ⟨rfl, Or.inl ⟨p, h7, rfl, i01_f h19, ha⟩⟩
  exact LP2 _ 0 (Nat.lt_succ_self _) (Nat.zero_le _) (fun q hq => absurd hq (Nat.not_lt_zero _))
set_option maxHeartbeats 4000000 in
set_option maxRecDepth 100000 in
theorem c_G_reachedByChains (lc : Launch) (D : va_G) (ad : Nat → Nat) (cI cD cZ cJ : ClassId) (x : ST) (n : Nat) (hn : n < 6) (hw : WF x) (hg : GOk (gP x)) : CI lc D (ty4 cI cD cZ cJ) (WS ad cI cD cZ) yG_reachedByChains bG_reachedByChains 5 (some .int) 3 [.ref (ad 3), .int (nI n)] x (fun rr u => x = u ∧ rr = rch (gP x) n) := by
  refine CI_of [some (.ref (ad 3)), some (.int (nI n)), none, none, none] (by decide) (Nat.le_of_ble_eq_true rfl) rfl ?_
  intro K C E hkl hkD hkn
  have hR : x.1 3 ≤ 16 := hg.1
  have hgl : ∀ r, r < x.1 3 → x.2.1 4 r < 6 := fun r hr => (hg.2 r hr).1
  have hgs : ∀ r, r < x.1 3 → x.2.1 6 (r * 4 + 0) < 2147483648 := fun r hr => by have h1 := (hg.2 r hr).2.2.2.2.2 0 (hg.2 r hr).2.1; have h2 : gs (gP x) r 0 = x.2.1 6 (r * 4 + 0) := rfl; omega
  refine a_iconst (v := 1) C dG_reachedByChains_0 (by decide) ?_
  refine a_iloadn C dG_reachedByChains_1 rfl rfl ?_
  refine a_ishl C dG_reachedByChains_2 (by omega) ?_
  refine istn_2 C dG_reachedByChains_3 (by omega) rfl ?_
  refine a_iconst (v := 0) C dG_reachedByChains_4 (by decide) ?_
  refine istn_3 C dG_reachedByChains_5 (by omega) rfl ?_
  have LP6 : ∀ (N0 : Nat) (t m : Nat) (o4 : Option Value), 6 - t < N0 → (t ≤ 6) → (m = clo (gP x) t (2 ^ n)) → (six m) → WA K (WS ad cI cD cZ x) [some (.ref (ad 3)), some (.int (nI n)), some (.int (nI m)), some (.int (nI t)), o4] 6 [] := by
    intro N0
    induction N0 with
    | zero => intro t m o4 hm; exact absurd hm (Nat.not_lt_zero _)
    | succ N0 ih6 =>
      intro t m o4 hm6 htt hm hs
      refine a_iloadn C dG_reachedByChains_6 rfl rfl ?_
      refine a_bipush (v := 6) C dG_reachedByChains_7 (by decide) ?_
      refine a_cge (tgt := 71) C dG_reachedByChains_9 (by decide) (by omega) (by omega) (fun h9 => ?_) (fun h9 => ?_)
      · skip
        refine a_iloadn C dG_reachedByChains_71 rfl rfl ?_
        exact r_i C E dG_reachedByChains_72 (by have := six_lt hs; omega) ⟨rfl, by rw [hm, show t = 6 by omega]; rfl⟩
      · skip
        refine a_iconst (v := 0) C dG_reachedByChains_12 (by decide) ?_
        refine ist_4 C dG_reachedByChains_13 (by omega) rfl ?_
        have LP15 : ∀ (N0 : Nat) (r m2 : Nat), x.1 3 - r < N0 → (r ≤ x.1 3) → (m2 = clR (gP x) r m) → (six m2) → WA K (WS ad cI cD cZ x) [some (.ref (ad 3)), some (.int (nI n)), some (.int (nI m2)), some (.int (nI t)), some (.int (nI r))] 15 [] := by
          intro N0
          induction N0 with
          | zero => intro r m2 hm; exact absurd hm (Nat.not_lt_zero _)
          | succ N0 ih15 =>
            intro r m2 hm15 hr hm2 hs2
            refine a_iload C dG_reachedByChains_15 rfl ?_
            refine a_aloadn C dG_reachedByChains_17 rfl rfl ?_
            refine g_G_35 C dG_reachedByChains_18 ?_
            refine a_cge (tgt := 65) C dG_reachedByChains_21 (by decide) (by omega) (by omega) (fun h21 => ?_) (fun h21 => ?_)
            · skip
              have hout : m2 = clo (gP x) (t + 1) (2 ^ n) := by rw [hm2, show r = x.1 3 by omega, hm]; rfl
              refine inc_3 C dG_reachedByChains_65 rfl (inc_up (c := 1) (by decide)) (by omega) rfl ?_
              refine a_goto (tgt := 6) C dG_reachedByChains_68 (by decide) ?_
              exact ih6 (t + 1) _ _ (by omega) (by omega) hout (by rw [hout]; exact clo_six (six_pow hn) _)
            · skip
              have hlt := hgl r h21
              have hm64 := six_lt hs2
              refine a_iloadn C dG_reachedByChains_24 rfl rfl ?_
              refine a_aloadn C dG_reachedByChains_25 rfl rfl ?_
              refine g_G_9 C dG_reachedByChains_26 ?_
              refine a_iload C dG_reachedByChains_29 rfl ?_
              refine ldS_4 C dG_reachedByChains_31 (by omega) ?_
              refine tI2 C (c_P_contains (kl K) (kD K) ad cI cD cZ cJ _ _ _ (by omega) (by omega)) (k0 := 5) rfl wSt_P_contains wIni_P wC_P_contains hd_P_contains (by decide) (by decide) (Nat.le_of_ble_eq_true rfl) dG_reachedByChains_32 ?_
              rintro n32 u32 b32 ⟨rfl, rfl⟩
              refine a_ifeq (tgt := 59) C dG_reachedByChains_35 (by decide) (by omega) (fun h35 => ?_) (fun h35 => ?_)
              · skip
                have hnew : m2 = clR (gP x) (r + 1) m := by rw [clR_no (Or.inl (by rw [← hm2]; exact i01_f h35)), hm2]
                refine inc_4 C dG_reachedByChains_59 rfl (inc_up (c := 1) (by decide)) (by omega) rfl ?_
                refine a_goto (tgt := 15) C dG_reachedByChains_62 (by decide) ?_
                exact ih15 (r + 1) _ (by omega) (by omega) hnew (by rw [hnew]; exact clR_six hs _)
              · skip
                refine a_aloadn C dG_reachedByChains_38 rfl rfl ?_
                refine a_iload C dG_reachedByChains_39 rfl ?_
                refine vI1 C (c_G_isChain (kl K) (kD K) ad cI cD cZ cJ _ _ (by omega) hw (hgs r h21)) wM_G_62 wI_G_isChain wSel_G_isChain wIni_G wC_G_isChain hd_G_isChain (by decide) (by decide) (q0 := 3) rfl rfl (Nat.le_of_ble_eq_true rfl) dG_reachedByChains_41 ?_
                rintro n41 u41 b41 ⟨rfl, rfl⟩
                refine a_ifeq (tgt := 59) C dG_reachedByChains_44 (by decide) (by omega) (fun h44 => ?_) (fun h44 => ?_)
                · skip
                  have hnew : m2 = clR (gP x) (r + 1) m := by rw [clR_no (Or.inr (i01_f h44)), hm2]
                  refine inc_4 C dG_reachedByChains_59 rfl (inc_up (c := 1) (by decide)) (by omega) rfl ?_
                  refine a_goto (tgt := 15) C dG_reachedByChains_62 (by decide) ?_
                  exact ih15 (r + 1) _ (by omega) (by omega) hnew (by rw [hnew]; exact clR_six hs _)
                · skip
                  refine a_iloadn C dG_reachedByChains_47 rfl rfl ?_
                  refine a_iconst (v := 1) C dG_reachedByChains_48 (by decide) ?_
                  refine a_aloadn C dG_reachedByChains_49 rfl rfl ?_
                  refine a_iload C dG_reachedByChains_50 rfl ?_
                  refine a_iconst (v := 0) C dG_reachedByChains_52 (by decide) ?_
                  refine vI2 C (c_G_symbolNonterminal (kl K) (kD K) ad cI cD cZ cJ _ _ _ (by omega) (by omega) (hgs r h21)) wM_G_66 wI_G_symbolNonterminal wSel_G_symbolNonterminal wIni_G wC_G_symbolNonterminal hd_G_symbolNonterminal (by decide) (by decide) (q0 := 3) rfl rfl (Nat.le_of_ble_eq_true rfl) dG_reachedByChains_53 ?_
                  rintro n53 u53 b53 ⟨rfl, rfl⟩
                  obtain ⟨c, hc1, hc2, hc3, hc4⟩ := clR_yes (g := gP x) (r := r) (s := m) (by rw [← hm2]; exact i01_t h35) (i01_t h44)
                  have hc3 : nt (x.2.1 6 (r * 4 + 0)) = some c := hc3
                  rw [hc3]
                  have hoc : oN (some c) = c := rfl
                  rw [hoc]
                  have hnew : m2 ||| (1 * 2 ^ c) = clR (gP x) (r + 1) m := by rw [hc4, hm2, Nat.one_mul]
                  refine a_ishl C dG_reachedByChains_56 (by omega) ?_
                  refine a_ior C dG_reachedByChains_57 ?_
                  refine istn_2 C dG_reachedByChains_58 (by omega) rfl ?_
                  refine inc_4 C dG_reachedByChains_59 rfl (inc_up (c := 1) (by decide)) (by omega) rfl ?_
                  refine a_goto (tgt := 15) C dG_reachedByChains_62 (by decide) ?_
                  exact ih15 (r + 1) _ (by omega) (by omega) hnew (by rw [hnew]; exact clR_six hs _)
        exact LP15 _ 0 m (Nat.lt_succ_self _) (Nat.zero_le _) rfl hs
  exact LP6 _ 0 (1 * 2 ^ n) none (Nat.lt_succ_self _) (by omega) (Nat.one_mul _) (by rw [Nat.one_mul]; exact six_pow hn)
set_option maxHeartbeats 4000000 in
set_option maxRecDepth 100000 in
theorem c_G_wouldLeadRound (lc : Launch) (D : va_G) (ad : Nat → Nat) (cI cD cZ cJ : ClassId) (x : ST) (hw : WF x) (ht : TXT x) (hg : GOk (gP x)) : CI lc D (ty4 cI cD cZ cJ) (WS ad cI cD cZ) yG_wouldLeadRound bG_wouldLeadRound 4 (some .boolean) 4 [.ref (ad 3), .ref (ad 1)] x (fun rr u => x = u ∧ rr = (if wlr x = true then 1 else 0)) := by
  refine CI_of [some (.ref (ad 3)), some (.ref (ad 1)), none, none] (by decide) (Nat.le_of_ble_eq_true rfl) rfl ?_
  intro K C E hkl hkD hkn
  have hl := ht.1
  have hq := tAt_lt ht
  refine a_aloadn C dG_wouldLeadRound_0 rfl rfl ?_
  refine a_iconst (v := 0) C dG_wouldLeadRound_1 (by decide) ?_
  refine vI1 C (c_T_at (kl K) (kD K) ad cI cD cZ cJ _ _ (by omega) hl (fun k => hw.1 2 k)) wM_G_45 wI_T_at wSel_T_at wIni_T wC_T_at hd_T_at (by decide) (by decide) (q0 := 1) rfl rfl (Nat.le_of_ble_eq_true rfl) dG_wouldLeadRound_2 ?_
  rintro n2 u2 b2 ⟨rfl, rfl⟩
  refine tI1 C (c_P_nonterminalNumber (kl K) (kD K) ad cI cD cZ cJ _ _ (by have := hq 0; unfold tAt at this; omega)) (k0 := 4) rfl wSt_P_nonterminalNumber wIni_P wC_P_nonterminalNumber hd_P_nonterminalNumber (by decide) (by decide) (Nat.le_of_ble_eq_true rfl) dG_wouldLeadRound_5 ?_
  rintro n5 u5 b5 ⟨rfl, rfl⟩
  refine istn_2 C dG_wouldLeadRound_8 (by omega) rfl ?_
  refine a_aloadn C dG_wouldLeadRound_9 rfl rfl ?_
  refine a_iconst (v := 2) C dG_wouldLeadRound_10 (by decide) ?_
  refine vI1 C (c_T_at (kl K) (kD K) ad cI cD cZ cJ _ _ (by omega) hl (fun k => hw.1 2 k)) wM_G_45 wI_T_at wSel_T_at wIni_T wC_T_at hd_T_at (by decide) (by decide) (q0 := 1) rfl rfl (Nat.le_of_ble_eq_true rfl) dG_wouldLeadRound_11 ?_
  rintro n11 u11 b11 ⟨rfl, rfl⟩
  refine tI1 C (c_P_nonterminalNumber (kl K) (kD K) ad cI cD cZ cJ _ _ (by have := hq 2; unfold tAt at this; omega)) (k0 := 4) rfl wSt_P_nonterminalNumber wIni_P wC_P_nonterminalNumber hd_P_nonterminalNumber (by decide) (by decide) (Nat.le_of_ble_eq_true rfl) dG_wouldLeadRound_14 ?_
  rintro n14 u14 b14 ⟨rfl, rfl⟩
  refine istn_3 C dG_wouldLeadRound_17 (by omega) rfl ?_
  refine a_aloadn C dG_wouldLeadRound_18 rfl rfl ?_
  refine vI0 C (c_T_length (kl K) (kD K) ad cI cD cZ cJ _ (by omega)) wM_G_39 wI_T_length wSel_T_length wIni_T wC_T_length hd_T_length (by decide) (by decide) (q0 := 1) rfl rfl (Nat.le_of_ble_eq_true rfl) dG_wouldLeadRound_19 ?_
  rintro n19 u19 b19 ⟨rfl, rfl⟩
  refine a_iconst (v := 3) C dG_wouldLeadRound_22 (by decide) ?_
  refine a_cne (tgt := 36) C dG_wouldLeadRound_23 (by decide) (by omega) (by omega) (fun h23 => ?_) (fun h23 => ?_)
  · skip
    refine a_iconst (v := 0) C dG_wouldLeadRound_36 (by decide) ?_
    exact r_z C E dG_wouldLeadRound_37 (by first | omega | exact i01_le) ⟨rfl, by unfold wlr; rw [show decide (x.1 2 = 3) = false by simp [h23]]; rfl⟩
  · skip
    refine a_iloadn C dG_wouldLeadRound_26 rfl rfl ?_
    refine a_iconst (v := 4294967295) C dG_wouldLeadRound_27 (by decide) ?_
    refine a_ceq (tgt := 36) C dG_wouldLeadRound_28 (by decide) (by omega) (by omega) (fun h28 => ?_) (fun h28 => ?_)
    · skip
      refine a_iconst (v := 0) C dG_wouldLeadRound_36 (by decide) ?_
      exact r_z C E dG_wouldLeadRound_37 (by first | omega | exact i01_le) ⟨rfl, by have h := oN_none (show oN (nt (tAt x 0)) = 4294967295 from h28); unfold wlr; rw [h]; simp⟩
    · skip
      refine a_iloadn C dG_wouldLeadRound_31 rfl rfl ?_
      refine a_iconst (v := 4294967295) C dG_wouldLeadRound_32 (by decide) ?_
      refine a_cne (tgt := 38) C dG_wouldLeadRound_33 (by decide) (by omega) (by omega) (fun h33 => ?_) (fun h33 => ?_)
      · skip
        obtain ⟨a0, ha0⟩ : ∃ a0, nt (tAt x 0) = some a0 := Option.isSome_iff_exists.mp (oN_some h28)
        obtain ⟨b0, hb0⟩ : ∃ b0, nt (tAt x 2) = some b0 := Option.isSome_iff_exists.mp (oN_some h33)
        have ha6 := nt_lt ha0
        have hb6 := nt_lt hb0
        have ea : oN (nt (if 0 < x.1 2 then x.2.1 2 0 else 0)) = a0 := by show oN (nt (tAt x 0)) = a0; rw [ha0]; rfl
        have eb : oN (nt (if 2 < x.1 2 then x.2.1 2 2 else 0)) = b0 := by show oN (nt (tAt x 2)) = b0; rw [hb0]; rfl
        rw [ea, eb]
        have hx6 := six_lt (rch_six (g := gP x) hb6)
        refine a_aloadn C dG_wouldLeadRound_38 rfl rfl ?_
        refine a_iloadn C dG_wouldLeadRound_39 rfl rfl ?_
        refine vI1 C (c_G_reachedByChains (kl K) (kD K) ad cI cD cZ cJ _ _ (by assumption) hw hg) wM_G_56 wI_G_reachedByChains wSel_G_reachedByChains wIni_G wC_G_reachedByChains hd_G_reachedByChains (by decide) (by decide) (q0 := 3) rfl rfl (Nat.le_of_ble_eq_true rfl) dG_wouldLeadRound_40 ?_
        rintro n40 u40 b40 ⟨rfl, rfl⟩
        refine a_iloadn C dG_wouldLeadRound_43 rfl rfl ?_
        refine tI2 C (c_P_contains (kl K) (kD K) ad cI cD cZ cJ _ _ _ (by omega) (by omega)) (k0 := 5) rfl wSt_P_contains wIni_P wC_P_contains hd_P_contains (by decide) (by decide) (Nat.le_of_ble_eq_true rfl) dG_wouldLeadRound_44 ?_
        rintro n44 u44 b44 ⟨rfl, rfl⟩
        exact r_z C E dG_wouldLeadRound_47 (by first | omega | exact i01_le) ⟨rfl, by unfold wlr; rw [ha0, hb0, show decide (x.1 2 = 3) = true by simp [h23]]; rfl⟩
      · skip
        refine a_iconst (v := 0) C dG_wouldLeadRound_36 (by decide) ?_
        exact r_z C E dG_wouldLeadRound_37 (by first | omega | exact i01_le) ⟨rfl, by have h := oN_none (show oN (nt (tAt x 2)) = 4294967295 from h33); unfold wlr; rw [h]; cases nt (tAt x 0) <;> simp⟩
set_option maxHeartbeats 4000000 in
set_option maxRecDepth 100000 in
theorem c_G_setBarred (lc : Launch) (D : va_G) (ad : Nat → Nat) (cI cD cZ cJ : ClassId) (x : ST) (r s b : Nat) (hr : r < 16) (hs : s < 16) (hb : b < 4294967296) : CV lc D (ty4 cI cD cZ cJ) (WS ad cI cD cZ) yG_setBarred bG_setBarred 4 none 0 [.ref (ad 3), .int (nI r), .int (nI s), .int (nI b)] x (fun u => u = sA x 9 r (if b = 0 then x.2.1 9 r &&& ((1 * 2 ^ s) ^^^ 4294967295) else x.2.1 9 r ||| (1 * 2 ^ s))) := by
  refine CV_of [some (.ref (ad 3)), some (.int (nI r)), some (.int (nI s)), some (.int (nI b))] (by decide) (Nat.le_of_ble_eq_true rfl) rfl ?_
  intro K C E hkl hkD hkn
  refine a_iloadn C dG_setBarred_0 rfl rfl ?_
  refine a_ifeq (tgt := 19) C dG_setBarred_1 (by decide) (by omega) (fun h1 => ?_) (fun h1 => ?_)
  · skip
    refine a_aloadn C dG_setBarred_19 rfl rfl ?_
    refine g_G_28 C dG_setBarred_20 ?_
    refine a_iloadn C dG_setBarred_23 rfl rfl ?_
    refine a_dup2 C dG_setBarred_24 rfl rfl ?_
    refine ldS_9 C dG_setBarred_25 (by omega) ?_
    refine a_iconst (v := 1) C dG_setBarred_26 (by decide) ?_
    refine a_iloadn C dG_setBarred_27 rfl rfl ?_
    refine a_ishl C dG_setBarred_28 (by omega) ?_
    refine a_iconst (v := 4294967295) C dG_setBarred_29 (by decide) ?_
    refine a_ixor C dG_setBarred_30 ?_
    refine a_iand C dG_setBarred_31 ?_
    refine stS_9 C dG_setBarred_32 (by omega) ?_
    exact r_v C E dG_setBarred_33 (by first | (rw [if_pos h1]; done) | (rw [if_neg h1]; done))
  · skip
    refine a_aloadn C dG_setBarred_4 rfl rfl ?_
    refine g_G_28 C dG_setBarred_5 ?_
    refine a_iloadn C dG_setBarred_8 rfl rfl ?_
    refine a_dup2 C dG_setBarred_9 rfl rfl ?_
    refine ldS_9 C dG_setBarred_10 (by omega) ?_
    refine a_iconst (v := 1) C dG_setBarred_11 (by decide) ?_
    refine a_iloadn C dG_setBarred_12 rfl rfl ?_
    refine a_ishl C dG_setBarred_13 (by omega) ?_
    refine a_ior C dG_setBarred_14 ?_
    refine stS_9 C dG_setBarred_15 (by omega) ?_
    refine a_goto (tgt := 33) C dG_setBarred_16 (by decide) ?_
    exact r_v C E dG_setBarred_33 (by first | (rw [if_pos h1]; done) | (rw [if_neg h1]; done))
set_option maxHeartbeats 4000000 in
set_option maxRecDepth 100000 in
theorem c_G_symbolStandsFor (lc : Launch) (D : va_G) (ad : Nat → Nat) (cI cD cZ cJ : ClassId) (x : ST) (r k c : Nat) (hr : r < 16) (hk : k < 4) (hc : c < 127) (hs : x.2.1 6 (r * 4 + k) < 127) (hn : nt (x.2.1 6 (r * 4 + k)) = none) : CI lc D (ty4 cI cD cZ cJ) (WS ad cI cD cZ) yG_symbolStandsFor bG_symbolStandsFor 5 (some .boolean) 1 [.ref (ad 3), .int (nI r), .int (nI k), .int (nI c)] x (fun rr u => x = u ∧ rr = (if stands (x.2.1 6 (r * 4 + k)) c = true then 1 else 0)) := by
  refine CI_of [some (.ref (ad 3)), some (.int (nI r)), some (.int (nI k)), some (.int (nI c)), none] (by decide) (Nat.le_of_ble_eq_true rfl) rfl ?_
  intro K C E hkl hkD hkn
  refine a_aloadn C dG_symbolStandsFor_0 rfl rfl ?_
  refine g_G_18 C dG_symbolStandsFor_1 ?_
  refine a_iloadn C dG_symbolStandsFor_4 rfl rfl ?_
  refine a_iconst (v := 4) C dG_symbolStandsFor_5 (by decide) ?_
  refine a_imul C dG_symbolStandsFor_6 ?_
  refine a_iloadn C dG_symbolStandsFor_7 rfl rfl ?_
  refine a_iadd C dG_symbolStandsFor_8 ?_
  refine ldS_6 C dG_symbolStandsFor_9 (by omega) ?_
  refine ist_4 C dG_symbolStandsFor_10 (by omega) rfl ?_
  refine a_iload C dG_symbolStandsFor_12 rfl ?_
  refine a_bipush (v := 35) C dG_symbolStandsFor_14 (by decide) ?_
  refine a_cne (tgt := 37) C dG_symbolStandsFor_16 (by decide) (by omega) (by omega) (fun h16 => ?_) (fun h16 => ?_)
  · skip
    refine a_iload C dG_symbolStandsFor_37 rfl ?_
    refine a_bipush (v := 64) C dG_symbolStandsFor_39 (by decide) ?_
    refine a_cne (tgt := 62) C dG_symbolStandsFor_41 (by decide) (by omega) (by omega) (fun h41 => ?_) (fun h41 => ?_)
    · skip
      refine a_iload C dG_symbolStandsFor_62 rfl ?_
      refine a_iloadn C dG_symbolStandsFor_64 rfl rfl ?_
      refine a_cne (tgt := 81) C dG_symbolStandsFor_65 (by decide) (by omega) (by omega) (fun h65 => ?_) (fun h65 => ?_)
      · skip
        refine a_iconst (v := 0) C dG_symbolStandsFor_81 (by decide) ?_
        exact r_z C E dG_symbolStandsFor_82 (by omega) ⟨rfl, by first | rw [if_pos (by unfold stands; first | (rw [if_pos h16]; simp; omega) | (rw [if_neg h16, if_pos h41]; simp; omega) | (rw [if_neg h16, if_neg h41]; simp; omega))] | rw [if_neg (by unfold stands; first | (rw [if_pos h16]; simp; omega) | (rw [if_neg h16, if_pos h41]; simp; omega) | (rw [if_neg h16, if_neg h41]; simp; omega))]⟩
      · skip
        refine a_iload C dG_symbolStandsFor_68 rfl ?_
        refine tI1 C (c_P_nonterminalNumber (kl K) (kD K) ad cI cD cZ cJ _ _ (by omega)) (k0 := 4) rfl wSt_P_nonterminalNumber wIni_P wC_P_nonterminalNumber hd_P_nonterminalNumber (by decide) (by decide) (Nat.le_of_ble_eq_true rfl) dG_symbolStandsFor_70 ?_
        rintro n70 u70 b70 ⟨rfl, rfl⟩
        rw [hn]
        have hoc : oN none = 4294967295 := rfl
        rw [hoc]
        refine a_iconst (v := 4294967295) C dG_symbolStandsFor_73 (by decide) ?_
        refine a_cne (tgt := 81) C dG_symbolStandsFor_74 (by decide) (by omega) (by omega) (fun h74 => ?_) (fun h74 => ?_)
        · skip
          exact absurd rfl h74
        · skip
          refine a_iconst (v := 1) C dG_symbolStandsFor_77 (by decide) ?_
          refine a_goto (tgt := 82) C dG_symbolStandsFor_78 (by decide) ?_
          exact r_z C E dG_symbolStandsFor_82 (by omega) ⟨rfl, by first | rw [if_pos (by unfold stands; first | (rw [if_pos h16]; simp; omega) | (rw [if_neg h16, if_pos h41]; simp; omega) | (rw [if_neg h16, if_neg h41]; simp; omega))] | rw [if_neg (by unfold stands; first | (rw [if_pos h16]; simp; omega) | (rw [if_neg h16, if_pos h41]; simp; omega) | (rw [if_neg h16, if_neg h41]; simp; omega))]⟩
    · skip
      refine a_iloadn C dG_symbolStandsFor_44 rfl rfl ?_
      refine a_bipush (v := 97) C dG_symbolStandsFor_45 (by decide) ?_
      refine a_clt (tgt := 60) C dG_symbolStandsFor_47 (by decide) (by omega) (by omega) (fun h47 => ?_) (fun h47 => ?_)
      · skip
        refine a_iconst (v := 0) C dG_symbolStandsFor_60 (by decide) ?_
        exact r_z C E dG_symbolStandsFor_61 (by omega) ⟨rfl, by first | rw [if_pos (by unfold stands; first | (rw [if_pos h16]; simp; omega) | (rw [if_neg h16, if_pos h41]; simp; omega) | (rw [if_neg h16, if_neg h41]; simp; omega))] | rw [if_neg (by unfold stands; first | (rw [if_pos h16]; simp; omega) | (rw [if_neg h16, if_pos h41]; simp; omega) | (rw [if_neg h16, if_neg h41]; simp; omega))]⟩
      · skip
        refine a_iloadn C dG_symbolStandsFor_50 rfl rfl ?_
        refine a_bipush (v := 122) C dG_symbolStandsFor_51 (by decide) ?_
        refine a_cgt (tgt := 60) C dG_symbolStandsFor_53 (by decide) (by omega) (by omega) (fun h53 => ?_) (fun h53 => ?_)
        · skip
          refine a_iconst (v := 0) C dG_symbolStandsFor_60 (by decide) ?_
          exact r_z C E dG_symbolStandsFor_61 (by omega) ⟨rfl, by first | rw [if_pos (by unfold stands; first | (rw [if_pos h16]; simp; omega) | (rw [if_neg h16, if_pos h41]; simp; omega) | (rw [if_neg h16, if_neg h41]; simp; omega))] | rw [if_neg (by unfold stands; first | (rw [if_pos h16]; simp; omega) | (rw [if_neg h16, if_pos h41]; simp; omega) | (rw [if_neg h16, if_neg h41]; simp; omega))]⟩
        · skip
          refine a_iconst (v := 1) C dG_symbolStandsFor_56 (by decide) ?_
          refine a_goto (tgt := 61) C dG_symbolStandsFor_57 (by decide) ?_
          exact r_z C E dG_symbolStandsFor_61 (by omega) ⟨rfl, by first | rw [if_pos (by unfold stands; first | (rw [if_pos h16]; simp; omega) | (rw [if_neg h16, if_pos h41]; simp; omega) | (rw [if_neg h16, if_neg h41]; simp; omega))] | rw [if_neg (by unfold stands; first | (rw [if_pos h16]; simp; omega) | (rw [if_neg h16, if_pos h41]; simp; omega) | (rw [if_neg h16, if_neg h41]; simp; omega))]⟩
  · skip
    refine a_iloadn C dG_symbolStandsFor_19 rfl rfl ?_
    refine a_bipush (v := 48) C dG_symbolStandsFor_20 (by decide) ?_
    refine a_clt (tgt := 35) C dG_symbolStandsFor_22 (by decide) (by omega) (by omega) (fun h22 => ?_) (fun h22 => ?_)
    · skip
      refine a_iconst (v := 0) C dG_symbolStandsFor_35 (by decide) ?_
      exact r_z C E dG_symbolStandsFor_36 (by omega) ⟨rfl, by first | rw [if_pos (by unfold stands; first | (rw [if_pos h16]; simp; omega) | (rw [if_neg h16, if_pos h41]; simp; omega) | (rw [if_neg h16, if_neg h41]; simp; omega))] | rw [if_neg (by unfold stands; first | (rw [if_pos h16]; simp; omega) | (rw [if_neg h16, if_pos h41]; simp; omega) | (rw [if_neg h16, if_neg h41]; simp; omega))]⟩
    · skip
      refine a_iloadn C dG_symbolStandsFor_25 rfl rfl ?_
      refine a_bipush (v := 57) C dG_symbolStandsFor_26 (by decide) ?_
      refine a_cgt (tgt := 35) C dG_symbolStandsFor_28 (by decide) (by omega) (by omega) (fun h28 => ?_) (fun h28 => ?_)
      · skip
        refine a_iconst (v := 0) C dG_symbolStandsFor_35 (by decide) ?_
        exact r_z C E dG_symbolStandsFor_36 (by omega) ⟨rfl, by first | rw [if_pos (by unfold stands; first | (rw [if_pos h16]; simp; omega) | (rw [if_neg h16, if_pos h41]; simp; omega) | (rw [if_neg h16, if_neg h41]; simp; omega))] | rw [if_neg (by unfold stands; first | (rw [if_pos h16]; simp; omega) | (rw [if_neg h16, if_pos h41]; simp; omega) | (rw [if_neg h16, if_neg h41]; simp; omega))]⟩
      · skip
        refine a_iconst (v := 1) C dG_symbolStandsFor_31 (by decide) ?_
        refine a_goto (tgt := 36) C dG_symbolStandsFor_32 (by decide) ?_
        exact r_z C E dG_symbolStandsFor_36 (by omega) ⟨rfl, by first | rw [if_pos (by unfold stands; first | (rw [if_pos h16]; simp; omega) | (rw [if_neg h16, if_pos h41]; simp; omega) | (rw [if_neg h16, if_neg h41]; simp; omega))] | rw [if_neg (by unfold stands; first | (rw [if_pos h16]; simp; omega) | (rw [if_neg h16, if_pos h41]; simp; omega) | (rw [if_neg h16, if_neg h41]; simp; omega))]⟩
set_option maxHeartbeats 4000000 in
set_option maxRecDepth 100000 in
theorem c_G_rulesOf (lc : Launch) (D : va_G) (ad : Nat → Nat) (cI cD cZ cJ : ClassId) (x : ST) (n b : Nat) (hn : n < 6) (hb : b ≤ 1) (hw : WF x) (hR : x.1 3 ≤ 16) : CI lc D (ty4 cI cD cZ cJ) (WS ad cI cD cZ) yG_rulesOf bG_rulesOf 5 (some .int) 0 [.ref (ad 3), .int (nI n), .int (nI b)] x (fun rr u => x = u ∧ rr = rmk (gP x) n b (x.1 3)) := by
  refine CI_of [some (.ref (ad 3)), some (.int (nI n)), some (.int (nI b)), none, none] (by decide) (Nat.le_of_ble_eq_true rfl) rfl ?_
  intro K C E hkl hkD hkn
  refine a_iconst (v := 0) C dG_rulesOf_0 (by decide) ?_
  refine istn_3 C dG_rulesOf_1 (by omega) rfl ?_
  refine a_iconst (v := 0) C dG_rulesOf_2 (by decide) ?_
  refine ist_4 C dG_rulesOf_3 (by omega) rfl ?_
  have LP5 : ∀ (N0 : Nat) (r m : Nat), x.1 3 - r < N0 → (r ≤ x.1 3) → (m = rmk (gP x) n b r) → WA K (WS ad cI cD cZ x) [some (.ref (ad 3)), some (.int (nI n)), some (.int (nI b)), some (.int (nI m)), some (.int (nI r))] 5 [] := by
    intro N0
    induction N0 with
    | zero => intro r m hm; exact absurd hm (Nat.not_lt_zero _)
    | succ N0 ih5 =>
      intro r m hm5 hr hm
      refine a_iload C dG_rulesOf_5 rfl ?_
      refine a_aloadn C dG_rulesOf_7 rfl rfl ?_
      refine g_G_35 C dG_rulesOf_8 ?_
      refine a_cge (tgt := 58) C dG_rulesOf_11 (by decide) (by omega) (by omega) (fun h11 => ?_) (fun h11 => ?_)
      · skip
        refine a_iloadn C dG_rulesOf_58 rfl rfl ?_
        exact r_i C E dG_rulesOf_59 (by have := rmk_lt (g := gP x) (n := n) (b := b) (m := r) (by omega); omega) ⟨rfl, by rw [hm, show r = x.1 3 by omega]⟩
      · skip
        have h4 := hw.1 4 r
        have h8 := hw.1 8 r
        have hstep : rmk (gP x) n b (r + 1) = if x.2.1 4 r = n ∧ (if x.2.1 8 r = 1 then 1 else 0) = b then rmk (gP x) n b r ||| (1 * 2 ^ r) else rmk (gP x) n b r := rfl
        refine a_aloadn C dG_rulesOf_14 rfl rfl ?_
        refine g_G_9 C dG_rulesOf_15 ?_
        refine a_iload C dG_rulesOf_18 rfl ?_
        refine ldS_4 C dG_rulesOf_20 (by omega) ?_
        refine a_iloadn C dG_rulesOf_21 rfl rfl ?_
        refine a_cne (tgt := 52) C dG_rulesOf_22 (by decide) (by omega) (by omega) (fun h22 => ?_) (fun h22 => ?_)
        · skip
          have hnew : m = rmk (gP x) n b (r + 1) := by rw [hstep, if_neg (fun q => h22 q.1), hm]
          refine inc_4 C dG_rulesOf_52 rfl (inc_up (c := 1) (by decide)) (by omega) rfl ?_
          refine a_goto (tgt := 5) C dG_rulesOf_55 (by decide) ?_
          exact ih5 (r + 1) _ (by omega) (by omega) hnew
        · skip
          refine a_aloadn C dG_rulesOf_25 rfl rfl ?_
          refine g_G_25 C dG_rulesOf_26 ?_
          refine a_iload C dG_rulesOf_29 rfl ?_
          refine ldS_8 C dG_rulesOf_31 (by omega) ?_
          refine a_iconst (v := 1) C dG_rulesOf_32 (by decide) ?_
          refine a_cne (tgt := 40) C dG_rulesOf_33 (by decide) (by omega) (by omega) (fun h33 => ?_) (fun h33 => ?_)
          · skip
            refine a_iconst (v := 0) C dG_rulesOf_40 (by decide) ?_
            refine a_iloadn C dG_rulesOf_41 rfl rfl ?_
            refine a_cne (tgt := 52) C dG_rulesOf_42 (by decide) (by omega) (by omega) (fun h42 => ?_) (fun h42 => ?_)
            · skip
              have hnew : m = rmk (gP x) n b (r + 1) := by first | (rw [hstep, if_pos h33, if_neg (fun q => h42 q.2), hm]; done) | (rw [hstep, if_neg h33, if_neg (fun q => h42 q.2), hm]; done)
              refine inc_4 C dG_rulesOf_52 rfl (inc_up (c := 1) (by decide)) (by omega) rfl ?_
              refine a_goto (tgt := 5) C dG_rulesOf_55 (by decide) ?_
              exact ih5 (r + 1) _ (by omega) (by omega) hnew
            · skip
              have hnew : m ||| (1 * 2 ^ r) = rmk (gP x) n b (r + 1) := by first | (rw [hstep, if_pos h33, if_pos ⟨h22, h42⟩, hm]; done) | (rw [hstep, if_neg h33, if_pos ⟨h22, h42⟩, hm]; done)
              refine a_iloadn C dG_rulesOf_45 rfl rfl ?_
              refine a_iconst (v := 1) C dG_rulesOf_46 (by decide) ?_
              refine a_iload C dG_rulesOf_47 rfl ?_
              refine a_ishl C dG_rulesOf_49 (by omega) ?_
              refine a_ior C dG_rulesOf_50 ?_
              refine istn_3 C dG_rulesOf_51 (by omega) rfl ?_
              refine inc_4 C dG_rulesOf_52 rfl (inc_up (c := 1) (by decide)) (by omega) rfl ?_
              refine a_goto (tgt := 5) C dG_rulesOf_55 (by decide) ?_
              exact ih5 (r + 1) _ (by omega) (by omega) hnew
          · skip
            refine a_iconst (v := 1) C dG_rulesOf_36 (by decide) ?_
            refine a_goto (tgt := 41) C dG_rulesOf_37 (by decide) ?_
            refine a_iloadn C dG_rulesOf_41 rfl rfl ?_
            refine a_cne (tgt := 52) C dG_rulesOf_42 (by decide) (by omega) (by omega) (fun h42 => ?_) (fun h42 => ?_)
            · skip
              have hnew : m = rmk (gP x) n b (r + 1) := by first | (rw [hstep, if_pos h33, if_neg (fun q => h42 q.2), hm]; done) | (rw [hstep, if_neg h33, if_neg (fun q => h42 q.2), hm]; done)
              refine inc_4 C dG_rulesOf_52 rfl (inc_up (c := 1) (by decide)) (by omega) rfl ?_
              refine a_goto (tgt := 5) C dG_rulesOf_55 (by decide) ?_
              exact ih5 (r + 1) _ (by omega) (by omega) hnew
            · skip
              have hnew : m ||| (1 * 2 ^ r) = rmk (gP x) n b (r + 1) := by first | (rw [hstep, if_pos h33, if_pos ⟨h22, h42⟩, hm]; done) | (rw [hstep, if_neg h33, if_pos ⟨h22, h42⟩, hm]; done)
              refine a_iloadn C dG_rulesOf_45 rfl rfl ?_
              refine a_iconst (v := 1) C dG_rulesOf_46 (by decide) ?_
              refine a_iload C dG_rulesOf_47 rfl ?_
              refine a_ishl C dG_rulesOf_49 (by omega) ?_
              refine a_ior C dG_rulesOf_50 ?_
              refine istn_3 C dG_rulesOf_51 (by omega) rfl ?_
              refine inc_4 C dG_rulesOf_52 rfl (inc_up (c := 1) (by decide)) (by omega) rfl ?_
              refine a_goto (tgt := 5) C dG_rulesOf_55 (by decide) ?_
              exact ih5 (r + 1) _ (by omega) (by omega) hnew
  exact LP5 _ 0 0 (Nat.lt_succ_self _) (Nat.zero_le _) rfl
set_option maxHeartbeats 4000000 in
set_option maxRecDepth 100000 in
theorem c_G_rejectingRules (lc : Launch) (D : va_G) (ad : Nat → Nat) (cI cD cZ cJ : ClassId) (x : ST) (n : Nat) (hn : n < 6) (hw : WF x) (hR : x.1 3 ≤ 16) : CI lc D (ty4 cI cD cZ cJ) (WS ad cI cD cZ) yG_rejectingRules bG_rejectingRules 2 (some .int) 1 [.ref (ad 3), .int (nI n)] x (fun rr u => x = u ∧ rr = rmk (gP x) n 1 (x.1 3)) := by
  refine CI_of [some (.ref (ad 3)), some (.int (nI n))] (by decide) (Nat.le_of_ble_eq_true rfl) rfl ?_
  intro K C E hkl hkD hkn
  refine a_aloadn C dG_rejectingRules_0 rfl rfl ?_
  refine a_iloadn C dG_rejectingRules_1 rfl rfl ?_
  refine a_iconst (v := 1) C dG_rejectingRules_2 (by decide) ?_
  refine vI2 C (c_G_rulesOf (kl K) (kD K) ad cI cD cZ cJ _ _ _ (by omega) (by omega) (by assumption) (by omega)) wM_G_74 wI_G_rulesOf wSel_G_rulesOf wIni_G wC_G_rulesOf hd_G_rulesOf (by decide) (by decide) (q0 := 3) rfl rfl (Nat.le_of_ble_eq_true rfl) dG_rejectingRules_3 ?_
  rintro n3 u3 b3 ⟨rfl, rfl⟩
  exact r_i C E dG_rejectingRules_6 (by omega) ⟨rfl, rfl⟩
set_option maxHeartbeats 4000000 in
set_option maxRecDepth 100000 in
theorem c_G_derivingRules (lc : Launch) (D : va_G) (ad : Nat → Nat) (cI cD cZ cJ : ClassId) (x : ST) (n : Nat) (hn : n < 6) (hw : WF x) (hR : x.1 3 ≤ 16) : CI lc D (ty4 cI cD cZ cJ) (WS ad cI cD cZ) yG_derivingRules bG_derivingRules 2 (some .int) 1 [.ref (ad 3), .int (nI n)] x (fun rr u => x = u ∧ rr = rmk (gP x) n 0 (x.1 3)) := by
  refine CI_of [some (.ref (ad 3)), some (.int (nI n))] (by decide) (Nat.le_of_ble_eq_true rfl) rfl ?_
  intro K C E hkl hkD hkn
  refine a_aloadn C dG_derivingRules_0 rfl rfl ?_
  refine a_iloadn C dG_derivingRules_1 rfl rfl ?_
  refine a_iconst (v := 0) C dG_derivingRules_2 (by decide) ?_
  refine vI2 C (c_G_rulesOf (kl K) (kD K) ad cI cD cZ cJ _ _ _ (by omega) (by omega) (by assumption) (by omega)) wM_G_74 wI_G_rulesOf wSel_G_rulesOf wIni_G wC_G_rulesOf hd_G_rulesOf (by decide) (by decide) (q0 := 3) rfl rfl (Nat.le_of_ble_eq_true rfl) dG_derivingRules_3 ?_
  rintro n3 u3 b3 ⟨rfl, rfl⟩
  exact r_i C E dG_derivingRules_6 (by omega) ⟨rfl, rfl⟩

set_option maxHeartbeats 4000000 in
set_option maxRecDepth 100000 in
theorem c_G_orderByChains (lc : Launch) (D : va_G) (ad : Nat → Nat) (cI cD cZ cJ : ClassId) (x : ST) (hw : WF x) (hg : GOk (gP x)) (hac : Acy (gP x)) : CV lc D (ty4 cI cD cZ cJ) (WS ad cI cD cZ) yG_orderByChains bG_orderByChains 7 none 4 [.ref (ad 3), .ref (ad 17)] x (fun u => Only [17] x u ∧ ORD (gP x) (u.2.1 17) ∧ WF u) := by
  refine CV_of [some (.ref (ad 3)), some (.ref (ad 17)), none, none, none, none, none] (by decide) (Nat.le_of_ble_eq_true rfl) rfl ?_
  intro K C E hkl hkD hkn
  refine a_iconst (v := 0) C dG_orderByChains_0 (by decide) ?_
  refine istn_2 C dG_orderByChains_1 (by omega) rfl ?_
  refine a_iconst (v := 0) C dG_orderByChains_2 (by decide) ?_
  refine istn_3 C dG_orderByChains_3 (by omega) rfl ?_
  refine a_iconst (v := 0) C dG_orderByChains_4 (by decide) ?_
  refine ist_4 C dG_orderByChains_5 (by omega) rfl ?_
  have LP7 : ∀ (N0 : Nat) (t pl c : Nat) (y : ST) (o5 o6 : Option Value), 6 - t < N0 → (t ≤ 6) → (Only [17] x y) → (WF y) → (OI (gP x) pl c (y.2.1 17)) → (∀ m, m < 6 → hgt (gP x) m < t → pl.testBit m = true) → WA K (WS ad cI cD cZ y) [some (.ref (ad 3)), some (.ref (ad 17)), some (.int (nI pl)), some (.int (nI c)), some (.int (nI t)), o5, o6] 7 [] := by
    intro N0
    induction N0 with
    | zero => intro t pl c y o5 o6 hm; exact absurd hm (Nat.not_lt_zero _)
    | succ N0 ih7 =>
      intro t pl c y o5 o6 hm7 htt ho hwy hi hb
      refine a_iload C dG_orderByChains_7 rfl ?_
      refine a_bipush (v := 6) C dG_orderByChains_9 (by decide) ?_
      refine a_cge (tgt := 84) C dG_orderByChains_11 (by decide) (by omega) (by omega) (fun h11 => ?_) (fun h11 => ?_)
      · skip
        exact r_v C E dG_orderByChains_84 ⟨ho, OI_end hi (fun n hn => hb n hn (by have := (hts_of hg hac).1 n; omega)), hwy⟩
      · skip
        refine a_iconst (v := 0) C dG_orderByChains_14 (by decide) ?_
        refine ist_5 C dG_orderByChains_15 (by omega) rfl ?_
        have LP17 : ∀ (N0 : Nat) (n pl c : Nat) (y : ST) (o6 : Option Value), 6 - n < N0 → (n ≤ 6) → (Only [17] x y) → (WF y) → (OI (gP x) pl c (y.2.1 17)) → (∀ m, m < 6 → hgt (gP x) m < t → pl.testBit m = true) → (∀ m, m < n → hgt (gP x) m ≤ t → pl.testBit m = true) → WA K (WS ad cI cD cZ y) [some (.ref (ad 3)), some (.ref (ad 17)), some (.int (nI pl)), some (.int (nI c)), some (.int (nI t)), some (.int (nI n)), o6] 17 [] := by
          intro N0
          induction N0 with
          | zero => intro n pl c y o6 hm; exact absurd hm (Nat.not_lt_zero _)
          | succ N0 ih17 =>
            intro n pl c y o6 hm17 hn ho hwy hi hb hd
            have hp64 := six_lt hi.1
            refine a_iload C dG_orderByChains_17 rfl ?_
            refine a_bipush (v := 6) C dG_orderByChains_19 (by decide) ?_
            refine a_cge (tgt := 78) C dG_orderByChains_21 (by decide) (by omega) (by omega) (fun h21 => ?_) (fun h21 => ?_)
            · skip
              refine inc_4 C dG_orderByChains_78 rfl (inc_up (c := 1) (by decide)) (by omega) rfl ?_
              refine a_goto (tgt := 7) C dG_orderByChains_81 (by decide) ?_
              exact ih7 (t + 1) _ _ _ _ _ (by omega) (by omega) ho hwy hi (fun m hm hl => hd m (by omega) (by omega))
            · skip
              refine a_aloadn C dG_orderByChains_24 rfl rfl ?_
              refine a_iload C dG_orderByChains_25 rfl ?_
              refine vI1 C (c_G_reachedByChains (kl K) (kD K) ad cI cD cZ cJ _ _ (by omega) hwy (by rw [gP_o17 ho]; exact hg)) wM_G_56 wI_G_reachedByChains wSel_G_reachedByChains wIni_G wC_G_reachedByChains hd_G_reachedByChains (by decide) (by decide) (q0 := 3) rfl rfl (Nat.le_of_ble_eq_true rfl) dG_orderByChains_27 ?_
              rintro n27 u27 b27 ⟨rfl, rfl⟩
              rw [gP_o17 ho]
              have hrs := rch_six (g := gP x) h21
              have hr64 := six_lt hrs
              refine a_iconst (v := 1) C dG_orderByChains_30 (by decide) ?_
              refine a_iload C dG_orderByChains_31 rfl ?_
              refine a_ishl C dG_orderByChains_33 (by omega) ?_
              refine a_iconst (v := 4294967295) C dG_orderByChains_34 (by decide) ?_
              refine a_ixor C dG_orderByChains_35 ?_
              refine a_iand C dG_orderByChains_36 ?_
              refine ist_6 C dG_orderByChains_37 (by omega) rfl ?_
              refine a_iloadn C dG_orderByChains_39 rfl rfl ?_
              refine a_iload C dG_orderByChains_40 rfl ?_
              refine tI2 C (c_P_contains (kl K) (kD K) ad cI cD cZ cJ _ _ _ (by omega) (by omega)) (k0 := 5) rfl wSt_P_contains wIni_P wC_P_contains hd_P_contains (by decide) (by decide) (Nat.le_of_ble_eq_true rfl) dG_orderByChains_42 ?_
              rintro n42 u42 b42 ⟨rfl, rfl⟩
              refine a_ifne (tgt := 72) C dG_orderByChains_45 (by decide) (by omega) (fun h45 => ?_) (fun h45 => ?_)
              · skip
                have hin := i01_t h45
                have ho2 := ho
                have hw2 := hwy
                have hi2 := hi
                have hb2 := hb
                have hd2 : ∀ m, m < n + 1 → hgt (gP x) m ≤ t → pl.testBit m = true := lt_s (p := fun m => hgt (gP x) m ≤ t → pl.testBit m = true) hd (fun _ => hin)
                refine inc_5 C dG_orderByChains_72 rfl (inc_up (c := 1) (by decide)) (by omega) rfl ?_
                refine a_goto (tgt := 17) C dG_orderByChains_75 (by decide) ?_
                exact ih17 (n + 1) _ _ _ _ (by omega) (by omega) ho2 hw2 hi2 hb2 hd2
              · skip
                refine a_iload C dG_orderByChains_48 rfl ?_
                refine a_iloadn C dG_orderByChains_50 rfl rfl ?_
                refine a_iconst (v := 4294967295) C dG_orderByChains_51 (by decide) ?_
                refine a_ixor C dG_orderByChains_52 ?_
                refine a_iand C dG_orderByChains_53 ?_
                refine a_ifne (tgt := 72) C dG_orderByChains_54 (by decide) (Nat.lt_of_le_of_lt Nat.and_le_left (Nat.lt_of_le_of_lt Nat.and_le_left (by omega))) (fun h54 => ?_) (fun h54 => ?_)
                · skip
                  have hni := i01_f h45
                  have ho2 := ho
                  have hw2 := hwy
                  have hi2 := hi
                  have hb2 := hb
                  have hd2 : ∀ m, m < n + 1 → hgt (gP x) m ≤ t → pl.testBit m = true := lt_s (p := fun m => hgt (gP x) m ≤ t → pl.testBit m = true) hd (fun q => absurd q (OI_met hac h21 hb hni h54))
                  refine inc_5 C dG_orderByChains_72 rfl (inc_up (c := 1) (by decide)) (by omega) rfl ?_
                  refine a_goto (tgt := 17) C dG_orderByChains_75 (by decide) ?_
                  exact ih17 (n + 1) _ _ _ _ (by omega) (by omega) ho2 hw2 hi2 hb2 hd2
                · skip
                  have hni := i01_f h45
                  have hc6 := OI_lt hi h21 hni
                  have ho2 := ho.set (k := 17) (by decide) c n
                  have hw2 := hwy.sA 17 c (v := n) (by omega)
                  have hi2 := OI_put (o' := (sA y 17 c n).2.1 17) hi h21 hni (need_0 h54) (fun q hq => sA_at _ _ _ (by omega)) (sA_same _ _ _ _)
                  have hup : ∀ m, pl.testBit m = true → (pl ||| (1 * 2 ^ n)).testBit m = true := fun m h => by rw [Nat.one_mul, tb_or, h]; rfl
                  have hb2 : ∀ m, m < 6 → hgt (gP x) m < t → (pl ||| (1 * 2 ^ n)).testBit m = true := fun m h1 h2 => hup m (hb m h1 h2)
                  have hd2 : ∀ m, m < n + 1 → hgt (gP x) m ≤ t → (pl ||| (1 * 2 ^ n)).testBit m = true := lt_s (p := fun m => hgt (gP x) m ≤ t → (pl ||| (1 * 2 ^ n)).testBit m = true) (fun m h1 h2 => hup m (hd m h1 h2)) (fun _ => by rw [Nat.one_mul, tb_or]; simp)
                  refine a_aloadn C dG_orderByChains_57 rfl rfl ?_
                  refine a_iloadn C dG_orderByChains_58 rfl rfl ?_
                  refine a_iload C dG_orderByChains_59 rfl ?_
                  refine stS_17 C dG_orderByChains_61 (by omega) ?_
                  refine inc_3 C dG_orderByChains_62 rfl (inc_up (c := 1) (by decide)) (by omega) rfl ?_
                  refine a_iloadn C dG_orderByChains_65 rfl rfl ?_
                  refine a_iconst (v := 1) C dG_orderByChains_66 (by decide) ?_
                  refine a_iload C dG_orderByChains_67 rfl ?_
                  refine a_ishl C dG_orderByChains_69 (by omega) ?_
                  refine a_ior C dG_orderByChains_70 ?_
                  refine istn_2 C dG_orderByChains_71 (by omega) rfl ?_
                  refine inc_5 C dG_orderByChains_72 rfl (inc_up (c := 1) (by decide)) (by omega) rfl ?_
                  refine a_goto (tgt := 17) C dG_orderByChains_75 (by decide) ?_
                  exact ih17 (n + 1) _ _ _ _ (by omega) (by omega) ho2 hw2 hi2 hb2 hd2
        exact LP17 _ 0 _ _ _ _ (Nat.lt_succ_self _) (by omega) ho hwy hi hb (fun m h => absurd h (Nat.not_lt_zero _))
  exact LP7 _ 0 0 0 x none none (Nat.lt_succ_self _) (by omega) (Only.rf _ _) hw (OI_0 _ _) (fun m _ h => absurd h (Nat.not_lt_zero _))

set_option maxHeartbeats 4000000 in
set_option maxRecDepth 100000 in
theorem c_M_grow (lc : Launch) (D : va_G) (ad : Nat → Nat) (cI cD cZ cJ : ClassId) (x : ST) (rt : Nat) (hw : WF x) (hg : GOk (gM x)) (hac : Acy (gM x)) (hN : x.1 3 ≤ 14) (hu : ∀ q, x.2.1 14 q ≤ 1000000000) (hv : Vd (gM x) (x.1 3) (x.2.1 2) (rt, 0, x.1 3)) (hc : CHM (gM x) (x.1 3) (x.2.1 2) x 15) : CV lc D (ty4 cI cD cZ cJ) (WM ad cI cD cZ) yM_grow bM_grow 9 none 4 [.ref (ad 0), .int (nI rt)] x (fun u => GF x u ∧ WF u ∧ (∀ q, u.2.1 14 q ≤ 1000000000) ∧ CHM (gM x) (x.1 3) (x.2.1 2) u 15 ∧ u.2.2.2 = sH (gM x) (x.1 3) (x.2.1 2) rt 0 (x.1 3) ∧ ∃ m, (tst (kids (gM x) (x.1 3) (x.2.1 2)) (rt, 0, x.1 3) m).2 = [] ∧ MTL u (tst (kids (gM x) (x.1 3) (x.2.1 2)) (rt, 0, x.1 3) m).1) := by
  refine CV_of [some (.ref (ad 0)), some (.int (nI rt)), none, none, none, none, none, none, none] (by decide) (Nat.le_of_ble_eq_true rfl) rfl ?_
  intro K C E hkl hkD hkn
  have hR : x.1 0 ≤ 16 := hg.1
  have hT := hts_of hg hac
  obtain ⟨v1, v2, v3, v4⟩ := hv
  dsimp only at v1 v2 v3 v4
  have hv : Vd (gM x) (x.1 3) (x.2.1 2) (rt, 0, x.1 3) := ⟨v1, v2, v3, v4⟩
  have v1R : rt < x.1 0 := v1
  have hs0 : x.2.2.1 10 (rt * 225 + (0 * 15 + x.1 3)) = sH (gM x) (x.1 3) (x.2.1 2) rt 0 (x.1 3) := ((hc 0 (x.1 3) v2 (Nat.le_refl _) (by omega)).1 rt v1).2
  refine a_aloadn C dM_grow_0 rfl rfl ?_
  refine a_aloadn C dM_grow_1 rfl rfl ?_
  refine g_M_38 C dM_grow_2 ?_
  refine a_iloadn C dM_grow_5 rfl rfl ?_
  refine a_sipush (v := 225) C dM_grow_6 (by decide) ?_
  refine a_imul C dM_grow_9 ?_
  refine a_iconst (v := 0) C dM_grow_10 (by decide) ?_
  refine a_aloadn C dM_grow_11 rfl rfl ?_
  refine g_M_161 C dM_grow_12 ?_
  have hs0' := hs0
  refine sI2 C (c_M_span (kl K) (kD K) ad cI cD cZ cJ _ _ _ (by omega) (by omega)) wM_M_129 wSt_M_span wIni_M wC_M_span hd_M_span (by decide) (by decide) (Nat.le_of_ble_eq_true rfl) dM_grow_15 ?_
  rintro n15 u15 b15 ⟨rfl, rfl⟩
  refine a_iadd C dM_grow_18 ?_
  refine ldM_10 C dM_grow_19 (by omega) ?_
  refine p_M_179 C dM_grow_20 ?_
  refine a_aloadn C dM_grow_23 rfl rfl ?_
  refine a_iconst (v := 0) C dM_grow_24 (by decide) ?_
  refine p_M_183 C dM_grow_25 ?_
  refine a_aloadn C dM_grow_28 rfl rfl ?_
  refine a_iconst (v := 0) C dM_grow_29 (by decide) ?_
  refine a_iloadn C dM_grow_30 rfl rfl ?_
  refine a_iconst (v := 0) C dM_grow_31 (by decide) ?_
  refine a_aloadn C dM_grow_32 rfl rfl ?_
  refine g_M_161 C dM_grow_33 ?_
  refine a_iconst (v := 4294967295) C dM_grow_36 (by decide) ?_
  refine vI5 C (c_M_put (kl K) (kD K) ad cI cD cZ cJ _ _ _ _ _ _ (by decide)) wM_M_186 wI_M_put wSel_M_put wIni_M wC_M_put hd_M_put (by decide) (by decide) (q0 := 0) rfl rfl (Nat.le_of_ble_eq_true rfl) dM_grow_37 ?_
  rintro n37 u37 b37 ⟨rfl, rfl⟩
  have hf0 : GF x (sA (sA (sA (sA (sS (sT x (x.2.2.1 10 (rt * 225 + (0 * 15 + x.1 3)))) 4 0) 20 0 rt) 20 (0 + 1) 0) 20 (0 + 2) (x.1 3)) 20 (0 + 3) 4294967295) := ((((GF.sA (GF.sS (y := sT x (x.2.2.1 10 (rt * 225 + (0 * 15 + x.1 3)))) ⟨fun _ _ => rfl, fun _ _ => rfl, fun _ _ => rfl⟩ 0) (by decide) _ _).sA (by decide) _ _).sA (by decide) _ _).sA (by decide) _ _)
  have hw0 : WF (sA (sA (sA (sA (sS (sT x (x.2.2.1 10 (rt * 225 + (0 * 15 + x.1 3)))) 4 0) 20 0 rt) 20 (0 + 1) 0) 20 (0 + 2) (x.1 3)) 20 (0 + 3) 4294967295) := (((((hw.sT _).sS 4 (by decide)).sA _ _ (by omega)).sA _ _ (by decide)).sA _ _ (by omega)).sA _ _ (by decide)
  have hc0 : CHM (gM x) (x.1 3) (x.2.1 2) (sA (sA (sA (sA (sS (sT x (x.2.2.1 10 (rt * 225 + (0 * 15 + x.1 3)))) 4 0) 20 0 rt) 20 (0 + 1) 0) 20 (0 + 2) (x.1 3)) 20 (0 + 3) 4294967295) 15 := cm_same hc rfl rfl rfl
  have hGI0 : GI (gM x) (x.1 3) (x.2.1 2) (rt, 0, x.1 3) (sA (sA (sA (sA (sS (sT x (x.2.2.1 10 (rt * 225 + (0 * 15 + x.1 3)))) 4 0) 20 0 rt) 20 (0 + 1) 0) 20 (0 + 2) (x.1 3)) 20 (0 + 3) 4294967295) 0 := ⟨rfl, rfl, fun q hq => absurd hq (Nat.not_lt_zero _), fun q hq => absurd hq (Nat.not_lt_zero _), fun q hq => absurd hq (Nat.not_lt_zero _)⟩
  have hPL0 : PLs (sA (sA (sA (sA (sS (sT x (x.2.2.1 10 (rt * 225 + (0 * 15 + x.1 3)))) 4 0) 20 0 rt) 20 (0 + 1) 0) 20 (0 + 2) (x.1 3)) 20 (0 + 3) 4294967295) [(rt, 0, x.1 3)] 0 4 := PL_push (t := []) (n := 0) ⟨rfl, fun m e hm => (nomatch hm)⟩ rfl
  refine istn_2 C dM_grow_40 (by omega) rfl ?_
  have LP41 : ∀ (N0 : Nat) (k p : Nat) (y : ST) (o3 o4 o5 o6 o7 o8 : Option Value), 163 - k < N0 → (GF x y) → (WF y) → (∀ q, y.2.1 14 q ≤ 1000000000) → (CHM (gM x) (x.1 3) (x.2.1 2) y 15) → (y.2.2.2 = sH (gM x) (x.1 3) (x.2.1 2) rt 0 (x.1 3)) → (GI (gM x) (x.1 3) (x.2.1 2) (rt, 0, x.1 3) y k) → (PLs y (tst (kids (gM x) (x.1 3) (x.2.1 2)) (rt, 0, x.1 3) k).2 k p) → WA K (WM ad cI cD cZ y) [some (.ref (ad 0)), some (.int (nI rt)), some (.int (nI p)), o3, o4, o5, o6, o7, o8] 41 [] := by
    intro N0
    induction N0 with
    | zero => intro k p y o3 o4 o5 o6 o7 o8 hm; exact absurd hm (Nat.not_lt_zero _)
    | succ N0 ih41 =>
      intro k p y o3 o4 o5 o6 o7 o8 hm41 hf hwy huy hcy hty hGI hPL
      have hful := gr_full hg hac hN hv hGI.1
      have hp4 := hPL.1
      rw [List.length_append, hGI.1] at hful
      refine a_iloadn C dM_grow_41 rfl rfl ?_
      refine a_ifle (tgt := 285) C dM_grow_42 (by decide) (by omega) (fun h42 => ?_) (fun h42 h42b => ?_)
      · skip
        have hp0 : p = 0 := by omega
        exact r_v C E dM_grow_285 ⟨hf, hwy, huy, hcy, hty, k, gr_e hPL hp0, gr_m hGI⟩
      · skip
        obtain ⟨r, i, j, t, q1, q2, q3, q4, q5, q6, q7⟩ := gi_next hg hac hN hv hGI hPL h42
        have hPL1 := hPL
        rw [q1] at hPL1 hful
        obtain ⟨a1, ⟨a2, a3, a4, a5⟩, hPL2⟩ := PL_pop hPL1
        dsimp only at a2 a3 a4 a5
        rw [List.length_cons] at hful
        obtain ⟨w1, w2, w3, w4⟩ := q2
        dsimp only at w1 w2 w3 w4
        have q2 : Vd (gM x) (x.1 3) (x.2.1 2) (r, i, j) := ⟨w1, w2, w3, w4⟩
        have w1R : r < x.1 0 := w1
        have hmk0 := mxa_32 (y.2.1 17) i k (by omega)
        have hz4 := (hg.2 r w1).2.2.1
        have hz1 := (hg.2 r w1).2.1
        refine inc_2 C dM_grow_45 rfl (inc_dn (c := 4) (by omega) (by decide)) (by omega) rfl ?_
        refine a_aloadn C dM_grow_48 rfl rfl ?_
        refine g_M_183 C dM_grow_49 ?_
        rw [hGI.2.1]
        refine istn_3 C dM_grow_52 (by omega) rfl ?_
        refine a_aloadn C dM_grow_53 rfl rfl ?_
        refine g_M_69 C dM_grow_54 ?_
        refine a_iloadn C dM_grow_57 rfl rfl ?_
        refine ldM_20 C dM_grow_58 (by omega) ?_
        rw [a2]
        refine ist_4 C dM_grow_59 (by omega) rfl ?_
        refine a_aloadn C dM_grow_61 rfl rfl ?_
        refine g_M_69 C dM_grow_62 ?_
        refine a_iloadn C dM_grow_65 rfl rfl ?_
        refine a_iconst (v := 1) C dM_grow_66 (by decide) ?_
        refine a_iadd C dM_grow_67 ?_
        refine ldM_20 C dM_grow_68 (by omega) ?_
        rw [a3]
        refine ist_5 C dM_grow_69 (by omega) rfl ?_
        refine a_aloadn C dM_grow_71 rfl rfl ?_
        refine g_M_69 C dM_grow_72 ?_
        refine a_iloadn C dM_grow_75 rfl rfl ?_
        refine a_iconst (v := 2) C dM_grow_76 (by decide) ?_
        refine a_iadd C dM_grow_77 ?_
        refine ldM_20 C dM_grow_78 (by omega) ?_
        rw [a4]
        refine ist_6 C dM_grow_79 (by omega) rfl ?_
        refine a_aloadn C dM_grow_81 rfl rfl ?_
        refine g_M_54 C dM_grow_82 ?_
        refine a_iloadn C dM_grow_85 rfl rfl ?_
        refine a_iload C dM_grow_86 rfl ?_
        refine stM_15 C dM_grow_88 (by omega) ?_
        refine a_aloadn C dM_grow_89 rfl rfl ?_
        refine g_M_57 C dM_grow_90 ?_
        refine a_iloadn C dM_grow_93 rfl rfl ?_
        refine a_iload C dM_grow_94 rfl ?_
        refine stM_16 C dM_grow_96 (by omega) ?_
        refine a_aloadn C dM_grow_97 rfl rfl ?_
        refine g_M_60 C dM_grow_98 ?_
        refine a_iloadn C dM_grow_101 rfl rfl ?_
        refine a_iload C dM_grow_102 rfl ?_
        refine stM_17 C dM_grow_104 (by omega) ?_
        refine a_aloadn C dM_grow_105 rfl rfl ?_
        refine g_M_63 C dM_grow_106 ?_
        refine a_iloadn C dM_grow_109 rfl rfl ?_
        refine a_aloadn C dM_grow_110 rfl rfl ?_
        refine g_M_69 C dM_grow_111 ?_
        refine a_iloadn C dM_grow_114 rfl rfl ?_
        refine a_iconst (v := 3) C dM_grow_115 (by decide) ?_
        refine a_iadd C dM_grow_116 ?_
        refine ldM_20 C dM_grow_117 (by omega) ?_
        have e20 : (sA (sA (sA y 15 k r) 16 k i) 17 k j).2.1 20 = y.2.1 20 := by rw [sA_ne _ _ _ (by decide), sA_ne _ _ _ (by decide), sA_ne _ _ _ (by decide)]
        rw [e20, a5]
        refine stM_18 C dM_grow_118 (by omega) ?_
        refine a_aloadn C dM_grow_119 rfl rfl ?_
        refine g_M_66 C dM_grow_120 ?_
        refine a_iloadn C dM_grow_123 rfl rfl ?_
        refine a_iconst (v := 0) C dM_grow_124 (by decide) ?_
        refine stM_19 C dM_grow_125 (by omega) ?_
        have hw1 : WF (sA (sA (sA (sA (sA y 15 k r) 16 k i) 17 k j) 18 k (mxa (y.2.1 17) i k)) 19 k 0) := ((((hwy.sA _ _ (by omega)).sA _ _ (by omega)).sA _ _ (by omega)).sA _ _ hmk0).sA _ _ (by decide)
        refine a_aloadn C dM_grow_126 rfl rfl ?_
        refine g_M_63 C dM_grow_127 ?_
        refine a_iloadn C dM_grow_130 rfl rfl ?_
        refine ldM_18 C dM_grow_131 (by omega) ?_
        have e18 : (sA (sA (sA (sA (sA y 15 k r) 16 k i) 17 k j) 18 k (mxa (y.2.1 17) i k)) 19 k 0).2.1 18 k = mxa (y.2.1 17) i k := by rw [sA_ne _ _ _ (by decide), sA_same]
        rw [e18]
        refine ist_7 C dM_grow_132 (by omega) rfl ?_
        have LP134 : ∀ (N0 : Nat) (pp : Nat) (z : ST), pp < N0 → (pp ≤ k) → (Only [19] (sA (sA (sA (sA (sA y 15 k r) 16 k i) 17 k j) 18 k (mxa (y.2.1 17) i k)) 19 k 0) z) → (WF z) → (∀ q, q < k → z.2.1 19 q = y.2.1 19 q + (if pp ≤ q ∧ i < y.2.1 17 q then 1 else 0)) → (z.2.1 19 k = 0) → WA K (WM ad cI cD cZ z) [some (.ref (ad 0)), some (.int (nI rt)), some (.int (nI (p - 4))), some (.int (nI k)), some (.int (nI r)), some (.int (nI i)), some (.int (nI j)), some (.int (nI (mxa (y.2.1 17) i pp))), o8] 134 [] := by
          intro N0
          induction N0 with
          | zero => intro pp z hm; exact absurd hm (Nat.not_lt_zero _)
          | succ N0 ih134 =>
            intro pp z hm134 hpp hoz hwz hz hzk
            have hmx := mxa_32 (y.2.1 17) i pp (by omega)
            refine a_iload C dM_grow_134 rfl ?_
            refine a_iflt (tgt := 162) C dM_grow_136 (by decide) hmx (fun h136 => ?_) (fun h136 => ?_)
            · skip
              have hmn := (mxa_ok (y.2.1 17) i pp).resolve_right (fun z => by omega)
              have hzf := gi_fin hz hmn.2
              refine a_aloadn C dM_grow_162 rfl rfl ?_
              refine a_dup C dM_grow_163 rfl ?_
              refine g_M_183 C dM_grow_164 ?_
              have hz4k : z.1 4 = k := by rw [hoz.1]; exact hGI.2.1
              rw [hz4k]
              refine a_iconst (v := 1) C dM_grow_167 (by decide) ?_
              refine a_iadd C dM_grow_168 ?_
              refine p_M_183 C dM_grow_169 ?_
              have hfz : GF x (sS z 4 (k + 1)) := ((((((hf.sA (by decide) _ _).sA (by decide) _ _).sA (by decide) _ _).sA (by decide) _ _).sA (by decide) _ _).only hoz (by decide)).sS _
              have hwz1 : WF (sS z 4 (k + 1)) := hwz.sS 4 (by omega)
              have ek : ∀ q, q ∉ [15, 16, 17, 18, 19] → (sS z 4 (k + 1)).2.1 q = y.2.1 q := fun q hq => grk hoz hq
              have e22 : (sS z 4 (k + 1)).2.2 = y.2.2 := by show z.2.2 = _; rw [hoz.2.1]; rfl
              have hcz1 : CHM (gM x) (x.1 3) (x.2.1 2) (sS z 4 (k + 1)) 15 := cm_same hcy (ek 13 (by decide)) (ek 14 (by decide)) (by rw [e22])
              have huz1 : ∀ q, (sS z 4 (k + 1)).2.1 14 q ≤ 1000000000 := by rw [ek 14 (by decide)]; exact huy
              refine a_aloadn C dM_grow_172 rfl rfl ?_
              refine a_iload C dM_grow_173 rfl ?_
              refine a_iload C dM_grow_175 rfl ?_
              refine a_iload C dM_grow_177 rfl ?_
              refine vV3 C (c_M_divide (kl K) (kD K) ad cI cD cZ cJ _ (x.1 3) _ _ _ (by rw [hfz.1 0 (by decide)]; exact w1) w2 (by omega) hwz1 (by rw [hfz.gM]; exact hg) huz1 (dm_pre (ht := hgt (gM x)) hfz.gM hg hT w1 w2 (by omega) (gr_pa hg hac hN q2 hcz1))) wM_M_164 wI_M_divide wSel_M_divide wIni_M wC_M_divide hd_M_divide (by decide) (by decide) (q0 := 0) rfl rfl (Nat.le_of_ble_eq_true rfl) dM_grow_179 ?_
              rintro u179 ⟨pd179, pw179, pu179⟩
              have hdv := gd_div (N := x.1 3) (by rw [hfz.gM]) (by rw [hfz.2.1 2 (by decide)]) hg hac hN q2 hcz1 pd179
              obtain ⟨hcu, zl, hkd, hpc, hbe, htp⟩ := hdv
              have hfu := hfz.trans (GF_div pd179)
              have hGIu := gr_u hGI q4 hoz hzf hzk pd179
              have hPu0 := gr_p hPL2 q6 hoz pd179
              have hPu : PLs u179 ((kidsS (gM x) (sW (gM x) (x.1 3) (x.2.1 2)) (sH (gM x) (x.1 3) (x.2.1 2)) r i zl (gz (gM x) r) (gz (gM x) r - gz (gM x) r)) ++ t) (k + 1) (p - 4) := by rw [Nat.sub_self]; exact hPu0
              have h17u : u179.2.1 17 k = j := gr_17 hoz pd179
              have h22u : u179.2.2.2 = y.2.2.2 := by obtain ⟨_, _, _, _, _, _, dt, _⟩ := pd179; rw [dt, e22]
              refine a_aloadn C dM_grow_182 rfl rfl ?_
              refine g_M_19 C dM_grow_183 ?_
              refine a_iload C dM_grow_186 rfl ?_
              refine ldM_4 C dM_grow_188 (by omega) ?_
              rw [show u179.2.1 4 r = gz (gM x) r by rw [hfu.2.1 4 (by decide)]; rfl]
              refine a_iconst (v := 1) C dM_grow_189 (by decide) ?_
              refine a_isub C dM_grow_190 (by omega) ?_
              rw [show gz (gM x) r - 1 = dnv (gz (gM x) r) by unfold dnv; rw [if_neg (by omega)]]
              refine ist_7 C dM_grow_191 (by omega) rfl ?_
              have LP193 : ∀ (N0 : Nat) (d : Nat) (w : ST) (p2 : Nat) (q8 : Option Value), d < N0 → (d ≤ gz (gM x) r) → (Only [20] u179 w) → (WF w) → (PLs w ((kidsS (gM x) (sW (gM x) (x.1 3) (x.2.1 2)) (sH (gM x) (x.1 3) (x.2.1 2)) r i zl (gz (gM x) r) (gz (gM x) r - d)) ++ t) (k + 1) p2) → WA K (WM ad cI cD cZ w) [some (.ref (ad 0)), some (.int (nI rt)), some (.int (nI p2)), some (.int (nI k)), some (.int (nI r)), some (.int (nI i)), some (.int (nI j)), some (.int (nI (dnv d))), q8] 193 [] := by
                intro N0
                induction N0 with
                | zero => intro d w p2 q8 hm; exact absurd hm (Nat.not_lt_zero _)
                | succ N0 ih193 =>
                  intro d w p2 q8 hm193 hd how hww hPw
                  have hdl : dnv d < 4294967296 := dnv_32 (by omega)
                  refine a_iload C dM_grow_193 rfl ?_
                  refine a_iflt (tgt := 282) C dM_grow_195 (by decide) hdl (fun h195 => ?_) (fun h195 => ?_)
                  · skip
                    have hd0 := dnv_neg h195 (by omega)
                    subst hd0
                    rw [Nat.sub_zero, ← kids_Sn, ← hkd, ← q5] at hPw
                    have hfu2 := hfu.only how (by decide)
                    have hwz2 := hww
                    have hcz2 : CHM (gM x) (x.1 3) (x.2.1 2) w 15 := cm_same hcu (how.2.2 13 (by decide)) (how.2.2 14 (by decide)) (by rw [how.2.1])
                    have huz2 : ∀ q, w.2.1 14 q ≤ 1000000000 := by rw [how.2.2 14 (by decide)]; exact pu179
                    have htz2 : w.2.2.2 = sH (gM x) (x.1 3) (x.2.1 2) rt 0 (x.1 3) := by rw [how.2.1, h22u]; exact hty
                    have hGI2 := gi_only hGIu how
                    have hPL3 := hPw
                    refine a_goto (tgt := 41) C dM_grow_282 (by decide) ?_
                    exact ih41 (k + 1) p2 _ _ _ _ _ _ _ (by omega) hfu2 hwz2 huz2 hcz2 htz2 hGI2 hPL3
                  · skip
                    obtain ⟨d0, rfl⟩ := dnv_pos h195
                    have hdk : dnv (d0 + 1) = d0 := rfl
                    rw [hdk]
                    refine a_aloadn C dM_grow_198 rfl rfl ?_
                    refine g_M_22 C dM_grow_199 ?_
                    refine a_iload C dM_grow_202 rfl ?_
                    refine a_iconst (v := 4) C dM_grow_204 (by decide) ?_
                    refine a_imul C dM_grow_205 ?_
                    refine a_iload C dM_grow_206 rfl ?_
                    refine a_iadd C dM_grow_208 ?_
                    refine ldM_5 C dM_grow_209 (by omega) ?_
                    have h5w : w.2.1 5 = x.2.1 5 := (how.2.2 5 (by decide)).trans (hfu.2.1 5 (by decide))
                    rw [h5w]
                    have h5l := hw.1 5 (r * 4 + d0)
                    have hgs : gs (gM x) r d0 = x.2.1 5 (r * 4 + d0) := rfl
                    have hsub : gz (gM x) r - d0 = gz (gM x) r - (d0 + 1) + 1 := by omega
                    have hki : d0 = gz (gM x) r - (gz (gM x) r - (d0 + 1) + 1) := by omega
                    have hpd := hpc d0 (by omega)
                    have h8w : w.2.1 8 = u179.2.1 8 := how.2.2 8 (by decide)
                    refine ist_8 C dM_grow_210 (by omega) rfl ?_
                    have JN276 : ∀ (w2 : ST) (p3 : Nat), Only [20] u179 w2 → WF w2 → PLs w2 ((kidsS (gM x) (sW (gM x) (x.1 3) (x.2.1 2)) (sH (gM x) (x.1 3) (x.2.1 2)) r i zl (gz (gM x) r) (gz (gM x) r - d0)) ++ t) (k + 1) p3 → WA K (WM ad cI cD cZ w2) [some (.ref (ad 0)), some (.int (nI rt)), some (.int (nI p3)), some (.int (nI k)), some (.int (nI r)), some (.int (nI i)), some (.int (nI j)), some (.int (nI d0)), some (.int (nI (x.2.1 5 (r * 4 + d0))))] 276 [] := by
                      intro w2 p3 how2 hww2 hPw2
                      refine inc_7 C dM_grow_276 rfl (show nI d0 + Int32.ofInt (-1) = nI (dnv d0) from inc_m1 d0) (by omega) rfl ?_
                      refine a_goto (tgt := 193) C dM_grow_279 (by decide) ?_
                      exact ih193 d0 _ _ _ (by omega) (by omega) how2 hww2 hPw2
                    refine a_iload C dM_grow_212 rfl ?_
                    refine a_bipush (v := 65) C dM_grow_214 (by decide) ?_
                    refine a_bipush (v := 70) C dM_grow_216 (by decide) ?_
                    refine sI3 C (c_M_in (kl K) (kD K) ad cI cD cZ cJ _ _ _ _ h5l (by decide) (by decide)) wM_M_79 wSt_M_in wIni_M wC_M_in hd_M_in (by decide) (by decide) (Nat.le_of_ble_eq_true rfl) dM_grow_218 ?_
                    rintro n218 u218 b218 ⟨rfl, rfl⟩
                    refine a_ifeq (tgt := 276) C dM_grow_221 (by decide) i01_lt (fun h221 => ?_) (fun h221 => ?_)
                    · skip
                      have hnn : nt (gs (gM x) r d0) = none := ntM_none (fun q => i01_eq h221 ⟨q.1, q.2, by decide⟩)
                      have hk1 : (kidsS (gM x) (sW (gM x) (x.1 3) (x.2.1 2)) (sH (gM x) (x.1 3) (x.2.1 2)) r i zl (gz (gM x) r) (gz (gM x) r - d0)) = (kidsS (gM x) (sW (gM x) (x.1 3) (x.2.1 2)) (sH (gM x) (x.1 3) (x.2.1 2)) r i zl (gz (gM x) r) (gz (gM x) r - (d0 + 1))) := by rw [hsub]; exact kS_n hki (by unfold tpv; rw [hnn])
                      exact JN276 _ _ how hww (by rw [hk1]; exact hPw)
                    · skip
                      have hcc := i01_ne h221
                      have hns : nt (gs (gM x) r d0) = some (x.2.1 5 (r * 4 + d0) - 65) := ntM_some ⟨hcc.1, hcc.2.1⟩
                      obtain ⟨s0, hs16, htp0⟩ := htp d0 (by omega) _ hns
                      have hk1 : (kidsS (gM x) (sW (gM x) (x.1 3) (x.2.1 2)) (sH (gM x) (x.1 3) (x.2.1 2)) r i zl (gz (gM x) r) (gz (gM x) r - d0)) ++ t = (s0, bg i zl d0, lgd zl d0) :: ((kidsS (gM x) (sW (gM x) (x.1 3) (x.2.1 2)) (sH (gM x) (x.1 3) (x.2.1 2)) r i zl (gz (gM x) r) (gz (gM x) r - (d0 + 1))) ++ t) := by rw [hsub, kS_s hki htp0]; rfl
                      have hgw : gM w = gM x := (gM_only how).trans hfu.gM
                      have hb0 : w.2.1 8 d0 = bg i zl d0 := by rw [h8w]; exact hbe d0 (by omega)
                      have hb1 : w.2.1 8 (d0 + 1) = lgd zl d0 := by rw [h8w, hbe (d0 + 1) (by omega), bg_succ]
                      have hwM : wM w = wM u179 := wM_o (how.2.2 14 (by decide))
                      have hhM : hM w = hM u179 := hM_o (by rw [how.2.1])
                      have hrm := (hcu (bg i zl d0) (lgd zl d0) hpd.2.1 (by omega) (by omega)).1
                      have huw : ∀ q, w.2.1 14 q ≤ 1000000000 := by rw [how.2.2 14 (by decide)]; exact pu179
                      have hpl := hPw.1
                      rw [List.length_append] at hpl
                      have hkl := kS_le (g := gM x) (w := sW (gM x) (x.1 3) (x.2.1 2)) (h := sH (gM x) (x.1 3) (x.2.1 2)) (r := r) (i := i) (l := zl) (n := gz (gM x) r) (d := gz (gM x) r - (d0 + 1)) (by omega)
                      rw [← hkd] at hkl
                      have hmk : k = mxa (w.2.1 17) (bg i zl d0) (k + 1) := by simp only [mxa]; rw [how.2.2 17 (by decide), h17u, if_pos (by omega)]
                      refine a_aloadn C dM_grow_224 rfl rfl ?_
                      refine a_iloadn C dM_grow_225 rfl rfl ?_
                      refine a_aloadn C dM_grow_226 rfl rfl ?_
                      refine a_iload C dM_grow_227 rfl ?_
                      refine a_iload C dM_grow_229 rfl ?_
                      refine a_iload C dM_grow_231 rfl ?_
                      refine a_bipush (v := 65) C dM_grow_233 (by decide) ?_
                      refine a_isub C dM_grow_235 hcc.1 ?_
                      refine a_aloadn C dM_grow_236 rfl rfl ?_
                      refine g_M_31 C dM_grow_237 ?_
                      refine a_iload C dM_grow_240 rfl ?_
                      refine ldM_8 C dM_grow_242 (by omega) ?_
                      rw [hb0]
                      refine a_aloadn C dM_grow_243 rfl rfl ?_
                      refine g_M_31 C dM_grow_244 ?_
                      refine a_iload C dM_grow_247 rfl ?_
                      refine a_iconst (v := 1) C dM_grow_249 (by decide) ?_
                      refine a_iadd C dM_grow_250 ?_
                      refine ldM_8 C dM_grow_251 (by omega) ?_
                      rw [hb1]
                      refine vI5 C (c_M_heaviest (kl K) (kD K) ad cI cD cZ cJ _ _ _ _ _ _ (alw (gM x) r d0) (Or.inr ⟨by rw [how.1, hfu.1 0 (by decide)]; exact w1, by rw [hgw]⟩) (by omega) (by omega) (by omega) (by omega) hww (by rw [hgw]; exact hg) huw) wM_M_158 wI_M_heaviest wSel_M_heaviest wIni_M wC_M_heaviest hd_M_heaviest (by decide) (by decide) (q0 := 0) rfl rfl (Nat.le_of_ble_eq_true rfl) dM_grow_252 ?_
                      rintro n252 u252 b252 ⟨rfl, rfl⟩
                      have hsv : oN (tp (gM w) (x.2.1 5 (r * 4 + d0) - 65) (alw (gM x) r d0) (fun s => wM w s (bg i zl d0) (lgd zl d0)) (fun s => hM w s (bg i zl d0) (lgd zl d0)) (w.1 0)) = s0 := gr_s hgw hwM hhM hrm hns htp0 (by rw [how.1]; exact hfu.1 0 (by decide))
                      rw [hsv]
                      refine a_aloadn C dM_grow_255 rfl rfl ?_
                      refine g_M_31 C dM_grow_256 ?_
                      refine a_iload C dM_grow_259 rfl ?_
                      refine ldM_8 C dM_grow_261 (by omega) ?_
                      rw [hb0]
                      refine a_aloadn C dM_grow_262 rfl rfl ?_
                      refine g_M_31 C dM_grow_263 ?_
                      refine a_iload C dM_grow_266 rfl ?_
                      refine a_iconst (v := 1) C dM_grow_268 (by decide) ?_
                      refine a_iadd C dM_grow_269 ?_
                      refine ldM_8 C dM_grow_270 (by omega) ?_
                      rw [hb1]
                      refine a_iloadn C dM_grow_271 rfl rfl ?_
                      refine vI5 C (c_M_put (kl K) (kD K) ad cI cD cZ cJ _ _ _ _ _ _ (by omega)) wM_M_186 wI_M_put wSel_M_put wIni_M wC_M_put hd_M_put (by decide) (by decide) (q0 := 0) rfl rfl (Nat.le_of_ble_eq_true rfl) dM_grow_272 ?_
                      rintro n272 u272 b272 ⟨rfl, rfl⟩
                      refine istn_2 C dM_grow_275 (by omega) rfl ?_
                      exact JN276 _ _ ((((how.set (by decide) _ _).set (by decide) _ _).set (by decide) _ _).set (by decide) _ _) ((((hww.sA _ _ (by omega)).sA _ _ (by omega)).sA _ _ (by omega)).sA _ _ (by omega)) (by rw [hk1]; exact PL_push hPw hmk)
              exact LP193 _ (gz (gM x) r) _ _ _ (Nat.lt_succ_self _) (Nat.le_refl _) (Only.rf _ _) pw179 hPu
            · skip
              have hmo := (mxa_ok (y.2.1 17) i pp).resolve_left (fun z => by omega)
              obtain ⟨hm1, hm2, hm3⟩ := hmo
              have hbl := hGI.2.2.2.2 (mxa (y.2.1 17) i pp) (by omega)
              have hbl2 := blc_le (bn := y.2.1 16) (en := y.2.1 17) (p := mxa (y.2.1 17) i pp) k
              have hzm := hz (mxa (y.2.1 17) i pp) (by omega)
              rw [if_neg (by omega)] at hzm
              refine a_aloadn C dM_grow_139 rfl rfl ?_
              refine g_M_66 C dM_grow_140 ?_
              refine a_iload C dM_grow_143 rfl ?_
              refine a_dup2 C dM_grow_145 rfl rfl ?_
              refine ldM_19 C dM_grow_146 (by omega) ?_
              refine a_iconst (v := 1) C dM_grow_147 (by decide) ?_
              refine a_iadd C dM_grow_148 ?_
              refine stM_19 C dM_grow_149 (by omega) ?_
              refine a_aloadn C dM_grow_150 rfl rfl ?_
              refine g_M_63 C dM_grow_151 ?_
              refine a_iload C dM_grow_154 rfl ?_
              refine ldM_18 C dM_grow_156 (by omega) ?_
              have e18z : (sA z 19 (mxa (y.2.1 17) i pp) (z.2.1 19 (mxa (y.2.1 17) i pp) + 1)).2.1 18 (mxa (y.2.1 17) i pp) = y.2.1 18 (mxa (y.2.1 17) i pp) := by rw [sA_ne _ _ _ (by decide), hoz.2.2 18 (by decide), sA_ne _ _ _ (by decide), sA_at _ _ _ (by omega), sA_ne _ _ _ (by decide), sA_ne _ _ _ (by decide), sA_ne _ _ _ (by decide)]
              rw [e18z, gi_up hg hac hN hv hGI (by omega) hm2 (q7 _ (by omega)).1]
              refine ist_7 C dM_grow_157 (by omega) rfl ?_
              refine a_goto (tgt := 134) C dM_grow_159 (by decide) ?_
              exact ih134 (mxa (y.2.1 17) i pp) _ (by omega) (by omega) (hoz.set (by decide) _ _) (hwz.sA _ _ (by omega)) (gi_cnt hz hm1 hpp hm2 hm3) ((sA_at _ _ _ (by omega)).trans hzk)
        exact LP134 _ k _ (Nat.lt_succ_self _) (Nat.le_refl _) (Only.rf _ _) hw1 (fun q hq => by rw [sA_at _ _ _ (by omega), if_neg (by omega), sA_ne _ _ _ (by decide), sA_ne _ _ _ (by decide), sA_ne _ _ _ (by decide), sA_ne _ _ _ (by decide)]; rfl) (sA_same _ _ _ _)
  exact LP41 _ 0 4 _ none none none none none none (Nat.lt_succ_self _) hf0 hw0 hu hc0 hs0 hGI0 hPL0

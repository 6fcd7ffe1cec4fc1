set_option maxHeartbeats 4000000 in
set_option maxRecDepth 100000 in
theorem c_M_parse (lc : Launch) (D : va_G) (ad : Nat → Nat) (cI cD cZ cJ : ClassId) (x : ST) (m : Nat) (hm : m < 4294967296) (hw : WF x) (hN : x.1 1 ≤ 14) (hch : ∀ q, q < x.1 1 → 33 ≤ x.2.1 1 q ∧ x.2.1 1 q ≤ 126) (hg : GOk (gM x)) (hac : Acy (gM x)) (hu : ∀ q, x.2.1 14 q ≤ 1000000000) : CI lc D (ty4 cI cD cZ cJ) (WM ad cI cD cZ) yM_parse bM_parse 4 (some .int) 5 [.ref (ad 0), .int (nI m)] x (fun rr u => (¬ (m < 6 ∧ 0 < x.1 1) ∧ u = sS x 5 1 ∧ rr = 0) ∨ (m < 6 ∧ 0 < x.1 1 ∧ PM0 x u ∧ pv (gM x) (x.1 1) (u.2.1 2) m = 0 ∧ u.1 5 = 2 ∧ u.1 7 = 0 ∧ rr = 0 ∧ u.1 4 = x.1 4) ∨ (m < 6 ∧ 0 < x.1 1 ∧ PM0 x u ∧ pv (gM x) (x.1 1) (u.2.1 2) m ≠ 0 ∧ u.1 5 = 0 ∧ u.1 7 = 1 ∧ PM1 x u m ∧ rr = pv (gM x) (x.1 1) (u.2.1 2) m)) := by
  refine CI_of [some (.ref (ad 0)), some (.int (nI m)), none, none] (by decide) (Nat.le_of_ble_eq_true rfl) rfl ?_
  intro K C E hkl hkD hkn
  have hR : x.1 0 ≤ 16 := hg.1
  have JN22 : ∀ b : Nat, b ≤ 1 → (b ≠ 0 ↔ (m < 6 ∧ 0 < x.1 1)) → WA K (WM ad cI cD cZ x) [some (.ref (ad 0)), some (.int (nI m)), none, none] 22 [.int (nI b), .ref (ad 0)] := by
    intro b hb hbb
    refine vI1 C (c_M_bad (kl K) (kD K) ad cI cD cZ cJ _ _ (by omega)) wM_M_83 wI_M_bad wSel_M_bad wIni_M wC_M_bad hd_M_bad (by decide) (by decide) (q0 := 0) rfl rfl (Nat.le_of_ble_eq_true rfl) dM_parse_22 ?_
    rintro n22 u22 b22 ⟨rfl, rfl⟩
    refine a_ifeq (tgt := 30) C dM_parse_25 (by decide) (by omega) (fun h25 => ?_) (fun h25 => ?_)
    · skip
      have hb1 : (1 : Nat) - b = 0 := by omega
      rw [hb1]
      have hmm := hbb.mp (by omega)
      refine a_aloadn C dM_parse_30 rfl rfl ?_
      refine a_aloadn C dM_parse_31 rfl rfl ?_
      refine g_M_87 C dM_parse_32 ?_
      rw [show (sS x 5 0).1 1 = x.1 1 from rfl]
      refine p_M_161 C dM_parse_35 ?_
      refine a_iconst (v := 0) C dM_parse_38 (by decide) ?_
      refine istn_2 C dM_parse_39 (by omega) rfl ?_
      have LP40 : ∀ (N0 : Nat) (q : Nat) (c : ST), 15 - q < N0 → (q ≤ x.1 1) → (Only [2] (sS (sS x 5 0) 3 (x.1 1)) c) → (WF c) → (∀ z, z < q → c.2.1 2 z = x.2.1 1 z) → WA K (WM ad cI cD cZ c) [some (.ref (ad 0)), some (.int (nI m)), some (.int (nI q)), none] 40 [] := by
        intro N0
        induction N0 with
        | zero => intro q c hm; exact absurd hm (Nat.not_lt_zero _)
        | succ N0 ih40 =>
          intro q c hm40 hq hoc hwc hcp
          refine a_iloadn C dM_parse_40 rfl rfl ?_
          refine a_aloadn C dM_parse_41 rfl rfl ?_
          refine g_M_87 C dM_parse_42 ?_
          rw [show c.1 1 = x.1 1 by rw [hoc.1]; rfl]
          refine a_cge (tgt := 66) C dM_parse_45 (by decide) (by omega) (by omega) (fun h45 => ?_) (fun h45 => ?_)
          · skip
            have hcc : ∀ q, q < x.1 1 → c.2.1 2 q = x.2.1 1 q := fun z hz => hcp z (by omega)
            have hgc : gM (sS c 1 0) = gM x := gM_same (by show c.1 0 = _; rw [hoc.1]; rfl) (by show c.2.2.1 9 = _; rw [hoc.2.1]; rfl) (fun k hk => hoc.2.2 k (fun z => by simp only [List.mem_cons, List.not_mem_nil, or_false] at hk z; omega))
            have hc3 : (sS c 1 0).1 3 = x.1 1 := by show c.1 3 = _; rw [hoc.1]; rfl
            have hwc1 : WF (sS c 1 0) := hwc.sS 1 (by decide)
            have huc : ∀ q, (sS c 1 0).2.1 14 q ≤ 1000000000 := by show ∀ q, c.2.1 14 q ≤ 1000000000; rw [hoc.2.2 14 (by decide)]; exact hu
            refine a_aloadn C dM_parse_66 rfl rfl ?_
            refine a_iconst (v := 0) C dM_parse_67 (by decide) ?_
            refine p_M_87 C dM_parse_68 ?_
            refine a_iconst (v := 1) C dM_parse_71 (by decide) ?_
            refine istn_2 C dM_parse_72 (by omega) rfl ?_
            have LP73 : ∀ (N0 : Nat) (d : Nat) (y : ST) (o3 : Option Value), 16 - d < N0 → (1 ≤ d) → (d ≤ x.1 1 + 1) → (FN (sS c 1 0) y) → (WF y) → (∀ q, y.2.1 14 q ≤ 1000000000) → (CHM (gM x) (x.1 1) (c.2.1 2) y d) → WA K (WM ad cI cD cZ y) [some (.ref (ad 0)), some (.int (nI m)), some (.int (nI d)), o3] 73 [] := by
              intro N0
              induction N0 with
              | zero => intro d y o3 hm; exact absurd hm (Nat.not_lt_zero _)
              | succ N0 ih73 =>
                intro d y o3 hm73 hd1 hd hf hwy huy hcm
                refine a_iloadn C dM_parse_73 rfl rfl ?_
                refine a_aloadn C dM_parse_74 rfl rfl ?_
                refine g_M_161 C dM_parse_75 ?_
                have hy3 : y.1 3 = x.1 1 := by rw [hf.1]; exact hc3
                rw [hy3]
                refine a_cgt (tgt := 113) C dM_parse_78 (by decide) (by omega) (by omega) (fun h78 => ?_) (fun h78 => ?_)
                · skip
                  have hcm15 : CHM (gM x) (x.1 1) (c.2.1 2) y 15 := fun a b h1 h2 h3 => hcm a b h1 h2 (by omega)
                  have hpx := px_0 hwy huy hoc hf hcm15
                  have hgz := px_gM hpx
                  have hrg := hcm15 0 (x.1 1) hmm.2 (Nat.le_refl _) (by omega)
                  refine a_aloadn C dM_parse_113 rfl rfl ?_
                  refine a_iconst (v := 1) C dM_parse_114 (by decide) ?_
                  refine p_M_94 C dM_parse_115 (by omega) ?_
                  refine a_aloadn C dM_parse_118 rfl rfl ?_
                  refine a_iconst (v := 0) C dM_parse_119 (by decide) ?_
                  refine p_M_98 C dM_parse_120 (by omega) ?_
                  refine a_aloadn C dM_parse_123 rfl rfl ?_
                  refine g_M_48 C dM_parse_124 ?_
                  refine a_iloadn C dM_parse_127 rfl rfl ?_
                  refine a_sipush (v := 225) C dM_parse_128 (by decide) ?_
                  refine a_imul C dM_parse_131 ?_
                  refine a_iconst (v := 0) C dM_parse_132 (by decide) ?_
                  refine a_aloadn C dM_parse_133 rfl rfl ?_
                  refine g_M_161 C dM_parse_134 ?_
                  rw [show (sS (sS y 6 1) 7 0).1 3 = x.1 1 from hy3]
                  refine sI2 C (c_M_span (kl K) (kD K) ad cI cD cZ cJ _ _ _ (by omega) (by omega)) wM_M_129 wSt_M_span wIni_M wC_M_span hd_M_span (by decide) (by decide) (Nat.le_of_ble_eq_true rfl) dM_parse_137 ?_
                  rintro n137 u137 b137 ⟨rfl, rfl⟩
                  refine a_iadd C dM_parse_140 ?_
                  refine ldM_13 C dM_parse_141 (by omega) ?_
                  have hgv : (sS (sS y 6 1) 7 0).2.1 13 (m * 225 + (0 * 15 + x.1 1)) = if nrej (gM x) m (fun s => sW (gM x) (x.1 1) (c.2.1 2) s 0 (x.1 1)) (gR (gM x)) = true then 1 else 0 := by have q := hrg.2 m hmm.1; unfold GMok at q; rw [gd_N] at q; exact q
                  rw [hgv]
                  have JN161 : ∀ v : Nat, v < 4294967296 → v = pv (gM x) (x.1 1) (c.2.1 2) m → WA K (WM ad cI cD cZ (sS (sS y 6 1) 7 0)) [some (.ref (ad 0)), some (.int (nI m)), some (.int (nI d)), o3] 161 [.int (nI v)] := by
                    intro v hvl hv
                    refine istn_2 C dM_parse_161 (by omega) rfl ?_
                    refine a_iloadn C dM_parse_162 rfl rfl ?_
                    refine a_ifne (tgt := 172) C dM_parse_163 (by decide) hvl (fun h163 => ?_) (fun h163 => ?_)
                    · skip
                      obtain ⟨hn1, r0, hr0, hr1, hr2, hr3⟩ := ps_root (g := gM x) (N := x.1 1) (ch := c.2.1 2) (n := m) (by rw [← hv]; exact h163)
                      have hpf := px_f hpx
                      have hgf := px_gM hpf
                      refine a_aloadn C dM_parse_172 rfl rfl ?_
                      refine a_iconst (v := 1) C dM_parse_173 (by decide) ?_
                      refine p_M_98 C dM_parse_174 (by omega) ?_
                      refine a_aloadn C dM_parse_177 rfl rfl ?_
                      refine a_aloadn C dM_parse_178 rfl rfl ?_
                      refine a_iconst (v := 4294967295) C dM_parse_179 (by decide) ?_
                      refine a_iconst (v := 0) C dM_parse_180 (by decide) ?_
                      refine a_iloadn C dM_parse_181 rfl rfl ?_
                      refine a_iconst (v := 0) C dM_parse_182 (by decide) ?_
                      refine a_aloadn C dM_parse_183 rfl rfl ?_
                      refine g_M_161 C dM_parse_184 ?_
                      rw [show (sS (sS (sS y 6 1) 7 0) 7 1).1 3 = x.1 1 from hy3]
                      refine vI5 C (c_M_heaviest (kl K) (kD K) ad cI cD cZ cJ _ _ _ _ _ _ (fun _ => true) (Or.inl ⟨rfl, rfl⟩) (by decide) (by omega) (by omega) (by omega) hpf.1 (by rw [hgf]; exact hg) hpf.2.1) wM_M_158 wI_M_heaviest wSel_M_heaviest wIni_M wC_M_heaviest hd_M_heaviest (by decide) (by decide) (q0 := 0) rfl rfl (Nat.le_of_ble_eq_true rfl) dM_parse_187 ?_
                      rintro n187 u187 b187 ⟨rfl, rfl⟩
                      have hrv : oN (tp (gM (sS (sS (sS y 6 1) 7 0) 7 1)) m (fun _ => true) (fun s => wM (sS (sS (sS y 6 1) 7 0) 7 1) s 0 (x.1 1)) (fun s => hM (sS (sS (sS y 6 1) 7 0) 7 1) s 0 (x.1 1)) ((sS (sS (sS y 6 1) 7 0) 7 1).1 0)) = r0 := by rw [hgf, hpf.2.2.1, show tp (gM x) m (fun _ => true) (fun s => wM (sS (sS (sS y 6 1) 7 0) 7 1) s 0 (x.1 1)) (fun s => hM (sS (sS (sS y 6 1) 7 0) 7 1) s 0 (x.1 1)) (x.1 0) = some r0 from ((tp_congr (gR (gM x)) (fun s hs _ => ⟨(hrg.1 s hs).1, (hrg.1 s hs).2⟩)).1).trans hr0]; rfl
                      rw [hrv]
                      have hz3 : (sS (sS (sS y 6 1) 7 0) 7 1).1 3 = x.1 1 := hy3
                      have hz2 : (sS (sS (sS y 6 1) 7 0) 7 1).2.1 2 = c.2.1 2 := hpf.2.2.2.2.2.2.2.2.2.2.2.1
                      refine vV1 C (c_M_grow (kl K) (kD K) ad cI cD cZ cJ _ _ hpf.1 (by rw [hgf]; exact hg) (by rw [hgf]; exact hac) (by rw [hz3]; exact hN) hpf.2.1 (by rw [hgf, hz3, hz2]; exact ⟨hr1, hmm.2, Nat.le_refl _, hr3⟩) (by rw [hgf, hz3, hz2]; exact hcm15)) wM_M_175 wI_M_grow wSel_M_grow wIni_M wC_M_grow hd_M_grow (by decide) (by decide) (q0 := 0) rfl rfl (Nat.le_of_ble_eq_true rfl) dM_parse_190 ?_
                      rintro u190 ⟨pf190, pw190, pu190, pc190, pt190, pm190⟩
                      rw [hgf, hz3, hz2] at pc190 pt190 pm190
                      have hpg := px_g hpf pf190 pw190 pu190 pc190
                      refine a_iloadn C dM_parse_193 rfl rfl ?_
                      exact r_i C E dM_parse_194 (by first | decide | exact hvl) (Or.inr (Or.inr ⟨hmm.1, hmm.2, px_m hpg hcc, by rw [hpg.2.2.2.2.2.2.2.2.2.2.2.1, ← hv]; exact h163, hpg.2.2.2.2.2.2.2.2.1, hpg.2.2.2.2.2.2.2.1, by unfold PM1; rw [hpg.2.2.2.2.2.2.2.2.2.2.2.1]; exact ⟨r0, hr0, pt190, pm190⟩, by rw [hpg.2.2.2.2.2.2.2.2.2.2.2.1]; exact hv⟩))
                    · skip
                      refine a_aloadn C dM_parse_166 rfl rfl ?_
                      refine a_iconst (v := 2) C dM_parse_167 (by decide) ?_
                      refine vI1 C (c_M_fail (kl K) (kD K) ad cI cD cZ cJ _ _) wM_M_90 wI_M_fail wSel_M_fail wIni_M wC_M_fail hd_M_fail (by decide) (by decide) (q0 := 0) rfl rfl (Nat.le_of_ble_eq_true rfl) dM_parse_168 ?_
                      rintro n168 u168 b168 ⟨rfl, rfl⟩
                      exact r_i C E dM_parse_171 (by first | decide | exact hvl) (Or.inr (Or.inl ⟨hmm.1, hmm.2, px_m (px_s (th2 := 2) hpx (by decide)) hcc, by rw [show (sS (sS (sS y 6 1) 7 0) 5 2).2.1 2 = c.2.1 2 from hpx.2.2.2.2.2.2.2.2.2.2.2.1, ← hv]; exact h163, rfl, rfl, rfl, by show y.1 4 = x.1 4; rw [hf.1]; show c.1 4 = x.1 4; rw [hoc.1]; rfl⟩))
                  refine a_ifeq (tgt := 160) C dM_parse_142 (by decide) i01_lt (fun h142 => ?_) (fun h142 => ?_)
                  · skip
                    have hgt0 := i01_eq h142
                    refine a_iconst (v := 0) C dM_parse_160 (by decide) ?_
                    exact JN161 _ (by decide) (by unfold pv; rw [if_neg hgt0])
                  · skip
                    have hgt1 := i01_ne h142
                    refine a_aloadn C dM_parse_145 rfl rfl ?_
                    refine a_iconst (v := 4294967295) C dM_parse_146 (by decide) ?_
                    refine a_iconst (v := 0) C dM_parse_147 (by decide) ?_
                    refine a_iloadn C dM_parse_148 rfl rfl ?_
                    refine a_iconst (v := 0) C dM_parse_149 (by decide) ?_
                    refine a_aloadn C dM_parse_150 rfl rfl ?_
                    refine g_M_161 C dM_parse_151 ?_
                    rw [show (sS (sS y 6 1) 7 0).1 3 = x.1 1 from hy3]
                    refine vI5 C (c_M_count5 (kl K) (kD K) ad cI cD cZ cJ _ _ _ _ _ _ (fun _ => true) (Or.inl ⟨rfl, rfl⟩) (by decide) (by omega) (by omega) (by omega) hpx.1 (by rw [hgz]; exact hg) hpx.2.1) wM_M_143 wI_M_count5 wSel_M_count5 wIni_M wC_M_count5 hd_M_count5 (by decide) (by decide) (q0 := 0) rfl rfl (Nat.le_of_ble_eq_true rfl) dM_parse_154 ?_
                    rintro n154 u154 b154 ⟨rfl, rfl⟩
                    have hcn : cn (gM (sS (sS y 6 1) 7 0)) m (fun _ => true) (fun s => wM (sS (sS y 6 1) 7 0) s 0 (x.1 1)) ((sS (sS y 6 1) 7 0).1 0) = cn (gM x) m (fun _ => true) (fun s => sW (gM x) (x.1 1) (c.2.1 2) s 0 (x.1 1)) (gR (gM x)) := by rw [hgz, hpx.2.2.1]; exact cn_congr _ (fun s hs _ => (hrg.1 s hs).1)
                    refine a_goto (tgt := 161) C dM_parse_157 (by decide) ?_
                    exact JN161 _ b154 (by unfold pv; rw [if_pos hgt1]; exact hcn)
                · skip
                  refine a_iconst (v := 0) C dM_parse_81 (by decide) ?_
                  refine istn_3 C dM_parse_82 (by omega) rfl ?_
                  have LP83 : ∀ (N0 : Nat) (i : Nat) (y : ST), 15 - i < N0 → (FN (sS c 1 0) y) → (WF y) → (∀ q, y.2.1 14 q ≤ 1000000000) → (CHM (gM x) (x.1 1) (c.2.1 2) y d) → (∀ a, a < i → a + d ≤ x.1 1 → (∀ r, r < gR (gM x) → RMok (gM x) (x.1 1) (c.2.1 2) y r a (a + d)) ∧ (∀ z, z < 6 → GMok (gM x) (x.1 1) (c.2.1 2) y z a (a + d))) → (i ≤ 14) → WA K (WM ad cI cD cZ y) [some (.ref (ad 0)), some (.int (nI m)), some (.int (nI d)), some (.int (nI i))] 83 [] := by
                    intro N0
                    induction N0 with
                    | zero => intro i y hm; exact absurd hm (Nat.not_lt_zero _)
                    | succ N0 ih83 =>
                      intro i y hm83 hf hwy huy hcm hi hil
                      refine a_iloadn C dM_parse_83 rfl rfl ?_
                      refine a_iloadn C dM_parse_84 rfl rfl ?_
                      refine a_iadd C dM_parse_85 ?_
                      refine a_aloadn C dM_parse_86 rfl rfl ?_
                      refine g_M_161 C dM_parse_87 ?_
                      have hy3 : y.1 3 = x.1 1 := by rw [hf.1]; exact hc3
                      rw [hy3]
                      refine a_cgt (tgt := 107) C dM_parse_90 (by decide) (by omega) (by omega) (fun h90 => ?_) (fun h90 => ?_)
                      · skip
                        refine inc_2 C dM_parse_107 rfl (inc_up (c := 1) (by decide)) (by omega) rfl ?_
                        refine a_goto (tgt := 73) C dM_parse_110 (by decide) ?_
                        exact ih73 (d + 1) _ _ (by omega) (by omega) (by omega) hf hwy huy (cm_up hcm hi (by omega))
                      · skip
                        have hgy : gM y = gM x := hf.gM.trans hgc
                        have hy2 : y.2.1 2 = c.2.1 2 := hf.2.1 2 (by decide)
                        have hcm2 : CHM (gM y) (y.1 3) (y.2.1 2) y (i + d - i) := by rw [hgy, hy3, hy2, show i + d - i = d by omega]; exact hcm
                        refine a_aloadn C dM_parse_93 rfl rfl ?_
                        refine a_iloadn C dM_parse_94 rfl rfl ?_
                        refine a_iloadn C dM_parse_95 rfl rfl ?_
                        refine a_iloadn C dM_parse_96 rfl rfl ?_
                        refine a_iadd C dM_parse_97 ?_
                        refine vV2 C (c_M_fill (kl K) (kD K) ad cI cD cZ cJ _ _ _ (by omega) (by rw [hy3]; omega) (by rw [hy3]; exact hN) hwy (by rw [hgy]; exact hg) (by rw [hgy]; exact hac) huy (by rw [hy3, hy2]; exact fun q hq => by rw [hcc q hq]; exact (hch q hq).2) hcm2) wM_M_171 wI_M_fill wSel_M_fill wIni_M wC_M_fill hd_M_fill (by decide) (by decide) (q0 := 0) rfl rfl (Nat.le_of_ble_eq_true rfl) dM_parse_98 ?_
                        rintro u98 ⟨pf98, pw98, pu98, pr98, pg98⟩
                        rw [hgy, hy3, hy2] at pr98 pg98
                        refine inc_3 C dM_parse_101 rfl (inc_up (c := 1) (by decide)) (by omega) rfl ?_
                        refine a_goto (tgt := 83) C dM_parse_104 (by decide) ?_
                        exact ih83 (i + 1) _ (by omega) (hf.tr pf98) pw98 pu98 (cm_fr hN hd1 (by omega) hcm pf98) (cm_in hN hd1 (by omega) hi pf98 pr98 pg98) (by omega)
                  exact LP83 _ 0 _ (Nat.lt_succ_self _) hf hwy huy hcm (fun a h => absurd h (Nat.not_lt_zero _)) (by omega)
            exact LP73 _ 1 _ none (Nat.lt_succ_self _) (by omega) (by omega) (FN.rf _) hwc1 huc (fun a b h1 h2 h3 => absurd h3 (by omega))
          · skip
            refine a_aloadn C dM_parse_48 rfl rfl ?_
            refine g_M_13 C dM_parse_49 ?_
            refine a_iloadn C dM_parse_52 rfl rfl ?_
            refine a_aloadn C dM_parse_53 rfl rfl ?_
            refine g_M_7 C dM_parse_54 ?_
            refine a_iloadn C dM_parse_57 rfl rfl ?_
            refine ldM_1 C dM_parse_58 (by omega) ?_
            rw [show c.2.1 1 = x.2.1 1 from hoc.2.2 1 (by decide)]
            have hcq := hch q (by omega)
            refine stM_2 C dM_parse_59 (by omega) ?_
            refine inc_2 C dM_parse_60 rfl (inc_up (c := 1) (by decide)) (by omega) rfl ?_
            refine a_goto (tgt := 40) C dM_parse_63 (by decide) ?_
            exact ih40 (q + 1) _ (by omega) (by omega) (hoc.set (by decide) _ _) (hwc.sA _ _ (by omega)) (lt_s (fun z hz => by rw [sA_at _ _ _ (by omega)]; exact hcp z hz) (sA_same _ _ _ _))
      exact LP40 _ 0 _ (Nat.lt_succ_self _) (Nat.zero_le _) (Only.rf _ _) ((hw.sS 5 (by decide)).sS 3 (hw.2 1)) (fun z hz => absurd hz (Nat.not_lt_zero _))
    · skip
      have hbn : ¬ (m < 6 ∧ 0 < x.1 1) := fun q => by have := hbb.mpr q; omega
      refine a_iconst (v := 0) C dM_parse_28 (by decide) ?_
      exact r_i C E dM_parse_29 (by first | decide | exact hvl) (Or.inl ⟨hbn, by rw [show (1 : Nat) - b = 1 by omega], rfl⟩)
  refine a_aloadn C dM_parse_0 rfl rfl ?_
  refine a_iloadn C dM_parse_1 rfl rfl ?_
  refine a_iconst (v := 0) C dM_parse_2 (by decide) ?_
  refine a_iconst (v := 5) C dM_parse_3 (by decide) ?_
  refine sI3 C (c_M_in (kl K) (kD K) ad cI cD cZ cJ _ _ _ _ hm (by decide) (by decide)) wM_M_79 wSt_M_in wIni_M wC_M_in hd_M_in (by decide) (by decide) (Nat.le_of_ble_eq_true rfl) dM_parse_4 ?_
  rintro n4 u4 b4 ⟨rfl, rfl⟩
  refine a_ifeq (tgt := 21) C dM_parse_7 (by decide) i01_lt (fun h7 => ?_) (fun h7 => ?_)
  · skip
    have hrr := i01_eq h7
    refine a_iconst (v := 0) C dM_parse_21 (by decide) ?_
    exact JN22 _ (by omega) (by constructor; omega; omega)
  · skip
    have hrr := i01_ne h7
    refine a_aloadn C dM_parse_10 rfl rfl ?_
    refine g_M_87 C dM_parse_11 ?_
    refine a_ifle (tgt := 21) C dM_parse_14 (by decide) (by omega) (fun h14 => ?_) (fun h14 h14b => ?_)
    · skip
      refine a_iconst (v := 0) C dM_parse_21 (by decide) ?_
      exact JN22 _ (by omega) (by constructor; omega; omega)
    · skip
      refine a_iconst (v := 1) C dM_parse_17 (by decide) ?_
      refine a_goto (tgt := 22) C dM_parse_18 (by decide) ?_
      exact JN22 _ (by omega) (by constructor; omega; omega)

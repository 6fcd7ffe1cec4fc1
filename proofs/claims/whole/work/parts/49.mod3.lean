set_option maxHeartbeats 4000000 in
set_option maxRecDepth 100000 in
theorem c_M_divide (lc : Launch) (D : va_G) (ad : Nat → Nat) (cI cD cZ cJ : ClassId) (x : ST) (N r i j : Nat) (hr : r < x.1 0) (hij : i < j) (hj : j ≤ 14) (hw : WF x) (hg : GOk (gM x)) (hu : ∀ q, x.2.1 14 q ≤ 1000000000) (hpre : ∀ t, t < (dv (x.2.1 4 r) i j).length → (pw (symM x N r) i ((dv (x.2.1 4 r) i j).getD t []) (x.2.1 4 r)) ≠ 0 → ∀ k, k < x.2.1 4 r → ∀ z, (wtv (gM x) (wM x) (hM x) r) k (bg i ((dv (x.2.1 4 r) i j).getD t []) k) (lgd ((dv (x.2.1 4 r) i j).getD t []) k) = some z → vf_n64 (FP.dmul (fw (x.2.2.1 9 r) (wtv (gM x) (wM x) (hM x) r) i ((dv (x.2.1 4 r) i j).getD t []) k) z)) : CV lc D (ty4 cI cD cZ cJ) (WM ad cI cD cZ) yM_divide bM_divide 16 none 3 [.ref (ad 0), .int (nI r), .int (nI i), .int (nI j)] x (fun u => DIV x N r i j u ∧ WF u ∧ ∀ q, u.2.1 14 q ≤ 1000000000) := by
  refine CV_of [some (.ref (ad 0)), some (.int (nI r)), some (.int (nI i)), some (.int (nI j)), none, none, none, none, none, none, none, none, none, none, none, none] (by decide) (Nat.le_of_ble_eq_true rfl) rfl ?_
  intro K C E hkl hkD hkn
  have hR : x.1 0 ≤ 16 := hg.1
  have hn : 1 ≤ x.2.1 4 r := (hg.2 r hr).2.1
  have hn4 : x.2.1 4 r ≤ 4 := (hg.2 r hr).2.2.1
  have hT := dv_len (x.2.1 4 r) (by omega) j (by omega) i (by omega)
  refine a_aloadn C dM_divide_0 rfl rfl ?_
  refine g_M_19 C dM_divide_1 ?_
  refine a_iloadn C dM_divide_4 rfl rfl ?_
  refine ldM_4 C dM_divide_5 (by omega) ?_
  refine ist_4 C dM_divide_6 (by omega) rfl ?_
  refine a_lconst (v := 0) C dM_divide_8 rfl ?_
  refine lst_5 C dM_divide_9 (by omega) rfl ?_
  refine a_dconst0 C dM_divide_11 ?_
  refine dst_7 C dM_divide_12 (by omega) rfl ?_
  refine a_iconst (v := 0) C dM_divide_14 (by decide) ?_
  refine ist_9 C dM_divide_15 (by omega) rfl ?_
  refine a_iconst (v := 0) C dM_divide_17 (by decide) ?_
  refine ist_10 C dM_divide_18 (by omega) rfl ?_
  have LP20 : ∀ (N0 : Nat) (k : Nat) (y : ST), 6 - k < N0 → (k ≤ x.2.1 4 r + 1) → (Only [7, 8] x y) → (WF y) → (∀ q, q < k → y.2.1 7 q = i + q) → WA K (WM ad cI cD cZ y) [some (.ref (ad 0)), some (.int (nI r)), some (.int (nI i)), some (.int (nI j)), some (.int (nI (x.2.1 4 r))), some (.long (lN 0)), none, some (.double 0), none, some (.int (nI 0)), some (.int (nI k)), none, none, none, none, none] 20 [] := by
    intro N0
    induction N0 with
    | zero => intro k y hm; exact absurd hm (Nat.not_lt_zero _)
    | succ N0 ih20 =>
      intro k y hm20 hk ho hwy hc
      refine a_iload C dM_divide_20 rfl ?_
      refine a_iload C dM_divide_22 rfl ?_
      refine a_cgt (tgt := 44) C dM_divide_24 (by decide) (by omega) (by omega) (fun h24 => ?_) (fun h24 => ?_)
      · skip
        refine a_aloadn C dM_divide_44 rfl rfl ?_
        refine g_M_28 C dM_divide_45 ?_
        refine a_iload C dM_divide_48 rfl ?_
        refine a_iloadn C dM_divide_50 rfl rfl ?_
        refine stM_7 C dM_divide_51 (by omega) ?_
        have ho1 : Only [7, 8] x (sA y 7 (x.2.1 4 r) j) := ho.set (by decide) _ _
        have hw1 : WF (sA y 7 (x.2.1 4 r) j) := hwy.sA _ _ (by omega)
        have hc0 := div_e (f := (sA y 7 (x.2.1 4 r) j).2.1 7) hn hn4 hij hj (fun q hq => by rw [sA_at _ _ _ (by omega)]; exact hc q (by omega)) (sA_same _ _ _ _)
        have JN65 : ∀ m : Nat, m = (if 0 < (dv (x.2.1 4 r) i j).length then 1 else 0) → WA K (WM ad cI cD cZ (sA y 7 (x.2.1 4 r) j)) [some (.ref (ad 0)), some (.int (nI r)), some (.int (nI i)), some (.int (nI j)), some (.int (nI (x.2.1 4 r))), some (.long (lN 0)), none, some (.double 0), none, some (.int (nI 0)), some (.int (nI k)), none, none, none, none, none] 65 [.int (nI m)] := by
          intro m hm0
          refine ist_10 C dM_divide_65 (by omega) rfl ?_
          have LP67 : ∀ (N0 : Nat) (t w a m : Nat) (h : UInt64) (y : ST) (o11 o12 o13 o14 o15 : Option Value), (dv (x.2.1 4 r) i j).length - t < N0 → (t ≤ (dv (x.2.1 4 r) i j).length) → (Only [7, 8] x y) → (WF y) → (w = aw (symM x N r) (x.2.1 4 r) i (dv (x.2.1 4 r) i j) t) → (h = HV (BSm x N r i j t) (FFm x r i j)) → (a = (if (BSm x N r i j (t)).isSome = true then 1 else 0 : Nat)) → (m = if t < (dv (x.2.1 4 r) i j).length then 1 else 0) → (t < (dv (x.2.1 4 r) i j).length → ∀ k, k ≤ x.2.1 4 r → y.2.1 7 k = bg i ((dv (x.2.1 4 r) i j).getD t []) k) → (∀ b, BSm x N r i j (t) = some b → ∀ k, k ≤ x.2.1 4 r → y.2.1 8 k = bg i ((dv (x.2.1 4 r) i j).getD b []) k) → WA K (WM ad cI cD cZ y) [some (.ref (ad 0)), some (.int (nI r)), some (.int (nI i)), some (.int (nI j)), some (.int (nI (x.2.1 4 r))), some (.long (lN w)), none, some (.double h), none, some (.int (nI a)), some (.int (nI m)), o11, o12, o13, o14, o15] 67 [] := by
            intro N0
            induction N0 with
            | zero => intro t w a m h y o11 o12 o13 o14 o15 hm; exact absurd hm (Nat.not_lt_zero _)
            | succ N0 ih67 =>
              intro t w a m h y o11 o12 o13 o14 o15 hm67 ht ho hwy hww hh ha hm hcut hbst
              refine a_iload C dM_divide_67 rfl ?_
              refine a_ifeq (tgt := 218) C dM_divide_69 (by decide) (by rw [hm]; exact i01_lt) (fun h69 => ?_) (fun h69 => ?_)
              · skip
                have htt : t = (dv (x.2.1 4 r) i j).length := by by_cases q : t < (dv (x.2.1 4 r) i j).length; rw [if_pos q] at hm; omega; omega
                have hwl : w ≤ 1000000000 := by rw [hww]; exact aw_le _ _ _ _ _
                refine a_aloadn C dM_divide_218 rfl rfl ?_
                refine g_M_51 C dM_divide_219 ?_
                refine a_iloadn C dM_divide_222 rfl rfl ?_
                refine a_sipush (v := 225) C dM_divide_223 (by decide) ?_
                refine a_imul C dM_divide_226 ?_
                refine a_iloadn C dM_divide_227 rfl rfl ?_
                refine a_iloadn C dM_divide_228 rfl rfl ?_
                refine sI2 C (c_M_span (kl K) (kD K) ad cI cD cZ cJ _ _ _ (by omega) (by omega)) wM_M_129 wSt_M_span wIni_M wC_M_span hd_M_span (by decide) (by decide) (Nat.le_of_ble_eq_true rfl) dM_divide_229 ?_
                rintro n229 u229 b229 ⟨rfl, rfl⟩
                refine a_iadd C dM_divide_232 ?_
                refine a_lload C dM_divide_233 rfl ?_
                refine a_l2i C dM_divide_235 ?_
                refine stM_14 C dM_divide_236 (by omega) ?_
                refine a_aloadn C dM_divide_237 rfl rfl ?_
                refine g_M_38 C dM_divide_238 ?_
                refine a_iloadn C dM_divide_241 rfl rfl ?_
                refine a_sipush (v := 225) C dM_divide_242 (by decide) ?_
                refine a_imul C dM_divide_245 ?_
                refine a_iloadn C dM_divide_246 rfl rfl ?_
                refine a_iloadn C dM_divide_247 rfl rfl ?_
                refine sI2 C (c_M_span (kl K) (kD K) ad cI cD cZ cJ _ _ _ (by omega) (by omega)) wM_M_129 wSt_M_span wIni_M wC_M_span hd_M_span (by decide) (by decide) (Nat.le_of_ble_eq_true rfl) dM_divide_248 ?_
                rintro n248 u248 b248 ⟨rfl, rfl⟩
                refine a_iadd C dM_divide_251 ?_
                refine a_dload C dM_divide_252 rfl ?_
                refine stM_10 C dM_divide_254 (by omega) ?_
                exact r_v C E dM_divide_255 ⟨div_ret ho (htt ▸ hww) (htt ▸ hh) (htt ▸ hbst), (hwy.sA _ _ (by omega)).sD _ _ _, dm_u (by rw [ho.2.2 14 (by decide)]; exact hu) hwl⟩
              · skip
                have htl : t < (dv (x.2.1 4 r) i j).length := by by_cases q : t < (dv (x.2.1 4 r) i j).length; exact q; rw [if_neg q] at hm; omega
                have hct := hcut htl
                have hbl : ∀ k, k < x.2.1 4 r → bg i ((dv (x.2.1 4 r) i j).getD t []) k < lgd ((dv (x.2.1 4 r) i j).getD t []) k ∧ lgd ((dv (x.2.1 4 r) i j).getD t []) k ≤ 14 := fun k hk => by have q := piece (n := x.2.1 4 r) (i := i) (j := j) (t := t) (k := k) (by omega) (by omega) (by omega) htl hk; omega
                have hgy := gM_o ho
                have huy : ∀ q, y.2.1 14 q ≤ 1000000000 := by rw [ho.2.2 14 (by decide)]; exact hu
                have h14y : wM y = wM x := wM_o (ho.2.2 14 (by decide))
                have h10y : hM y = hM x := hM_o (by rw [ho.2.1])
                have h4y : y.2.1 4 = x.2.1 4 := ho.2.2 4 (by decide)
                have h9y : y.2.2.1 9 = x.2.2.1 9 := by rw [ho.2.1]
                have hwl : w ≤ 1000000000 := by rw [hww]; exact aw_le _ _ _ _ _
                have JN131 : ∀ (c : Nat) (p13 : Option Value), c = (pw (symM x N r) i ((dv (x.2.1 4 r) i j).getD t []) (x.2.1 4 r)) → WA K (WM ad cI cD cZ y) [some (.ref (ad 0)), some (.int (nI r)), some (.int (nI i)), some (.int (nI j)), some (.int (nI (x.2.1 4 r))), some (.long (lN w)), none, some (.double h), none, some (.int (nI a)), some (.int (nI m)), some (.long (lN c)), none, p13, o14, o15] 131 [] := by
                  intro c p13 hcp
                  have hcl : c ≤ 1000000000 := by rw [hcp]; exact pw_le _ _ _ _
                  refine a_lload C dM_divide_131 rfl ?_
                  refine a_lload C dM_divide_133 rfl ?_
                  refine a_ladd C dM_divide_135 ?_
                  refine sI1 C (c_M_cutDown (kl K) (kD K) ad cI cD cZ cJ _ _ (by omega)) wM_M_136 wSt_M_cutDown wIni_M wC_M_cutDown hd_M_cutDown (by decide) (by decide) (Nat.le_of_ble_eq_true rfl) dM_divide_136 ?_
                  rintro n136 u136 b136 ⟨rfl, rfl⟩
                  refine a_i2l C dM_divide_139 (by omega) ?_
                  have hwn : (min 1000000000 (w + c)) = aw (symM x N r) (x.2.1 4 r) i (dv (x.2.1 4 r) i j) (t + 1) := by rw [aw_s, hww, hcp]
                  refine lst_5 C dM_divide_140 (by omega) rfl ?_
                  have JN206 : ∀ (h2 : UInt64) (a2 : Nat) (y2 : ST) (p13 p14 p15 : Option Value), Only [7, 8] x y2 → WF y2 → h2 = HV (BSm x N r i j (t + 1)) (FFm x r i j) → a2 = (if (BSm x N r i j (t + 1)).isSome = true then 1 else 0 : Nat) → (∀ k, k ≤ x.2.1 4 r → y2.2.1 7 k = bg i ((dv (x.2.1 4 r) i j).getD t []) k) → (∀ b, BSm x N r i j (t + 1) = some b → ∀ k, k ≤ x.2.1 4 r → y2.2.1 8 k = bg i ((dv (x.2.1 4 r) i j).getD b []) k) → WA K (WM ad cI cD cZ y2) [some (.ref (ad 0)), some (.int (nI r)), some (.int (nI i)), some (.int (nI j)), some (.int (nI (x.2.1 4 r))), some (.long (lN (min 1000000000 (w + c)))), none, some (.double h2), none, some (.int (nI a2)), some (.int (nI m)), some (.long (lN c)), none, p13, p14, p15] 206 [] := by
                    intro h2 a2 y2 p13 p14 p15 ho2 hw2 hh2 ha2 hct2 hbst2
                    refine a_aloadn C dM_divide_206 rfl rfl ?_
                    refine a_iload C dM_divide_207 rfl ?_
                    refine a_iloadn C dM_divide_209 rfl rfl ?_
                    refine vI2 C (c_M_next (kl K) (kD K) ad cI cD cZ cJ _ _ _ (lgd ((dv (x.2.1 4 r) i j).getD t [])) hn hn4 hj (fun k hk => by rw [hct2 (k + 1) (by omega), bg_succ]) (fun k hk => ((dv_mono (n := x.2.1 4 r) (i := i) (j := j) (t := t) (by omega) (by omega) (by omega) (gt_of htl)) k hk).2) (by have q := (dv_mono (n := x.2.1 4 r) (i := i) (j := j) (t := t) (by omega) (by omega) (by omega) (gt_of htl)) 0 (by omega); omega) ((dv_ok (n := x.2.1 4 r) (i := i) (j := j) (t := t) (by omega) (by omega) (by omega) (gt_of htl)).2.2 hn) hw2) wM_M_155 wI_M_next wSel_M_next wIni_M wC_M_next hd_M_next (by decide) (by decide) (q0 := 0) rfl rfl (Nat.le_of_ble_eq_true rfl) dM_divide_210 ?_
                    rintro n210 u210 b210 ⟨po210, pf210, pz210, p8210, pe210⟩
                    have hdn := div_nx (f := u210.2.1 7) hn hn4 hij hj htl pe210 (by rw [pz210]; exact hct2 0 (by omega))
                    refine ist_10 C dM_divide_213 (by omega) rfl ?_
                    refine a_goto (tgt := 67) C dM_divide_215 (by decide) ?_
                    exact ih67 (t + 1) (min 1000000000 (w + c)) a2 _ h2 _ _ _ _ _ _ (by omega) (by omega) (ho2.trans po210) pf210 hwn hh2 ha2 hdn.1 hdn.2 (fun b hb k hk => by rw [p8210]; exact hbst2 b hb k hk)
                  refine a_lload C dM_divide_142 rfl ?_
                  refine a_lconst (v := 0) C dM_divide_144 rfl ?_
                  refine a_lcmp C dM_divide_145 (by omega) (by omega) (fun h145 => ?_) (fun h145 => ?_) (fun h145 => ?_)
                  · skip
                    exact absurd h145 (by omega)
                  · skip
                    refine a_ifle (tgt := 206) C dM_divide_146 (by decide) (by decide) (fun _ => ?_) (fun q q2 => absurd (And.intro q q2) (by decide))
                    have hpz0 : (pw (symM x N r) i ((dv (x.2.1 4 r) i j).getD t []) (x.2.1 4 r)) = 0 := by rw [← hcp]; exact h145
                    have hbz0 : BSm x N r i j (t + 1) = BSm x N r i j t := bs_z hpz0
                    exact JN206 _ _ _ _ _ _ ho hwy (by rw [hbz0]; exact hh) (by rw [hbz0]; exact ha) hct (by rw [hbz0]; exact hbst)
                  · skip
                    refine a_ifle (tgt := 206) C dM_divide_146 (by decide) (by decide) (fun q => absurd q (by decide)) (fun _ _ => ?_)
                    have hpz : (pw (symM x N r) i ((dv (x.2.1 4 r) i j).getD t []) (x.2.1 4 r)) ≠ 0 := by rw [← hcp]; omega
                    have hsz := pw_zero _ hpz
                    refine a_aloadn C dM_divide_149 rfl rfl ?_
                    refine a_iloadn C dM_divide_150 rfl rfl ?_
                    refine vD1 C (c_M_weightOf (kl K) (kD K) ad cI cD cZ cJ _ _ i ((dv (x.2.1 4 r) i j).getD t []) (by rw [ho.1]; exact hr) hwy (by rw [hgy]; exact hg) huy (by rw [h4y]; exact hct) (by rw [h4y]; exact hbl) (by rw [h4y, hgy, h14y, h10y]; exact fun k hk c hc => symM_tp hc (hsz k hk)) (by rw [h9y, h4y, hgy, h14y, h10y]; exact hpre t htl hpz)) wM_M_151 wI_M_weightOf wSel_M_weightOf wIni_M wC_M_weightOf hd_M_weightOf (by decide) (by decide) (q0 := 0) rfl rfl (Nat.le_of_ble_eq_true rfl) dM_divide_151 ?_
                    rintro n151 u151 ⟨rfl, rfl⟩
                    rw [h9y, hgy, h14y, h10y, h4y]
                    have hff : fw (x.2.2.1 9 r) (wtv (gM x) (wM x) (hM x) r) i ((dv (x.2.1 4 r) i j).getD t []) (x.2.1 4 r) = FFm x r i j t := rfl
                    rw [hff]
                    refine dst_13 C dM_divide_154 (by omega) rfl ?_
                    have JN203 : ∀ (h3 : UInt64) (y3 : ST) (p15 : Option Value), Only [7, 8] x y3 → WF y3 → h3 = HV (BSm x N r i j (t + 1)) (FFm x r i j) → (BSm x N r i j (t + 1)).isSome = true → (∀ k, k ≤ x.2.1 4 r → y3.2.1 7 k = bg i ((dv (x.2.1 4 r) i j).getD t []) k) → (∀ b, BSm x N r i j (t + 1) = some b → ∀ k, k ≤ x.2.1 4 r → y3.2.1 8 k = bg i ((dv (x.2.1 4 r) i j).getD b []) k) → WA K (WM ad cI cD cZ y3) [some (.ref (ad 0)), some (.int (nI r)), some (.int (nI i)), some (.int (nI j)), some (.int (nI (x.2.1 4 r))), some (.long (lN (min 1000000000 (w + c)))), none, some (.double h3), none, some (.int (nI a)), some (.int (nI m)), some (.long (lN c)), none, some (.double (FFm x r i j t)), none, p15] 203 [] := by
                      intro h3 y3 p15 ho3 hw3 hh3 hs3 hct3 hbst3
                      refine a_iconst (v := 1) C dM_divide_203 (by decide) ?_
                      refine ist_9 C dM_divide_204 (by omega) rfl ?_
                      exact JN206 _ 1 _ _ _ _ ho3 hw3 hh3 (by rw [hs3]; rfl) hct3 hbst3
                    have JN169 : BSm x N r i j (t + 1) = some t → WA K (WM ad cI cD cZ y) [some (.ref (ad 0)), some (.int (nI r)), some (.int (nI i)), some (.int (nI j)), some (.int (nI (x.2.1 4 r))), some (.long (lN (min 1000000000 (w + c)))), none, some (.double h), none, some (.int (nI a)), some (.int (nI m)), some (.long (lN c)), none, some (.double (FFm x r i j t)), none, o15] 169 [] := by
                      intro hbt
                      refine a_dload C dM_divide_169 rfl ?_
                      refine dst_7 C dM_divide_171 (by omega) rfl ?_
                      refine a_iconst (v := 0) C dM_divide_173 (by decide) ?_
                      refine ist_15 C dM_divide_174 (by omega) rfl ?_
                      have LP176 : ∀ (N0 : Nat) (q : Nat) (z : ST), 6 - q < N0 → (q ≤ x.2.1 4 r + 1) → (Only [7, 8] x z) → (WF z) → (∀ k, k ≤ x.2.1 4 r → z.2.1 7 k = bg i ((dv (x.2.1 4 r) i j).getD t []) k) → (∀ k, k < q → z.2.1 8 k = bg i ((dv (x.2.1 4 r) i j).getD t []) k) → WA K (WM ad cI cD cZ z) [some (.ref (ad 0)), some (.int (nI r)), some (.int (nI i)), some (.int (nI j)), some (.int (nI (x.2.1 4 r))), some (.long (lN (min 1000000000 (w + c)))), none, some (.double (FFm x r i j t)), none, some (.int (nI a)), some (.int (nI m)), some (.long (lN c)), none, some (.double (FFm x r i j t)), none, some (.int (nI q))] 176 [] := by
                        intro N0
                        induction N0 with
                        | zero => intro q z hm; exact absurd hm (Nat.not_lt_zero _)
                        | succ N0 ih176 =>
                          intro q z hm176 hq hoz hwz hcz hbz
                          refine a_iload C dM_divide_176 rfl ?_
                          refine a_iload C dM_divide_178 rfl ?_
                          refine a_cgt (tgt := 203) C dM_divide_180 (by decide) (by omega) (by omega) (fun h180 => ?_) (fun h180 => ?_)
                          · skip
                            exact JN203 _ _ _ hoz hwz (by rw [hbt]; rfl) (by rw [hbt]; rfl) hcz (fun b hb k hk => by rw [hbt] at hb; cases hb; exact hbz k (by omega))
                          · skip
                            refine a_aloadn C dM_divide_183 rfl rfl ?_
                            refine g_M_31 C dM_divide_184 ?_
                            refine a_iload C dM_divide_187 rfl ?_
                            refine a_aloadn C dM_divide_189 rfl rfl ?_
                            refine g_M_28 C dM_divide_190 ?_
                            refine a_iload C dM_divide_193 rfl ?_
                            refine ldM_7 C dM_divide_195 (by omega) ?_
                            rw [hcz q (by omega)]
                            have hbq := dm_bg (j := j) (t := t) (r := r) (x := x) hn hn4 hij hj htl (k := q) (by omega)
                            refine stM_8 C dM_divide_196 (by omega) ?_
                            refine inc_15 C dM_divide_197 rfl (inc_up (c := 1) (by decide)) (by omega) rfl ?_
                            refine a_goto (tgt := 176) C dM_divide_200 (by decide) ?_
                            exact ih176 (q + 1) _ (by omega) (by omega) (hoz.set (by decide) _ _) (hwz.sA _ _ (by omega)) (fun k hk => by rw [sA_ne _ _ _ (by decide)]; exact hcz k hk) (lt_s (fun k hk => by rw [sA_at _ _ _ (by omega)]; exact hbz k hk) (sA_same _ _ _ _))
                      exact LP176 _ 0 _ (Nat.lt_succ_self _) (Nat.zero_le _) ho hwy hct (fun q hq => absurd hq (Nat.not_lt_zero _))
                    refine a_iload C dM_divide_156 rfl ?_
                    refine a_ifeq (tgt := 169) C dM_divide_158 (by decide) (by rw [ha]; exact i01_lt) (fun h158 => ?_) (fun h158 => ?_)
                    · skip
                      exact JN169 (bsM_f hpz (dm_none ha h158))
                    · skip
                      obtain ⟨b0, hb0⟩ := dm_some ha h158
                      have hhb : h = FFm x r i j b0 := by rw [hh, hb0]; rfl
                      refine a_dload C dM_divide_161 rfl ?_
                      refine a_dload C dM_divide_163 rfl ?_
                      refine a_dcmp C dM_divide_165 (fun h165 => ?_) (fun h165 => ?_) (fun h165 => ?_) (fun h165 => ?_)
                      · skip
                        refine a_ifle (tgt := 203) C dM_divide_166 (by decide) (by decide) (fun _ => ?_) (fun q q2 => absurd (And.intro q q2) (by decide))
                        have hbn : BSm x N r i j (t + 1) = some b0 := bsM_n hpz hb0 (by rw [hhb] at h165; exact dgt_lt h165)
                        exact JN203 _ _ _ ho hwy (by rw [hbn, ← hb0]; exact hh) (by rw [hbn]; rfl) hct (by rw [hbn, ← hb0]; exact hbst)
                      · skip
                        refine a_ifle (tgt := 203) C dM_divide_166 (by decide) (by decide) (fun _ => ?_) (fun q q2 => absurd (And.intro q q2) (by decide))
                        have hbn : BSm x N r i j (t + 1) = some b0 := bsM_n hpz hb0 (by rw [hhb] at h165; exact dgt_eq h165)
                        exact JN203 _ _ _ ho hwy (by rw [hbn, ← hb0]; exact hh) (by rw [hbn]; rfl) hct (by rw [hbn, ← hb0]; exact hbst)
                      · skip
                        refine a_ifle (tgt := 203) C dM_divide_166 (by decide) (by decide) (fun q => absurd q (by decide)) (fun _ _ => ?_)
                        have hbt : BSm x N r i j (t + 1) = some t := bsM_g hpz hb0 (by rw [hhb] at h165; exact dgt_of h165)
                        exact JN169 hbt
                      · skip
                        have hnan : nanv .l = 4294967295 := rfl
                        rw [hnan]
                        refine a_ifle (tgt := 203) C dM_divide_166 (by decide) (by decide) (fun _ => ?_) (fun q q2 => absurd (And.intro q q2) (by decide))
                        have hbn : BSm x N r i j (t + 1) = some b0 := bsM_n hpz hb0 (by rw [hhb] at h165; exact dgt_nan h165)
                        exact JN203 _ _ _ ho hwy (by rw [hbn, ← hb0]; exact hh) (by rw [hbn]; rfl) hct (by rw [hbn, ← hb0]; exact hbst)
                refine a_lconst (v := 1) C dM_divide_72 rfl ?_
                refine lst_11 C dM_divide_73 (by omega) rfl ?_
                refine a_iconst (v := 0) C dM_divide_75 (by decide) ?_
                refine ist_13 C dM_divide_76 (by omega) rfl ?_
                have LP78 : ∀ (N0 : Nat) (k c : Nat), 5 - k < N0 → (k ≤ x.2.1 4 r) → (c = pw (symM x N r) i ((dv (x.2.1 4 r) i j).getD t []) k) → WA K (WM ad cI cD cZ y) [some (.ref (ad 0)), some (.int (nI r)), some (.int (nI i)), some (.int (nI j)), some (.int (nI (x.2.1 4 r))), some (.long (lN w)), none, some (.double h), none, some (.int (nI a)), some (.int (nI m)), some (.long (lN c)), none, some (.int (nI k)), o14, o15] 78 [] := by
                  intro N0
                  induction N0 with
                  | zero => intro k c hm; exact absurd hm (Nat.not_lt_zero _)
                  | succ N0 ih78 =>
                    intro k c hm78 hk hcc
                    have hcl : c ≤ 1000000000 := by rw [hcc]; exact pw_le _ _ _ _
                    refine a_iload C dM_divide_78 rfl ?_
                    refine a_iload C dM_divide_80 rfl ?_
                    refine a_cge (tgt := 131) C dM_divide_82 (by decide) (by omega) (by omega) (fun h82 => ?_) (fun h82 => ?_)
                    · skip
                      exact JN131 _ _ (by rw [hcc, show k = x.2.1 4 r by omega])
                    · skip
                      refine a_lload C dM_divide_85 rfl ?_
                      refine a_lconst (v := 0) C dM_divide_87 rfl ?_
                      refine a_lcmp C dM_divide_88 (by omega) (by omega) (fun h88 => ?_) (fun h88 => ?_) (fun h88 => ?_)
                      · skip
                        exact absurd h88 (by omega)
                      · skip
                        refine a_ifle (tgt := 131) C dM_divide_89 (by decide) (by decide) (fun _ => ?_) (fun q q2 => absurd (And.intro q q2) (by decide))
                        exact JN131 _ _ (by have hz := pw_stop (sym := symM x N r) (i := i) (l := ((dv (x.2.1 4 r) i j).getD t [])) (k := k) (by rw [← hcc]; exact h88) (x.2.1 4 r - k); rw [show k + (x.2.1 4 r - k) = x.2.1 4 r by omega] at hz; rw [hz]; exact h88)
                      · skip
                        refine a_ifle (tgt := 131) C dM_divide_89 (by decide) (by decide) (fun q => absurd q (by decide)) (fun _ _ => ?_)
                        refine a_lload C dM_divide_92 rfl ?_
                        refine a_aloadn C dM_divide_94 rfl rfl ?_
                        refine a_iloadn C dM_divide_95 rfl rfl ?_
                        refine a_iload C dM_divide_96 rfl ?_
                        refine a_aloadn C dM_divide_98 rfl rfl ?_
                        refine g_M_28 C dM_divide_99 ?_
                        refine a_iload C dM_divide_102 rfl ?_
                        refine ldM_7 C dM_divide_104 (by omega) ?_
                        rw [hct k (by omega)]
                        refine a_aloadn C dM_divide_105 rfl rfl ?_
                        refine g_M_28 C dM_divide_106 ?_
                        refine a_iload C dM_divide_109 rfl ?_
                        refine a_iconst (v := 1) C dM_divide_111 (by decide) ?_
                        refine a_iadd C dM_divide_112 ?_
                        refine ldM_7 C dM_divide_113 (by omega) ?_
                        rw [hct (k + 1) (by omega), bg_succ]
                        have hbk := hbl k h82
                        refine vI4 C (c_M_symbol (kl K) (kD K) ad cI cD cZ cJ _ N _ _ _ _ (by rw [ho.1]; exact hr) (by rw [hgy]; exact h82) hbk.1 hbk.2 hwy (by rw [hgy]; exact hg) huy) wM_M_147 wI_M_symbol wSel_M_symbol wIni_M wC_M_symbol hd_M_symbol (by decide) (by decide) (q0 := 0) rfl rfl (Nat.le_of_ble_eq_true rfl) dM_divide_114 ?_
                        rintro n114 u114 b114 ⟨rfl, rfl⟩
                        rw [symM_o N ho r] at b114 ⊢
                        have hsl : symM x N r k (bg i ((dv (x.2.1 4 r) i j).getD t []) k) (lgd ((dv (x.2.1 4 r) i j).getD t []) k) ≤ 1000000000 := symM_le _ _ _ _ _ _
                        have hmul : c * symM x N r k (bg i ((dv (x.2.1 4 r) i j).getD t []) k) (lgd ((dv (x.2.1 4 r) i j).getD t []) k) ≤ 1000000000 * 1000000000 := Nat.mul_le_mul hcl hsl
                        refine a_i2l C dM_divide_117 (by omega) ?_
                        refine a_lmul C dM_divide_118 ?_
                        refine sI1 C (c_M_cutDown (kl K) (kD K) ad cI cD cZ cJ _ _ (by omega)) wM_M_136 wSt_M_cutDown wIni_M wC_M_cutDown hd_M_cutDown (by decide) (by decide) (Nat.le_of_ble_eq_true rfl) dM_divide_119 ?_
                        rintro n119 u119 b119 ⟨rfl, rfl⟩
                        have hpn : min 1000000000 (c * symM x N r k (bg i ((dv (x.2.1 4 r) i j).getD t []) k) (lgd ((dv (x.2.1 4 r) i j).getD t []) k)) = pw (symM x N r) i ((dv (x.2.1 4 r) i j).getD t []) (k + 1) := by simp only [pw, MX]; rw [hcc]
                        refine a_i2l C dM_divide_122 (by omega) ?_
                        refine lst_11 C dM_divide_123 (by omega) rfl ?_
                        refine inc_13 C dM_divide_125 rfl (inc_up (c := 1) (by decide)) (by omega) rfl ?_
                        refine a_goto (tgt := 78) C dM_divide_128 (by decide) ?_
                        exact ih78 (k + 1) _ (by omega) (by omega) hpn
                exact LP78 _ 0 1 (Nat.lt_succ_self _) (Nat.zero_le _) rfl
          exact LP67 _ 0 0 _ _ 0 _ none none none none none (Nat.lt_succ_self _) (Nat.zero_le _) ho1 hw1 rfl rfl rfl hm0 hc0 (fun b hb => nomatch hb)
        refine a_iloadn C dM_divide_52 rfl rfl ?_
        refine a_iloadn C dM_divide_53 rfl rfl ?_
        refine a_isub C dM_divide_54 (by omega) ?_
        refine a_iload C dM_divide_55 rfl ?_
        refine a_clt (tgt := 64) C dM_divide_57 (by decide) (by omega) (by omega) (fun h57 => ?_) (fun h57 => ?_)
        · skip
          refine a_iconst (v := 0) C dM_divide_64 (by decide) ?_
          exact JN65 _ (by rw [← der_m hn hn4 hij hj]; first | rw [if_pos (by omega)] | rw [if_neg (by omega)])
        · skip
          refine a_iconst (v := 1) C dM_divide_60 (by decide) ?_
          refine a_goto (tgt := 65) C dM_divide_61 (by decide) ?_
          exact JN65 _ (by rw [← der_m hn hn4 hij hj]; first | rw [if_pos (by omega)] | rw [if_neg (by omega)])
      · skip
        refine a_aloadn C dM_divide_27 rfl rfl ?_
        refine g_M_28 C dM_divide_28 ?_
        refine a_iload C dM_divide_31 rfl ?_
        refine a_iloadn C dM_divide_33 rfl rfl ?_
        refine a_iload C dM_divide_34 rfl ?_
        refine a_iadd C dM_divide_36 ?_
        refine stM_7 C dM_divide_37 (by omega) ?_
        refine inc_10 C dM_divide_38 rfl (inc_up (c := 1) (by decide)) (by omega) rfl ?_
        refine a_goto (tgt := 20) C dM_divide_41 (by decide) ?_
        exact ih20 (k + 1) _ (by omega) (by omega) (ho.set (by decide) _ _) (hwy.sA _ _ (by omega)) (lt_s (fun q hq => by rw [sA_at _ _ _ (by omega)]; exact hc q hq) (sA_same _ _ _ _))
  exact LP20 _ 0 _ (Nat.lt_succ_self _) (Nat.zero_le _) (Only.rf _ _) hw (fun q hq => absurd hq (Nat.not_lt_zero _))

/-! THE COUPLING kept by what changes the grammar, and by a parse -/
theorem j_ch {x m u n : ST} (h : JV x m) (w1 : WF u) (w2 : WF n) (e1 : ∀ k, k ∈ [0, 2] → u.1 k = x.1 k) (e2 : u.1 1 = 0) (e3 : u.1 4 = 0) (e4 : ∀ k, k ∈ [2, 12, 15] → u.2.1 k = x.2.1 k) (f1 : ∀ k, k ∈ [1, 2, 3, 4] → n.1 k = m.1 k) (f2 : n.1 6 = 0) (f3 : n.1 7 = 0) (f4 : ∀ k, k ∈ [1, 14] → n.2.1 k = m.2.1 k) (hG : GR u n) : JV u n := by
  obtain ⟨a1, a2, a3, a4, a5, a6, a7, a8⟩ := h
  exact ⟨w1, w2, a3.cg (e4 15 (by decide)) (e4 12 (by decide)), ⟨by rw [f4 14 (by decide)]; exact a4.1, by rw [f1 3 (by decide)]; exact a4.2.1, by rw [f1 4 (by decide)]; exact a4.2.2⟩, a5.cg (e1 2 (by decide)) (e4 2 (by decide)) (f1 1 (by decide)) (f4 1 (by decide)), by rw [f1 2 (by decide), e1 0 (by decide)]; exact a6, hG, PRS.no f2 f3 e2 e3⟩
theorem FG.wf {u : ST} (h : WF u) : WF (FG u) := WF.sS (x := sT (sS u 1 0) 0) (h.sS 1 (by decide)) 4 (by decide)
theorem CHm.wf {u : ST} (h : WF u) : WF (CHm u) := (h.sS 6 (by decide)).sS 7 (by decide)
theorem mem4 {k a b c d : Nat} (h : k ∈ [a, b, c, d]) : k = a ∨ k = b ∨ k = c ∨ k = d := by simpa using h
theorem mem3 {k a b : Nat} (h : k ∈ [a, b]) : k = a ∨ k = b := by simpa using h
theorem j_mark {x m : ST} {r h : Nat} (J : JV x m) (hr : r < x.1 3) (hh : h ≤ 3) : JV (FG (sA x 8 r h)) (CHm (sA (sS m 5 0) 6 r h)) := by
  refine j_ch J (FG.wf (J.1.sA 8 r (by omega))) (CHm.wf ((J.2.1.sS 5 (by decide)).sA 6 r (by omega))) (fun k hk => ?_) rfl rfl (fun k hk => ?_) (fun k hk => ?_) rfl rfl (fun k hk => ?_) ?_
  · rcases mem3 hk with rfl | rfl <;> rfl
  · exact vup_ne _ _ (fun q => by subst q; exact absurd hk (by decide))
  · rcases mem4 hk with rfl | rfl | rfl | rfl <;> rfl
  · exact vup_ne _ _ (fun q => by subst q; exact absurd hk (by decide))
  · obtain ⟨g1, g2, g3, g4⟩ := J.2.2.2.2.2.2.1
    refine ⟨⟨g1.1, fun s hs => ?_⟩, acy_sub (g := gP x) (Nat.le_refl _) (fun s _ => ⟨rfl, rfl⟩) g2, ⟨g3.1, fun s hs => ?_, g3.2.2⟩, g4⟩
    · obtain ⟨b1, b2, b3, b4, b5, b6⟩ := g1.2 s hs
      refine ⟨b1, b2, b3, ?_, b5, b6⟩
      show va_up (x.2.1 8) r h s ≤ 3
      rw [vup_if]
      split
      · exact hh
      · exact b4
    · obtain ⟨b1, b2, b3, b4, b5, b6⟩ := g3.2.1 s hs
      refine ⟨b1, b2, ?_, b4, b5, b6⟩
      show va_up (x.2.1 8) r h s = va_up (m.2.1 6) r h s
      rw [vup_if, vup_if]
      split
      · rfl
      · exact b3
theorem mk_bit {k s : Nat} (hs : s < 32) : ((1 * 2 ^ k) ^^^ 4294967295).testBit s = !decide (s = k) := by
  rw [Nat.testBit_xor, Nat.one_mul, Nat.testBit_two_pow, show (4294967295 : Nat) = 2 ^ 32 - 1 from rfl, Nat.testBit_two_pow_sub_one, decide_eq_true hs]
  by_cases e : s = k
  · rw [decide_eq_true e, decide_eq_true e.symm]; rfl
  · rw [decide_eq_false e, decide_eq_false (fun q => e q.symm)]; rfl
theorem j_bar {x m : ST} {r s b : Nat} (J : JV x m) (hr : r < x.1 3) (hs : s < x.1 3) (hb : b ≤ 1) : JV (FG (sA x 9 r (if b = 0 then x.2.1 9 r &&& ((1 * 2 ^ s) ^^^ 4294967295) else x.2.1 9 r ||| (1 * 2 ^ s)))) (CHm (sA (sS m 5 0) 11 (r * 16 + s) b)) := by
  obtain ⟨g1, g2, g3, g4⟩ := J.2.2.2.2.2.2.1
  have hR : x.1 3 ≤ 16 := g1.1
  have hx := J.1.1 9 r
  have hv : (if b = 0 then x.2.1 9 r &&& ((1 * 2 ^ s) ^^^ 4294967295) else x.2.1 9 r ||| (1 * 2 ^ s)) < 4294967296 := by
    split
    · exact Nat.lt_of_le_of_lt Nat.and_le_left hx
    · refine Nat.or_lt_two_pow (n := 32) hx ?_
      rw [Nat.one_mul]
      exact Nat.pow_lt_pow_right (by decide) (by omega)
  have hbit : ∀ t, t < 16 → (if b = 0 then x.2.1 9 r &&& ((1 * 2 ^ s) ^^^ 4294967295) else x.2.1 9 r ||| (1 * 2 ^ s)).testBit t = if t = s then decide (b ≠ 0) else (x.2.1 9 r).testBit t := by
    intro t ht
    by_cases hb0 : b = 0
    · rw [if_pos hb0, Nat.testBit_and, mk_bit (by omega)]
      by_cases e : t = s
      · rw [if_pos e, decide_eq_true e, hb0]; simp
      · rw [if_neg e, decide_eq_false e]; simp
    · rw [if_neg hb0, Nat.testBit_or, Nat.one_mul, Nat.testBit_two_pow]
      by_cases e : t = s
      · rw [if_pos e, decide_eq_true e.symm, decide_eq_true hb0]; simp
      · rw [if_neg e, decide_eq_false (fun q => e q.symm)]; simp
  have key : ∀ r', r' < 16 → ∀ t, t < 16 → ((va_up (x.2.1 9) r (if b = 0 then x.2.1 9 r &&& ((1 * 2 ^ s) ^^^ 4294967295) else x.2.1 9 r ||| (1 * 2 ^ s))) r').testBit t = (if r' = r ∧ t = s then decide (b ≠ 0) else (x.2.1 9 r').testBit t) ∧ va_up (m.2.1 11) (r * 16 + s) b (r' * 16 + t) = if r' = r ∧ t = s then b else m.2.1 11 (r' * 16 + t) := by
    intro r' hr' t ht
    rw [vup_if, vup_if]
    constructor
    · by_cases e : r' = r
      · rw [if_pos e, hbit t ht]
        by_cases e2 : t = s
        · rw [if_pos e2, if_pos ⟨e, e2⟩]
        · rw [if_neg e2, if_neg (fun q => e2 q.2), e]
      · rw [if_neg e, if_neg (fun q => e q.1)]
    · by_cases e : r' = r ∧ t = s
      · rw [if_pos e, if_pos (by omega)]
      · rw [if_neg e, if_neg (by omega)]
  refine j_ch J (FG.wf (J.1.sA 9 r hv)) (CHm.wf ((J.2.1.sS 5 (by decide)).sA 11 _ (by omega))) (fun k hk => ?_) rfl rfl (fun k hk => ?_) (fun k hk => ?_) rfl rfl (fun k hk => ?_) ?_
  · rcases mem3 hk with rfl | rfl <;> rfl
  · exact vup_ne _ _ (fun q => by subst q; exact absurd hk (by decide))
  · rcases mem4 hk with rfl | rfl | rfl | rfl <;> rfl
  · exact vup_ne _ _ (fun q => by subst q; exact absurd hk (by decide))
  · refine ⟨⟨g1.1, g1.2⟩, acy_sub (g := gP x) (Nat.le_refl _) (fun s _ => ⟨rfl, rfl⟩) g2, ⟨g3.1, fun r' hr' => ?_, g3.2.2⟩, fun r' hr' t ht hz => ?_⟩
    · obtain ⟨b1, b2, b3, b4, b5, b6⟩ := g3.2.1 r' hr'
      refine ⟨b1, b2, b3, b4, b5, fun t ht => ?_⟩
      have hr2 : r' < x.1 3 := hr'
      have ht2 : t < x.1 3 := ht
      obtain ⟨k1, k2⟩ := key r' (by omega) t (by omega)
      refine k1.trans ?_
      show _ = decide (va_up (m.2.1 11) (r * 16 + s) b (r' * 16 + t) ≠ 0)
      rw [k2]
      by_cases e : r' = r ∧ t = s
      · rw [if_pos e, if_pos e]
      · rw [if_neg e, if_neg e]; exact b6 t ht
    · obtain ⟨k1, k2⟩ := key r' hr' t ht
      have hz : x.1 3 ≤ r' ∨ x.1 3 ≤ t := hz
      have e : ¬ (r' = r ∧ t = s) := by omega
      rw [if_neg e] at k1 k2
      obtain ⟨z1, z2⟩ := g4 r' hr' t ht hz
      exact ⟨k1.trans z1, k2.trans z2⟩
theorem gfP (u : ST) (n d : Nat) : gf (gP u) n d = decide (u.2.1 10 (n * 94 + d - 33) ≠ 0) := rfl
theorem gfM (u : ST) (n d : Nat) : gf (gM u) n d = decide (u.2.1 12 (n * 127 + d) ≠ 0) := rfl
theorem gr_f {x m u n : ST} (h : GR x m) (h1 : u.1 3 = x.1 3) (h2 : u.2.2.1 7 = x.2.2.1 7) (h3 : ∀ k, k ∈ [4, 5, 6, 8, 9] → u.2.1 k = x.2.1 k) (k1 : n.1 0 = m.1 0) (k2 : n.2.2.1 9 = m.2.2.1 9) (k3 : ∀ k, k ∈ [3, 4, 5, 6, 11] → n.2.1 k = m.2.1 k) (hf : ∀ a, a < 6 → ∀ d, 33 ≤ d → d ≤ 126 → gf (gP u) a d = gf (gM n) a d) : GR u n := by
  obtain ⟨g1, g2, g3, g4⟩ := h
  have eR : gR (gP u) = gR (gP x) := h1
  have eL : ∀ r, gl (gP u) r = gl (gP x) r := fun r => congrFun (h3 4 (by decide)) r
  have eZ : ∀ r, gz (gP u) r = gz (gP x) r := fun r => congrFun (h3 5 (by decide)) r
  have eM : ∀ r, gm (gP u) r = gm (gP x) r := fun r => congrFun (h3 8 (by decide)) r
  have eS : ∀ r k, gs (gP u) r k = gs (gP x) r k := fun r k => congrFun (h3 6 (by decide)) _
  have eW : ∀ r, gw (gP u) r = gw (gP x) r := fun r => congrFun h2 r
  have eB : ∀ r t, gb (gP u) r t = gb (gP x) r t := fun r t => by
    show (u.2.1 9 r).testBit t = (x.2.1 9 r).testBit t
    rw [h3 9 (by decide)]
  have fR : gR (gM n) = gR (gM m) := k1
  have fL : ∀ r, gl (gM n) r = gl (gM m) r := fun r => congrFun (k3 3 (by decide)) r
  have fZ : ∀ r, gz (gM n) r = gz (gM m) r := fun r => congrFun (k3 4 (by decide)) r
  have fM : ∀ r, gm (gM n) r = gm (gM m) r := fun r => congrFun (k3 6 (by decide)) r
  have fS : ∀ r k, gs (gM n) r k = gs (gM m) r k := fun r k => congrFun (k3 5 (by decide)) _
  have fW : ∀ r, gw (gM n) r = gw (gM m) r := fun r => congrFun k2 r
  have fB : ∀ r t, gb (gM n) r t = gb (gM m) r t := fun r t => by
    show decide (n.2.1 11 (r * 16 + t) ≠ 0) = decide (m.2.1 11 (r * 16 + t) ≠ 0)
    rw [k3 11 (by decide)]
  refine ⟨⟨by rw [eR]; exact g1.1, fun r hr => ?_⟩, acy_sub (g := gP x) (Nat.le_of_eq eR) (fun r _ => ⟨eL r, ?_⟩) g2, ⟨by rw [eR, fR]; exact g3.1, fun r hr => ?_, hf⟩, fun r hr s hs hz => ?_⟩
  · rw [eR] at hr
    rw [eL, eZ, eM, eW]
    obtain ⟨b1, b2, b3, b4, b5, b6⟩ := g1.2 r hr
    exact ⟨b1, b2, b3, b4, b5, fun k hk => by rw [eS]; exact b6 k hk⟩
  · unfold chn
    rw [eZ, eS]
  · rw [eR] at hr
    obtain ⟨b1, b2, b3, b4, b5, b6⟩ := g3.2.1 r hr
    rw [eL, eZ, eM, eW, fL, fZ, fM, fW, eR]
    exact ⟨b1, b2, b3, b4, fun k hk => by rw [eS, fS]; exact b5 k hk, fun t ht => by rw [eB, fB]; exact b6 t ht⟩
  · rw [h1] at hz
    rw [h3 9 (by decide), k3 11 (by decide)]
    exact g4 r hr s hs hz
theorem j_follow {x m : ST} {a c b : Nat} (J : JV x m) (ha : a < 6) (hc : 33 ≤ c ∧ c ≤ 126) (hb : b ≤ 1) : JV (FG (sA x 10 (a * 94 + c - 33) (1 - b))) (CHm (sA (sS m 5 0) 12 (a * 127 + c) (1 - b))) := by
  have hv : 1 - b < 4294967296 := by omega
  have g3 := J.2.2.2.2.2.2.1.2.2.1.2.2
  obtain ⟨i, hi⟩ : ∃ i, i = a * 94 + c - 33 := ⟨_, rfl⟩
  obtain ⟨k0, hk0⟩ : ∃ i, i = a * 127 + c := ⟨_, rfl⟩
  obtain ⟨v, hv2⟩ : ∃ v, v = 1 - b := ⟨_, rfl⟩
  rw [← hi, ← hk0, ← hv2]
  rw [← hv2] at hv
  have hf : ∀ n, n < 6 → ∀ d, 33 ≤ d → d ≤ 126 → gf (gP (FG (sA x 10 i v))) n d = gf (gM (CHm (sA (sS m 5 0) 12 k0 v))) n d := by
    intro n hn d h1 h2
    have q := g3 n hn d h1 h2
    rw [gfP, gfM] at q ⊢
    rw [show (FG (sA x 10 i v)).2.1 10 = va_up (x.2.1 10) i v from vup_eq x.2.1 10 _, show (CHm (sA (sS m 5 0) 12 k0 v)).2.1 12 = va_up (m.2.1 12) k0 v from vup_eq m.2.1 12 _, vup_if, vup_if]
    by_cases e : n = a ∧ d = c
    · rw [if_pos (by rw [hi, e.1, e.2]), if_pos (by rw [hk0, e.1, e.2])]
    · rw [if_neg (by omega), if_neg (by omega)]
      exact q
  clear hi hk0 hv2
  refine j_ch J (FG.wf (J.1.sA 10 _ hv)) (CHm.wf ((J.2.1.sS 5 (by decide)).sA 12 _ hv)) (fun k hk => ?_) rfl rfl (fun k hk => ?_) (fun k hk => ?_) rfl rfl (fun k hk => ?_) ?_
  · rcases mem3 hk with rfl | rfl <;> rfl
  · exact vup_ne _ _ (fun q => by subst q; exact absurd hk (by decide))
  · rcases mem4 hk with rfl | rfl | rfl | rfl <;> rfl
  · exact vup_ne _ _ (fun q => by subst q; exact absurd hk (by decide))
  · exact gr_f J.2.2.2.2.2.2.1 rfl rfl (fun k hk => vup_ne _ _ (fun q => by subst q; exact absurd hk (by decide))) rfl rfl (fun k hk => vup_ne _ _ (fun q => by subst q; exact absurd hk (by decide))) hf
theorem j_undo {x m v n : ST} (J : JV x m) (h0 : x.1 3 ≠ 0) (hv : REM x v) (hn : UNm m n) : JV (FG v) n ∧ n.1 5 = 0 := by
  obtain ⟨v1, v2, v3, v4, v5⟩ := hv
  obtain ⟨n1, n2, n3, n4, n5⟩ := hn
  obtain ⟨g1, g2, g3, g4⟩ := J.2.2.2.2.2.2.1
  have hR : x.1 3 ≤ 16 := g1.1
  have hm0 : m.1 0 = x.1 3 := g3.1.symm
  have hs1 : ∀ k, v.1 k = if k = 3 then x.1 3 - 1 else x.1 k := fun k => by rw [v2]; rfl
  refine ⟨?_, (n5 5).trans rfl⟩
  have eP : gR (gP (FG v)) = x.1 3 - 1 := hs1 3
  have eL : ∀ r, gl (gP (FG v)) r = gl (gP x) r := fun r => congrFun (v3 4 (by decide)) r
  have eZ : ∀ r, gz (gP (FG v)) r = gz (gP x) r := fun r => congrFun (v3 5 (by decide)) r
  have eM : ∀ r, gm (gP (FG v)) r = gm (gP x) r := fun r => congrFun (v3 8 (by decide)) r
  have eS : ∀ r k, gs (gP (FG v)) r k = gs (gP x) r k := fun r k => congrFun (v3 6 (by decide)) _
  have eW : ∀ r, gw (gP (FG v)) r = gw (gP x) r := fun r => by show v.2.2.1 7 r = x.2.2.1 7 r; rw [v4]
  have eF : ∀ a c, gf (gP (FG v)) a c = gf (gP x) a c := fun a c => by show decide (v.2.1 10 _ ≠ 0) = decide (x.2.1 10 _ ≠ 0); rw [v3 10 (by decide)]
  have fL : ∀ r, gl (gM n) r = gl (gM m) r := fun r => congrFun (n1 3 (by decide)) r
  have fZ : ∀ r, gz (gM n) r = gz (gM m) r := fun r => congrFun (n1 4 (by decide)) r
  have fM : ∀ r, gm (gM n) r = gm (gM m) r := fun r => congrFun (n1 6 (by decide)) r
  have fS : ∀ r k, gs (gM n) r k = gs (gM m) r k := fun r k => congrFun (n1 5 (by decide)) _
  have fW : ∀ r, gw (gM n) r = gw (gM m) r := fun r => by show n.2.2.1 9 r = m.2.2.1 9 r; rw [n2]
  have fF : ∀ a c, gf (gM n) a c = gf (gM m) a c := fun a c => by show decide (n.2.1 12 _ ≠ 0) = decide (m.2.1 12 _ ≠ 0); rw [n1 12 (by decide)]
  have fR : gR (gM n) = x.1 3 - 1 := by
    show n.1 0 = _
    rw [n5, if_pos rfl, hm0]
  have key : ∀ r, r < 16 → ∀ s, s < 16 → (v.2.1 9 r).testBit s = (if r = x.1 3 - 1 ∨ (s = x.1 3 - 1 ∧ r < x.1 3 - 1) then false else (x.2.1 9 r).testBit s) ∧ n.2.1 11 (r * 16 + s) = (if r = x.1 3 - 1 ∨ s = x.1 3 - 1 then 0 else m.2.1 11 (r * 16 + s)) := by
    intro r hr s hs
    constructor
    · rw [v5]
      by_cases e1 : r < x.1 3 - 1
      · rw [if_pos e1, Nat.testBit_and, mk_bit (by omega)]
        by_cases e2 : s = x.1 3 - 1
        · rw [decide_eq_true e2, if_pos (Or.inr ⟨e2, e1⟩)]; simp
        · rw [decide_eq_false e2, if_neg (by omega)]; simp
      · rw [if_neg e1]
        by_cases e2 : r = x.1 3 - 1
        · rw [if_pos e2, if_pos (Or.inl e2)]; exact Nat.zero_testBit _
        · rw [if_neg e2, if_neg (by omega)]
    · rw [n3 _ (by omega)]
      unfold UNb
      rw [show (r * 16 + s) / 16 = r by omega, show (r * 16 + s) % 16 = s by omega, hm0]
      by_cases e : r = x.1 3 - 1 ∨ s = x.1 3 - 1
      · rw [if_pos e, if_pos (by omega)]
      · rw [if_neg e, if_neg (by omega)]
  refine j_ch J (FG.wf v1) n4 (fun k hk => ?_) rfl rfl (fun k hk => v3 k (fun q => by subst q; exact absurd hk (by decide))) (fun k hk => ?_) ((n5 6).trans rfl) ((n5 7).trans rfl) (fun k hk => n1 k (fun q => by subst q; exact absurd hk (by decide))) ?_
  · rcases mem3 hk with rfl | rfl
    · exact (hs1 0).trans rfl
    · exact (hs1 2).trans rfl
  · rw [n5]
    rcases mem4 hk with rfl | rfl | rfl | rfl <;> rfl
  · refine ⟨⟨by rw [eP]; omega, fun r hr => ?_⟩, ?_, ⟨eP.trans fR.symm, fun r hr => ?_, fun a ha c h1 h2 => ?_⟩, fun r hr s hs hz => ?_⟩
    · rw [eP] at hr
      rw [eL, eZ, eM, eW]
      obtain ⟨b1, b2, b3, b4, b5, b6⟩ := g1.2 r (show r < x.1 3 by omega)
      exact ⟨b1, b2, b3, b4, b5, fun k hk => by rw [eS]; exact b6 k hk⟩
    · refine acy_sub (g := gP x) (by rw [eP]; show x.1 3 - 1 ≤ x.1 3; omega) (fun r _ => ⟨eL r, ?_⟩) g2
      unfold chn
      rw [eZ, eS]
    · rw [eP] at hr
      obtain ⟨b1, b2, b3, b4, b5, b6⟩ := g3.2.1 r (show r < x.1 3 by omega)
      rw [eL, eZ, eM, eW, fL, fZ, fM, fW, eP]
      refine ⟨b1, b2, b3, b4, fun k hk => by rw [eS, fS]; exact b5 k hk, fun s hs => ?_⟩
      obtain ⟨k1, k2⟩ := key r (by omega) s (by omega)
      rw [if_neg (by omega)] at k1 k2
      show (v.2.1 9 r).testBit s = decide (n.2.1 11 (r * 16 + s) ≠ 0)
      rw [k1, k2]
      exact b6 s (show s < x.1 3 by omega)
    · rw [eF, fF]
      exact g3.2.2 a ha c h1 h2
    · have hz : v.1 3 ≤ r ∨ v.1 3 ≤ s := hz
      rw [hs1 3, if_pos rfl] at hz
      obtain ⟨k1, k2⟩ := key r hr s hs
      show (v.2.1 9 r).testBit s = false ∧ _
      rw [k1, k2]
      by_cases e : x.1 3 ≤ r ∨ x.1 3 ≤ s
      · obtain ⟨z1, z2⟩ := g4 r hr s hs e
        rw [z1, z2]
        exact ⟨by split <;> rfl, by split <;> rfl⟩
      · rw [if_pos (show r = x.1 3 - 1 ∨ (s = x.1 3 - 1 ∧ r < x.1 3 - 1) by omega), if_pos (show r = x.1 3 - 1 ∨ s = x.1 3 - 1 by omega)]
        exact ⟨rfl, rfl⟩
theorem j_add {x m v n : ST} {w : UInt64} (J : JV x m) (hw : rokB w = true) (hR : x.1 3 < 16) (hp : wpf (x.1 2) (x.2.1 2) = 4294967295) (hl : wlr x = false) (hv : ADD x w v) (hn : ADm m w n) : JV (FG (sS v 2 0)) n ∧ n.1 5 = 0 := by
  obtain ⟨v1, v2, v3, v4, v5, v6, v7, v8, v9⟩ := hv
  obtain ⟨n1, n2, n3, n4, n5, n6, n7, n8, n9⟩ := hn
  obtain ⟨a1, a2, a3, a4, a5, a6, ⟨g1, g2, g3, g4⟩, a8⟩ := J
  obtain ⟨r1, r2, r3, r4, r5, r6⟩ := rl_txt a5.1 hp
  have hm0 : m.1 0 = x.1 3 := g3.1.symm
  have hs1 : ∀ k, v.1 k = if k = 3 then x.1 3 + 1 else x.1 k := fun k => by rw [v2]; rfl
  have eP : gR (gP (FG (sS v 2 0))) = x.1 3 + 1 := hs1 3
  have fR : gR (gM n) = x.1 3 + 1 := by
    show n.1 0 = _
    rw [n9, if_pos rfl, hm0]
  have eF : ∀ a c, gf (gP (FG (sS v 2 0))) a c = gf (gP x) a c := fun a c => by show decide (v.2.1 10 _ ≠ 0) = decide (x.2.1 10 _ ≠ 0); rw [v6 10 (by decide)]
  have fF : ∀ a c, gf (gM n) a c = gf (gM m) a c := fun a c => by show decide (n.2.1 12 _ ≠ 0) = decide (m.2.1 12 _ ≠ 0); rw [n4 12 (by decide)]
  have eB : ∀ r s, gb (gP (FG (sS v 2 0))) r s = gb (gP x) r s := fun r s => by show (v.2.1 9 r).testBit s = (x.2.1 9 r).testBit s; rw [v6 9 (by decide)]
  have fB : ∀ r s, gb (gM n) r s = gb (gM m) r s := fun r s => by show decide (n.2.1 11 _ ≠ 0) = decide (m.2.1 11 _ ≠ 0); rw [n4 11 (by decide)]
  have old : ∀ r, r < x.1 3 → (gl (gP (FG (sS v 2 0))) r = gl (gP x) r ∧ gz (gP (FG (sS v 2 0))) r = gz (gP x) r ∧ gm (gP (FG (sS v 2 0))) r = gm (gP x) r ∧ gw (gP (FG (sS v 2 0))) r = gw (gP x) r ∧ ∀ k, k < 4 → gs (gP (FG (sS v 2 0))) r k = gs (gP x) r k) ∧ (gl (gM n) r = gl (gM m) r ∧ gz (gM n) r = gz (gM m) r ∧ gm (gM n) r = gm (gM m) r ∧ gw (gM n) r = gw (gM m) r ∧ ∀ k, k < 4 → gs (gM n) r k = gs (gM m) r k) := by
    intro r hr
    have hne : r ≠ x.1 3 := by omega
    have hne2 : r ≠ m.1 0 := by omega
    refine ⟨⟨?_, ?_, ?_, ?_, fun k hk => ?_⟩, ?_, ?_, ?_, ?_, fun k hk => ?_⟩
    · show v.2.1 4 r = _
      rw [v3]; exact vup_ne _ _ hne
    · show v.2.1 5 r = _
      rw [v4]; exact vup_ne _ _ hne
    · show v.2.1 8 r = _
      rw [v5]; exact vup_ne _ _ hne
    · show v.2.2.1 7 r = _
      rw [v8, vup_eq]; exact vup_ne _ _ hne
    · show v.2.1 6 (r * 4 + k) = _
      rw [v7, if_neg (by omega)]; rfl
    · show n.2.1 3 r = _
      rw [n1]; exact vup_ne _ _ hne2
    · show n.2.1 4 r = _
      rw [n2]; exact vup_ne _ _ hne2
    · show n.2.1 6 r = _
      rw [n3]; exact vup_ne _ _ hne2
    · show n.2.2.1 9 r = _
      rw [n6, vup_eq]; exact vup_ne _ _ hne2
    · show n.2.1 5 (r * 4 + k) = _
      rw [n5, if_neg (by omega)]; rfl
  have nL : gl (gP (FG (sS v 2 0))) (x.1 3) = x.2.1 2 0 - 65 := by
    show v.2.1 4 (x.1 3) = _
    rw [v3, vup_eq, r5, ntM_some ⟨r3, r4⟩]; rfl
  have nZ : gz (gP (FG (sS v 2 0))) (x.1 3) = x.1 2 - 2 := by
    show v.2.1 5 (x.1 3) = _
    rw [v4, vup_eq]
  have nM : gm (gP (FG (sS v 2 0))) (x.1 3) = 0 := by
    show v.2.1 8 (x.1 3) = _
    rw [v5, vup_eq]
  have nW : gw (gP (FG (sS v 2 0))) (x.1 3) = w := by
    show v.2.2.1 7 (x.1 3) = _
    rw [v8, vup_eq, vup_eq]
  have nS : ∀ k, k < x.1 2 - 2 → gs (gP (FG (sS v 2 0))) (x.1 3) k = x.2.1 2 (k + 2) := fun k hk => by
    show v.2.1 6 (x.1 3 * 4 + k) = _
    rw [v7, if_pos (by omega), show x.1 3 * 4 + k - x.1 3 * 4 + 2 = k + 2 by omega]
    exact r6 k hk
  have oL : gl (gM n) (x.1 3) = x.2.1 2 0 - 65 := by
    show n.2.1 3 (x.1 3) = _
    rw [n1, ← hm0, vup_eq, a5.2.2 0 (by omega)]
  have oZ : gz (gM n) (x.1 3) = x.1 2 - 2 := by
    show n.2.1 4 (x.1 3) = _
    rw [n2, ← hm0, vup_eq, a5.2.1]
  have oM : gm (gM n) (x.1 3) = 0 := by
    show n.2.1 6 (x.1 3) = _
    rw [n3, ← hm0, vup_eq]
  have oW : gw (gM n) (x.1 3) = w := by
    show n.2.2.1 9 (x.1 3) = _
    rw [n6, ← hm0, vup_eq, vup_eq]
  have oS : ∀ k, k < x.1 2 - 2 → gs (gM n) (x.1 3) k = x.2.1 2 (k + 2) := fun k hk => by
    show n.2.1 5 (x.1 3 * 4 + k) = _
    rw [n5, hm0, a5.2.1, if_pos (by omega), show x.1 3 * 4 + k - x.1 3 * 4 + 2 = k + 2 by omega]
    exact a5.2.2 (k + 2) (by omega)
  refine ⟨⟨FG.wf (v1.sS 2 (by decide)), n8, a3.cg (v6 15 (by decide)) (v6 12 (by decide)), ⟨by rw [n4 14 (by decide)]; exact a4.1, by rw [n9]; exact a4.2.1, by rw [n9]; exact a4.2.2⟩, TX.nil rfl ((n9 1).trans rfl), ?_, ⟨⟨by rw [eP]; omega, fun r hr => ?_⟩, ?_, ⟨eP.trans fR.symm, fun r hr => ?_, fun a ha c h1 h2 => by rw [eF, fF]; exact g3.2.2 a ha c h1 h2⟩, fun r hr s hs hz => ?_⟩, PRS.no ((n9 6).trans rfl) ((n9 7).trans rfl) rfl rfl⟩, (n9 5).trans rfl⟩
  · rw [n9]
    show m.1 2 = v.1 0
    rw [hs1 0]
    exact a6
  · rw [eP] at hr
    by_cases e : r = x.1 3
    · subst e
      rw [nL, nZ, nM, nW]
      exact ⟨by omega, by omega, by omega, by omega, rokB_E hw, fun k hk => by rw [nS k hk]; exact a5.1.2 (k + 2) (by omega)⟩
    · obtain ⟨⟨e1, e2, e3, e4, e5⟩, -⟩ := old r (by omega)
      obtain ⟨b1, b2, b3, b4, b5, b6⟩ := g1.2 r (show r < x.1 3 by omega)
      rw [e1, e2, e3, e4]
      exact ⟨b1, b2, b3, b4, b5, fun k hk => by rw [e5 k (by omega)]; exact b6 k hk⟩
  · refine acy_add (g := gP x) eP (fun r hr => ?_) (fun c hc => ?_) (by show gl (gP (FG (sS v 2 0))) (x.1 3) < 6; rw [nL]; omega) g2
    · obtain ⟨⟨e1, e2, e3, e4, e5⟩, -⟩ := old r hr
      refine ⟨e1, ?_⟩
      unfold chn
      rw [e2, e5 0 (by decide)]
    · have hc : chn (gP (FG (sS v 2 0))) (x.1 3) = some c := hc
      show (rch (gP x) c).testBit (gl (gP (FG (sS v 2 0))) (x.1 3)) = false
      rw [nL]
      unfold chn at hc
      rw [nZ] at hc
      split at hc
      · rename_i e
        rw [nS 0 (by omega)] at hc
        have e2 := r6 0 (by omega)
        rw [Nat.zero_add] at e2 hc
        unfold wlr at hl
        rw [r5, e2, ntM_some ⟨r3, r4⟩, hc, decide_eq_true (show x.1 2 = 3 by omega)] at hl
        exact hl
      · cases hc
  · rw [eP] at hr
    by_cases e : r = x.1 3
    · subst e
      rw [nL, nZ, nM, nW, oL, oZ, oM, oW, eP]
      refine ⟨rfl, rfl, rfl, rfl, fun k hk => by rw [nS k hk, oS k hk], fun s hs => ?_⟩
      rw [eB, fB]
      obtain ⟨z1, z2⟩ := g4 (x.1 3) hR s (by omega) (Or.inl (Nat.le_refl _))
      exact z1.trans (decide_eq_false (fun q => q z2)).symm
    · obtain ⟨⟨e1, e2, e3, e4, e5⟩, f1, f2, f3, f4, f5⟩ := old r (by omega)
      obtain ⟨b1, b2, b3, b4, b5, b6⟩ := g3.2.1 r (show r < x.1 3 by omega)
      have hz := g1.2 r (show r < x.1 3 by omega)
      rw [e1, e2, e3, e4, f1, f2, f3, f4, eP]
      refine ⟨b1, b2, b3, b4, fun k hk => by rw [e5 k (by omega), f5 k (by omega)]; exact b5 k hk, fun s hs => ?_⟩
      rw [eB, fB]
      by_cases q : s = x.1 3
      · subst q
        obtain ⟨z1, z2⟩ := g4 r (by omega) (x.1 3) hR (Or.inr (Nat.le_refl _))
        exact z1.trans (decide_eq_false (fun q => q z2)).symm
      · exact b6 s (show s < x.1 3 by omega)
  · have hz : v.1 3 ≤ r ∨ v.1 3 ≤ s := hz
    rw [hs1 3, if_pos rfl] at hz
    obtain ⟨z1, z2⟩ := g4 r hr s hs (by omega)
    exact ⟨by show (v.2.1 9 r).testBit s = false; rw [v6 9 (by decide)]; exact z1, by rw [n4 11 (by decide)]; exact z2⟩
-- parse
theorem tst_ne {kd : Nd → List Nd} {root : Nd} : ∀ m, (tst kd root (m + 1)).1 ≠ []
  | 0 => by simp [tst]
  | m + 1 => by
    have ih := tst_ne (kd := kd) (root := root) m
    rw [tst]
    cases h : (tst kd root (m + 1)).2 with
    | nil => dsimp only; exact ih
    | cons e t => dsimp only; simp
theorem j_p0 {x m u n : ST} (J : JV x m) (h0 : 0 < x.1 2) (hu : PS0 x u) (hn : PM0 m n) (h4 : n.1 4 ≤ 400) (hf : (n.1 7 = 0 ∧ u.1 4 = 0) ∨ PF u n) : JV u n := by
  obtain ⟨a1, a2, a3, a4, a5, a6, a7, a8⟩ := J
  obtain ⟨p1, p2, p3, p4, p5, p6, p7, p8, p9⟩ := hu
  obtain ⟨q1, q2, q3, q4, q5, q6, q7, q8, q9, q10, q11⟩ := hn
  have hN : x.1 2 ≤ 14 := a5.1.1
  have X : CEq (x.1 2) (x.2.1 2) (n.2.1 2) := fun q hq => ⟨by rw [q10 q (by rw [a5.2.1]; exact hq)]; exact (a5.2.2 q hq).symm, a5.1.2 q hq⟩
  refine ⟨p1, q1, p2, ⟨q2, by rw [q6, a5.2.1]; exact hN, h4⟩, TX.nil p5 q4, by rw [q5, p3]; exact a6, a7.cg p6 (p8 7 (by decide)) (fun k hk => p7 k (fun z => by
      simp only [List.mem_cons, List.not_mem_nil, or_false] at hk z
      omega)) q3 (q9 9 (by decide)) (fun k hk => q8 k (fun z => by
      simp only [List.mem_cons, List.not_mem_nil, or_false] at hk z
      omega)), Or.inr ⟨q7, by rw [p4, q6, a5.2.1], by rw [p4]; exact hN, fun r hr i j hij hj => ?_, hf⟩⟩
  rw [p6] at hr
  rw [p4] at hj
  have e1 := ((p9 i j hij hj (by omega)).1 r hr).1
  have hr2 : r < gR (gM m) := by rw [← a7.2.2.1.1]; exact hr
  have e2 := ((q11 i j hij (by rw [a5.2.1]; exact hj) (by omega)).1 r hr2).1
  rw [e1, e2, a5.2.1]
  exact (ge_sol a7.2.2.1 X a7.1 hN hr hij hj).1
theorem j_p1 {x m u n : ST} {c : Nat} (J : JV x m) (h0 : 0 < x.1 2) (hu : PS0 x u) (hn : PM0 m n) (hu1 : PS1 x u c) (hn1 : PM1 m n c) (h7 : n.1 7 = 1) : PF u n := by
  obtain ⟨a1, a2, a3, a4, a5, a6, a7, a8⟩ := J
  have hN : x.1 2 ≤ 14 := a5.1.1
  have q10 := hn.2.2.2.2.2.2.2.2.2.1
  have X : CEq (x.1 2) (x.2.1 2) (n.2.1 2) := fun q hq => ⟨by rw [q10 q (by rw [a5.2.1]; exact hq)]; exact (a5.2.2 q hq).symm, a5.1.2 q hq⟩
  obtain ⟨r, t1, t2, m1, t3, t4⟩ := hu1
  obtain ⟨r', s1, s2, m2, s3, s4⟩ := hn1
  rw [a5.2.1] at s1 s2 s3 s4
  have hrr : r = r' := Option.some.inj ((t1.symm.trans (ge_top a7.2.2.1 X a7.1 hN h0 c)).trans s1)
  subst hrr
  obtain ⟨b1, b2, b3⟩ := tp_some t1
  have hv : Vd (gP x) (x.1 2) (x.2.1 2) (r, 0, x.1 2) := ⟨b1, h0, Nat.le_refl _, b3⟩
  have T := hts_of a7.1 a7.2.1
  have hL : (tst (kids (gM m) (x.1 2) (n.2.1 2)) (r, 0, x.1 2) m2).1 = (tst (kids (gP x) (x.1 2) (x.2.1 2)) (r, 0, x.1 2) m1).1 := by
    rw [← ge_tst a7.2.2.1 X a7.1 a7.2.1 hN hv m2] at s3 ⊢
    exact tst_one s3 t3
  rw [hL] at s4
  have ti := TI_at (ht := hgt (gP x)) a7.1 T (show x.1 2 < 15 by omega) hv m1
  have hne : (tst (kids (gP x) (x.1 2) (x.2.1 2)) (r, 0, x.1 2) m1).1 ≠ [] := by
    cases m1 with
    | zero => exact absurd t3 (by simp [tst])
    | succ m1 => exact tst_ne m1
  generalize (tst (kids (gP x) (x.1 2) (x.2.1 2)) (r, 0, x.1 2) m1).1 = Ls at *
  obtain ⟨u1, u2⟩ := t4
  obtain ⟨v1, v2⟩ := s4
  have hlen : Ls.length ≤ 162 := by have := ti.2.2.1; omega
  have hat : ∀ k, k < Ls.length → u.2.1 20 k = n.2.1 15 k ∧ u.2.1 21 k = n.2.1 16 k ∧ u.2.1 22 k = n.2.1 17 k := fun k hk => by
    have e := Option.some.inj ((u2 k hk).symm.trans (v2 k hk).1)
    exact ⟨congrArg Prod.fst e, congrArg (fun q : Nd => q.2.1) e, congrArg (fun q : Nd => q.2.2) e⟩
  have hbd : ∀ k, k < Ls.length → u.2.1 21 k ≤ 14 ∧ u.2.1 22 k ≤ 14 := fun k hk => by
    have q := ti.2.1 _ (List.mem_of_getElem? (u2 k hk))
    have q1 := q.2.1
    have q2 := q.2.2.1
    dsimp only at q1 q2
    omega
  have hmono : ∀ p q, p < q → q < Ls.length → u.2.1 21 p ≤ u.2.1 21 q := fun p q h1 h2 => pw_get ti.2.2.2.2.1 (u2 p (by omega)) (u2 q h2) h1
  refine ⟨h7, u1.trans v1.symm, by rw [u1]; exact fun q => hne (List.eq_nil_of_length_eq_zero q), by rw [u1]; exact hlen, ?_, ?_, fun k hk => ?_⟩
  · rw [t2, s2]
    exact (ge_sol a7.2.2.1 X a7.1 hN b1 h0 (Nat.le_refl _)).2
  · rw [t2]
    obtain ⟨Lw, e, -⟩ := sol_posA a7.1 T b1 h0 (show x.1 2 < 15 by omega) b3
    exact ⟨Lw, e⟩
  · rw [u1] at hk
    obtain ⟨e1, e2, e3⟩ := hat k hk
    obtain ⟨e4, e5⟩ := hbd k hk
    refine ⟨e1, e2, e3, e4, e5, ?_⟩
    unfold ndv
    rw [if_neg (by decide), if_neg (by decide), if_neg (by decide), u1, nbl_blc (en := u.2.1 22) hmono 162 (k + 1) (Nat.le_refl _) (by omega) (by omega) (fun p h1 h2 => by omega), (v2 k hk).2, blc_congr e3 _ (fun q hq => (hat q hq).2.1)]
    omega

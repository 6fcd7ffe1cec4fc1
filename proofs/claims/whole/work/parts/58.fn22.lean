/-! THE COUPLING of the class's state x and the reference's state m -/
def BZ (x m : ST) : Prop := ∀ r, r < 16 → ∀ s, s < 16 → x.1 3 ≤ r ∨ x.1 3 ≤ s → (x.2.1 9 r).testBit s = false ∧ m.2.1 11 (r * 16 + s) = 0
def GR (x m : ST) : Prop := GOk (gP x) ∧ Acy (gP x) ∧ GEq (gP x) (gM m) ∧ BZ x m
def TX (x m : ST) : Prop := TXT x ∧ m.1 1 = x.1 2 ∧ ∀ q, q < x.1 2 → m.2.1 1 q = x.2.1 2 q
def PF (x m : ST) : Prop := m.1 7 = 1 ∧ x.1 4 = m.1 4 ∧ x.1 4 ≠ 0 ∧ x.1 4 ≤ 162 ∧ x.2.2.2 = m.2.2.2 ∧ (∃ L : Int, fp_E x.2.2.2 L) ∧ ∀ k, k < x.1 4 → x.2.1 20 k = m.2.1 15 k ∧ x.2.1 21 k = m.2.1 16 k ∧ x.2.1 22 k = m.2.1 17 k ∧ x.2.1 21 k ≤ 14 ∧ x.2.1 22 k ≤ 14 ∧ ndv x k 3 = m.2.1 19 k
def PRS (x m : ST) : Prop := (m.1 6 = 0 ∧ m.1 7 = 0 ∧ x.1 1 = 0 ∧ x.1 4 = 0) ∨ (m.1 6 = 1 ∧ x.1 1 = m.1 3 ∧ x.1 1 ≤ 14 ∧ (∀ r, r < x.1 3 → ∀ i j, i < j → j ≤ x.1 1 → x.2.1 12 (r * 105 + spn i j) = wM m r i j) ∧ ((m.1 7 = 0 ∧ x.1 4 = 0) ∨ PF x m))
def MB (m : ST) : Prop := (∀ q, m.2.1 14 q ≤ 1000000000) ∧ m.1 3 ≤ 14 ∧ m.1 4 ≤ 400
def JV (x m : ST) : Prop := WF x ∧ WF m ∧ UB x ∧ MB m ∧ TX x m ∧ m.1 2 = x.1 0 ∧ GR x m ∧ PRS x m
theorem gPx_same {x y : ST} (h1 : y.1 3 = x.1 3) (h2 : y.2.2.1 7 = x.2.2.1 7) (h3 : ∀ k, k ∈ [4, 5, 6, 8, 9, 10] → y.2.1 k = x.2.1 k) : gP y = gP x := by
  unfold gP
  rw [h1, h2, h3 4 (by decide), h3 5 (by decide), h3 6 (by decide), h3 8 (by decide), h3 9 (by decide), h3 10 (by decide)]
theorem GR.cg {x m u n : ST} (h : GR x m) (h1 : u.1 3 = x.1 3) (h2 : u.2.2.1 7 = x.2.2.1 7) (h3 : ∀ k, k ∈ [4, 5, 6, 8, 9, 10] → u.2.1 k = x.2.1 k) (k1 : n.1 0 = m.1 0) (k2 : n.2.2.1 9 = m.2.2.1 9) (k3 : ∀ k, k ∈ [3, 4, 5, 6, 11, 12] → n.2.1 k = m.2.1 k) : GR u n := by
  unfold GR BZ
  rw [gPx_same h1 h2 h3, gM_same k1 k2 k3, h1, h3 9 (by decide), k3 11 (by decide)]
  exact h
theorem PRS.cg {x m u n : ST} (h : PRS x m) (h1 : ∀ k, k ∈ [1, 3, 4] → u.1 k = x.1 k) (h2 : ∀ k, k ∈ [12, 20, 21, 22] → u.2.1 k = x.2.1 k) (h3 : u.2.2.2 = x.2.2.2) (k1 : ∀ k, k ∈ [3, 4, 6, 7] → n.1 k = m.1 k) (k2 : ∀ k, k ∈ [14, 15, 16, 17, 19] → n.2.1 k = m.2.1 k) (k3 : n.2.2.2 = m.2.2.2) : PRS u n := by
  unfold PRS PF ndv wM
  rw [h1 1 (by decide), h1 3 (by decide), h1 4 (by decide), h2 12 (by decide), h2 20 (by decide), h2 21 (by decide), h2 22 (by decide), h3, k1 3 (by decide), k1 4 (by decide), k1 6 (by decide), k1 7 (by decide), k2 14 (by decide), k2 15 (by decide), k2 16 (by decide), k2 17 (by decide), k2 19 (by decide), k3]
  exact h
theorem TX.cg {x m u n : ST} (h : TX x m) (h1 : u.1 2 = x.1 2) (h2 : u.2.1 2 = x.2.1 2) (k1 : n.1 1 = m.1 1) (k2 : n.2.1 1 = m.2.1 1) : TX u n := by
  unfold TX TXT
  rw [h1, h2, k1, k2]
  exact h
theorem TX.nil {u n : ST} (h1 : u.1 2 = 0) (k1 : n.1 1 = 0) : TX u n := by
  unfold TX TXT
  rw [h1, k1]
  exact ⟨⟨by omega, fun k hk => absurd hk (Nat.not_lt_zero _)⟩, rfl, fun k hk => absurd hk (Nat.not_lt_zero _)⟩
theorem UB.cg {x u : ST} (h : UB x) (h1 : u.2.1 15 = x.2.1 15) (h2 : u.2.1 12 = x.2.1 12) : UB u := by
  unfold UB
  rw [h1, h2]
  exact h
/-- nothing but what the reference threw -/
theorem j_5 {x m : ST} (h : JV x m) (v : Nat) (hv : v < 4294967296) : JV x (sS m 5 v) := by
  obtain ⟨a1, a2, a3, a4, a5, a6, a7, a8⟩ := h
  refine ⟨a1, a2.sS 5 hv, a3, a4, a5.cg rfl rfl rfl rfl, a6, a7.cg rfl rfl (fun _ _ => rfl) rfl rfl (fun _ _ => rfl), a8.cg (fun _ _ => rfl) (fun _ _ => rfl) rfl (fun k hk => ?_) (fun _ _ => rfl) rfl⟩
  show va_up m.1 5 v k = _
  exact vup_ne _ _ (fun q => by subst q; exact absurd hk (by decide))
-- type
theorem tok_mono {e : Nat} (h : tok e 8 = true) {t : Nat} (ht : t ≤ 8) : tok e t = true := by
  cases q : tok e t with
  | true => rfl
  | false =>
    have := tok_down e (8 - t) t q
    rw [show t + (8 - t) = 8 by omega, h] at this
    cases this
theorem tok_at {e t : Nat} (h : tok e (t + 1) = true) (h0 : byt e t ≠ 0) : 33 ≤ byt e t ∧ byt e t ≤ 126 := by
  simp only [tok, Bool.and_eq_true, Bool.or_eq_true, decide_eq_true_eq] at h
  omega
theorem ap_fr {e : Nat} {x m : ST} (T : TX x m) (hk : tok e 8 = true) (hr : x.1 2 + tcn e 8 ≤ 14) : ∀ t, t ≤ 8 → ((∀ k, k ≠ 2 → (apS e x t).1 k = x.1 k) ∧ (∀ k, k ≠ 2 → (apS e x t).2.1 k = x.2.1 k) ∧ (apS e x t).2.2 = x.2.2) ∧ ((∀ k, k ≠ 1 → (apM e m t).1 k = m.1 k) ∧ (∀ k, k ≠ 1 → (apM e m t).2.1 k = m.2.1 k) ∧ (apM e m t).2.2 = m.2.2) ∧ TX (apS e x t) (apM e m t) ∧ (WF x → WF (apS e x t)) ∧ (WF m → WF (apM e m t))
  | 0, _ => ⟨⟨fun _ _ => rfl, fun _ _ => rfl, rfl⟩, ⟨fun _ _ => rfl, fun _ _ => rfl, rfl⟩, T, id, id⟩
  | t + 1, ht => by
    obtain ⟨⟨a1, a2, a3⟩, ⟨b1, b2, b3⟩, c, w1, w2⟩ := ap_fr T hk hr t (by omega)
    by_cases h : byt e t = 0
    · rw [apS_0 h, apM_0 h]
      exact ⟨⟨a1, a2, a3⟩, ⟨b1, b2, b3⟩, c, w1, w2⟩
    · have hb := tok_at (tok_mono hk ht) h
      have hrm := apS_room (x := x) (by omega) h hr
      rw [apS_1 h, apM_1 h]
      obtain ⟨⟨c1', c2⟩, c3, c4⟩ := c
      refine ⟨⟨fun k hk => ?_, fun k hk => ?_, a3⟩, ⟨fun k hk => ?_, fun k hk => ?_, b3⟩, ⟨⟨?_, fun k hk => ?_⟩, ?_, fun q hq => ?_⟩, fun w => ((w1 w).sA _ _ (by omega)).sS _ (by omega), fun w => ((w2 w).sA _ _ (by omega)).sS _ (by omega)⟩
      · exact (vup_ne _ _ hk).trans (a1 k hk)
      · exact (vup_ne _ _ hk).trans (a2 k hk)
      · exact (vup_ne _ _ hk).trans (b1 k hk)
      · exact (vup_ne _ _ hk).trans (b2 k hk)
      · show (apS e x t).1 2 + 1 ≤ 14
        omega
      · have hk : k < (apS e x t).1 2 + 1 := hk
        show 33 ≤ (sA (apS e x t) 2 ((apS e x t).1 2) (byt e t)).2.1 2 k ∧ (sA (apS e x t) 2 ((apS e x t).1 2) (byt e t)).2.1 2 k ≤ 126
        by_cases q : k = (apS e x t).1 2
        · rw [q, sA_same]; exact hb
        · rw [sA_at _ _ _ q]; exact c2 k (by omega)
      · show (apM e m t).1 1 + 1 = (apS e x t).1 2 + 1
        rw [c3]
      · have hq : q < (apS e x t).1 2 + 1 := hq
        show (sA (apM e m t) 1 ((apM e m t).1 1) (byt e t)).2.1 1 q = (sA (apS e x t) 2 ((apS e x t).1 2) (byt e t)).2.1 2 q
        rw [c3]
        by_cases z : q = (apS e x t).1 2
        · rw [z, sA_same, sA_same]
        · rw [sA_at _ _ _ z, sA_at _ _ _ z]; exact c4 q (by omega)
theorem j_type {e : Nat} {x m : ST} (h : JV x m) (hk : tok e 8 = true) (hr : x.1 2 + tcn e 8 ≤ 14) : JV (apS e x 8) (apM e (sS m 5 0) 8) ∧ (apM e (sS m 5 0) 8).1 5 = 0 ∧ (apM e (sS m 5 0) 8).1 1 = (apS e x 8).1 2 := by
  obtain ⟨a1, a2, a3, a4, a5, a6, a7, a8⟩ := j_5 h 0 (by decide)
  obtain ⟨⟨c1', c2, c3⟩, ⟨d1, d2, d3⟩, T, w1, w2⟩ := ap_fr a5 hk hr 8 (Nat.le_refl _)
  refine ⟨⟨w1 a1, w2 a2, a3.cg (c2 15 (by decide)) (c2 12 (by decide)), ⟨by rw [d2 14 (by decide)]; exact a4.1, by rw [d1 3 (by decide)]; exact a4.2.1, by rw [d1 4 (by decide)]; exact a4.2.2⟩, T, ?_, a7.cg (c1' 3 (by decide)) (by rw [c3]) (fun k hk => c2 k (fun q => by subst q; exact absurd hk (by decide))) (d1 0 (by decide)) (by rw [d3]) (fun k hk => d2 k (fun q => by subst q; exact absurd hk (by decide))), a8.cg (fun k hk => c1' k (fun q => by subst q; exact absurd hk (by decide))) (fun k hk => c2 k (fun q => by subst q; exact absurd hk (by decide))) (by rw [c3]) (fun k hk => d1 k (fun q => by subst q; exact absurd hk (by decide))) (fun k hk => d2 k (fun q => by subst q; exact absurd hk (by decide))) (by rw [d3])⟩, ?_, T.2.1⟩
  · rw [d1 2 (by decide), c1' 0 (by decide)]; exact a6
  · rw [d1 5 (by decide)]; rfl
-- rule: what fails
theorem j_rl {x m n : ST} {p t : Nat} (h : JV x m) (hp : p < 4294967296) (ht : t < 4294967296) (e2 : n.2 = m.2) (e1 : ∀ k, n.1 k = if k = 1 then 0 else if k = 2 then p else if k = 5 then t else m.1 k) : JV (sS (sS x 0 p) 2 0) n := by
  obtain ⟨a1, a2, a3, a4, a5, a6, a7, a8⟩ := h
  refine ⟨(a1.sS 0 hp).sS 2 (by decide), ⟨fun k i => by rw [e2]; exact a2.1 k i, fun k => ?_⟩, a3, ⟨by rw [e2]; exact a4.1, by rw [e1]; exact a4.2.1, by rw [e1]; exact a4.2.2⟩, TX.nil rfl ((e1 1).trans rfl), (e1 2).trans rfl, a7.cg rfl rfl (fun _ _ => rfl) ((e1 0).trans rfl) (by rw [e2]) (fun k _ => by rw [e2]), a8.cg (fun k hk => ?_) (fun _ _ => rfl) rfl (fun k hk => ?_) (fun k _ => by rw [e2]) (by rw [e2])⟩
  · rw [e1]
    have := a2.2 k
    split
    · decide
    · split
      · exact hp
      · split
        · exact ht
        · exact this
  · simp only [List.mem_cons, List.not_mem_nil, or_false] at hk
    show va_up (va_up x.1 0 p) 2 0 k = _
    rw [vup_ne _ _ (by omega), vup_ne _ _ (by omega)]
  · simp only [List.mem_cons, List.not_mem_nil, or_false] at hk
    rw [e1, if_neg (by omega), if_neg (by omega), if_neg (by omega)]
theorem sS_id (x : ST) (k : Nat) : sS x k (x.1 k) = x := by
  unfold sS
  rw [show va_up x.1 k (x.1 k) = x.1 from funext (fun j => by unfold va_up; split <;> simp_all)]
theorem j_rm {x m n : ST} {t : Nat} (h : JV x m) (ht : t < 4294967296) (e : MST m n t) : JV (sS x 2 0) n := by
  have q := j_rl (n := n) (p := x.1 0) h (h.1.2 0) ht e.1 (fun k => by
    rw [e.2 k]
    by_cases h1 : k = 1
    · rw [if_pos h1, if_pos h1]
    · rw [if_neg h1, if_neg h1]
      by_cases h2 : k = 2
      · subst h2
        rw [if_pos rfl, if_neg (by decide)]
        exact h.2.2.2.2.2.1
      · rw [if_neg h2])
  rwa [sS_id] at q
theorem wpf_32 {N : Nat} {c : Nat → Nat} (hN : N ≤ 14) : wpf N c < 4294967296 := by
  have hb : ∀ M p, fstBad c M = some p → p < M := by
    intro M
    induction M with
    | zero => intro p hp; cases hp
    | succ M ih =>
      intro p hp
      simp only [fstBad] at hp
      cases hq : fstBad c M with
      | some q => rw [hq] at hp; have hqp : q = p := Option.some.inj hp; have := ih q hq; omega
      | none =>
        rw [hq] at hp
        dsimp only at hp
        split at hp
        · cases hp
        · cases hp; omega
  unfold wpf
  cases hq : fstBad c N with
  | some q => have := hb N q hq; dsimp only; omega
  | none => dsimp only; split <;> omega
theorem wpf_cg {N : Nat} {c c' : Nat → Nat} (h : ∀ q, q < N → c q = c' q) : wpf N c = wpf N c' := by
  have hb : ∀ M, M ≤ N → fstBad c M = fstBad c' M := by
    intro M
    induction M with
    | zero => intro _; rfl
    | succ M ih =>
      intro hM
      simp only [fstBad]
      rw [ih (by omega), h M (by omega)]
  unfold wpf
  rw [hb N (Nat.le_refl _)]
theorem tx_wpf {x m : ST} (h : TX x m) : wpf (m.1 1) (m.2.1 1) = wpf (x.1 2) (x.2.1 2) := by
  rw [h.2.1]
  exact wpf_cg h.2.2
theorem rokB_E {w : UInt64} (h : rokB w = true) : ∃ L : Int, fp_E w L ∧ -3 ≤ L ∧ L ≤ 3 := by
  unfold rokB at h
  rw [Bool.and_eq_true] at h
  obtain ⟨h1, h2⟩ := h
  refine fp_weight ?_ ?_
  · split at h1
    · rename_i q; exact Or.inl q
    · rename_i q; exact Or.inr q
    · cases h1
  · split at h2
    · rename_i q; exact Or.inl q
    · rename_i q; exact Or.inr q
    · cases h2
/-- the text as a rule: what stands where -/
theorem rl_txt {x : ST} (ht : TXT x) (hp : wpf (x.1 2) (x.2.1 2) = 4294967295) : 3 ≤ x.1 2 ∧ x.1 2 ≤ 6 ∧ 65 ≤ x.2.1 2 0 ∧ x.2.1 2 0 ≤ 70 ∧ tAt x 0 = x.2.1 2 0 ∧ ∀ k, k < x.1 2 - 2 → tAt x (k + 2) = x.2.1 2 (k + 2) := by
  obtain ⟨h3, hf⟩ := wpf_3 hp (by have := ht.1; omega)
  have h6 := wp6 hf
  have h0 := hf 0 (by omega)
  rw [fit0, decide_eq_true_eq] at h0
  refine ⟨h3, h6, h0.1, h0.2, ?_, fun k hk => ?_⟩
  · unfold tAt; rw [if_pos (by omega)]
  · unfold tAt; rw [if_pos (by omega)]
theorem j_wl {x m : ST} (h : JV x m) (hp : wpf (x.1 2) (x.2.1 2) = 4294967295) : wlM m = wlr x := by
  obtain ⟨a1, a2, a3, a4, a5, a6, a7, a8⟩ := h
  obtain ⟨r1, r2, r3, r4, r5, r6⟩ := rl_txt a5.1 hp
  unfold wlM wlr
  rw [a5.2.1]
  by_cases e : x.1 2 = 3
  · have e2 := r6 0 (by omega)
    rw [Nat.zero_add] at e2
    rw [a5.2.2 2 (by omega), a5.2.2 0 (by omega), r5, e2, ntM_some ⟨r3, r4⟩]
    cases hn : nt (x.2.1 2 2) with
    | none => rfl
    | some c =>
      dsimp only
      rw [ge_rch a7.2.2.1 a7.1]
  · rw [decide_eq_false e]; rfl
/-- nothing parsed -/
theorem PRS.no {u n : ST} (h1 : n.1 6 = 0) (h2 : n.1 7 = 0) (h3 : u.1 1 = 0) (h4 : u.1 4 = 0) : PRS u n := Or.inl ⟨h1, h2, h3, h4⟩

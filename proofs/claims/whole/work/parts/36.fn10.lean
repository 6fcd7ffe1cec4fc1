set_option maxRecDepth 100000 in
theorem spn_inj0 : ∀ b, b < 15 → ∀ a, a < b → ∀ j, j < 15 → ∀ i, i < j → (spn a b != spn i j || (a == i && b == j)) = true := by decide +kernel
theorem spn_inj {a b i j : Nat} (hb : b ≤ 14) (hab : a < b) (hj : j ≤ 14) (hij : i < j) (h : spn a b = spn i j) : a = i ∧ b = j := by
  have h1 := spn_inj0 b (by omega) a hab j (by omega) i hij
  rw [h] at h1
  simpa using h1
/-- the chart may have changed over one span alone -/
def FR (i j : Nat) (x y : ST) : Prop := y.1 = x.1 ∧ (∀ k, k ∉ [12, 14, 15, 16, 18] → y.2.1 k = x.2.1 k) ∧ (∀ k, k ≠ 13 → y.2.2.1 k = x.2.2.1 k) ∧ y.2.2.2 = x.2.2.2 ∧ (∀ r q, r < 16 → q < 105 → q ≠ spn i j → y.2.1 12 (r * 105 + q) = x.2.1 12 (r * 105 + q) ∧ y.2.2.1 13 (r * 105 + q) = x.2.2.1 13 (r * 105 + q) ∧ y.2.1 14 (r * 105 + q) = x.2.1 14 (r * 105 + q)) ∧ (∀ r k q, r < 16 → k < 4 → q < 105 → q ≠ spn i j → y.2.1 15 ((r * 4 + k) * 105 + q) = x.2.1 15 ((r * 4 + k) * 105 + q) ∧ y.2.1 16 ((r * 4 + k) * 105 + q) = x.2.1 16 ((r * 4 + k) * 105 + q))
theorem FR.rf (i j : Nat) (x : ST) : FR i j x x := ⟨rfl, fun _ _ => rfl, fun _ _ => rfl, rfl, fun _ _ _ _ _ => ⟨rfl, rfl, rfl⟩, fun _ _ _ _ _ _ _ => ⟨rfl, rfl⟩⟩
theorem FR.trans {i j : Nat} {x y z : ST} (h : FR i j x y) (h2 : FR i j y z) : FR i j x z := by
  obtain ⟨a1, a2, a3, a4, a5, a6⟩ := h
  obtain ⟨b1, b2, b3, b4, b5, b6⟩ := h2
  refine ⟨b1.trans a1, fun k hk => (b2 k hk).trans (a2 k hk), fun k hk => (b3 k hk).trans (a3 k hk), b4.trans a4, fun r q h1 h2 h3 => ?_, fun r k q h1 h2 h3 h4 => ?_⟩
  · obtain ⟨c1, c2, c3⟩ := a5 r q h1 h2 h3
    obtain ⟨d1, d2, d3⟩ := b5 r q h1 h2 h3
    exact ⟨d1.trans c1, d2.trans c2, d3.trans c3⟩
  · obtain ⟨c1, c2⟩ := a6 r k q h1 h2 h3 h4
    obtain ⟨d1, d2⟩ := b6 r k q h1 h2 h3 h4
    exact ⟨d1.trans c1, d2.trans c2⟩
theorem FR.gP {i j : Nat} {x y : ST} (h : FR i j x y) : gP y = gP x := gP_same (by rw [h.1]) (h.2.2.1 7 (by decide)) (fun k hk => h.2.1 k (fun q => by
  simp only [List.mem_cons, List.not_mem_nil, or_false] at hk q
  omega))
theorem FR_der {x u : ST} {r i j : Nat} (hr : r < 16) (hs : spn i j < 105) (h : DER x r i j u) : FR i j x u := by
  obtain ⟨w, p, h9, d1, d2, d12, d14, d13, d4, -⟩ := h
  refine ⟨d1, fun k hk => d2 k (fun q => hk (by simp only [List.mem_cons, List.not_mem_nil, or_false] at q ⊢; omega)), fun k hk => by rw [d13, va_up_ne _ _ hk], d4, fun r' q h1 h2 h3 => ?_, fun r' k' q h1 h2 h3 h4 => ?_⟩
  · have hne : r' * 105 + q ≠ r * 105 + spn i j := by omega
    rw [d12, d13, d14, va_up_ne _ _ hne, va_up_self, va_up_ne _ _ hne, va_up_ne _ _ hne]
    exact ⟨rfl, rfl, rfl⟩
  · rw [d2 15 (by decide), d2 16 (by decide)]
    exact ⟨rfl, rfl⟩
theorem FR_tf {cn : Nat → Nat → Bool} {v w : Nat → Nat → Nat} {R : Nat} {gz : Nat → Nat} {i j : Nat} {x y : ST} {r k : Nat} (h : TF cn v w R gz (spn i j) x y r k) : FR i j x y := by
  obtain ⟨⟨h1, h2, h3⟩, h4⟩ := h
  refine ⟨h1, fun k hk => h3 k (fun q => hk (by simp only [List.mem_cons, List.not_mem_nil, or_false] at q ⊢; omega)), fun k _ => by rw [h2], by rw [h2], fun r' q _ _ _ => ?_, fun r' k' q a b c d => ?_⟩
  · rw [h3 12 (by decide), h3 14 (by decide), h2]
    exact ⟨rfl, rfl, rfl⟩
  · obtain ⟨e1, e2⟩ := h4 r' k' q a b c
    rw [e1, e2, if_neg (fun z => d z.2.2.2.1), if_neg (fun z => d z.2.2.2.1)]
    exact ⟨rfl, rfl⟩
/-- the chart is the solution's over all spans shorter than d -/
def CHT (g : GT) (N : Nat) (ch : Nat → Nat) (x : ST) (d : Nat) : Prop := ∀ a b, a < b → b ≤ N → b - a < d → (∀ r, r < gR g → ROK g N ch x r a b) ∧ (∀ r, r < gR g → ∀ k, k < gz g r → UOK g N ch x r k a b)
theorem FR_rok {g : GT} {N : Nat} {ch : Nat → Nat} {i j : Nat} {x y : ST} (h : FR i j x y) {r a b : Nat} (hr : r < 16) (hb : b ≤ 14) (hab : a < b) (hne : spn a b ≠ spn i j) (hx : ROK g N ch x r a b) : ROK g N ch y r a b := by
  obtain ⟨c1, c2, c3⟩ := h.2.2.2.2.1 r (spn a b) hr (spn_lt hab hb) hne
  exact ⟨c1.trans hx.1, c2.trans hx.2.1, c3.trans hx.2.2⟩
theorem FR_uok {g : GT} {N : Nat} {ch : Nat → Nat} {i j : Nat} {x y : ST} (h : FR i j x y) {r k a b : Nat} (hr : r < 16) (hk : k < 4) (hb : b ≤ 14) (hab : a < b) (hne : spn a b ≠ spn i j) (hx : UOK g N ch x r k a b) : UOK g N ch y r k a b := by
  obtain ⟨c1, c2⟩ := h.2.2.2.2.2 r k (spn a b) hr hk (spn_lt hab hb) hne
  exact ⟨c1.trans hx.1, c2.trans hx.2⟩
/-- over the span itself: the characters' uses; the rules and the uses of the nonterminals placed ahead -/
def FP3 (g : GT) (N : Nat) (ch : Nat → Nat) (y : ST) (i j : Nat) : Prop := ∀ r, r < gR g → ∀ k, k < gz g r → nt (gs g r k) = none → UOK g N ch y r k i j
def FP4 (g : GT) (N : Nat) (ch : Nat → Nat) (o : Nat → Nat) (y : ST) (i j p : Nat) : Prop := (∀ q, q < p → ∀ r, r < gR g → gl g r = o q → ROK g N ch y r i j) ∧ (∀ q, q < p → ∀ r, r < gR g → ∀ k, k < gz g r → nt (gs g r k) = some (o q) → UOK g N ch y r k i j)
theorem fs_inp {g : GT} {N : Nat} {ch : Nat → Nat} {o : Nat → Nat} {x y : ST} {i j p r : Nat} (G : GOk g) (A : Acy g) (O : ORD g o) (hN : N ≤ 14) (hij : i < j) (hj : j ≤ N) (hc : CHT g N ch x (j - i)) (hf : FR i j x y) (h3 : FP3 g N ch y i j) (h4 : FP4 g N ch o y i j p) (hp : p < 6) (hr : r < gR g) (hl : gl g r = o p) : INP g N ch y r i j := by
  intro k hk a b h1 h2 hb h5
  have hR := G.1
  have hz := (G.2 r hr).2.2.1
  rcases h5 with h5 | ⟨h5, rfl, rfl⟩
  · have hne : spn a b ≠ spn i j := fun e => by
      have := spn_inj (by omega) h2 (by omega) hij e
      omega
    obtain ⟨q1, q2⟩ := hc a b h2 (by omega) h5
    exact ⟨FR_uok hf (by omega) (by omega) (by omega) h2 hne (q2 r hr k hk), fun c _ s hs _ => FR_rok hf (by omega) (by omega) h2 hne (q1 s hs)⟩
  · have hk0 : k = 0 := by omega
    subst hk0
    cases hq : nt (gs g r 0) with
    | none => exact ⟨h3 r hr 0 hk hq, fun c hc => by cases hc⟩
    | some c =>
      have hch : chn g r = some c := by unfold chn; rw [if_pos h5]; exact hq
      have hl6 := (G.2 r hr).1
      have hcl := rch_closed (g := g) hl6 r hr c hch (rch_self g _)
      have hne : c ≠ o p := by
        intro e
        have h9 := A r hr c hch
        rw [hl, ← e, rch_self] at h9
        cases h9
      rw [hl] at hcl
      obtain ⟨q, q1, q2⟩ := O.2.2 p hp c hcl hne
      refine ⟨h4.2 q q1 r hr 0 hk (by rw [hq, q2]), fun c' hc' s hs hsl => ?_⟩
      cases hc'
      exact h4.1 q q1 s hs (by rw [hsl, q2])
theorem fs_chars {x u : ST} {i j : Nat} (hij : i < j) (hjl : j ≤ x.1 2) (hj : j ≤ 14) (G : GOk (gP x)) (h : TF (fun r k => (nt (x.2.1 6 (r * 4 + k))).isNone) (fun r k => if j = i + 1 ∧ stands (x.2.1 6 (r * 4 + k)) (tAt x i) = true then 1 else 0) (fun _ _ => 4294967295) (x.1 3) (fun r => x.2.1 5 r) (spn i j) x u (x.1 3) 0) : FP3 (gP x) (x.1 2) (x.2.1 2) u i j := by
  intro r hr k hk hn
  have hR : x.1 3 ≤ 16 := G.1
  have hr2 : r < x.1 3 := hr
  have hz : x.2.1 5 r ≤ 4 := (G.2 r hr).2.2.1
  have hk2 : k < x.2.1 5 r := hk
  have hn2 : nt (x.2.1 6 (r * 4 + k)) = none := hn
  obtain ⟨e1, e2⟩ := h.2 r k (spn i j) (by omega) (by omega) (spn_lt hij hj)
  have hc : r < x.1 3 ∧ k < x.2.1 5 r ∧ (nt (x.2.1 6 (r * 4 + k))).isNone = true ∧ spn i j = spn i j ∧ (r < x.1 3 ∨ (r = x.1 3 ∧ k < 0)) := ⟨hr2, hk2, by rw [hn2]; rfl, rfl, Or.inl hr2⟩
  rw [if_pos hc] at e1 e2
  have hta : tAt x i = x.2.1 2 i := by unfold tAt; rw [if_pos (by omega)]
  refine ⟨?_, ?_⟩
  · rw [e1]
    unfold syv
    rw [hn, hta]
    rfl
  · rw [e2]
    unfold tpg
    rw [hn]
    rfl
theorem DER_uok {g : GT} {N : Nat} {ch : Nat → Nat} {y u : ST} {r i j r' k' : Nat} (h : DER y r i j u) (hx : UOK g N ch y r' k' i j) : UOK g N ch u r' k' i j := by
  obtain ⟨w, p, h9, d1, d2, -⟩ := h
  unfold UOK
  rw [d2 15 (by decide), d2 16 (by decide)]
  exact hx
theorem DER_rok {g : GT} {N : Nat} {ch : Nat → Nat} {y u : ST} {r i j r' : Nat} (h : DER y r i j u) (hne : r' ≠ r) (hx : ROK g N ch y r' i j) : ROK g N ch u r' i j := by
  obtain ⟨w, p, h9, d1, d2, d12, d14, d13, -⟩ := h
  have e : r' * 105 + spn i j ≠ r * 105 + spn i j := by omega
  unfold ROK
  rw [d12, d13, d14, va_up_ne _ _ e, va_up_self, va_up_ne _ _ e, va_up_ne _ _ e]
  exact hx
theorem DER_ub {y u : ST} {r i j : Nat} (h : DER y r i j u) (hu : UB y) : UB u := by
  obtain ⟨w, p, h9, d1, d2, d12, d14, d13, -, -, hw, -⟩ := h
  refine ⟨fun q => by rw [d2 15 (by decide)]; exact hu.1 q, fun q => ?_⟩
  rw [d12]
  unfold va_up
  split
  · rw [hw]; exact aw_le _ _ _ _ _
  · exact hu.2 q
theorem fs_nt {x y u : ST} {i j p n b : Nat} {o : Nat → Nat} {ht : Nat → Nat} {N : Nat} {ch : Nat → Nat} (hN : N ≤ 14) (hij : i < j) (hj : j ≤ N) (G : GOk (gP y)) (T : Hts (gP y) ht) (hn : n = o p) (h3 : FP3 (gP y) N ch y i j) (h4 : FP4 (gP y) N ch o y i j p) (hR : ∀ s, s < gR (gP y) → gl (gP y) s = n → ROK (gP y) N ch y s i j) (hg : decide (b ≠ 0) = gd (gP y) N ch n j (fun s => sW (gP y) N ch s i j))
    (h : TF (fun r k => decide (nt (y.2.1 6 (r * 4 + k)) = some n)) (fun r k => wanB (selU (gP y) n (decide (b ≠ 0)) r k) (fun s => y.2.1 12 (s * 105 + spn i j)) 16) (fun r k => (hofB (selU (gP y) n (decide (b ≠ 0)) r k) (fun s => y.2.2.1 13 (s * 105 + spn i j)) 16).1) (y.1 3) (fun r => y.2.1 5 r) (spn i j) y u (y.1 3) 0) : FP3 (gP y) N ch u i j ∧ FP4 (gP y) N ch o u i j (p + 1) := by
  have hRR : y.1 3 ≤ 16 := G.1
  have rok : ∀ r, ROK (gP y) N ch y r i j → ROK (gP y) N ch u r i j := by
    intro r hr
    unfold ROK
    rw [h.1.2.2 12 (by decide), h.1.2.2 14 (by decide), h.1.2.1]
    exact hr
  have uok : ∀ r, r < gR (gP y) → ∀ k, k < gz (gP y) r → (nt (gs (gP y) r k) ≠ some n → UOK (gP y) N ch y r k i j → UOK (gP y) N ch u r k i j) ∧ (nt (gs (gP y) r k) = some n → UOK (gP y) N ch u r k i j) := by
    intro r hr k hk
    have hz : y.2.1 5 r ≤ 4 := (G.2 r hr).2.2.1
    have hr2 : r < y.1 3 := hr
    have hk2 : k < y.2.1 5 r := hk
    obtain ⟨e1, e2⟩ := h.2 r k (spn i j) (by omega) (by omega) (spn_lt hij (by omega))
    constructor
    · intro hne hx
      have hne : nt (y.2.1 6 (r * 4 + k)) ≠ some n := hne
      have hc : ¬ (r < y.1 3 ∧ k < y.2.1 5 r ∧ decide (nt (y.2.1 6 (r * 4 + k)) = some n) = true ∧ spn i j = spn i j ∧ (r < y.1 3 ∨ (r = y.1 3 ∧ k < 0))) := fun z => hne (by simpa using z.2.2.1)
      rw [if_neg hc] at e1 e2
      exact ⟨e1.trans hx.1, e2.trans hx.2⟩
    · intro he
      have he2 : nt (y.2.1 6 (r * 4 + k)) = some n := he
      have hc : r < y.1 3 ∧ k < y.2.1 5 r ∧ decide (nt (y.2.1 6 (r * 4 + k)) = some n) = true ∧ spn i j = spn i j ∧ (r < y.1 3 ∨ (r = y.1 3 ∧ k < 0)) := ⟨hr2, hk2, by rw [he2]; simp, rfl, Or.inl hr2⟩
      rw [if_pos hc] at e1 e2
      obtain ⟨s1, s2⟩ := sn_ok G T (by omega) hij hj hR hg he
      exact ⟨e1.trans s1, e2.trans s2⟩
  refine ⟨fun r hr k hk hq => (uok r hr k hk).1 (by rw [hq]; intro z; cases z) (h3 r hr k hk hq), fun q hq r hr hl => ?_, fun q hq r hr k hk hnt => ?_⟩
  · rcases (show q < p ∨ q = p by omega) with z | z
    · exact rok r (h4.1 q z r hr hl)
    · subst z
      exact rok r (hR r hr (by rw [hl, hn]))
  · by_cases he : nt (gs (gP y) r k) = some n
    · exact (uok r hr k hk).2 he
    · rcases (show q < p ∨ q = p by omega) with z | z
      · exact (uok r hr k hk).1 he (h4.2 q z r hr k hk hnt)
      · subst z
        exact absurd (by rw [hnt, hn]) he

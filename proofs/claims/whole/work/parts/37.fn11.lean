theorem gd_0 {y : ST} {N : Nat} {ch : Nat → Nat} {n j : Nat} {w : Nat → Nat} (h : ¬ nrej (gP y) n w (gR (gP y)) = true) : decide ((0 : Nat) ≠ 0) = gd (gP y) N ch n j w := by
  unfold gd
  rw [Bool.eq_false_iff.mpr h]
  rfl
theorem gd_e {y : ST} {N : Nat} {ch : Nat → Nat} {n j : Nat} {w : Nat → Nat} (h : nrej (gP y) n w (gR (gP y)) = true) (hj : j = N) : decide ((1 : Nat) ≠ 0) = gd (gP y) N ch n j w := by
  unfold gd
  rw [h, decide_eq_true hj]
  rfl
theorem gd_y {y : ST} {N : Nat} {ch : Nat → Nat} {n j : Nat} {w : Nat → Nat} (h : nrej (gP y) n w (gR (gP y)) = true) (hm : y.2.1 10 (n * 94 + ch j - 33) = 0) : decide ((1 : Nat) ≠ 0) = gd (gP y) N ch n j w := by
  have e : gf (gP y) n (ch j) = decide (y.2.1 10 (n * 94 + ch j - 33) ≠ 0) := rfl
  unfold gd
  rw [h, e, hm]
  simp
theorem gd_n {y : ST} {N : Nat} {ch : Nat → Nat} {n j : Nat} {w : Nat → Nat} (hj : j ≠ N) (hm : ¬ y.2.1 10 (n * 94 + ch j - 33) = 0) : decide ((0 : Nat) ≠ 0) = gd (gP y) N ch n j w := by
  have e : gf (gP y) n (ch j) = decide (y.2.1 10 (n * 94 + ch j - 33) ≠ 0) := rfl
  unfold gd
  rw [e, decide_eq_true hm, decide_eq_false hj]
  simp
theorem fs_uall {g : GT} {N : Nat} {ch : Nat → Nat} {o : Nat → Nat} {y : ST} {i j : Nat} (O : ORD g o) (h3 : FP3 g N ch y i j) (h4 : FP4 g N ch o y i j 6) : ∀ r, r < gR g → ∀ k, k < gz g r → UOK g N ch y r k i j := by
  intro r hr k hk
  cases hq : nt (gs g r k) with
  | none => exact h3 r hr k hk hq
  | some c =>
    obtain ⟨q, q1, q2⟩ := O.2.1 c (nt_lt hq)
    exact h4.2 q q1 r hr k hk (by rw [hq, q2])
/-- a parse has changed the chart alone -/
def FA (x y : ST) : Prop := y.1 = x.1 ∧ (∀ k, k ∉ [12, 14, 15, 16, 17, 18] → y.2.1 k = x.2.1 k) ∧ (∀ k, k ≠ 13 → y.2.2.1 k = x.2.2.1 k) ∧ y.2.2.2 = x.2.2.2
theorem FA.gP {x y : ST} (h : FA x y) : gP y = gP x := gP_same (by rw [h.1]) (h.2.2.1 7 (by decide)) (fun k hk => h.2.1 k (fun q => by
  simp only [List.mem_cons, List.not_mem_nil, or_false] at hk q
  omega))
theorem FA.of17 {x y : ST} (h : Only [17] x y) : FA x y := ⟨h.1, fun k hk => h.2.2 k (fun q => hk (by simp only [List.mem_cons, List.not_mem_nil, or_false] at q ⊢; omega)), fun k _ => by rw [h.2.1], by rw [h.2.1]⟩
theorem FA.tr {x y z : ST} {i j : Nat} (h : FA x y) (h2 : FR i j y z) : FA x z := ⟨h2.1.trans h.1, fun k hk => (h2.2.1 k (fun q => hk (by simp only [List.mem_cons, List.not_mem_nil, or_false] at q ⊢; omega))).trans (h.2.1 k hk), fun k hk => (h2.2.2.1 k hk).trans (h.2.2.1 k hk), h2.2.2.2.1.trans h.2.2.2⟩
theorem FA.txt {x y : ST} (h : FA x y) (ht : TXT x) : TXT y := by
  unfold TXT
  rw [h.1, h.2.1 2 (by decide)]
  exact ht
theorem UB_17 {x y : ST} (h : Only [17] x y) (hu : UB x) : UB y := by
  unfold UB
  rw [h.2.2 15 (by decide), h.2.2 12 (by decide)]
  exact hu
theorem cht_up {g : GT} {N : Nat} {ch : Nat → Nat} {y : ST} {d i : Nat} (hc : CHT g N ch y d) (hi : ∀ a, a < i → a + d ≤ N → (∀ r, r < gR g → ROK g N ch y r a (a + d)) ∧ (∀ r, r < gR g → ∀ k, k < gz g r → UOK g N ch y r k a (a + d))) (hN : N < i + d) : CHT g N ch y (d + 1) := by
  intro a b h1 h2 h3
  rcases (show b - a < d ∨ b - a = d by omega) with q | q
  · exact hc a b h1 h2 q
  · have e : b = a + d := by omega
    subst e
    exact hi a (by omega) h2
theorem cht_fr {g : GT} {N : Nat} {ch : Nat → Nat} {y u : ST} {d i : Nat} (G : GOk g) (hN : N ≤ 14) (hd : 1 ≤ d) (hi : i + d ≤ N) (hc : CHT g N ch y d) (hf : FR i (i + d) y u) : CHT g N ch u d := by
  intro a b h1 h2 h3
  have hne : spn a b ≠ spn i (i + d) := fun e => by
    have := spn_inj (by omega) h1 (by omega) (by omega) e
    omega
  obtain ⟨q1, q2⟩ := hc a b h1 h2 h3
  have hR := G.1
  exact ⟨fun r hr => FR_rok hf (by omega) (by omega) h1 hne (q1 r hr), fun r hr k hk => FR_uok hf (by omega) (by have := (G.2 r hr).2.2.1; omega) (by omega) h1 hne (q2 r hr k hk)⟩
theorem cht_in {g : GT} {N : Nat} {ch : Nat → Nat} {y u : ST} {d i : Nat} (G : GOk g) (hN : N ≤ 14) (hd : 1 ≤ d) (hiN : i + d ≤ N) (hi : ∀ a, a < i → a + d ≤ N → (∀ r, r < gR g → ROK g N ch y r a (a + d)) ∧ (∀ r, r < gR g → ∀ k, k < gz g r → UOK g N ch y r k a (a + d))) (hf : FR i (i + d) y u) (hr : ∀ r, r < gR g → ROK g N ch u r i (i + d)) (hk : ∀ r, r < gR g → ∀ k, k < gz g r → UOK g N ch u r k i (i + d)) : ∀ a, a < i + 1 → a + d ≤ N → (∀ r, r < gR g → ROK g N ch u r a (a + d)) ∧ (∀ r, r < gR g → ∀ k, k < gz g r → UOK g N ch u r k a (a + d)) := by
  intro a ha hN2
  have hR := G.1
  by_cases e : a = i
  · subst e
    exact ⟨hr, hk⟩
  · have hne : spn a (a + d) ≠ spn i (i + d) := fun z => by
      have := spn_inj (by omega) (by omega) (by omega) (by omega) z
      omega
    obtain ⟨q1, q2⟩ := hi a (by omega) hN2
    exact ⟨fun r hr2 => FR_rok hf (by omega) (by omega) (by omega) hne (q1 r hr2), fun r hr2 k hk2 => FR_uok hf (by omega) (by have := (G.2 r hr2).2.2.1; omega) (by omega) (by omega) hne (q2 r hr2 k hk2)⟩

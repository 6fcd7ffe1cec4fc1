theorem gP_same {x y : ST} (h1 : y.1 3 = x.1 3) (h2 : y.2.2.1 7 = x.2.2.1 7) (h3 : ∀ k, k ∈ [4, 5, 6, 8, 9, 10] → y.2.1 k = x.2.1 k) : gP y = gP x := by
  unfold gP
  rw [h1, h2, h3 4 (by decide), h3 5 (by decide), h3 6 (by decide), h3 8 (by decide), h3 9 (by decide), h3 10 (by decide)]
theorem gP_only {x y : ST} (h : Only [15, 16] x y) : gP y = gP x := gP_same (by rw [h.1]) (by rw [h.2.1]) (fun k hk => h.2.2 k (fun q => by
  simp only [List.mem_cons, List.not_mem_nil, or_false] at hk q
  omega))
theorem oN_is {c n : Nat} (hn : n < 6) (h : oN (nt c) = n) : decide (nt c = some n) = true := by
  cases q : nt c with
  | none => rw [q] at h; simp only [oN] at h; omega
  | some k => rw [q] at h; simp only [oN] at h; rw [h]; simp
theorem oN_isnt {c n : Nat} (h : oN (nt c) ≠ n) : decide (nt c = some n) = false := by
  cases q : nt c with
  | none => simp
  | some k => rw [q] at h; simp only [oN] at h; simp [h]
theorem wanB_le (b : Nat → Bool) (f : Nat → Nat) : ∀ r, wanB b f r ≤ 1000000000
  | 0 => by simp [wanB]
  | r + 1 => by
    have := wanB_le b f r
    simp only [wanB]
    split <;> omega

theorem need_0 {R n pl : Nat} (h : (R &&& ((1 * 2 ^ n) ^^^ 4294967295)) &&& (pl ^^^ 4294967295) = 0) : ∀ y, y < 32 → R.testBit y = true → y ≠ n → pl.testBit y = true := by
  intro y hy h1 h2
  have h3 := congrArg (fun z => Nat.testBit z y) h
  simp only [Nat.testBit_and, Nat.zero_testBit] at h3
  rw [xor_bit hy, xor_bit hy, Nat.one_mul, Nat.testBit_two_pow, h1] at h3
  have h4 : decide (n = y) = false := decide_eq_false (fun e => h2 e.symm)
  rw [h4] at h3
  cases q : pl.testBit y with
  | true => rfl
  | false => rw [q] at h3; cases h3
theorem need_n {R n pl : Nat} (hR : six R) (h : ∀ y, R.testBit y = true → y ≠ n → pl.testBit y = true) : (R &&& ((1 * 2 ^ n) ^^^ 4294967295)) &&& (pl ^^^ 4294967295) = 0 := by
  apply Nat.eq_of_testBit_eq
  intro y
  rw [Nat.zero_testBit, Nat.testBit_and, Nat.testBit_and]
  cases q : R.testBit y with
  | false => rfl
  | true =>
    have hy : y < 32 := by have := hR y q; omega
    rw [xor_bit hy, xor_bit hy, Nat.one_mul, Nat.testBit_two_pow]
    by_cases e : n = y
    · rw [decide_eq_true e]; rfl
    · rw [h y q (fun z => e z.symm)]; simp
theorem pop_put {f f' : Nat → Bool} {n : Nat} (hf : ∀ k, f' k = (f k || decide (n = k))) (hn : f n = false) : ∀ m, pop f' m = pop f m + (if n < m then 1 else 0)
  | 0 => by simp [pop]
  | m + 1 => by
    have ih := pop_put hf hn m
    simp only [pop]
    rw [ih, hf m]
    by_cases e : n = m
    · subst e
      rw [hn]
      simp
    · rw [decide_eq_false e, Bool.or_false]
      split <;> split <;> split <;> omega
/-- the order so far: who is placed, where, and that all that is reached stands ahead -/
def OI (g : GT) (pl c : Nat) (o : Nat → Nat) : Prop := six pl ∧ c = pop pl.testBit 6 ∧ (∀ q, q < c → o q < 6 ∧ pl.testBit (o q) = true) ∧ (∀ n, n < 6 → pl.testBit n = true → ∃ q, q < c ∧ o q = n) ∧ (∀ q, q < c → ∀ y, (rch g (o q)).testBit y = true → y ≠ o q → ∃ q', q' < q ∧ o q' = y)
theorem OI_0 (g : GT) (o : Nat → Nat) : OI g 0 0 o := by
  refine ⟨fun k hk => by simp at hk, by decide, fun q hq => by omega, fun n hn h => by simp at h, fun q hq => by omega⟩
theorem OI_lt {g : GT} {pl c n : Nat} {o : Nat → Nat} (h : OI g pl c o) (hn : n < 6) (hp : pl.testBit n = false) : c < 6 := by
  have h1 := pop_le pl.testBit 6
  rcases Nat.lt_or_ge c 6 with q | q
  · exact q
  · have := pop_full (f := pl.testBit) 6 (by have := h.2.1; omega) n hn
    rw [hp] at this
    cases this
theorem OI_put {g : GT} {pl c n : Nat} {o o' : Nat → Nat} (h : OI g pl c o) (hn : n < 6) (hp : pl.testBit n = false) (hr : ∀ y, y < 32 → (rch g n).testBit y = true → y ≠ n → pl.testBit y = true) (ho : ∀ q, q < c → o' q = o q) (hc : o' c = n) : OI g (pl ||| (1 * 2 ^ n)) (c + 1) o' := by
  obtain ⟨h1, h2, h3, h4, h5⟩ := h
  have hb : ∀ k, (pl ||| (1 * 2 ^ n)).testBit k = (pl.testBit k || decide (n = k)) := fun k => by rw [Nat.one_mul, tb_or]
  have hsix : six (pl ||| (1 * 2 ^ n)) := by
    intro k hk
    rw [hb k] at hk
    rcases Bool.or_eq_true _ _ |>.mp hk with q | q
    · exact h1 k q
    · have : n = k := by simpa using q
      omega
  refine ⟨hsix, ?_, fun q hq => ?_, fun m hm hpm => ?_, fun q hq y hy hne => ?_⟩
  · have := pop_put (f := pl.testBit) (f' := (pl ||| (1 * 2 ^ n)).testBit) hb hp 6
    rw [if_pos hn] at this
    omega
  · by_cases e : q = c
    · subst e
      rw [hc, hb]
      exact ⟨hn, by simp⟩
    · rw [ho q (by omega), hb]
      have := h3 q (by omega)
      exact ⟨this.1, by rw [this.2]; rfl⟩
  · rw [hb m] at hpm
    rcases Bool.or_eq_true _ _ |>.mp hpm with z | z
    · obtain ⟨q, q1, q2⟩ := h4 m hm z
      exact ⟨q, by omega, by rw [ho q q1]; exact q2⟩
    · have e : n = m := by simpa using z
      exact ⟨c, by omega, by rw [hc]; exact e⟩
  · by_cases e : q = c
    · subst e
      rw [hc] at hy hne
      have hy6 : y < 6 := rch_six hn y hy
      obtain ⟨q', z1, z2⟩ := h4 y hy6 (hr y (by omega) hy hne)
      exact ⟨q', z1, by rw [ho q' z1]; exact z2⟩
    · rw [ho q (by omega)] at hy hne
      obtain ⟨q', z1, z2⟩ := h5 q (by omega) y hy hne
      exact ⟨q', z1, by rw [ho q' (by omega)]; exact z2⟩
/-- the order, done -/
def ORD (g : GT) (o : Nat → Nat) : Prop := (∀ q, q < 6 → o q < 6) ∧ (∀ n, n < 6 → ∃ q, q < 6 ∧ o q = n) ∧ (∀ q, q < 6 → ∀ y, (rch g (o q)).testBit y = true → y ≠ o q → ∃ q', q' < q ∧ o q' = y)
theorem OI_end {g : GT} {pl c : Nat} {o : Nat → Nat} (h : OI g pl c o) (ha : ∀ n, n < 6 → pl.testBit n = true) : ORD g o := by
  obtain ⟨h1, h2, h3, h4, h5⟩ := h
  have hall := (pop_mono (f := fun _ => true) (f' := pl.testBit) 6 (fun k hk _ => ha k hk)).1
  have h6 : pop (fun _ => true) 6 = 6 := by decide
  have h7 := pop_le pl.testBit 6
  have hc : c = 6 := by omega
  subst hc
  exact ⟨fun q hq => (h3 q hq).1, fun n hn => h4 n hn (ha n hn), h5⟩
/-- a nonterminal as low as the round is placed when it is met -/
theorem OI_met {g : GT} (A : Acy g) {pl n t : Nat} (hn : n < 6) (hb : ∀ m, m < 6 → hgt g m < t → pl.testBit m = true) (hp : pl.testBit n = false) (hx : (rch g n &&& ((1 * 2 ^ n) ^^^ 4294967295)) &&& (pl ^^^ 4294967295) ≠ 0) : ¬ hgt g n ≤ t := by
  intro hle
  apply hx
  refine need_n (rch_six hn) (fun y hy hne => ?_)
  have := rch_low A hn hy hne
  exact hb y (rch_six hn y hy) (by omega)
theorem gP_o17 {x y : ST} (h : Only [17] x y) : gP y = gP x := gP_same (by rw [h.1]) (by rw [h.2.1]) (fun k hk => h.2.2 k (fun q => by
  simp only [List.mem_cons, List.not_mem_nil, or_false] at hk q
  omega))

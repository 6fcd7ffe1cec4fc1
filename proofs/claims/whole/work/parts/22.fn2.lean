theorem fitsB_z {p c : Nat} (h : p = 0) : fitsB p c = true ↔ oN (nt c) ≠ 4294967295 := by
  unfold fitsB
  rw [if_pos h]
  cases q : nt c with
  | none => simp [oN]
  | some k => have := nt_lt q; simp [oN]; omega
theorem fitsB_1 {p c : Nat} (h : p ≠ 0) (h1 : p = 1) : fitsB p c = true ↔ c = 58 := by
  unfold fitsB
  rw [if_neg h, if_pos h1]
  simp
theorem fitsB_ge {p c : Nat} (h : p ≠ 0) (h1 : p ≠ 1) : fitsB p c = true ↔ (p < 6 ∧ c ≠ 58 ∧ (c < 71 ∨ 90 < c)) := by
  unfold fitsB
  rw [if_neg h, if_neg h1]
  simp
theorem i01_t {b : Bool} (h : (if b = true then 1 else 0) ≠ (0 : Nat)) : b = true := by
  cases b
  · exact absurd rfl h
  · rfl
theorem i01_f {b : Bool} (h : (if b = true then 1 else 0) = (0 : Nat)) : b = false := by
  cases b
  · rfl
  · cases h
theorem i01_lt {P : Prop} {_ : Decidable P} : (if P then 1 else 0 : Nat) < 4294967296 := by
  split <;> decide
theorem i01_le {P : Prop} {_ : Decidable P} : (if P then 1 else 0 : Nat) ≤ 1 := by
  split <;> decide
theorem i01_eq {P : Prop} {_ : Decidable P} (h : (if P then 1 else 0 : Nat) = 0) : ¬ P := by
  intro q; rw [if_pos q] at h; cases h
theorem i01_ne {P : Prop} {_ : Decidable P} (h : (if P then 1 else 0 : Nat) ≠ 0) : P := by
  by_cases q : P
  · exact q
  · rw [if_neg q] at h; exact absurd rfl h
/-- the character of the text at a place, 0 behind it -/
def tAt (x : ST) (i : Nat) : Nat := if i < x.1 2 then x.2.1 2 i else 0
/-- the text's characters -/
def TXT (x : ST) : Prop := x.1 2 ≤ 14 ∧ ∀ k, k < x.1 2 → 33 ≤ x.2.1 2 k ∧ x.2.1 2 k ≤ 126
theorem tAt_lt {x : ST} (h : TXT x) (i : Nat) : tAt x i < 127 := by
  unfold tAt
  split
  · rename_i q; have := h.2 i q; omega
  · omega
theorem clR_no {g : GT} {r s : Nat} (h : (clR g r s).testBit (gl g r) = false ∨ (chn g r).isSome = false) : clR g (r + 1) s = clR g r s := by
  simp only [clR]
  cases q : chn g r with
  | none => rfl
  | some c =>
    dsimp only
    rcases h with h | h
    · rw [if_neg (by rw [h]; decide)]
    · rw [q] at h; cases h
theorem clR_yes {g : GT} {r s : Nat} (h : (clR g r s).testBit (gl g r) = true) (h2 : (chn g r).isSome = true) : ∃ c, chn g r = some c ∧ c < 6 ∧ nt (gs g r 0) = some c ∧ clR g (r + 1) s = clR g r s ||| 2 ^ c := by
  cases q : chn g r with
  | none => rw [q] at h2; cases h2
  | some c =>
    refine ⟨c, rfl, chn_lt q, ?_, ?_⟩
    · unfold chn at q
      split at q
      · exact q
      · cases q
    · simp only [clR, q]
      rw [if_pos h]
def wlr (x : ST) : Bool := decide (x.1 2 = 3) && (match nt (tAt x 0), nt (tAt x 2) with
  | some a, some b => (rch (gP x) b).testBit a
  | _, _ => false)
/-- the rules of n that reject (b = 1) or don't (b = 0), as bits -/
def rmk (g : GT) (n b : Nat) : Nat → Nat
  | 0 => 0
  | r + 1 => if gl g r = n ∧ (if gm g r = 1 then 1 else 0) = b then rmk g n b r ||| (1 * 2 ^ r) else rmk g n b r
theorem rmk_bit {g : GT} {n b : Nat} : ∀ m s, (rmk g n b m).testBit s = decide (s < m ∧ gl g s = n ∧ (if gm g s = 1 then 1 else 0) = b)
  | 0, s => by simp [rmk]
  | m + 1, s => by
    have ih := rmk_bit (g := g) (n := n) (b := b) m s
    simp only [rmk]
    by_cases hc : gl g m = n ∧ (if gm g m = 1 then 1 else 0) = b
    · rw [if_pos hc, Nat.one_mul, tb_or, ih]
      by_cases hs : m = s
      · subst hs
        simp [hc]
      · have e : (s < m + 1) ↔ s < m := by omega
        simp [hs, e]
    · rw [if_neg hc, ih]
      by_cases hs : m = s
      · subst hs
        simp [hc]
      · have e : (s < m + 1) ↔ s < m := by omega
        simp [e]
theorem rmk_lt {g : GT} {n b : Nat} {m : Nat} (h : m ≤ 16) : rmk g n b m < 65536 := Nat.lt_pow_two_of_testBit (n := 16) _ (fun i hi => by
  rw [rmk_bit]
  simp
  omega)
theorem xor_bit {a i : Nat} (h : i < 32) : (a ^^^ 4294967295).testBit i = !a.testBit i := by
  rw [Nat.testBit_xor]
  have : (4294967295 : Nat).testBit i = true := by
    rw [show (4294967295 : Nat) = 2 ^ 32 - 1 by decide, Nat.testBit_two_pow_sub_one]
    simp [h]
  rw [this]
  simp

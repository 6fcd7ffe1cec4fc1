theorem au_0 {x : ST} {r k m : Nat} (hl : ¬ ((x.2.1 8 r = 2 ∧ k + 1 = x.2.1 5 r) ∨ (x.2.1 8 r = 3 ∧ k = 0))) : ∀ s, s < 16 → (m &&& (x.2.1 9 r ^^^ 4294967295)).testBit s = (m.testBit s && alw (gP x) r k s) := by
  intro s hs
  have e : alw (gP x) r k s = (!((x.2.1 9 r).testBit s) && !(decide (r = s) && (decide (x.2.1 8 r = 2 ∧ k + 1 = x.2.1 5 r) || decide (x.2.1 8 r = 3 ∧ k = 0)))) := rfl
  have h1 : decide (x.2.1 8 r = 2 ∧ k + 1 = x.2.1 5 r) = false := decide_eq_false (fun q => hl (Or.inl q))
  have h2 : decide (x.2.1 8 r = 3 ∧ k = 0) = false := decide_eq_false (fun q => hl (Or.inr q))
  rw [Nat.testBit_and, xor_bit (by omega), e, h1, h2]
  simp
theorem au_1 {x : ST} {r k m : Nat} (hr : r < 16) (hl : (x.2.1 8 r = 2 ∧ k + 1 = x.2.1 5 r) ∨ (x.2.1 8 r = 3 ∧ k = 0)) : ∀ s, s < 16 → ((m &&& (x.2.1 9 r ^^^ 4294967295)) &&& ((1 * 2 ^ r) ^^^ 4294967295)).testBit s = (m.testBit s && alw (gP x) r k s) := by
  intro s hs
  have e : alw (gP x) r k s = (!((x.2.1 9 r).testBit s) && !(decide (r = s) && (decide (x.2.1 8 r = 2 ∧ k + 1 = x.2.1 5 r) || decide (x.2.1 8 r = 3 ∧ k = 0)))) := rfl
  have h1 : (decide (x.2.1 8 r = 2 ∧ k + 1 = x.2.1 5 r) || decide (x.2.1 8 r = 3 ∧ k = 0)) = true := by
    rcases hl with h | h
    · rw [decide_eq_true h]; rfl
    · rw [decide_eq_true h, Bool.or_true]
  rw [Nat.testBit_and, Nat.testBit_and, xor_bit (by omega), xor_bit (by omega), Nat.one_mul, Nat.testBit_two_pow, e, h1, Bool.and_true, Bool.and_assoc]
/-- rows of uses filled one behind another: those of which cn holds -/
def TF (cn : Nat → Nat → Bool) (v w : Nat → Nat → Nat) (R : Nat) (gz : Nat → Nat) (q0 : Nat) (x y : ST) (r k : Nat) : Prop := Only [15, 16] x y ∧ ∀ r' k' q, r' < 16 → k' < 4 → q < 105 → (y.2.1 15 ((r' * 4 + k') * 105 + q) = if r' < R ∧ k' < gz r' ∧ cn r' k' = true ∧ q = q0 ∧ (r' < r ∨ (r' = r ∧ k' < k)) then v r' k' else x.2.1 15 ((r' * 4 + k') * 105 + q)) ∧ (y.2.1 16 ((r' * 4 + k') * 105 + q) = if r' < R ∧ k' < gz r' ∧ cn r' k' = true ∧ q = q0 ∧ (r' < r ∨ (r' = r ∧ k' < k)) then w r' k' else x.2.1 16 ((r' * 4 + k') * 105 + q))
theorem TF_0 (cn : Nat → Nat → Bool) (v w : Nat → Nat → Nat) (R : Nat) (gz : Nat → Nat) (q0 : Nat) (x : ST) : TF cn v w R gz q0 x x 0 0 := by
  refine ⟨Only.rf _ _, fun r' k' q h1 h2 h3 => ?_⟩
  rw [if_neg (by omega), if_neg (by omega)]
  exact ⟨rfl, rfl⟩
theorem TF_to {cn : Nat → Nat → Bool} {v w : Nat → Nat → Nat} {R : Nat} {gz : Nat → Nat} {q0 : Nat} {x y : ST} {r k r2 k2 : Nat} (h : TF cn v w R gz q0 x y r k) (he : ∀ r' k', r' < R → k' < gz r' → cn r' k' = true → ((r' < r ∨ (r' = r ∧ k' < k)) ↔ (r' < r2 ∨ (r' = r2 ∧ k' < k2)))) : TF cn v w R gz q0 x y r2 k2 := by
  refine ⟨h.1, fun r' k' q h1 h2 h3 => ?_⟩
  obtain ⟨a, b⟩ := h.2 r' k' q h1 h2 h3
  have hc : (r' < R ∧ k' < gz r' ∧ cn r' k' = true ∧ q = q0 ∧ (r' < r ∨ (r' = r ∧ k' < k))) ↔ (r' < R ∧ k' < gz r' ∧ cn r' k' = true ∧ q = q0 ∧ (r' < r2 ∨ (r' = r2 ∧ k' < k2))) := by
    constructor
    · rintro ⟨c1, c2, c3, c4, c5⟩
      exact ⟨c1, c2, c3, c4, (he r' k' c1 c2 c3).mp c5⟩
    · rintro ⟨c1, c2, c3, c4, c5⟩
      exact ⟨c1, c2, c3, c4, (he r' k' c1 c2 c3).mpr c5⟩
  rw [a, b]
  by_cases q9 : r' < R ∧ k' < gz r' ∧ cn r' k' = true ∧ q = q0 ∧ (r' < r ∨ (r' = r ∧ k' < k))
  · rw [if_pos q9, if_pos (hc.mp q9), if_pos q9, if_pos (hc.mp q9)]
    exact ⟨rfl, rfl⟩
  · rw [if_neg q9, if_neg (fun z => q9 (hc.mpr z)), if_neg q9, if_neg (fun z => q9 (hc.mpr z))]
    exact ⟨rfl, rfl⟩
theorem TF_skip {cn : Nat → Nat → Bool} {v w : Nat → Nat → Nat} {R : Nat} {gz : Nat → Nat} {q0 : Nat} {x y : ST} {r k : Nat} (h : TF cn v w R gz q0 x y r k) (hc : cn r k = false) : TF cn v w R gz q0 x y r (k + 1) := TF_to h (fun r' k' h1 h2 h3 => by
  constructor
  · intro q; omega
  · intro q
    rcases q with q | ⟨q1, q2⟩
    · exact Or.inl q
    · by_cases e : k' = k
      · subst e; subst q1; rw [hc] at h3; cases h3
      · right; omega)
theorem TF_row {cn : Nat → Nat → Bool} {v w : Nat → Nat → Nat} {R : Nat} {gz : Nat → Nat} {q0 : Nat} {x y : ST} {r k : Nat} (h : TF cn v w R gz q0 x y r k) (hk : gz r ≤ k) : TF cn v w R gz q0 x y (r + 1) 0 := TF_to h (fun r' k' h1 h2 h3 => by
  constructor
  · intro q; omega
  · intro q
    rcases (show r' < r ∨ r' = r by omega) with e | e
    · exact Or.inl e
    · subst e; right; omega)
theorem TF_put {cn : Nat → Nat → Bool} {v w : Nat → Nat → Nat} {R : Nat} {gz : Nat → Nat} {q0 : Nat} {x y : ST} {r k : Nat} (h : TF cn v w R gz q0 x y r k) (hr : r < 16) (hk : k < 4) (hq : q0 < 105) (hR : r < R) (hz : k < gz r) (hc : cn r k = true) : TF cn v w R gz q0 x (sA (sA y 15 ((r * 4 + k) * 105 + q0) (v r k)) 16 ((r * 4 + k) * 105 + q0) (w r k)) r (k + 1) := by
  refine ⟨(h.1.set (by decide) _ _).set (by decide) _ _, fun r' k' q h1 h2 h3 => ?_⟩
  obtain ⟨a, b⟩ := h.2 r' k' q h1 h2 h3
  by_cases e : r' = r ∧ k' = k ∧ q = q0
  · obtain ⟨rfl, rfl, rfl⟩ := e
    rw [sA_same, sA_ne _ _ _ (by decide), sA_same, if_pos ⟨hR, hz, hc, rfl, by omega⟩, if_pos ⟨hR, hz, hc, rfl, by omega⟩]
    exact ⟨rfl, rfl⟩
  · have hne : (r' * 4 + k') * 105 + q ≠ (r * 4 + k) * 105 + q0 := by
      intro z
      apply e
      omega
    rw [sA_at _ _ _ hne, sA_ne _ _ _ (by decide), sA_at _ _ _ hne, sA_ne (k := 15) _ _ _ (by decide), a, b]
    have hcc : (r' < R ∧ k' < gz r' ∧ cn r' k' = true ∧ q = q0 ∧ (r' < r ∨ (r' = r ∧ k' < k))) ↔ (r' < R ∧ k' < gz r' ∧ cn r' k' = true ∧ q = q0 ∧ (r' < r ∨ (r' = r ∧ k' < k + 1))) := by
      constructor
      · rintro ⟨c1, c2, c3, c4, c5⟩
        exact ⟨c1, c2, c3, c4, by omega⟩
      · rintro ⟨c1, c2, c3, c4, c5⟩
        exact ⟨c1, c2, c3, c4, by omega⟩
    by_cases q9 : r' < R ∧ k' < gz r' ∧ cn r' k' = true ∧ q = q0 ∧ (r' < r ∨ (r' = r ∧ k' < k))
    · rw [if_pos q9, if_pos (hcc.mp q9), if_pos q9, if_pos (hcc.mp q9)]
      exact ⟨rfl, rfl⟩
    · rw [if_neg q9, if_neg (fun z => q9 (hcc.mpr z)), if_neg q9, if_neg (fun z => q9 (hcc.mpr z))]
      exact ⟨rfl, rfl⟩
/-- every number of ways is at most the greatest -/
def UB (x : ST) : Prop := (∀ i, x.2.1 15 i ≤ 1000000000) ∧ ∀ i, x.2.1 12 i ≤ 1000000000
theorem UB_put {y : ST} (h : UB y) (i v j w : Nat) (hv : v ≤ 1000000000) : UB (sA (sA y 15 i v) 16 j w) := by
  refine ⟨fun q => ?_, fun q => ?_⟩
  · rw [sA_ne _ _ _ (by decide)]
    by_cases e : q = i
    · subst e; rw [sA_same]; exact hv
    · rw [sA_at _ _ _ e]; exact h.1 q
  · rw [sA_ne _ _ _ (by decide), sA_ne _ _ _ (by decide)]; exact h.2 q
/-- the same with a set as a test -/
def wanB (b : Nat → Bool) (f : Nat → Nat) : Nat → Nat
  | 0 => 0
  | r + 1 => if b r = true then min 1000000000 (wanB b f r + f r) else wanB b f r
def hofB (b : Nat → Bool) (h : Nat → UInt64) : Nat → Nat × UInt64
  | 0 => (4294967295, 0)
  | r + 1 => if b r = true ∧ dgt (h r) (hofB b h r).2 = true then (r, h r) else hofB b h r
theorem wan_B {m : Nat} {b : Nat → Bool} {f : Nat → Nat} : ∀ n, (∀ s, s < n → m.testBit s = b s) → wan m f n = wanB b f n
  | 0, _ => rfl
  | n + 1, h => by
    simp only [wan, wanB]
    rw [wan_B n (fun s hs => h s (by omega)), h n (by omega)]
theorem hof_B {m : Nat} {b : Nat → Bool} {h : Nat → UInt64} : ∀ n, (∀ s, s < n → m.testBit s = b s) → hof m h n = hofB b h n
  | 0, _ => rfl
  | n + 1, hh => by
    simp only [hof, hofB]
    rw [hof_B n (fun s hs => hh s (by omega)), hh n (by omega)]
/-- which rules count for the k-th symbol of r, a nonterminal n that is good or not -/
def selU (g : GT) (n : Nat) (gd : Bool) (r k s : Nat) : Bool := gd && decide (s < gR g) && inN g n (alw g r k) s
theorem selU_bit {g : GT} {n : Nat} {gd : Bool} {r k m am : Nat} (hR : gR g ≤ 16) (hm : m = if gd = true then rmk g n 0 (gR g) else 0) (ha : ∀ s, s < 16 → am.testBit s = (m.testBit s && alw g r k s)) : ∀ s, s < 16 → am.testBit s = selU g n gd r k s := by
  intro s hs
  rw [ha s hs, hm]
  unfold selU inN
  cases gd with
  | false => simp
  | true =>
    rw [if_pos rfl, rmk_bit]
    by_cases h1 : s < gR g <;> by_cases h2 : gl g s = n <;> by_cases h3 : gm g s = 1 <;> simp [h1, h2, h3]
theorem isNone_f {c : Nat} (h : oN (nt c) ≠ 4294967295) : (nt c).isNone = false := by
  cases q : nt c with
  | none => rw [q] at h; exact absurd rfl h
  | some k => rfl
theorem isNone_t {c : Nat} (h : nt c = none) : (nt c).isNone = true := by rw [h]; rfl

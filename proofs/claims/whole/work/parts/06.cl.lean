/-! CHAINS: what is reached by them, as masks; heights out of it -/
/-- the nonterminal that a chain leads to -/
def chn (g : GT) (r : Nat) : Option Nat := if gz g r = 1 then nt (gs g r 0) else none
def clR (g : GT) : Nat → Nat → Nat
  | 0, s => s
  | r + 1, s => match chn g r with
    | none => clR g r s
    | some c => if (clR g r s).testBit (gl g r) = true then clR g r s ||| 2 ^ c else clR g r s
def clo (g : GT) : Nat → Nat → Nat
  | 0, s => s
  | t + 1, s => clR g (gR g) (clo g t s)
def rch (g : GT) (x : Nat) : Nat := clo g 6 (2 ^ x)
theorem nt_lt {c n : Nat} (h : nt c = some n) : n < 6 := by
  unfold nt at h
  split at h
  · cases h; omega
  · cases h
theorem chn_lt {g : GT} {r c : Nat} (h : chn g r = some c) : c < 6 := by
  unfold chn at h
  split at h
  · exact nt_lt h
  · cases h
theorem tb_or (a c k : Nat) : (a ||| 2 ^ c).testBit k = (a.testBit k || decide (c = k)) := by
  rw [Nat.testBit_or, Nat.testBit_two_pow]
theorem clR_up {g : GT} {s k : Nat} (h : s.testBit k = true) : ∀ m, (clR g m s).testBit k = true
  | 0 => h
  | m + 1 => by
    have ih := clR_up (g := g) h m
    simp only [clR]
    split
    · exact ih
    · split
      · rw [tb_or, ih]; rfl
      · exact ih
/-- a set that is closed under the first m chains holds all that they reach -/
theorem clR_in {g : GT} {Z : Nat → Prop} {s : Nat} (h : ∀ k, s.testBit k = true → Z k) : ∀ m, (∀ r, r < m → ∀ c, chn g r = some c → Z (gl g r) → Z c) → ∀ k, (clR g m s).testBit k = true → Z k
  | 0, _ => h
  | m + 1, hz => by
    have ih := clR_in h m (fun r hr => hz r (by omega))
    intro k hk
    simp only [clR] at hk
    split at hk
    · exact ih k hk
    · rename_i c hc
      split at hk
      · rename_i hb
        rw [tb_or] at hk
        rcases Bool.or_eq_true _ _ |>.mp hk with q | q
        · exact ih k q
        · have : c = k := by simpa using q
          subst this
          exact hz m (by omega) c hc (ih _ hb)
      · exact ih k hk
theorem clo_in {g : GT} {Z : Nat → Prop} {s : Nat} (h : ∀ k, s.testBit k = true → Z k) (hz : ∀ r, r < gR g → ∀ c, chn g r = some c → Z (gl g r) → Z c) : ∀ t k, (clo g t s).testBit k = true → Z k
  | 0 => h
  | t + 1 => clR_in (clo_in h hz t) _ hz
theorem rch_in {g : GT} {Z : Nat → Prop} {x : Nat} (h : Z x) (hz : ∀ r, r < gR g → ∀ c, chn g r = some c → Z (gl g r) → Z c) : ∀ k, (rch g x).testBit k = true → Z k := clo_in (fun k hk => by
  rw [Nat.testBit_two_pow] at hk
  have : x = k := by simpa using hk
  rw [← this]; exact h) hz 6
/-- how many of the six are in a set -/
def pop (f : Nat → Bool) : Nat → Nat
  | 0 => 0
  | k + 1 => pop f k + (if f k = true then 1 else 0)
theorem pop_le (f : Nat → Bool) : ∀ k, pop f k ≤ k
  | 0 => Nat.le_refl _
  | k + 1 => by
    have := pop_le f k
    simp only [pop]
    split <;> omega
theorem pop_mono {f f' : Nat → Bool} : ∀ m, (∀ k, k < m → f k = true → f' k = true) → pop f m ≤ pop f' m ∧ (∀ x, x < m → f x = false → f' x = true → pop f m < pop f' m)
  | 0, _ => ⟨Nat.le_refl _, fun x hx => by omega⟩
  | m + 1, h => by
    obtain ⟨i1, i2⟩ := pop_mono m (fun k hk => h k (by omega))
    have hm := h m (by omega)
    simp only [pop]
    constructor
    · split <;> rename_i q
      · rw [if_pos (hm q)]; omega
      · split <;> omega
    · intro x hx h1 h2
      by_cases hxm : x = m
      · subst hxm
        rw [h1, h2]
        simp
        omega
      · have := i2 x (by omega) h1 h2
        split <;> rename_i q
        · rw [if_pos (hm q)]; omega
        · split <;> omega
theorem pop_full {f : Nat → Bool} : ∀ m, pop f m = m → ∀ k, k < m → f k = true
  | 0, _, k, hk => by omega
  | m + 1, h, k, hk => by
    simp only [pop] at h
    have := pop_le f m
    by_cases hf : f m = true
    · rw [if_pos hf] at h
      by_cases hkm : k = m
      · rw [hkm]; exact hf
      · exact pop_full m (by omega) k (by omega)
    · rw [if_neg hf] at h
      omega
/-- a round that changes nothing leaves a closed set -/
theorem clR_fix {g : GT} {s : Nat} : ∀ m, (∀ k, (clR g m s).testBit k = s.testBit k) → ∀ r, r < m → ∀ c, chn g r = some c → s.testBit (gl g r) = true → s.testBit c = true
  | 0, _, r, hr => by omega
  | m + 1, h, r, hr => by
    intro c hc hb
    have hsub : ∀ k, (clR g m s).testBit k = s.testBit k := by
      intro k
      cases q : s.testBit k with
      | true => exact clR_up q m
      | false =>
        have h1 := h k
        rw [q] at h1
        simp only [clR] at h1
        split at h1
        · exact h1
        · split at h1
          · rw [tb_or] at h1
            exact (Bool.or_eq_false_iff.mp h1).1
          · exact h1
    by_cases hrm : r = m
    · subst hrm
      have h1 := h c
      simp only [clR, hc] at h1
      rw [if_pos (by rw [hsub]; exact hb), tb_or] at h1
      rw [← h1]
      simp
    · exact clR_fix m hsub r (by omega) c hc hb
def six (s : Nat) : Prop := ∀ k, s.testBit k = true → k < 6
theorem clR_six {g : GT} {s : Nat} (h : six s) (m : Nat) : six (clR g m s) := clR_in (Z := fun k => k < 6) h m (fun _ _ _ hc _ => chn_lt hc)
theorem clo_six {g : GT} {s : Nat} (h : six s) : ∀ t, six (clo g t s)
  | 0 => h
  | t + 1 => clR_six (clo_six h t) _
/-- after t rounds it is closed, or has more than t -/
theorem clo_grow {g : GT} {s : Nat} (h : six s) (h1 : 1 ≤ pop s.testBit 6) : ∀ t, (∀ k, (clR g (gR g) (clo g t s)).testBit k = (clo g t s).testBit k) ∨ t + 1 ≤ pop (clo g t s).testBit 6
  | 0 => Or.inr h1
  | t + 1 => by
    by_cases hfix : ∀ k, (clR g (gR g) (clo g t s)).testBit k = (clo g t s).testBit k
    · left
      have he : clR g (gR g) (clo g t s) = clo g t s := Nat.eq_of_testBit_eq hfix
      intro k
      show (clR g (gR g) (clR g (gR g) (clo g t s))).testBit k = (clR g (gR g) (clo g t s)).testBit k
      rw [he, he]
    · right
      rcases clo_grow h h1 t with q | q
      · exact absurd q hfix
      · have hx : ∃ k, (clo g t s).testBit k = false ∧ (clR g (gR g) (clo g t s)).testBit k = true := by
          rcases Classical.not_forall.mp hfix with ⟨k, hk⟩
          refine ⟨k, ?_⟩
          cases a : (clo g t s).testBit k with
          | true => exact absurd ((clR_up a _).trans a.symm) hk
          | false =>
            refine ⟨rfl, ?_⟩
            cases b : (clR g (gR g) (clo g t s)).testBit k with
            | true => rfl
            | false => exact absurd (b.trans a.symm) hk
        obtain ⟨k, k1, k2⟩ := hx
        have hk6 : k < 6 := clR_six (clo_six h t) _ k k2
        have := (pop_mono (f := (clo g t s).testBit) (f' := (clR g (gR g) (clo g t s)).testBit) 6 (fun k _ hk => clR_up hk _)).2 k hk6 k1 k2
        show t + 1 + 1 ≤ pop (clR g (gR g) (clo g t s)).testBit 6
        omega
theorem six_pow {x : Nat} (h : x < 6) : six (2 ^ x) := fun k hk => by
  rw [Nat.testBit_two_pow] at hk
  have : x = k := by simpa using hk
  omega
theorem pop_pow {x : Nat} (h : x < 6) : 1 ≤ pop (2 ^ x).testBit 6 := by
  have := (pop_mono (f := fun _ => false) (f' := (2 ^ x).testBit) 6 (fun k _ hk => by cases hk)).2 x h rfl (by rw [Nat.testBit_two_pow]; simp)
  omega
theorem rch_self (g : GT) (x : Nat) : (rch g x).testBit x = true := by
  have h : ∀ t, (clo g t (2 ^ x)).testBit x = true := by
    intro t
    induction t with
    | zero => show (2 ^ x).testBit x = true; rw [Nat.testBit_two_pow]; simp
    | succ t ih => exact clR_up ih _
  exact h 6
theorem rch_closed {g : GT} {x : Nat} (h : x < 6) : ∀ r, r < gR g → ∀ c, chn g r = some c → (rch g x).testBit (gl g r) = true → (rch g x).testBit c = true := by
  rcases clo_grow (g := g) (six_pow h) (pop_pow h) 6 with q | q
  · exact clR_fix _ q
  · have := pop_le (clo g 6 (2 ^ x)).testBit 6
    omega
theorem rch_six {g : GT} {x : Nat} (h : x < 6) : six (rch g x) := clo_six (six_pow h) 6
theorem rch_trans {g : GT} {x y : Nat} (hx : x < 6) (h : (rch g x).testBit y = true) : ∀ k, (rch g y).testBit k = true → (rch g x).testBit k = true := rch_in (Z := fun k => (rch g x).testBit k = true) h (rch_closed hx)
/-- no chains lead round -/
def Acy (g : GT) : Prop := ∀ r, r < gR g → ∀ c, chn g r = some c → (rch g c).testBit (gl g r) = false
def hgt (g : GT) (x : Nat) : Nat := if x < 6 then pop (rch g x).testBit 6 - 1 else 0
theorem hgt_lt {g : GT} {x y : Nat} (hx : x < 6) (h : (rch g x).testBit y = true) (hn : (rch g y).testBit x = false) : hgt g y < hgt g x := by
  have hy : y < 6 := rch_six hx y h
  have h1 := (pop_mono (f := (rch g y).testBit) (f' := (rch g x).testBit) 6 (fun k _ hk => rch_trans hx h k hk)).2 x hx hn (rch_self g x)
  have h2 := (pop_mono (f := fun _ => false) (f' := (rch g y).testBit) 6 (fun k _ hk => by cases hk)).2 y hy rfl (rch_self g y)
  unfold hgt
  rw [if_pos hx, if_pos hy]
  omega
theorem hts_of {g : GT} (G : GOk g) (A : Acy g) : Hts g (hgt g) := by
  refine ⟨fun n => ?_, fun r hr hz c hc => ?_⟩
  · unfold hgt
    split
    · have := pop_le (rch g n).testBit 6
      omega
    · omega
  · have hch : chn g r = some c := by unfold chn; rw [if_pos hz]; exact hc
    have hl := (G.2 r hr).1
    exact hgt_lt hl (rch_closed hl r hr c hch (rch_self g _)) (A r hr c hch)
/-- all that is reached from x, but x, is lower -/
theorem rch_low {g : GT} (A : Acy g) {x y : Nat} (hx : x < 6) (h : (rch g x).testBit y = true) (hne : y ≠ x) : hgt g y < hgt g x := by
  refine hgt_lt hx h ?_
  cases q : (rch g y).testBit x with
  | false => rfl
  | true =>
    exfalso
    -- out of x a chain leads to some c from which y is reached, hence x again
    have hy : y < 6 := rch_six hx y h
    have : ∀ k, (rch g x).testBit k = true → k = x ∨ ∃ r, r < gR g ∧ gl g r = x ∧ ∃ c, chn g r = some c ∧ (rch g c).testBit k = true := by
      refine rch_in (Z := fun k => k = x ∨ ∃ r, r < gR g ∧ gl g r = x ∧ ∃ c, chn g r = some c ∧ (rch g c).testBit k = true) (Or.inl rfl) ?_
      intro r hr c hc hz
      rcases hz with hz | ⟨r0, h0, h1, c0, h2, h3⟩
      · exact Or.inr ⟨r, hr, hz, c, hc, rch_self g c⟩
      · exact Or.inr ⟨r0, h0, h1, c0, h2, rch_closed (chn_lt h2) r hr c hc h3⟩
    rcases this y h with e | ⟨r, hr, h1, c, hc, h3⟩
    · exact hne e
    · have h4 := rch_trans (chn_lt hc) h3 x q
      have h5 := A r hr c hc
      rw [h1] at h5
      rw [h5] at h4
      cases h4
theorem acy_sub {g g' : GT} (hR : gR g' ≤ gR g) (hs : ∀ r, r < gR g' → gl g' r = gl g r ∧ chn g' r = chn g r) (A : Acy g) : Acy g' := by
  intro r hr c hc
  obtain ⟨e1, e2⟩ := hs r hr
  have h := A r (by omega) c (by rw [← e2]; exact hc)
  rw [e1]
  cases q : (rch g' c).testBit (gl g r) with
  | false => rfl
  | true =>
    have := rch_in (g := g') (Z := fun k => (rch g c).testBit k = true) (rch_self g c) (fun r' hr' c' hc' hz => by
      obtain ⟨f1, f2⟩ := hs r' hr'
      exact rch_closed (chn_lt hc) r' (by omega) c' (by rw [← f2]; exact hc') (by rw [← f1]; exact hz)) _ q
    rw [this] at h
    cases h
theorem acy_add {g g' : GT} (hR : gR g' = gR g + 1) (hs : ∀ r, r < gR g → gl g' r = gl g r ∧ chn g' r = chn g r) (hn : ∀ c, chn g' (gR g) = some c → (rch g c).testBit (gl g' (gR g)) = false) (hl : gl g' (gR g) < 6) (A : Acy g) : Acy g' := by
  have key : ∀ c, c < 6 → ∀ k, (rch g' c).testBit k = true → (rch g c).testBit k = true ∨ ((rch g c).testBit (gl g' (gR g)) = true ∧ ∃ b, chn g' (gR g) = some b ∧ (rch g b).testBit k = true) := by
    intro c hc6
    refine rch_in (g := g') (Z := fun k => (rch g c).testBit k = true ∨ ((rch g c).testBit (gl g' (gR g)) = true ∧ ∃ b, chn g' (gR g) = some b ∧ (rch g b).testBit k = true)) (Or.inl (rch_self g c)) ?_
    intro r hr c' hc' hz
    by_cases hrR : r = gR g
    · subst hrR
      rcases hz with hz | ⟨hz, b, hb, hk⟩
      · exact Or.inr ⟨hz, c', hc', rch_self g c'⟩
      · exact Or.inr ⟨hz, c', hc', rch_self g c'⟩
    · obtain ⟨f1, f2⟩ := hs r (by omega)
      rw [f1] at hz
      rw [f2] at hc'
      rcases hz with hz | ⟨hz, b, hb, hk⟩
      · exact Or.inl (rch_closed hc6 r (by omega) c' hc' hz)
      · exact Or.inr ⟨hz, b, hb, rch_closed (chn_lt hb) r (by omega) c' hc' hk⟩
  intro r hr c hc
  have hc6 := chn_lt hc
  cases q : (rch g' c).testBit (gl g' r) with
  | false => rfl
  | true =>
    exfalso
    have h := key c hc6 _ q
    by_cases hrR : r = gR g
    · subst hrR
      have h0 := hn c hc
      rcases h with h | ⟨h, -⟩ <;> (rw [h] at h0; cases h0)
    · obtain ⟨f1, f2⟩ := hs r (by omega)
      rw [f1] at h
      rw [f2] at hc
      have h0 := A r (by omega) c hc
      rcases h with h | ⟨h, b, hb, hk⟩
      · rw [h] at h0; cases h0
      · have h1 := hn b hb
        have h2 : (rch g b).testBit c = true := rch_closed (chn_lt hb) r (by omega) c hc hk
        have h3 := rch_trans (chn_lt hb) h2 _ h
        rw [h3] at h1
        cases h1

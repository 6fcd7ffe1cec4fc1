theorem wMin_c : Cond.code Lib.MathLoose.min_long.x Lib.MathLoose.min_long.code 4 (some .long) ∈ LG := LG_in (List.mem_of_getElem? (i := 491) (by decide +kernel)) (by decide +kernel)
theorem wMin_m : Cond.methodLink RC 117 Lib.MathLoose.min_long.x ∈ LG := LG_in (List.mem_of_getElem? (i := 489) (by decide +kernel)) (by decide +kernel)
theorem wMin_s : Cond.static Lib.MathLoose.min_long.x ∈ LG := LG_in (List.mem_of_getElem? (i := 490) (by decide +kernel)) (by decide +kernel)
theorem a_mmin {K : KX} {cc : ByteArray} {tys : List (ClassId × FieldType)} {ws : va_W} {L : List (Option Value)} {pc lv a b : Nat} {S : List Value} (C : CT K cc RC tys lv) (d : decode cc pc = .ok (.invokestatic 117, 3)) (hl : 1 ≤ lv) (ha : a < 9223372036854775808) (hb : b < 9223372036854775808) (hcat : (S.map fun v => v.category).sum ≤ 8) (k : WA K ws L (pc + 3) (.long (lN (min a b)) :: S)) : WA K ws L pc (.long (lN b) :: .long (lN a) :: S) := fun H locs ls hP hD hS hl2 => by
  obtain ⟨r1, r2, r3, r4⟩ := C.2.2.2.2.2.2.2.2.2
  have htg := C.2.2.2.2.1
  refine va_mmin_long C.1 C.2.1 (C.2.2.1.trans hl2.1.symm) C.2.2.2.1 (htg _ wMin_m) (htg _ wMin_s) (htg _ wIni_Math) (htg _ wMin_c) (by omega) (by omega) r3 r4 d ?_
  have e : (if lN b < lN a then lN b else lN a) = lN (min a b) := by
    by_cases h : b < a
    · rw [if_pos ((pk_lLT hb ha).mpr h), show min a b = b by omega]
    · rw [if_neg (fun q => h ((pk_lLT hb ha).mp q)), show min a b = a by omega]
  rw [e]
  exact k H locs ls hP hD hS hl2
/-- the ways of the rules of a set, added up -/
def wan (m : Nat) (f : Nat → Nat) : Nat → Nat
  | 0 => 0
  | r + 1 => if m.testBit r = true then min 1000000000 (wan m f r + f r) else wan m f r
theorem wan_le (m : Nat) (f : Nat → Nat) : ∀ r, wan m f r ≤ 1000000000
  | 0 => by simp [wan]
  | r + 1 => by
    have := wan_le m f r
    simp only [wan]
    split <;> omega
/-- the first of the heaviest rules of a set, and its weight -/
def hof (m : Nat) (h : Nat → UInt64) : Nat → Nat × UInt64
  | 0 => (4294967295, 0)
  | r + 1 => if m.testBit r = true ∧ dgt (h r) (hof m h r).2 = true then (r, h r) else hof m h r
theorem hof_lt (m : Nat) (h : Nat → UInt64) : ∀ r, r ≤ 16 → (hof m h r).1 < 4294967296
  | 0, _ => by show 4294967295 < 4294967296; decide
  | r + 1, hr => by
    have := hof_lt m h r (by omega)
    simp only [hof]
    split
    · show r < _; omega
    · exact this
theorem dgt_of {x y : UInt64} (h : FP.dcmp x y = some .gt) : dgt x y = true := by unfold dgt; rw [h]
theorem dgt_lt {x y : UInt64} (h : FP.dcmp x y = some .lt) : dgt x y = false := by unfold dgt; rw [h]
theorem dgt_eq {x y : UInt64} (h : FP.dcmp x y = some .eq) : dgt x y = false := by unfold dgt; rw [h]
theorem dgt_nan {x y : UInt64} (h : FP.dcmp x y = none) : dgt x y = false := by unfold dgt; rw [h]
/-- only these arrays may differ -/
def Only (ks : List Nat) (x u : ST) : Prop := u.1 = x.1 ∧ u.2.2 = x.2.2 ∧ ∀ k, k ∉ ks → u.2.1 k = x.2.1 k
theorem Only.rf (ks : List Nat) (x : ST) : Only ks x x := ⟨rfl, rfl, fun _ _ => rfl⟩
theorem Only.set {ks : List Nat} {x u : ST} (h : Only ks x u) {k : Nat} (hk : k ∈ ks) (i v : Nat) : Only ks x (sA u k i v) := by
  refine ⟨h.1, h.2.1, fun k' hk' => ?_⟩
  show va_up u.2.1 k (va_up (u.2.1 k) i v) k' = _
  rw [va_up_ne _ _ (fun e => hk' (by rw [e]; exact hk))]
  exact h.2.2 k' hk'
theorem Only.trans {ks : List Nat} {x y z : ST} (h : Only ks x y) (h2 : Only ks y z) : Only ks x z := ⟨h2.1.trans h.1, h2.2.1.trans h.2.1, fun k hk => (h2.2.2 k hk).trans (h.2.2 k hk)⟩
theorem Only.mono {ks ks' : List Nat} {x y : ST} (h : Only ks x y) (hs : ∀ k, k ∈ ks → k ∈ ks') : Only ks' x y := ⟨h.1, h.2.1, fun k hk => h.2.2 k (fun q => hk (hs k q))⟩
theorem sA_same (x : ST) (k i v : Nat) : (sA x k i v).2.1 k i = v := by
  show va_up x.2.1 k (va_up (x.2.1 k) i v) k i = v
  rw [va_up_self, va_up_self]
theorem sA_at (x : ST) (k : Nat) {i j : Nat} (v : Nat) (h : j ≠ i) : (sA x k i v).2.1 k j = x.2.1 k j := by
  show va_up x.2.1 k (va_up (x.2.1 k) i v) k j = _
  rw [va_up_self, va_up_ne _ _ h]
theorem sA_ne (x : ST) {k k' : Nat} (i v : Nat) (h : k' ≠ k) : (sA x k i v).2.1 k' = x.2.1 k' := by
  show va_up x.2.1 k (va_up (x.2.1 k) i v) k' = _
  rw [va_up_ne _ _ h]
theorem spn_lt {i j : Nat} (h : i < j) (hj : j ≤ 14) : spn i j < 105 := by
  unfold spn
  have : j * (j - 1) / 2 ≤ 91 := by
    have := Nat.mul_le_mul hj (show j - 1 ≤ 13 by omega)
    omega
  rcases (show j ≤ 13 ∨ j = 14 by omega) with h1 | h1
  · have : j * (j - 1) / 2 ≤ 78 := by
      have := Nat.mul_le_mul h1 (show j - 1 ≤ 12 by omega)
      omega
    omega
  · subst h1; omega
theorem pw_le (sym : Nat → Nat → Nat → Nat) (i : Nat) (l : List Nat) : ∀ k, pw sym i l k ≤ 1000000000
  | 0 => by simp [pw]
  | k + 1 => by simp only [pw, MX]; omega
theorem pw_stop {sym : Nat → Nat → Nat → Nat} {i : Nat} {l : List Nat} {k : Nat} (h : pw sym i l k = 0) : ∀ d, pw sym i l (k + d) = 0
  | 0 => h
  | d + 1 => by
    rw [← Nat.add_assoc]
    simp only [pw]
    rw [pw_stop h d, Nat.zero_mul]
    rfl
def pkN (e : Nat → Nat) : Nat → Nat
  | 0 => 0
  | k + 1 => pkN e k ||| (e k * 2 ^ (4 * k))
/-- the class's numbers over a use, and its weights -/
def symP (x : ST) (r k a b : Nat) : Nat := x.2.1 15 ((r * 4 + k) * 105 + spn a b)
def wtP (x : ST) (r k a b : Nat) : Option UInt64 := if x.2.1 16 ((r * 4 + k) * 105 + spn a b) = 4294967295 then none else some (x.2.2.1 13 (x.2.1 16 ((r * 4 + k) * 105 + spn a b) * 105 + spn a b))
theorem fd_end {y : ST} {n i j t : Nat} (h8 : n - 1 ≤ t) (he : ∀ k, k < t → y.2.1 18 k = i + k + 1) : ∀ k, k < n → (sA y 18 (n - 1) j).2.1 18 k = if k + 1 = n then j else i + k + 1 := by
  intro k hk
  by_cases hk2 : k + 1 = n
  · rw [if_pos hk2, show k = n - 1 by omega, sA_same]
  · rw [if_neg hk2, sA_at _ _ _ (by omega)]
    exact he k (by omega)
theorem pk_bound {p ek k : Nat} (hl : p < 2 ^ (4 * k)) (h : ek < 16) : p ||| (ek * 2 ^ (4 * k)) < 2 ^ (4 * (k + 1)) := by
  have e1 : 2 ^ (4 * (k + 1)) = 16 * 2 ^ (4 * k) := by
    rw [show 4 * (k + 1) = 4 + 4 * k by omega, Nat.pow_add]
  have e2 : ek * 2 ^ (4 * k) < 2 ^ (4 * (k + 1)) := by
    rw [e1]
    exact Nat.mul_lt_mul_of_pos_right h (Nat.pow_pos (by decide))
  have e3 : 2 ^ (4 * k) ≤ 2 ^ (4 * (k + 1)) := Nat.pow_le_pow_right (by decide) (by omega)
  exact Nat.or_lt_two_pow (by omega) e2

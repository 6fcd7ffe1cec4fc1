section BASEG
variable {K : KX} {cc : ByteArray} {own : String} {tys : List (ClassId × FieldType)} {ws : va_W} {L : List (Option Value)} {pc lv : Nat} {S : List Value}
theorem a_cltG {a b tgt : Nat} {off : Int} (C : CT K cc own tys lv) (d : decode cc pc = .ok (.if_icmp .lt off, 3)) (ht : (pc : Int) + off = (tgt : Int)) (ha : a < 4294967296) (hb : b < 2147483648) (kt : a < b ∨ 2147483648 ≤ a → WA K ws L tgt S) (kf : b ≤ a ∧ a < 2147483648 → WA K ws L (pc + 3) S) : WA K ws L pc (.int (nI b) :: .int (nI a) :: S) := fun H locs ls hP hD hS hl => lv_icmp_lt C.1 C.2.1 d ht (fun h => kt (by rw [Int32.lt_iff_toInt_lt, nI_int ha, nI_int (show b < 4294967296 by omega)] at h; (first | (split at h <;> omega) | (split at h <;> split at h <;> omega))) H locs ls hP hD hS hl) (fun h => kf (by rw [Int32.lt_iff_toInt_lt, nI_int ha, nI_int (show b < 4294967296 by omega)] at h; (first | (split at h <;> omega) | (split at h <;> split at h <;> omega))) H locs ls hP hD hS hl)
theorem a_cgeG {a b tgt : Nat} {off : Int} (C : CT K cc own tys lv) (d : decode cc pc = .ok (.if_icmp .ge off, 3)) (ht : (pc : Int) + off = (tgt : Int)) (ha : a < 4294967296) (hb : b < 2147483648) (kt : b ≤ a ∧ a < 2147483648 → WA K ws L tgt S) (kf : a < b ∨ 2147483648 ≤ a → WA K ws L (pc + 3) S) : WA K ws L pc (.int (nI b) :: .int (nI a) :: S) := fun H locs ls hP hD hS hl => lv_icmp_ge C.1 C.2.1 d ht (fun h => kt (by rw [Int32.le_iff_toInt_le, nI_int ha, nI_int (show b < 4294967296 by omega)] at h; (first | (split at h <;> omega) | (split at h <;> split at h <;> omega))) H locs ls hP hD hS hl) (fun h => kf (by rw [Int32.le_iff_toInt_le, nI_int ha, nI_int (show b < 4294967296 by omega)] at h; (first | (split at h <;> omega) | (split at h <;> split at h <;> omega))) H locs ls hP hD hS hl)
theorem a_cgtG {a b tgt : Nat} {off : Int} (C : CT K cc own tys lv) (d : decode cc pc = .ok (.if_icmp .gt off, 3)) (ht : (pc : Int) + off = (tgt : Int)) (ha : a < 4294967296) (hb : b < 2147483648) (kt : b < a ∧ a < 2147483648 → WA K ws L tgt S) (kf : a ≤ b ∨ 2147483648 ≤ a → WA K ws L (pc + 3) S) : WA K ws L pc (.int (nI b) :: .int (nI a) :: S) := fun H locs ls hP hD hS hl => lv_icmp_gt C.1 C.2.1 d ht (fun h => kt (by rw [Int32.lt_iff_toInt_lt, nI_int ha, nI_int (show b < 4294967296 by omega)] at h; (first | (split at h <;> omega) | (split at h <;> split at h <;> omega))) H locs ls hP hD hS hl) (fun h => kf (by rw [Int32.lt_iff_toInt_lt, nI_int ha, nI_int (show b < 4294967296 by omega)] at h; (first | (split at h <;> omega) | (split at h <;> split at h <;> omega))) H locs ls hP hD hS hl)
theorem a_cleG {a b tgt : Nat} {off : Int} (C : CT K cc own tys lv) (d : decode cc pc = .ok (.if_icmp .le off, 3)) (ht : (pc : Int) + off = (tgt : Int)) (ha : a < 4294967296) (hb : b < 2147483648) (kt : a ≤ b ∨ 2147483648 ≤ a → WA K ws L tgt S) (kf : b < a ∧ a < 2147483648 → WA K ws L (pc + 3) S) : WA K ws L pc (.int (nI b) :: .int (nI a) :: S) := fun H locs ls hP hD hS hl => lv_icmp_le C.1 C.2.1 d ht (fun h => kt (by rw [Int32.le_iff_toInt_le, nI_int ha, nI_int (show b < 4294967296 by omega)] at h; (first | (split at h <;> omega) | (split at h <;> split at h <;> omega))) H locs ls hP hD hS hl) (fun h => kf (by rw [Int32.le_iff_toInt_le, nI_int ha, nI_int (show b < 4294967296 by omega)] at h; (first | (split at h <;> omega) | (split at h <;> split at h <;> omega))) H locs ls hP hD hS hl)
end BASEG
/-! WORDS for the class's state -/
def WF (x : ST) : Prop := (∀ k i, x.2.1 k i < 4294967296) ∧ ∀ k, x.1 k < 4294967296
theorem WF.sA {x : ST} (h : WF x) (k i : Nat) {v : Nat} (hv : v < 4294967296) : WF (sA x k i v) := by
  refine ⟨fun k' i' => ?_, h.2⟩
  show va_up x.2.1 k (va_up (x.2.1 k) i v) k' i' < 4294967296
  unfold va_up
  split
  · dsimp only
    split
    · exact hv
    · exact h.1 _ _
  · exact h.1 _ _
theorem WF.sS {x : ST} (h : WF x) (k : Nat) {v : Nat} (hv : v < 4294967296) : WF (sS x k v) := by
  refine ⟨h.1, fun k' => ?_⟩
  show va_up x.1 k v k' < 4294967296
  unfold va_up
  split
  · exact hv
  · exact h.2 _
theorem WF.sD {x : ST} (h : WF x) (k i : Nat) (v : UInt64) : WF (sD x k i v) := h
theorem WF.sT {x : ST} (h : WF x) (v : UInt64) : WF (sT x v) := h
def oN (o : Option Nat) : Nat := match o with
  | none => 4294967295
  | some k => k
def spn (i j : Nat) : Nat := j * (j - 1) / 2 + i
/-- the grammar that the class's state holds -/
def gP (x : ST) : GT := (x.1 3, fun r => x.2.1 4 r, fun r => x.2.1 5 r, fun r => x.2.1 8 r, fun r k => x.2.1 6 (r * 4 + k), fun r => x.2.2.1 7 r, fun r s => (x.2.1 9 r).testBit s, fun n c => decide (x.2.1 10 (n * 94 + c - 33) ≠ 0))
theorem tb_and (s m : Nat) : s &&& (1 * 2 ^ m) = if s.testBit m = true then 2 ^ m else 0 := by
  rw [Nat.one_mul]
  apply Nat.eq_of_testBit_eq
  intro i
  rw [Nat.testBit_and, Nat.testBit_two_pow]
  by_cases h : m = i
  · subst h
    cases q : s.testBit m with
    | true => rw [if_pos rfl, Nat.testBit_two_pow]; simp
    | false => rw [if_neg (by decide)]; simp
  · have hd : decide (m = i) = false := by simp [h]
    rw [hd, Bool.and_false]
    split
    · rw [Nat.testBit_two_pow, hd]
    · simp
theorem six_lt {s : Nat} (h : six s) : s < 64 := Nat.lt_pow_two_of_testBit (n := 6) s (fun i hi => by
  cases q : s.testBit i with
  | false => rfl
  | true => have := h i q; omega)
def fitsB (p c : Nat) : Bool := if p = 0 then (nt c).isSome else if p = 1 then decide (c = 58) else decide (p < 6 ∧ c ≠ 58 ∧ (c < 71 ∨ 90 < c))
theorem oN_none {c : Nat} (h : oN (nt c) = 4294967295) : nt c = none := by
  cases q : nt c with
  | none => rfl
  | some k => rw [q] at h; have := nt_lt q; simp only [oN] at h; omega
theorem oN_some {c : Nat} (h : oN (nt c) ≠ 4294967295) : (nt c).isSome = true := by
  cases q : nt c with
  | none => rw [q] at h; exact absurd rfl h
  | some k => rfl
theorem oN_lt (c : Nat) : oN (nt c) < 4294967296 := by
  cases q : nt c with
  | none => decide
  | some k => have := nt_lt q; simp only [oN]; omega

/-! FP: products of positive doubles of bounded exponent: no NaN, positive, exponents add up -/
/-- the bits of a normal double of sign s with leading exponent L -/
def fp_S (x : UInt64) (s : Bool) (L : Int) : Prop := ∃ (c : Nat) (q : Int), FP.Core.decode FP.Core.b64 x.toNat = .fin s c q ∧ 4503599627370496 ≤ c ∧ c < 9007199254740992 ∧ q + 52 = L
abbrev fp_E (x : UInt64) (L : Int) : Prop := fp_S x false L
theorem fp_qmin : FP.Core.b64.qmin = -1074 := by decide
theorem fp_qmax : FP.Core.b64.qmax = 971 := by decide
theorem fp_tails : FP.Core.b64.tails = 4503599627370496 := by decide
theorem fp_exps : FP.Core.b64.exps = 2048 := by decide
theorem fp_p : FP.Core.b64.p = 53 := by decide
theorem fp_dec (n : Nat) : FP.Core.decode FP.Core.b64 n = if n / 4503599627370496 % 2048 = 2047 then (if n % 4503599627370496 = 0 then .inf (n / 4503599627370496 / 2048 % 2 == 1) else .nan) else if n / 4503599627370496 % 2048 = 0 then .fin (n / 4503599627370496 / 2048 % 2 == 1) (n % 4503599627370496) (-1074) else .fin (n / 4503599627370496 / 2048 % 2 == 1) (4503599627370496 + n % 4503599627370496) (-1074 + (((n / 4503599627370496 % 2048 : Nat) : Int) - 1)) := by
  unfold FP.Core.decode FP.Core.fieldE FP.Core.fieldT FP.Core.fieldS
  rw [fp_qmin, fp_tails, fp_exps]
theorem fp_enc {s : Bool} {c : Nat} {q : Int} (h1 : 4503599627370496 ≤ c) (h2 : c < 9007199254740992) (h3 : -1074 ≤ q) (h4 : q ≤ 971) : FP.Core.encode FP.Core.b64 (.fin s c q) < 18446744073709551616 ∧ FP.Core.decode FP.Core.b64 (FP.Core.encode FP.Core.b64 (.fin s c q)) = .fin s c q := by
  have e0 : FP.Core.encode FP.Core.b64 (.fin s c q) = (s.toNat * 2048 + ((q + 1074).toNat + 1)) * 4503599627370496 + (c - 4503599627370496) := by
    unfold FP.Core.encode FP.Core.assemble
    dsimp only
    rw [fp_qmin, fp_tails, fp_exps, if_neg (by omega)]
    rw [show q - -1074 = q + 1074 by omega]
  rw [e0, fp_dec]
  have hs : s.toNat = 0 ∨ s.toNat = 1 := by cases s <;> simp
  have hE : (q + 1074).toNat + 1 ≤ 2046 := by omega
  have hq : (((q + 1074).toNat : Nat) : Int) = q + 1074 := by omega
  generalize hEe : (q + 1074).toNat + 1 = E at hE ⊢
  generalize hTe : c - 4503599627370496 = T
  have hT : T < 4503599627370496 := by omega
  have d1 : ((s.toNat * 2048 + E) * 4503599627370496 + T) / 4503599627370496 = s.toNat * 2048 + E := by omega
  have d2 : ((s.toNat * 2048 + E) * 4503599627370496 + T) % 4503599627370496 = T := by omega
  rw [d1, d2]
  have d3 : (s.toNat * 2048 + E) % 2048 = E := by rw [Nat.mul_comm, Nat.mul_add_mod]; exact Nat.mod_eq_of_lt (by omega)
  have d4 : (s.toNat * 2048 + E) / 2048 = s.toNat := by rw [Nat.mul_comm, Nat.mul_add_div (by decide), Nat.div_eq_of_lt (by omega), Nat.add_zero]
  rw [d3, d4, if_neg (by omega), if_neg (by omega)]
  refine ⟨by omega, ?_⟩
  have d5 : (s.toNat % 2 == 1) = s := by cases s <;> rfl
  have d6 : 4503599627370496 + T = c := by omega
  have d7 : (-1074 : Int) + ((E : Int) - 1) = q := by omega
  rw [d5, d6, d7]
theorem fp_near (num D : Nat) : num / D ≤ FP.Core.nearest num D ∧ FP.Core.nearest num D ≤ num / D + 1 := by
  unfold FP.Core.nearest
  split
  · omega
  · split
    · omega
    · omega
theorem fp_lead {num : Nat} (h : num ≠ 0) : FP.Core.leading num 1 = (num.log2 : Int) := by
  unfold FP.Core.leading
  have h1 : Nat.log2 1 = 0 := by decide
  rw [h1]
  have h2 : 2 ^ num.log2 ≤ num := (Nat.le_log2 h).mp (Nat.le_refl _)
  have e1 : ((num.log2 : Int) - ((0 : Nat) : Int)).toNat = num.log2 := by omega
  have e2 : (-((num.log2 : Int) - ((0 : Nat) : Int))).toNat = 0 := by omega
  dsimp only
  rw [e1, e2, if_pos (by simpa using h2)]
  omega
theorem fp_round {s : Bool} {num : Nat} {e : Int} (h : num ≠ 0) (h1 : -1022 ≤ (num.log2 : Int) + e) (h2 : (num.log2 : Int) + e ≤ 1022) : ∃ (c : Nat) (Q : Int), FP.Core.roundRatio FP.Core.b64 s num 1 e = .fin s c Q ∧ 4503599627370496 ≤ c ∧ c < 9007199254740992 ∧ (num.log2 : Int) + e ≤ Q + 52 ∧ Q + 52 ≤ (num.log2 : Int) + e + 1 := by
  have hlo : 2 ^ num.log2 ≤ num := (Nat.le_log2 h).mp (Nat.le_refl _)
  have hhi : num < 2 ^ (num.log2 + 1) := (Nat.log2_lt h).mp (Nat.lt_succ_self _)
  have hq : FP.Core.quantum FP.Core.b64 num 1 e = (num.log2 : Int) + e - 52 := by
    unfold FP.Core.quantum
    rw [fp_qmin, fp_lead h, fp_p]
    omega
  have key : ∃ c0 : Nat, FP.Core.nearest (FP.Core.unitsNum num e ((num.log2 : Int) + e - 52)) (FP.Core.unitsDen 1 e ((num.log2 : Int) + e - 52)) = c0 ∧ 4503599627370496 ≤ c0 ∧ c0 ≤ 9007199254740992 := by
    refine ⟨_, rfl, ?_⟩
    unfold FP.Core.unitsNum FP.Core.unitsDen
    generalize hk : num.log2 = k at *
    by_cases hk52 : 52 ≤ k
    · have a1 : (e - ((k : Int) + e - 52)).toNat = 0 := by omega
      have a2 : ((k : Int) + e - 52 - e).toNat = k - 52 := by omega
      rw [a1, a2]
      have n1 := fp_near (num * 2 ^ 0) (1 * 2 ^ (k - 52))
      have pD : 0 < 2 ^ (k - 52) := Nat.pow_pos (by decide)
      have e1 : 2 ^ k = 4503599627370496 * 2 ^ (k - 52) := by
        have : k = 52 + (k - 52) := by omega
        calc 2 ^ k = 2 ^ (52 + (k - 52)) := by rw [← this]
          _ = 2 ^ 52 * 2 ^ (k - 52) := Nat.pow_add 2 52 (k - 52)
          _ = 4503599627370496 * 2 ^ (k - 52) := by rw [show (2 : Nat) ^ 52 = 4503599627370496 by decide]
      have e2 : 2 ^ (k + 1) = 9007199254740992 * 2 ^ (k - 52) := by rw [Nat.pow_succ, e1]; omega
      rw [Nat.pow_zero, Nat.mul_one, Nat.one_mul] at n1 ⊢
      have b1 : 4503599627370496 ≤ num / 2 ^ (k - 52) := (Nat.le_div_iff_mul_le pD).mpr (by rw [← e1]; exact hlo)
      have b2 : num / 2 ^ (k - 52) < 9007199254740992 := (Nat.div_lt_iff_lt_mul pD).mpr (by rw [← e2]; exact hhi)
      omega
    · have a1 : (e - ((k : Int) + e - 52)).toNat = 52 - k := by omega
      have a2 : ((k : Int) + e - 52 - e).toNat = 0 := by omega
      rw [a1, a2]
      have n1 := fp_near (num * 2 ^ (52 - k)) (1 * 2 ^ 0)
      rw [Nat.pow_zero, Nat.mul_one, Nat.div_one] at n1
      rw [Nat.pow_zero, Nat.mul_one]
      have pD : 0 < 2 ^ (52 - k) := Nat.pow_pos (by decide)
      have e1 : 2 ^ k * 2 ^ (52 - k) = 4503599627370496 := by
        rw [← Nat.pow_add, show k + (52 - k) = 52 by omega]
      have b1 : 4503599627370496 ≤ num * 2 ^ (52 - k) := by rw [← e1]; exact Nat.mul_le_mul_right _ hlo
      have b2 : num * 2 ^ (52 - k) < 9007199254740992 := by
        have : num * 2 ^ (52 - k) < 2 ^ (k + 1) * 2 ^ (52 - k) := Nat.mul_lt_mul_of_pos_right hhi pD
        rw [Nat.pow_succ, Nat.mul_right_comm, e1] at this
        omega
      omega
  obtain ⟨c0, hc0, g1, g2⟩ := key
  unfold FP.Core.roundRatio FP.Core.roundAt FP.Core.settle FP.Core.bound
  rw [if_neg h, hq, hc0, fp_p, fp_qmax, fp_tails, show (2 : Nat) ^ 53 = 9007199254740992 by decide]
  by_cases hc : c0 < 9007199254740992
  · rw [if_pos hc, if_pos (by omega)]
    exact ⟨c0, _, rfl, g1, hc, by omega, by omega⟩
  · rw [if_neg hc, if_pos (by omega)]
    exact ⟨4503599627370496, _, rfl, by omega, by omega, by omega, by omega⟩
theorem fp_of {d : FP.Core.Datum} {s : Bool} {c : Nat} {Q : Int} (hd : d = .fin s c Q) (h1 : 4503599627370496 ≤ c) (h2 : c < 9007199254740992) (h3 : -1074 ≤ Q) (h4 : Q ≤ 971) : fp_S (UInt64.ofNat (FP.Core.encode FP.Core.b64 d)) s (Q + 52) := by
  subst hd
  obtain ⟨a1, a2⟩ := fp_enc (s := s) h1 h2 h3 h4
  refine ⟨c, Q, ?_, h1, h2, rfl⟩
  rw [UInt64.toNat_ofNat', Nat.mod_eq_of_lt a1]
  exact a2
theorem fp_mulS {x y : UInt64} {s t : Bool} {a b : Int} (hx : fp_S x s a) (hy : fp_S y t b) (h1 : -1022 ≤ a + b) (h2 : a + b ≤ 1020) : ∃ L : Int, fp_S (FP.dmul x y) (s != t) L ∧ a + b ≤ L ∧ L ≤ a + b + 2 := by
  obtain ⟨c, q, hc, c1, c2, cq⟩ := hx
  obtain ⟨d, r, hd, d1, d2, dr⟩ := hy
  have m1 : 4503599627370496 * 4503599627370496 ≤ c * d := Nat.mul_le_mul c1 d1
  have m2 : c * d ≤ 9007199254740991 * 9007199254740991 := Nat.mul_le_mul (by omega) (by omega)
  have hn : c * d ≠ 0 := by omega
  have l1 : 104 ≤ (c * d).log2 := (Nat.le_log2 hn).mpr (by omega)
  have l2 : (c * d).log2 < 106 := (Nat.log2_lt hn).mpr (by omega)
  obtain ⟨c', Q, e1, g1, g2, g3, g4⟩ := fp_round (s := s != t) (e := q + r) hn (by omega) (by omega)
  refine ⟨Q + 52, ?_, by omega, by omega⟩
  show fp_S (UInt64.ofNat (FP.Core.mul FP.Core.b64 x.toNat y.toNat)) (s != t) (Q + 52)
  unfold FP.Core.mul
  rw [hc, hd]
  exact fp_of e1 g1 g2 (by omega) (by omega)
theorem fp_mul {x y : UInt64} {a b : Int} (hx : fp_E x a) (hy : fp_E y b) (h1 : -1022 ≤ a + b) (h2 : a + b ≤ 1020) : ∃ L : Int, fp_E (FP.dmul x y) L ∧ a + b ≤ L ∧ L ≤ a + b + 2 := fp_mulS hx hy h1 h2
theorem fp_m64 (a : UInt64) : vf_n64 a ↔ a.toNat % 9223372036854775808 ≤ 9218868437227405312 := by
  unfold vf_n64
  rw [UInt64.le_iff_toNat_le, UInt64.toNat_and]
  have h1 : (0x7fffffffffffffff : UInt64).toNat = 2 ^ 63 - 1 := by decide
  have h2 : (0x7ff0000000000000 : UInt64).toNat = 9218868437227405312 := by decide
  rw [h1, h2, Nat.and_two_pow_sub_one_eq_mod]
theorem fp_finN {x : UInt64} {s : Bool} {c : Nat} {q : Int} (h : FP.Core.decode FP.Core.b64 x.toNat = .fin s c q) : vf_n64 x := by
  rw [fp_m64]
  rw [fp_dec] at h
  by_cases h1 : x.toNat / 4503599627370496 % 2048 = 2047
  · rw [if_pos h1] at h
    split at h <;> cases h
  · omega
theorem fp_S.n {x : UInt64} {s : Bool} {L : Int} (h : fp_S x s L) : vf_n64 x := by
  obtain ⟨c, q, h, -⟩ := h
  exact fp_finN h
theorem fp_cmpI (a b : Int) : compare a b = if a < b then .lt else if a = b then .eq else .gt := rfl
theorem fp_pos {x : UInt64} {L : Int} (h : fp_E x L) : FP.dcmp x 0 = some .gt := by
  obtain ⟨c, q, h, h1, h2, h3⟩ := h
  show FP.Core.order (FP.Core.decode FP.Core.b64 x.toNat) (FP.Core.decode FP.Core.b64 (0 : UInt64).toNat) = some .gt
  have h0 : FP.Core.decode FP.Core.b64 (0 : UInt64).toNat = .fin false 0 (-1074) := by decide
  rw [h, h0]
  unfold FP.Core.order FP.Core.signed FP.Core.inUnits
  dsimp only
  rw [fp_cmpI]
  have hp : 0 < c * 2 ^ (q - min q (-1074)).toNat := Nat.mul_pos (by omega) (Nat.pow_pos (by decide))
  simp only [Bool.false_eq_true, if_false]
  rw [if_neg (by omega), if_neg (by omega)]
/-- two data compared: the same bits of a number are equal -/
theorem fp_self {x : UInt64} {L : Int} (h : fp_E x L) : FP.dcmp x x = some .eq := by
  obtain ⟨c, q, h, h1, h2, h3⟩ := h
  show FP.Core.order (FP.Core.decode FP.Core.b64 x.toNat) (FP.Core.decode FP.Core.b64 x.toNat) = some .eq
  rw [h]
  unfold FP.Core.order
  dsimp only
  rw [fp_cmpI, if_neg (by omega), if_pos rfl]
theorem fp_c125 : FP.Core.decode FP.Core.b64 (4593671619917905920 : UInt64).toNat = .fin false 4503599627370496 (-55) := by decide
theorem fp_c8 : FP.Core.decode FP.Core.b64 (4620693217682128896 : UInt64).toNat = .fin false 4503599627370496 (-49) := by decide
theorem fp_p2 {k : Nat} (h : 1 ≤ k) : 2 ≤ 2 ^ k := by
  calc 2 = 2 ^ 1 := by decide
    _ ≤ 2 ^ k := Nat.pow_le_pow_right (by decide) h
/-- a weight in range: not below 0.125, not above 8.0 -/
theorem fp_weight {w : UInt64} (h1 : FP.dcmp w 4593671619917905920 = some .gt ∨ FP.dcmp w 4593671619917905920 = some .eq) (h2 : FP.dcmp w 4620693217682128896 = some .lt ∨ FP.dcmp w 4620693217682128896 = some .eq) : ∃ L : Int, fp_E w L ∧ -3 ≤ L ∧ L ≤ 3 := by
  change FP.Core.order (FP.Core.decode FP.Core.b64 w.toNat) (FP.Core.decode FP.Core.b64 (4593671619917905920 : UInt64).toNat) = some .gt ∨ FP.Core.order (FP.Core.decode FP.Core.b64 w.toNat) (FP.Core.decode FP.Core.b64 (4593671619917905920 : UInt64).toNat) = some .eq at h1
  change FP.Core.order (FP.Core.decode FP.Core.b64 w.toNat) (FP.Core.decode FP.Core.b64 (4620693217682128896 : UInt64).toNat) = some .lt ∨ FP.Core.order (FP.Core.decode FP.Core.b64 w.toNat) (FP.Core.decode FP.Core.b64 (4620693217682128896 : UInt64).toNat) = some .eq at h2
  rw [fp_c125] at h1
  rw [fp_c8] at h2
  cases hd : FP.Core.decode FP.Core.b64 w.toNat with
  | nan =>
    rw [hd] at h1
    rcases h1 with h1 | h1 <;> cases h1
  | inf s =>
    rw [hd] at h1 h2
    cases s
    · exfalso
      rcases h2 with h2 | h2 <;> revert h2 <;> decide
    · exfalso
      rcases h1 with h1 | h1 <;> revert h1 <;> decide
  | fin s c q =>
    rw [hd] at h1 h2
    have hform : (c < 4503599627370496 ∧ q = -1074) ∨ (4503599627370496 ≤ c ∧ c < 9007199254740992) := by
      rw [fp_dec] at hd
      split at hd
      · split at hd <;> cases hd
      · split at hd
        · injection hd with e1 e2 e3
          left
          exact ⟨by omega, e3.symm⟩
        · injection hd with e1 e2 e3
          right
          omega
    unfold FP.Core.order FP.Core.signed FP.Core.inUnits at h1 h2
    dsimp only at h1 h2
    rw [fp_cmpI] at h1 h2
    simp only [Bool.false_eq_true, if_false] at h1 h2
    have hge : ((4503599627370496 * 2 ^ (-55 - min q (-55)).toNat : Nat) : Int) ≤ (if s = true then -((c * 2 ^ (q - min q (-55)).toNat : Nat) : Int) else ((c * 2 ^ (q - min q (-55)).toNat : Nat) : Int)) := by
      by_cases hz : (if s = true then -((c * 2 ^ (q - min q (-55)).toNat : Nat) : Int) else ((c * 2 ^ (q - min q (-55)).toNat : Nat) : Int)) < ((4503599627370496 * 2 ^ (-55 - min q (-55)).toNat : Nat) : Int)
      · rw [if_pos hz] at h1
        rcases h1 with h1 | h1 <;> cases h1
      · exact Int.not_lt.mp hz
    have hle : (if s = true then -((c * 2 ^ (q - min q (-49)).toNat : Nat) : Int) else ((c * 2 ^ (q - min q (-49)).toNat : Nat) : Int)) ≤ ((4503599627370496 * 2 ^ (-49 - min q (-49)).toNat : Nat) : Int) := by
      by_cases hz : ((4503599627370496 * 2 ^ (-49 - min q (-49)).toNat : Nat) : Int) < (if s = true then -((c * 2 ^ (q - min q (-49)).toNat : Nat) : Int) else ((c * 2 ^ (q - min q (-49)).toNat : Nat) : Int))
      · rw [if_neg (by omega), if_neg (by omega)] at h2
        rcases h2 with h2 | h2 <;> cases h2
      · exact Int.not_lt.mp hz
    have p1 : 0 < 2 ^ (-55 - min q (-55)).toNat := Nat.pow_pos (by decide)
    cases s with
    | true =>
      exfalso
      simp only [if_true] at hge
      omega
    | false =>
      simp only [Bool.false_eq_true, if_false] at hge hle
      have hge : 4503599627370496 * 2 ^ (-55 - min q (-55)).toNat ≤ c * 2 ^ (q - min q (-55)).toNat := by omega
      have hle : c * 2 ^ (q - min q (-49)).toNat ≤ 4503599627370496 * 2 ^ (-49 - min q (-49)).toNat := by omega
      have hq1 : -55 ≤ q := by
        by_cases hz : q < -55
        · exfalso
          have e1 : (q - min q (-55)).toNat = 0 := by omega
          rw [e1, Nat.pow_zero, Nat.mul_one] at hge
          have e2 : 2 ≤ 2 ^ (-55 - min q (-55)).toNat := fp_p2 (by omega)
          have e3 : 4503599627370496 * 2 ≤ 4503599627370496 * 2 ^ (-55 - min q (-55)).toNat := Nat.mul_le_mul_left _ e2
          omega
        · exact Int.not_lt.mp hz
      have hc : 4503599627370496 ≤ c ∧ c < 9007199254740992 := by omega
      have hq2 : q ≤ -49 := by
        by_cases hz : -49 < q
        · exfalso
          have e1 : (-49 - min q (-49)).toNat = 0 := by omega
          rw [e1, Nat.pow_zero, Nat.mul_one] at hle
          have e2 : 2 ≤ 2 ^ (q - min q (-49)).toNat := fp_p2 (by omega)
          have e3 : c * 2 ≤ c * 2 ^ (q - min q (-49)).toNat := Nat.mul_le_mul_left _ e2
          omega
        · exact Int.not_lt.mp hz
      exact ⟨q + 52, ⟨c, q, hd, hc.1, hc.2, rfl⟩, by omega, by omega⟩
/-- an int as a double is no NaN, and neither is its product with 0.125 -/
theorem fp_int (v : Int32) : ∃ (s : Bool) (c : Nat) (q : Int), FP.Core.decode FP.Core.b64 (FP.i2d v).toNat = .fin s c q ∧ (c = 0 ∨ ∃ L : Int, fp_S (FP.i2d v) s L ∧ 0 ≤ L ∧ L ≤ 40) := by
  by_cases hv : v.toInt = 0
  · refine ⟨false, 0, -1074, ?_, Or.inl rfl⟩
    show FP.Core.decode FP.Core.b64 (UInt64.ofNat (FP.Core.fromInt FP.Core.b64 v.toInt)).toNat = _
    rw [hv]
    decide
  · have hn : v.toInt.natAbs ≠ 0 := by omega
    have hb1 := Int32.toInt_lt v
    have hb2 := Int32.le_toInt v
    have l1 : v.toInt.natAbs.log2 < 33 := (Nat.log2_lt hn).mpr (by omega)
    obtain ⟨c, Q, e1, g1, g2, g3, g4⟩ := fp_round (s := decide (v.toInt < 0)) (e := 0) hn (by omega) (by omega)
    have hS : fp_S (FP.i2d v) (decide (v.toInt < 0)) (Q + 52) := by
      show fp_S (UInt64.ofNat (FP.Core.fromInt FP.Core.b64 v.toInt)) _ _
      exact fp_of (show FP.Core.round FP.Core.b64 (FP.Core.ofInt v.toInt) = _ from e1) g1 g2 (by omega) (by omega)
    obtain ⟨c', q', h', h1', h2', h3'⟩ := id hS
    exact ⟨_, c', q', h', Or.inr ⟨_, hS, by omega, by omega⟩⟩
theorem fp_in (v : Int32) : vf_n64 (FP.i2d v) := by
  obtain ⟨s, c, q, h, -⟩ := fp_int v
  exact fp_finN h
theorem fp_iw (v : Int32) : vf_n64 (FP.dmul (FP.i2d v) 4593671619917905920) := by
  obtain ⟨s, c, q, h, h0⟩ := fp_int v
  rcases h0 with rfl | ⟨L, hS, h1, h2⟩
  · have e1 : FP.dmul (FP.i2d v) 4593671619917905920 = UInt64.ofNat (FP.Core.encode FP.Core.b64 (.fin (s != false) 0 (-1074))) := by
      show UInt64.ofNat (FP.Core.encode FP.Core.b64 (FP.Core.round FP.Core.b64 (FP.Core.exactProduct (FP.Core.decode FP.Core.b64 (FP.i2d v).toNat) (FP.Core.decode FP.Core.b64 (4593671619917905920 : UInt64).toNat)))) = _
      rw [h, fp_c125]
      rfl
    rw [e1]
    cases s <;> (rw [fp_m64]; decide)
  · obtain ⟨L2, g, -, -⟩ := fp_mulS hS (show fp_S 4593671619917905920 false (-3) from ⟨_, _, fp_c125, by decide, by decide, by decide⟩) (by omega) (by omega)
    exact g.n

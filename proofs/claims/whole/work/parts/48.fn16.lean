theorem symM_le (x : ST) (N r k a b : Nat) : symM x N r k a b ≤ 1000000000 := by
  unfold symM
  cases nt (gs (gM x) r k) with
  | none => dsimp only; split <;> omega
  | some c =>
    dsimp only
    split
    · exact cn_le _ _ _ _ _
    · omega
theorem dm_none {o : Option Nat} {a : Nat} (h : a = if o.isSome = true then 1 else 0) (h0 : a = 0) : o = none := by
  cases o with
  | none => rfl
  | some b => simp at h; omega
theorem dm_some {o : Option Nat} {a : Nat} (h : a = if o.isSome = true then 1 else 0) (h0 : a ≠ 0) : ∃ b, o = some b := by
  cases o with
  | none => simp at h; omega
  | some b => exact ⟨b, rfl⟩
theorem dm_bg {x : ST} {r i j t k : Nat} (hn : 1 ≤ x.2.1 4 r) (hn4 : x.2.1 4 r ≤ 4) (hij : i < j) (hj : j ≤ 14) (ht : t < (dv (x.2.1 4 r) i j).length) (hk : k ≤ x.2.1 4 r) : bg i ((dv (x.2.1 4 r) i j).getD t []) k ≤ 14 := by
  cases k with
  | zero => show i ≤ 14; omega
  | succ k =>
    rw [bg_succ]
    have q := piece (n := x.2.1 4 r) (i := i) (j := j) (t := t) (k := k) (by omega) (by omega) (by omega) ht (by omega)
    omega
theorem dm_u {y : ST} {q0 w : Nat} {h : UInt64} (hu : ∀ q, y.2.1 14 q ≤ 1000000000) (hw : w ≤ 1000000000) : ∀ q, (sD (sA y 14 q0 w) 10 q0 h).2.1 14 q ≤ 1000000000 := by
  intro q
  show va_up y.2.1 14 (va_up (y.2.1 14) q0 w) 14 q ≤ _
  rw [vup_eq, vup_if]
  split
  · exact hw
  · exact hu q

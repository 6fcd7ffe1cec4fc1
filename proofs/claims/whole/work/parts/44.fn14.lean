/-! THE REFERENCE -/
section CGB
variable {K : KX} {cc : ByteArray} {own : String} {tys : List (ClassId × FieldType)} {ws : va_W} {L : List (Option Value)} {pc lv : Nat} {S : List Value}
theorem a_cgtB {a b tgt : Nat} {off : Int} (C : CT K cc own tys lv) (d : decode cc pc = .ok (.if_icmp .gt off, 3)) (ht : (pc : Int) + off = (tgt : Int)) (ha : a < 2147483648) (hb : b < 4294967296) (kt : b < a ∨ 2147483648 ≤ b → WA K ws L tgt S) (kf : a ≤ b ∧ b < 2147483648 → WA K ws L (pc + 3) S) : WA K ws L pc (.int (nI b) :: .int (nI a) :: S) := fun H locs ls hP hD hS hl => by
  have e : nI b < nI a ↔ (b < a ∨ 2147483648 ≤ b) := by
    rw [Int32.lt_iff_toInt_lt, nI_int hb, nI_int (show a < 4294967296 by omega), if_pos ha]
    split <;> omega
  exact lv_icmp_gt C.1 C.2.1 d ht (fun h => kt (e.mp h) H locs ls hP hD hS hl) (fun h => kf (by have h2 : ¬ (b < a ∨ 2147483648 ≤ b) := fun q => h (e.mpr q); omega) H locs ls hP hD hS hl)
end CGB
def gM (x : ST) : GT := (x.1 0, fun r => x.2.1 3 r, fun r => x.2.1 4 r, fun r => x.2.1 6 r, fun r k => x.2.1 5 (r * 4 + k), fun r => x.2.2.1 9 r, fun r s => decide (x.2.1 11 (r * 16 + s) ≠ 0), fun n c => decide (x.2.1 12 (n * 127 + c) ≠ 0))
def wM (x : ST) (s a b : Nat) : Nat := x.2.1 14 (s * 225 + (a * 15 + b))
def hM (x : ST) (s a b : Nat) : UInt64 := x.2.2.1 10 (s * 225 + (a * 15 + b))
theorem dn_1 (a : Nat) : nI (a + (4294967296 - 1)) = nI (dnv a) := by
  unfold dnv
  split
  · rename_i h; rw [h]
  · rw [show a + (4294967296 - 1) = a - 1 + 4294967296 by omega, nI_mod]
theorem dnv_32 {a : Nat} (h : a < 4294967296) : dnv a < 4294967296 := by unfold dnv; split <;> omega
theorem dnv_lt {a : Nat} (h : a < 2147483648) (r : Nat) : (r ≤ dnv a ∧ dnv a < 2147483648) ↔ r < a := by unfold dnv; split <;> omega
theorem sS_sS (x : ST) (k a b : Nat) : sS (sS x k a) k b = sS x k b := by
  unfold sS
  congr 1
  funext j
  unfold va_up
  dsimp only
  split <;> rfl
theorem ntM_some {c : Nat} (h : 65 ≤ c ∧ c ≤ 70) : nt c = some (c - 65) := by unfold nt; rw [if_pos h]
theorem ntM_none {c : Nat} (h : ¬ (65 ≤ c ∧ c ≤ 70)) : nt c = none := by unfold nt; rw [if_neg h]
theorem chM_no {x : ST} {r : Nat} (h : ¬ x.2.1 4 r = 1 ∨ ¬ (65 ≤ x.2.1 5 (r * 4) ∧ x.2.1 5 (r * 4) ≤ 70)) : chn (gM x) r = none := by
  have e : gs (gM x) r 0 = x.2.1 5 (r * 4) := rfl
  have e2 : gz (gM x) r = x.2.1 4 r := rfl
  unfold chn
  rcases h with h | h
  · rw [e2, if_neg h]
  · split
    · rw [e]; exact ntM_none h
    · rfl
theorem chM_yes {x : ST} {r : Nat} (h : x.2.1 4 r = 1) (h2 : 65 ≤ x.2.1 5 (r * 4) ∧ x.2.1 5 (r * 4) ≤ 70) : chn (gM x) r = some (x.2.1 5 (r * 4) - 65) := by
  have e : gs (gM x) r 0 = x.2.1 5 (r * 4) := rfl
  have e2 : gz (gM x) r = x.2.1 4 r := rfl
  unfold chn
  rw [e2, if_pos h, e]
  exact ntM_some h2
theorem alM_1 {x : ST} {r k s : Nat} (h : x.2.1 11 (r * 16 + s) ≠ 0) : alw (gM x) r k s = false := by
  have e : gb (gM x) r s = true := decide_eq_true h
  unfold alw
  rw [e]
  rfl
theorem alM_2 {x : ST} {r k s : Nat} (h : x.2.1 11 (r * 16 + s) = 0) (h2 : r ≠ s) : alw (gM x) r k s = true := by
  have e : gb (gM x) r s = false := decide_eq_false (fun q => q h)
  unfold alw
  rw [e, decide_eq_false h2]
  rfl
theorem alM_3 {x : ST} {r k s : Nat} (h2 : r = s) (hc : (x.2.1 6 r = 2 ∧ k + 1 = x.2.1 4 r) ∨ (x.2.1 6 r = 3 ∧ k = 0)) : alw (gM x) r k s = false := by
  have e1 : gm (gM x) r = x.2.1 6 r := rfl
  have e2 : gz (gM x) r = x.2.1 4 r := rfl
  unfold alw
  rw [decide_eq_true h2, e1, e2]
  rcases hc with q | q
  · rw [decide_eq_true q]; simp
  · rw [decide_eq_true q]; simp
theorem alM_4 {x : ST} {r k s : Nat} (h : x.2.1 11 (r * 16 + s) = 0) (hc : ¬ ((x.2.1 6 r = 2 ∧ k + 1 = x.2.1 4 r) ∨ (x.2.1 6 r = 3 ∧ k = 0))) : alw (gM x) r k s = true := by
  have e : gb (gM x) r s = false := decide_eq_false (fun q => q h)
  have e1 : gm (gM x) r = x.2.1 6 r := rfl
  have e2 : gz (gM x) r = x.2.1 4 r := rfl
  unfold alw
  rw [e, e1, e2, decide_eq_false (fun q => hc (Or.inl q)), decide_eq_false (fun q => hc (Or.inr q))]
  simp
theorem tb_shr (m b : Nat) : (m / 2 ^ b) &&& 1 = if m.testBit b = true then 1 else 0 := by
  rw [Nat.and_one_is_mod, Nat.testBit_eq_decide_div_mod_eq]
  by_cases h : m / 2 ^ b % 2 = 1
  · rw [h]; simp
  · rw [show m / 2 ^ b % 2 = 0 by omega]; simp
theorem wrM_1 {N : Nat} {c : Nat → Nat} (h : N < 1) : 0 = wpf N c := by rw [show N = 0 by omega]; rfl
theorem nt_is (c : Nat) : (nt c).isSome = decide (65 ≤ c ∧ c ≤ 70) := by
  unfold nt
  split
  · rename_i h; rw [decide_eq_true h]; rfl
  · rename_i h; rw [decide_eq_false h]; rfl
theorem fit0 {c : Nat} : fitsB 0 c = decide (65 ≤ c ∧ c ≤ 70) := nt_is c
theorem wrM_2 {N : Nat} {c : Nat → Nat} (h : 1 ≤ N) (h2 : ¬ (65 ≤ c 0 ∧ c 0 ≤ 70)) : 0 = wpf N c := wpf_of (Or.inl ⟨0, by omega, rfl, by rw [fit0, decide_eq_false h2], fun q hq => absurd hq (Nat.not_lt_zero _)⟩)
theorem wrM_3 {N : Nat} {c : Nat → Nat} (h : N = 1) (h2 : 65 ≤ c 0 ∧ c 0 ≤ 70) : 1 = wpf N c := wpf_of (Or.inr ⟨fun q hq => by rw [show q = 0 by omega, fit0, decide_eq_true h2], by rw [if_pos (by omega), h]⟩)
theorem wrM_4 {N : Nat} {c : Nat → Nat} (h : 2 ≤ N) (h2 : 65 ≤ c 0 ∧ c 0 ≤ 70) (h3 : c 1 ≠ 58) : 1 = wpf N c := wpf_of (Or.inl ⟨1, by omega, rfl, by show decide (c 1 = 58) = false; exact decide_eq_false h3, fun q hq => by rw [show q = 0 by omega, fit0, decide_eq_true h2]⟩)
theorem wrM_0 {c : Nat → Nat} (h2 : 65 ≤ c 0 ∧ c 0 ≤ 70) (h3 : c 1 = 58) : ∀ q, q < 2 → fitsB q (c q) = true := by
  intro q hq
  rcases (show q = 0 ∨ q = 1 by omega) with rfl | rfl
  · rw [fit0, decide_eq_true h2]
  · show decide (c 1 = 58) = true
    exact decide_eq_true h3
theorem wrM_f {i : Nat} {c : Nat → Nat} (hi : 2 ≤ i) : fitsB i (c i) = decide (i < 6 ∧ c i ≠ 58 ∧ (c i < 71 ∨ 90 < c i)) := by
  unfold fitsB
  rw [if_neg (by omega), if_neg (by omega)]
theorem wrM_5 {N i : Nat} {c : Nat → Nat} (hi : 2 ≤ i) (hN : i < N) (ha : ∀ q, q < i → fitsB q (c q) = true) (h : i = 6 ∨ c i = 58 ∨ (71 ≤ c i ∧ c i ≤ 90)) : i = wpf N c := wpf_of (Or.inl ⟨i, hN, rfl, by rw [wrM_f hi, decide_eq_false (by omega)], ha⟩)
theorem wrM_6 {i : Nat} {c : Nat → Nat} (hi : 2 ≤ i) (h6 : i < 6) (h1 : c i ≠ 58) (h2 : ¬ (71 ≤ c i ∧ c i ≤ 90)) : fitsB i (c i) = true := by rw [wrM_f hi, decide_eq_true (by omega)]
theorem wrM_7 {N i : Nat} {c : Nat → Nat} (hi : 2 ≤ i) (hN : i = N) (ha : ∀ q, q < i → fitsB q (c q) = true) : (if N = 2 then 2 else 4294967295) = wpf N c := wpf_of (Or.inr ⟨fun q hq => ha q (by omega), by by_cases h : N = 2; rw [if_pos h, if_pos (by omega), h]; rw [if_neg h, if_neg (by omega)]⟩)
-- heaviest, count
theorem oN_neg {o : Option Nat} (hb : ∀ b, o = some b → b < 16) (h : 2147483648 ≤ oN o) : o = none := by
  cases o with
  | none => rfl
  | some b =>
    have := hb b rfl
    have h : 2147483648 ≤ b := h
    omega
theorem oN_nn {o : Option Nat} (h : oN o < 2147483648) : ∃ b, o = some b := by
  cases o with
  | none => exact absurd h (by decide)
  | some b => exact ⟨b, rfl⟩
theorem oN_32 {o : Option Nat} (hb : ∀ b, o = some b → b < 16) : oN o < 4294967296 := by
  cases o with
  | none => decide
  | some b =>
    have := hb b rfl
    show b < 4294967296
    omega
section HV
variable {g : GT} {n : Nat} {sel : Nat → Bool} {w : Nat → Nat} {h : Nat → UInt64} {s : Nat}
theorem inN_1 (h1 : gl g s ≠ n) : inN g n sel s = false := by unfold inN; rw [decide_eq_false h1]; rfl
theorem inN_2 (h1 : gm g s = 1) : inN g n sel s = false := by unfold inN; rw [h1]; simp
theorem inN_3 (h1 : sel s = false) : inN g n sel s = false := by unfold inN; rw [h1]; simp
theorem inN_4 (h1 : gl g s = n) (h2 : gm g s ≠ 1) (h3 : sel s = true) : inN g n sel s = true := by unfold inN; rw [decide_eq_true h1, decide_eq_true h2, h3]; rfl
theorem tpM_no (h1 : inN g n sel s = false ∨ w s = 0) : tp g n sel w h (s + 1) = tp g n sel w h s := by
  simp only [tp]
  rw [if_neg]
  rintro ⟨q1, q2⟩
  rcases h1 with q | q
  · rw [q] at q1; cases q1
  · exact q2 q
theorem tpM_f (h1 : inN g n sel s = true) (h2 : w s ≠ 0) (h3 : tp g n sel w h s = none) : tp g n sel w h (s + 1) = some s := by
  simp only [tp]
  rw [if_pos ⟨h1, h2⟩, h3]
theorem tpM_g {b : Nat} (h1 : inN g n sel s = true) (h2 : w s ≠ 0) (h3 : tp g n sel w h s = some b) (h4 : dgt (h s) (h b) = true) : tp g n sel w h (s + 1) = some s := by
  simp only [tp]
  rw [if_pos ⟨h1, h2⟩, h3]
  exact if_pos h4
theorem tpM_n {b : Nat} (h1 : inN g n sel s = true) (h2 : w s ≠ 0) (h3 : tp g n sel w h s = some b) (h4 : dgt (h s) (h b) = false) : tp g n sel w h (s + 1) = some b := by
  simp only [tp]
  rw [if_pos ⟨h1, h2⟩, h3]
  exact if_neg (by rw [h4]; decide)
theorem cnM_no (h1 : inN g n sel s = false) : cn g n sel w (s + 1) = cn g n sel w s := by
  simp only [cn]
  rw [if_neg (by rw [h1]; decide)]
theorem cnM_y (h1 : inN g n sel s = true) : cn g n sel w (s + 1) = min 1000000000 (cn g n sel w s + w s) := by
  simp only [cn]
  rw [if_pos h1]
  rfl
theorem cn_le (g : GT) (n : Nat) (sel : Nat → Bool) (w : Nat → Nat) : ∀ s, cn g n sel w s ≤ 1000000000
  | 0 => by simp [cn]
  | s + 1 => by
    have := cn_le g n sel w s
    simp only [cn, MX]
    split <;> omega
end HV
/-- the reference's number over a use -/
def symM (x : ST) (N : Nat) (r k a b : Nat) : Nat := match nt (gs (gM x) r k) with
  | none => if b = a + 1 ∧ stands (gs (gM x) r k) (x.2.1 2 a) = true then 1 else 0
  | some c => if x.2.1 13 (c * 225 + (a * 15 + b)) ≠ 0 then cn (gM x) c (alw (gM x) r k) (fun s => wM x s a b) (gR (gM x)) else 0
theorem sdM_3 {c x : Nat} (h1 : c ≠ 35) (h2 : c ≠ 64) : stands c x = decide (c = x) := by unfold stands; rw [if_neg h1, if_neg h2]
theorem sdM_2 {c x : Nat} (h2 : c = 64) : stands c x = decide (97 ≤ x ∧ x ≤ 122) := by unfold stands; rw [if_neg (by omega), if_pos h2]
theorem sdM_1 {c x : Nat} (h2 : c = 35) : stands c x = decide (48 ≤ x ∧ x ≤ 57) := by unfold stands; rw [if_pos h2]
theorem d01 {P : Prop} {_ : Decidable P} {b : Bool} (h : b = decide P) : (if b = true then 1 else 0 : Nat) = if P then 1 else 0 := by
  rw [h]
  by_cases q : P
  · rw [if_pos q, decide_eq_true q]; rfl
  · rw [if_neg q, decide_eq_false q]; rfl
theorem nrM_no {g : GT} {n : Nat} {w : Nat → Nat} {s : Nat} (h : ¬ (gl g s = n ∧ gm g s = 1 ∧ w s ≠ 0)) : nrej g n w (s + 1) = nrej g n w s := by
  simp only [nrej]
  rw [decide_eq_false h]
  simp
theorem nrM_bad {g : GT} {n : Nat} {w : Nat → Nat} {s : Nat} (h : gl g s = n ∧ gm g s = 1 ∧ w s ≠ 0) : ∀ d, nrej g n w (s + 1 + d) = false
  | 0 => by
    simp only [Nat.add_zero, nrej]
    rw [decide_eq_true h]
    simp
  | d + 1 => by
    rw [← Nat.add_assoc]
    simp only [nrej]
    rw [nrM_bad h d]
    rfl
-- the reference's text
def tkN (e t : Nat) : Nat := if tok e t = true then 1 else 0
theorem tkN_le (e t : Nat) : tkN e t ≤ 1 := by unfold tkN; split <;> omega
theorem tkN_0 {e t : Nat} (h : byt e t = 0) : tkN e t = tkN e (t + 1) := by
  have q : tok e (t + 1) = tok e t := by
    simp only [tok]
    rw [decide_eq_true h]
    simp
  unfold tkN
  rw [q]
theorem tkN_1 {e t : Nat} (h : 33 ≤ byt e t ∧ byt e t ≤ 126) : tkN e t = tkN e (t + 1) := by
  have q : tok e (t + 1) = tok e t := by
    simp only [tok]
    rw [decide_eq_true h]
    simp
  unfold tkN
  rw [q]
theorem tkN_2 {e t : Nat} (h0 : byt e t ≠ 0) (h : ¬ (33 ≤ byt e t ∧ byt e t ≤ 126)) : 0 = tkN e (t + 1) := by
  have q : tok e (t + 1) = false := by
    simp only [tok]
    rw [decide_eq_false h0, decide_eq_false h]
    simp
  unfold tkN
  rw [q]
  rfl
theorem tkN_f {e t : Nat} (h : 1 - tkN e t ≠ 0) : tok e t = false := by
  unfold tkN at h
  split at h
  · omega
  · rename_i q; exact Bool.eq_false_iff.mpr q
theorem tkN_t {e t : Nat} (h : 1 - tkN e t = 0) : tok e t = true := by
  unfold tkN at h
  split at h
  · assumption
  · omega
def apM (e : Nat) (x : ST) : Nat → ST
  | 0 => x
  | t + 1 => if byt e t = 0 then apM e x t else sS (sA (apM e x t) 1 ((apM e x t).1 1) (byt e t)) 1 ((apM e x t).1 1 + 1)
theorem apM_0 {e t : Nat} {x : ST} (h : byt e t = 0) : apM e x (t + 1) = apM e x t := by
  simp only [apM]
  rw [if_pos h]
theorem apM_1 {e t : Nat} {x : ST} (h : byt e t ≠ 0) : apM e x (t + 1) = sS (sA (apM e x t) 1 ((apM e x t).1 1) (byt e t)) 1 ((apM e x t).1 1 + 1) := by
  simp only [apM]
  rw [if_neg h]
theorem apM_len (e : Nat) (x : ST) : ∀ t, (apM e x t).1 1 = x.1 1 + tcn e t
  | 0 => rfl
  | t + 1 => by
    have ih := apM_len e x t
    by_cases h : byt e t = 0
    · rw [apM_0 h, tcn_0 h, ih]
    · rw [apM_1 h, tcn_1 h]
      rw [show (sS (sA (apM e x t) 1 ((apM e x t).1 1) (byt e t)) 1 ((apM e x t).1 1 + 1)).1 1 = (apM e x t).1 1 + 1 from vup_eq (sA (apM e x t) 1 ((apM e x t).1 1) (byt e t)).1 1 ((apM e x t).1 1 + 1), ih]
      rfl
theorem apM_room {e t : Nat} {x : ST} (ht : t < 8) (h0 : byt e t ≠ 0) (h : x.1 1 + tcn e 8 ≤ 14) : (apM e x t).1 1 < 14 := by
  rw [apM_len]
  have := tcn_mono e (8 - (t + 1)) (t + 1)
  rw [show t + 1 + (8 - (t + 1)) = 8 by omega, tcn_1 h0] at this
  omega
def CHm (x : ST) : ST := sS (sS x 6 0) 7 0
def ctM (x : ST) (what : Nat) : Nat := if what = 0 then x.1 0 else if what = 1 then x.1 2 else if what = 2 then x.1 1 else if what = 3 then (if x.1 7 = 0 then 0 else x.1 4) else if what = 4 then (if x.1 6 = 0 then 0 else x.1 3) else 4294967295
def ndM (x : ST) (k h : Nat) : Nat := if h = 0 then x.2.1 15 k else if h = 1 then x.2.1 16 k else if h = 2 then x.2.1 17 k else x.2.1 19 k
def UNb (x : ST) (i : Nat) (R : Nat) (q : Nat) : Nat := if (q / 16 = R ∧ q % 16 < i) ∨ (q % 16 = R ∧ q / 16 < i) then 0 else x.2.1 11 q

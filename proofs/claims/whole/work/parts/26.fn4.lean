/-- one less, -1 below 0 -/
def dnv (k : Nat) : Nat := if k = 0 then 4294967295 else k - 1
theorem inc_m1 (a : Nat) : nI a + Int32.ofInt (-1) = nI (dnv a) := by
  unfold dnv
  split
  · rename_i h; rw [h]; decide
  · rename_i h
    have e : Int32.ofInt (-1) = - nI 1 := by decide
    rw [e, ← Int32.sub_eq_add_neg, pk_sub (by omega)]
theorem dn_2 {n : Nat} (h : 1 ≤ n) : nI (n + (4294967296 - 2)) = nI (dnv (n - 1)) := by
  unfold dnv
  split
  · rename_i q; rw [show n = 1 by omega]
  · rw [show n + (4294967296 - 2) = (n - 1 - 1) + 4294967296 by omega, nI_mod]
theorem nxk_skip {n j : Nat} {e : Nat → Nat} {k : Nat} (h : j ≤ e k + (n - 1 - k)) : nxk n j e (k + 1) = nxk n j e k := by
  simp only [nxk]
  rw [if_neg (by omega)]
theorem symP_only {x y : ST} (h : Only [18] x y) (r : Nat) : symP y r = symP x r := by
  funext k a b
  unfold symP
  rw [h.2.2 15 (by decide)]
theorem wtP_only {x y : ST} (h : Only [18] x y) (r : Nat) : wtP y r = wtP x r := by
  funext k a b
  unfold wtP
  rw [h.2.2 16 (by decide), h.2.1]
def HV (bo : Option Nat) (F : Nat → UInt64) : UInt64 := match bo with
  | none => 0
  | some b => F b
def PK (bo : Option Nat) (P : Nat → Nat) : Nat := match bo with
  | none => 0
  | some b => P b
theorem bs_z {sym : Nat → Nat → Nat → Nat} {fwt : List Nat → UInt64} {n i t : Nat} {L : List (List Nat)} (h : pw sym i (L.getD t []) n = 0) : bs sym fwt n i L (t + 1) = bs sym fwt n i L t := by
  simp only [bs]
  rw [if_pos h]
theorem bs_g {sym : Nat → Nat → Nat → Nat} {fwt : List Nat → UInt64} {n i t : Nat} {L : List (List Nat)} (h : pw sym i (L.getD t []) n ≠ 0) (hg : dgt (fwt (L.getD t [])) (HV (bs sym fwt n i L t) (fun b => fwt (L.getD b []))) = true) : bs sym fwt n i L (t + 1) = some t := by
  simp only [bs]
  rw [if_neg h]
  cases q : bs sym fwt n i L t with
  | none => rfl
  | some b =>
    rw [q] at hg
    dsimp only
    exact if_pos hg
theorem bs_n {sym : Nat → Nat → Nat → Nat} {fwt : List Nat → UInt64} {n i t : Nat} {L : List (List Nat)} (h : pw sym i (L.getD t []) n ≠ 0) (hp : dgt (fwt (L.getD t [])) 0 = true) (hg : dgt (fwt (L.getD t [])) (HV (bs sym fwt n i L t) (fun b => fwt (L.getD b []))) = false) : bs sym fwt n i L (t + 1) = bs sym fwt n i L t := by
  simp only [bs]
  rw [if_neg h]
  cases q : bs sym fwt n i L t with
  | none => rw [q] at hg; rw [show HV none (fun b => fwt (L.getD b [])) = 0 from rfl, hp] at hg; cases hg
  | some b =>
    rw [q] at hg
    dsimp only
    rw [if_neg (by rw [show HV (some b) (fun b => fwt (L.getD b [])) = fwt (L.getD b []) from rfl] at hg; rw [hg]; decide)]
theorem pkN_lt {e : Nat → Nat} : ∀ {n : Nat}, (∀ k, k < n → e k < 16) → pkN e n < 2 ^ (4 * n)
  | 0, _ => by simp [pkN]
  | n + 1, h => by
    simp only [pkN]
    exact pk_bound (pkN_lt (fun k hk => h k (by omega))) (h n (by omega))
/-- what deriveRule leaves: the rule's row over the span, nothing else (the ends apart) -/
def DER (x : ST) (r i j : Nat) (u : ST) : Prop := ∃ w p, ∃ h : UInt64, u.1 = x.1 ∧ (∀ k, k ∉ [12, 14, 18] → u.2.1 k = x.2.1 k) ∧ u.2.1 12 = va_up (x.2.1 12) (r * 105 + spn i j) w ∧ u.2.1 14 = va_up (x.2.1 14) (r * 105 + spn i j) p ∧ u.2.2.1 = va_up x.2.2.1 13 (va_up (x.2.2.1 13) (r * 105 + spn i j) h) ∧ u.2.2.2 = x.2.2.2 ∧ p < 65536 ∧
  w = aw (symP x r) (x.2.1 5 r) i (dv (x.2.1 5 r) i j) (dv (x.2.1 5 r) i j).length ∧
  h = HV (bs (symP x r) (fun l => fw (x.2.2.1 7 r) (wtP x r) i l (x.2.1 5 r)) (x.2.1 5 r) i (dv (x.2.1 5 r) i j) (dv (x.2.1 5 r) i j).length) (fun b => fw (x.2.2.1 7 r) (wtP x r) i ((dv (x.2.1 5 r) i j).getD b []) (x.2.1 5 r)) ∧
  p = PK (bs (symP x r) (fun l => fw (x.2.2.1 7 r) (wtP x r) i l (x.2.1 5 r)) (x.2.1 5 r) i (dv (x.2.1 5 r) i j) (dv (x.2.1 5 r) i j).length) (fun b => pkN (lgd ((dv (x.2.1 5 r) i j).getD b [])) (x.2.1 5 r))
theorem aw_le (sym : Nat → Nat → Nat → Nat) (n i : Nat) (L : List (List Nat)) : ∀ t, aw sym n i L t ≤ 1000000000
  | 0 => by simp [aw]
  | t + 1 => by simp only [aw, MX]; omega
theorem dnv_neg {t : Nat} (h : 2147483648 ≤ dnv t) (ht : t ≤ 100) : t = 0 := by
  unfold dnv at h
  split at h <;> omega
theorem dnv_pos {t : Nat} (h : dnv t < 2147483648) : ∃ k, t = k + 1 := by
  unfold dnv at h
  split at h
  · omega
  · exact ⟨t - 1, by omega⟩
theorem nx_hit {n j : Nat} {e : Nat → Nat} {k : Nat} (h : e k + (n - 1 - k) < j) : nxk n j e (k + 1) = some (fun x => if x < k then e x else if x + 1 < n then e k + 1 + (x - k) else e x) := by
  simp only [nxk]
  rw [if_pos h]
theorem nx_val {n k q : Nat} {e : Nat → Nat} {f : Nat → Nat} (hq : n - 1 ≤ q) (hq2 : q ≤ n - 1) (hk : k + 1 ≤ q) (h1 : ∀ c, c < q → f c = if c < k then e c else e k + 1 + (c - k)) (h2 : ∀ c, q ≤ c → c < n → f c = e c) : ∀ c, c < n → f c = (fun x => if x < k then e x else if x + 1 < n then e k + 1 + (x - k) else e x) c := by
  intro c hc
  dsimp only
  by_cases h : c < q
  · rw [h1 c h]
    split
    · rfl
    · rw [if_pos (by omega)]
  · rw [h2 c (by omega) hc, if_neg (by omega), if_neg (by omega)]
theorem aw_z {sym : Nat → Nat → Nat → Nat} {n i t : Nat} {L : List (List Nat)} (h : pw sym i (L.getD t []) n = 0) : aw sym n i L (t + 1) = aw sym n i L t := by
  have := aw_le sym n i L t
  simp only [aw, MX]
  omega
theorem der_m {n i j : Nat} (hn : 1 ≤ n) (hn4 : n ≤ 4) (hij : i < j) (hj : j ≤ 14) : (if i + n ≤ j then 1 else 0 : Nat) = if 0 < (dv n i j).length then 1 else 0 := by
  by_cases h : i + n ≤ j
  · have h1 := dv_first (show n < 5 by omega) (show j < 15 by omega) (show i < 15 by omega) hn h
    have h2 := (List.getElem?_eq_some_iff.mp h1).1
    rw [if_pos h, if_pos h2]
  · rw [if_neg h, dv_none (by omega) (by omega) (by omega) h]
    rfl
theorem der_e {n i j : Nat} (hn : 1 ≤ n) (hn4 : n ≤ 4) (hij : i < j) (hj : j ≤ 14) {f : Nat → Nat} (hf : ∀ k, k < n → f k = if k + 1 = n then j else i + k + 1) : 0 < (dv n i j).length → ∀ k, k < n → f k = lgd ((dv n i j).getD 0 []) k := by
  intro hT k hk
  by_cases h : i + n ≤ j
  · have h1 := dv_first (show n < 5 by omega) (show j < 15 by omega) (show i < 15 by omega) hn h
    rw [gt_of hT] at h1
    rw [Option.some.inj h1, hf k hk]
    simp [lgd, List.getD, hk]
  · rw [dv_none (by omega) (by omega) (by omega) h] at hT
    cases hT
theorem der_nx {n i j t rr : Nat} {f : Nat → Nat} (hn : 1 ≤ n) (hn4 : n ≤ 4) (hij : i < j) (hj : j ≤ 14) (ht : t < (dv n i j).length) (h : (nx n j (lgd ((dv n i j).getD t [])) = none ∧ rr = 0) ∨ (∃ e', nx n j (lgd ((dv n i j).getD t [])) = some e' ∧ rr = 1 ∧ ∀ k, k < n → f k = e' k)) : rr = (if t + 1 < (dv n i j).length then 1 else 0) ∧ (t + 1 < (dv n i j).length → ∀ k, k < n → f k = lgd ((dv n i j).getD (t + 1) []) k) := by
  have h1 := dv_next (show n < 5 by omega) (show j < 15 by omega) (show i < 15 by omega) (gt_of ht)
  unfold nxL at h1
  rcases h with ⟨h2, rfl⟩ | ⟨e', h2, rfl, h3⟩
  · rw [h2] at h1
    have h4 : ¬ t + 1 < (dv n i j).length := fun q => by
      rw [gt_of q] at h1
      cases h1
    exact ⟨by rw [if_neg h4], fun q => absurd q h4⟩
  · rw [h2] at h1
    have h4 : t + 1 < (dv n i j).length := (List.getElem?_eq_some_iff.mp h1.symm).1
    refine ⟨by rw [if_pos h4], fun _ k hk => ?_⟩
    rw [gt_of h4] at h1
    rw [← Option.some.inj h1, h3 k hk]
    simp [lgd, List.getD, hk]
theorem der_ret {x y : ST} {r i j w p : Nat} {h : UInt64} (ho : Only [18] x y) (hw : w = aw (symP x r) (x.2.1 5 r) i (dv (x.2.1 5 r) i j) (dv (x.2.1 5 r) i j).length)
  (hh : h = HV (bs (symP x r) (fun l => fw (x.2.2.1 7 r) (wtP x r) i l (x.2.1 5 r)) (x.2.1 5 r) i (dv (x.2.1 5 r) i j) (dv (x.2.1 5 r) i j).length) (fun b => fw (x.2.2.1 7 r) (wtP x r) i ((dv (x.2.1 5 r) i j).getD b []) (x.2.1 5 r)))
  (hp : p = PK (bs (symP x r) (fun l => fw (x.2.2.1 7 r) (wtP x r) i l (x.2.1 5 r)) (x.2.1 5 r) i (dv (x.2.1 5 r) i j) (dv (x.2.1 5 r) i j).length) (fun b => pkN (lgd ((dv (x.2.1 5 r) i j).getD b [])) (x.2.1 5 r))) (hp16 : p < 65536) : DER x r i j (sA (sD (sA y 12 (r * 105 + spn i j) w) 13 (r * 105 + spn i j) h) 14 (r * 105 + spn i j) p) := by
  refine ⟨w, p, h, ho.1, fun k hk => ?_, ?_, ?_, ?_, ?_, hp16, hw, hh, hp⟩
  · have h12 : k ≠ 12 := fun e => hk (by rw [e]; decide)
    have h14 : k ≠ 14 := fun e => hk (by rw [e]; decide)
    have h18 : k ≠ 18 := fun e => hk (by rw [e]; decide)
    rw [sA_ne _ _ _ h14]
    show (sA y 12 (r * 105 + spn i j) w).2.1 k = _
    rw [sA_ne _ _ _ h12]
    exact ho.2.2 k (by simp [h18])
  · rw [sA_ne _ _ _ (by decide)]
    show va_up y.2.1 12 (va_up (y.2.1 12) _ _) 12 = _
    rw [va_up_self, ho.2.2 12 (by decide)]
  · show va_up (sA y 12 (r * 105 + spn i j) w).2.1 14 (va_up ((sA y 12 (r * 105 + spn i j) w).2.1 14) _ _) 14 = _
    rw [va_up_self, sA_ne _ _ _ (by decide), ho.2.2 14 (by decide)]
  · show va_up y.2.2.1 13 (va_up (y.2.2.1 13) _ _) = _
    rw [ho.2.1]
  · show y.2.2.2 = _
    rw [ho.2.1]

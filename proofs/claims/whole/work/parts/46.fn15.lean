/-! the reference: rule, undo, next, weightOf, divide -/
def rkN (w : UInt64) : Nat := if rokB w = true then 1 else 0
theorem rkN_le (w : UInt64) : rkN w ≤ 1 := by unfold rkN; split <;> omega
theorem rkN_f {w : UInt64} (h : 1 - rkN w ≠ 0) : rokB w = false := by
  unfold rkN at h
  split at h
  · omega
  · rename_i q; exact Bool.eq_false_iff.mpr q
theorem rkN_t {w : UInt64} (h : 1 - rkN w = 0) : rokB w = true := by
  unfold rkN at h
  split at h
  · assumption
  · omega
/-- scalars of the reference behind rule: length, place, thrown -/
def SC3 (x u : ST) (pl th : Nat) : Prop := u.2 = x.2 ∧ ∀ k, u.1 k = if k = 1 then 0 else if k = 2 then pl else if k = 5 then th else x.1 k
theorem vup_if {α : Type} (f : Nat → α) (k : Nat) (v : α) (j : Nat) : va_up f k v j = if j = k then v else f j := rfl
theorem sS_1 (x : ST) (k v j : Nat) : (sS x k v).1 j = if j = k then v else x.1 j := rfl
theorem SC3_a {x : ST} {a : Nat} : SC3 x (sS (sS (sS x 5 a) 1 0) 5 2) (x.1 2) 2 := ⟨rfl, fun k => by
  simp only [sS_1]
  by_cases h1 : k = 1 <;> by_cases h2 : k = 2 <;> by_cases h5 : k = 5 <;> simp [h1, h2, h5]⟩
def MST (x u : ST) (th : Nat) : Prop := u.2 = x.2 ∧ ∀ k, u.1 k = if k = 1 then 0 else if k = 5 then th else x.1 k
/-- the reference has taken a rule -/
def ADm (x : ST) (w : UInt64) (u : ST) : Prop := u.2.1 3 = va_up (x.2.1 3) (x.1 0) (x.2.1 1 0 - 65) ∧ u.2.1 4 = va_up (x.2.1 4) (x.1 0) (x.1 1 - 2) ∧ u.2.1 6 = va_up (x.2.1 6) (x.1 0) 0 ∧ (∀ k, k ∉ [3, 4, 5, 6] → u.2.1 k = x.2.1 k) ∧ (∀ i, u.2.1 5 i = if x.1 0 * 4 ≤ i ∧ i < x.1 0 * 4 + (x.1 1 - 2) then x.2.1 1 (i - x.1 0 * 4 + 2) else x.2.1 5 i) ∧ u.2.2.1 = va_up x.2.2.1 9 (va_up (x.2.2.1 9) (x.1 0) w) ∧ u.2.2.2 = x.2.2.2 ∧ WF u ∧ ∀ k, u.1 k = if k = 0 then x.1 0 + 1 else if k = 1 then 0 else if k = 5 then 0 else if k = 6 then 0 else if k = 7 then 0 else x.1 k
def wlM (x : ST) : Bool := decide (x.1 1 = 3) && (match nt (x.2.1 1 2) with | none => false | some c => (rch (gM x) c).testBit (x.2.1 1 0 - 65))
theorem ad5 {x y : ST} {q : Nat} (h : ∀ i, y.2.1 5 i = if x.1 0 * 4 ≤ i ∧ i < x.1 0 * 4 + q then x.2.1 1 (i - x.1 0 * 4 + 2) else x.2.1 5 i) : ∀ i, (sA y 5 (x.1 0 * 4 + q) (x.2.1 1 (q + 2))).2.1 5 i = if x.1 0 * 4 ≤ i ∧ i < x.1 0 * 4 + (q + 1) then x.2.1 1 (i - x.1 0 * 4 + 2) else x.2.1 5 i := by
  intro i
  by_cases e : i = x.1 0 * 4 + q
  · subst e
    rw [sA_same, if_pos (by omega), show x.1 0 * 4 + q - x.1 0 * 4 + 2 = q + 2 by omega]
  · rw [sA_at _ _ _ e, h i]
    by_cases z : x.1 0 * 4 ≤ i ∧ i < x.1 0 * 4 + q
    · rw [if_pos z, if_pos (by omega)]
    · rw [if_neg z, if_neg (by omega)]
theorem ad_ret {x x0 y : ST} {q : Nat} {w : UInt64} (hx0 : x0.2 = x.2) (hx1 : ∀ k, x0.1 k = if k = 1 then 0 else if k = 5 then 0 else x.1 k) (ho : Only [5] (sA (sA x0 3 (x.1 0) (x.2.1 1 0 - 65)) 4 (x.1 0) (x.1 1 - 2)) y) (hwy : WF y) (h5 : ∀ i, y.2.1 5 i = if x.1 0 * 4 ≤ i ∧ i < x.1 0 * 4 + q then x.2.1 1 (i - x.1 0 * 4 + 2) else x.2.1 5 i) (hq : q = x.1 1 - 2) (hR : x.1 0 < 16) : ADm x w (CHm (sS (sA (sD y 9 (x.1 0) w) 6 (x.1 0) 0) 0 (x.1 0 + 1))) := by
  have e1 : y.1 = x0.1 := ho.1
  have e2 : y.2.2 = x.2.2 := ho.2.1.trans (by rw [← hx0]; rfl)
  have e6 : y.2.1 6 = x.2.1 6 := (ho.2.2 6 (by decide)).trans (by rw [← hx0]; rfl)
  subst hq
  refine ⟨?_, ?_, ?_, ?_, ?_, ?_, ?_, ?_, ?_⟩
  · show va_up y.2.1 6 (va_up (y.2.1 6) (x.1 0) 0) 3 = _
    rw [vup_ne _ _ (by decide), ho.2.2 3 (by decide)]
    show va_up (x0.2.1 3) (x.1 0) (x.2.1 1 0 - 65) = _
    rw [hx0]
  · show va_up y.2.1 6 (va_up (y.2.1 6) (x.1 0) 0) 4 = _
    rw [vup_ne _ _ (by decide), ho.2.2 4 (by decide)]
    show va_up (x0.2.1 4) (x.1 0) (x.1 1 - 2) = _
    rw [hx0]
  · show va_up y.2.1 6 (va_up (y.2.1 6) (x.1 0) 0) 6 = _
    rw [vup_eq, e6]
  · intro k hk
    simp only [List.mem_cons, List.not_mem_nil, or_false, not_or] at hk
    show va_up y.2.1 6 (va_up (y.2.1 6) (x.1 0) 0) k = _
    rw [vup_ne _ _ hk.2.2.2, ho.2.2 k (by simp only [List.mem_cons, List.not_mem_nil, or_false]; exact hk.2.2.1)]
    show va_up (va_up x0.2.1 3 (va_up (x0.2.1 3) (x.1 0) (x.2.1 1 0 - 65))) 4 (va_up (x0.2.1 4) (x.1 0) (x.1 1 - 2)) k = _
    rw [vup_ne _ _ hk.2.1, vup_ne _ _ hk.1, hx0]
  · intro i
    show va_up y.2.1 6 (va_up (y.2.1 6) (x.1 0) 0) 5 i = _
    rw [vup_ne _ _ (by decide)]
    exact h5 i
  · show va_up y.2.2.1 9 (va_up (y.2.2.1 9) (x.1 0) w) = _
    rw [e2]
  · show y.2.2.2 = _
    rw [e2]
  · exact ((((hwy.sD _ _ _).sA _ _ (by decide)).sS _ (by omega)).sS _ (by decide)).sS _ (by decide)
  · intro k
    show va_up (va_up (va_up y.1 0 (x.1 0 + 1)) 6 0) 7 0 k = _
    simp only [vup_if]
    rw [e1, hx1 k]
    by_cases h0 : k = 0 <;> by_cases h1 : k = 1 <;> by_cases h5 : k = 5 <;> by_cases h6 : k = 6 <;> by_cases h7 : k = 7 <;> simp [h0, h1, h5, h6, h7] <;> omega
-- undo
def UNm (x u : ST) : Prop := (∀ k, k ≠ 11 → u.2.1 k = x.2.1 k) ∧ u.2.2 = x.2.2 ∧ (∀ q, q < 256 → u.2.1 11 q = UNb x 16 (x.1 0 - 1) q) ∧ WF u ∧ ∀ k, u.1 k = if k = 0 then x.1 0 - 1 else if k = 5 then 0 else if k = 6 then 0 else if k = 7 then 0 else x.1 k
theorem un_0 {x : ST} {R : Nat} : ∀ q, q < 256 → x.2.1 11 q = UNb x 0 R q := fun q hq => by
  unfold UNb
  rw [if_neg (by omega)]
theorem un_s {x y : ST} {i R : Nat} (hi : i < 16) (hR : R < 16) (h : ∀ q, q < 256 → y.2.1 11 q = UNb x i R q) : ∀ q, q < 256 → (sA (sA y 11 (R * 16 + i) 0) 11 (i * 16 + R) 0).2.1 11 q = UNb x (i + 1) R q := by
  intro q hq
  unfold UNb at *
  by_cases e1 : q = i * 16 + R
  · rw [e1, sA_same, if_pos (by right; omega)]
  · rw [sA_at _ _ _ e1]
    by_cases e2 : q = R * 16 + i
    · rw [e2, sA_same, if_pos (by left; omega)]
    · rw [sA_at _ _ _ e2, h q hq]
      by_cases z : (q / 16 = R ∧ q % 16 < i) ∨ (q % 16 = R ∧ q / 16 < i)
      · rw [if_pos z, if_pos (by omega)]
      · rw [if_neg z, if_neg (by omega)]
-- next
theorem nxM_skip {n j : Nat} {e : Nat → Nat} {k : Nat} (h : e k + (n - 1 - k) = j) : nxk n j e (k + 1) = nxk n j e k := nxk_skip (by omega)
theorem nxM_val {n k q : Nat} {e : Nat → Nat} {f : Nat → Nat} (hq : q = n) (hk : k + 2 ≤ q) (h1 : ∀ c, c < q → f c = if c < k + 1 then (if c = 0 then f 0 else e (c - 1)) else e k + 1 + (c - (k + 1))) (h2 : f n = e (n - 1)) : ∀ c, c < n → f (c + 1) = (fun x => if x < k then e x else if x + 1 < n then e k + 1 + (x - k) else e x) c := by
  intro c hc
  dsimp only
  by_cases hl : c + 1 = n
  · have : ¬ c < k := by omega
    rw [if_neg this, if_neg (by omega), hl, h2, show n - 1 = c by omega]
  · rw [h1 (c + 1) (by omega)]
    by_cases z : c < k
    · rw [if_pos (by omega), if_neg (by omega), if_pos z, Nat.add_sub_cancel]
    · rw [if_neg (by omega), if_neg z, if_pos (by omega), show c + 1 - (k + 1) = c - k by omega]
-- weightOf
theorem wtM_none {g : GT} {w : Nat → Nat → Nat → Nat} {h : Nat → Nat → Nat → UInt64} {r k a b : Nat} (hn : nt (gs g r k) = none) : wtv g w h r k a b = none := by
  unfold wtv tpv
  rw [hn]
  rfl
theorem wtM_some {g : GT} {w : Nat → Nat → Nat → Nat} {h : Nat → Nat → Nat → UInt64} {r k a b s : Nat} (hn : tpv g w h r k a b = some s) : wtv g w h r k a b = some (h s a b) := by
  unfold wtv
  rw [hn]
  rfl
theorem tpvM {g : GT} {w : Nat → Nat → Nat → Nat} {h : Nat → Nat → Nat → UInt64} {r k a b c : Nat} (hn : nt (gs g r k) = some c) : tpv g w h r k a b = tp g c (alw g r k) (fun s => w s a b) (fun s => h s a b) (gR g) := by
  unfold tpv
  rw [hn]
theorem fwM_n {w0 : UInt64} {f : Nat → Nat → Nat → Option UInt64} {i : Nat} {l : List Nat} {k : Nat} (h : f k (bg i l k) (lgd l k) = none) : fw w0 f i l (k + 1) = fw w0 f i l k := by
  simp only [fw]
  rw [h]
theorem fwM_s {w0 : UInt64} {f : Nat → Nat → Nat → Option UInt64} {i : Nat} {l : List Nat} {k : Nat} {z : UInt64} (h : f k (bg i l k) (lgd l k) = some z) : fw w0 f i l (k + 1) = FP.dmul (fw w0 f i l k) z := by
  simp only [fw]
  rw [h]
-- divide
theorem gM_same {x y : ST} (h1 : y.1 0 = x.1 0) (h2 : y.2.2.1 9 = x.2.2.1 9) (h3 : ∀ k, k ∈ [3, 4, 5, 6, 11, 12] → y.2.1 k = x.2.1 k) : gM y = gM x := by
  unfold gM
  rw [h1, h2, h3 3 (by decide), h3 4 (by decide), h3 5 (by decide), h3 6 (by decide), h3 11 (by decide), h3 12 (by decide)]
theorem gM_o {x y : ST} (h : Only [7, 8] x y) : gM y = gM x := gM_same (by rw [h.1]) (by rw [h.2.1]) (fun k hk => h.2.2 k (fun q => by
  simp only [List.mem_cons, List.not_mem_nil, or_false] at hk q
  omega))
theorem wM_o {x y : ST} (h : y.2.1 14 = x.2.1 14) : wM y = wM x := by unfold wM; rw [h]
theorem hM_o {x y : ST} (h : y.2.2.1 10 = x.2.2.1 10) : hM y = hM x := by unfold hM; rw [h]
theorem symM_c {x y : ST} (N : Nat) (hg : gM y = gM x) (h2 : y.2.1 2 = x.2.1 2) (h13 : y.2.1 13 = x.2.1 13) (h14 : y.2.1 14 = x.2.1 14) (r : Nat) : symM y N r = symM x N r := by
  funext k a b
  unfold symM
  rw [hg, h2, h13, wM_o h14]
theorem symM_o {x y : ST} (N : Nat) (h : Only [7, 8] x y) (r : Nat) : symM y N r = symM x N r := symM_c N (gM_o h) (h.2.2 2 (by decide)) (h.2.2 13 (by decide)) (h.2.2 14 (by decide)) r
def BSm (x : ST) (N r i j t : Nat) : Option Nat := bs (symM x N r) (fun l => fw (x.2.2.1 9 r) (wtv (gM x) (wM x) (hM x) r) i l (x.2.1 4 r)) (x.2.1 4 r) i (dv (x.2.1 4 r) i j) t
def FFm (x : ST) (r i j b : Nat) : UInt64 := fw (x.2.2.1 9 r) (wtv (gM x) (wM x) (hM x) r) i ((dv (x.2.1 4 r) i j).getD b []) (x.2.1 4 r)
def DIV (x : ST) (N r i j : Nat) (u : ST) : Prop := ∃ w, ∃ h : UInt64, u.1 = x.1 ∧ (∀ k, k ∉ [7, 8, 14] → u.2.1 k = x.2.1 k) ∧ u.2.1 14 = va_up (x.2.1 14) (r * 225 + (i * 15 + j)) w ∧ u.2.2.1 = va_up x.2.2.1 10 (va_up (x.2.2.1 10) (r * 225 + (i * 15 + j)) h) ∧ u.2.2.2 = x.2.2.2 ∧ w = aw (symM x N r) (x.2.1 4 r) i (dv (x.2.1 4 r) i j) (dv (x.2.1 4 r) i j).length ∧ h = HV (BSm x N r i j (dv (x.2.1 4 r) i j).length) (FFm x r i j) ∧ (∀ b, BSm x N r i j (dv (x.2.1 4 r) i j).length = some b → ∀ k, k ≤ x.2.1 4 r → u.2.1 8 k = bg i ((dv (x.2.1 4 r) i j).getD b []) k)
theorem bsM_f {sym : Nat → Nat → Nat → Nat} {fwt : List Nat → UInt64} {n i t : Nat} {L : List (List Nat)} (h : pw sym i (L.getD t []) n ≠ 0) (hb : bs sym fwt n i L t = none) : bs sym fwt n i L (t + 1) = some t := by
  simp only [bs]
  rw [if_neg h, hb]
theorem bsM_g {sym : Nat → Nat → Nat → Nat} {fwt : List Nat → UInt64} {n i t b : Nat} {L : List (List Nat)} (h : pw sym i (L.getD t []) n ≠ 0) (hb : bs sym fwt n i L t = some b) (hg : dgt (fwt (L.getD t [])) (fwt (L.getD b [])) = true) : bs sym fwt n i L (t + 1) = some t := by
  simp only [bs]
  rw [if_neg h, hb]
  exact if_pos hg
theorem bsM_n {sym : Nat → Nat → Nat → Nat} {fwt : List Nat → UInt64} {n i t b : Nat} {L : List (List Nat)} (h : pw sym i (L.getD t []) n ≠ 0) (hb : bs sym fwt n i L t = some b) (hg : dgt (fwt (L.getD t [])) (fwt (L.getD b [])) = false) : bs sym fwt n i L (t + 1) = some b := by
  simp only [bs]
  rw [if_neg h, hb]
  exact if_neg (by rw [hg]; decide)
theorem symM_tp {x : ST} {N r k a b c : Nat} (hc : nt (gs (gM x) r k) = some c) (h : symM x N r k a b ≠ 0) : ∃ s, tpv (gM x) (wM x) (hM x) r k a b = some s := by
  unfold symM at h
  rw [hc] at h
  dsimp only at h
  split at h
  · rw [tpvM hc]
    cases ht : tp (gM x) c (alw (gM x) r k) (fun s => wM x s a b) (fun s => hM x s a b) (gR (gM x)) with
    | none => exact absurd (tp_none _ ht) h
    | some s => exact ⟨s, rfl⟩
  · exact absurd rfl h
theorem div_e {n i j : Nat} (hn : 1 ≤ n) (hn4 : n ≤ 4) (hij : i < j) (hj : j ≤ 14) {f : Nat → Nat} (hf : ∀ k, k < n → f k = i + k) (hfn : f n = j) : 0 < (dv n i j).length → ∀ k, k ≤ n → f k = bg i ((dv n i j).getD 0 []) k := by
  intro h0 k hk
  have := der_e hn hn4 hij hj (f := fun k => f (k + 1)) (fun k hk => by
    by_cases e : k + 1 = n
    · rw [if_pos e, e]; exact hfn
    · rw [if_neg e, hf (k + 1) (by omega)]; omega) h0
  cases k with
  | zero => rw [hf 0 (by omega)]; rfl
  | succ k => rw [bg_succ]; exact this k (by omega)
theorem div_nx {n i j t rr : Nat} {f : Nat → Nat} (hn : 1 ≤ n) (hn4 : n ≤ 4) (hij : i < j) (hj : j ≤ 14) (ht : t < (dv n i j).length) (h : (nx n j (lgd ((dv n i j).getD t [])) = none ∧ rr = 0) ∨ (∃ e', nx n j (lgd ((dv n i j).getD t [])) = some e' ∧ rr = 1 ∧ ∀ k, k < n → f (k + 1) = e' k)) (h0 : f 0 = i) : rr = (if t + 1 < (dv n i j).length then 1 else 0) ∧ (t + 1 < (dv n i j).length → ∀ k, k ≤ n → f k = bg i ((dv n i j).getD (t + 1) []) k) := by
  obtain ⟨a, b⟩ := der_nx (f := fun k => f (k + 1)) hn hn4 hij hj ht h
  refine ⟨a, fun hl k hk => ?_⟩
  cases k with
  | zero => rw [h0]; rfl
  | succ k => rw [bg_succ]; exact b hl k (by omega)
theorem aw_s {sym : Nat → Nat → Nat → Nat} {n i t : Nat} {L : List (List Nat)} : aw sym n i L (t + 1) = min 1000000000 (aw sym n i L t + pw sym i (L.getD t []) n) := rfl
theorem div_ret {x y : ST} {N r i j w : Nat} {h : UInt64} (ho : Only [7, 8] x y) (hw : w = aw (symM x N r) (x.2.1 4 r) i (dv (x.2.1 4 r) i j) (dv (x.2.1 4 r) i j).length) (hh : h = HV (BSm x N r i j (dv (x.2.1 4 r) i j).length) (FFm x r i j)) (hb : ∀ b, BSm x N r i j (dv (x.2.1 4 r) i j).length = some b → ∀ k, k ≤ x.2.1 4 r → y.2.1 8 k = bg i ((dv (x.2.1 4 r) i j).getD b []) k) : DIV x N r i j (sD (sA y 14 (r * 225 + (i * 15 + j)) w) 10 (r * 225 + (i * 15 + j)) h) := by
  refine ⟨w, h, ho.1, fun k hk => ?_, ?_, ?_, ?_, hw, hh, fun b hb2 k hk => ?_⟩
  · simp only [List.mem_cons, List.not_mem_nil, or_false, not_or] at hk
    show va_up y.2.1 14 (va_up (y.2.1 14) (r * 225 + (i * 15 + j)) w) k = _
    rw [vup_ne _ _ hk.2.2]
    exact ho.2.2 k (by simp only [List.mem_cons, List.not_mem_nil, or_false]; omega)
  · show va_up y.2.1 14 (va_up (y.2.1 14) (r * 225 + (i * 15 + j)) w) 14 = _
    rw [vup_eq, ho.2.2 14 (by decide)]
  · show va_up y.2.2.1 10 (va_up (y.2.2.1 10) (r * 225 + (i * 15 + j)) h) = _
    rw [ho.2.1]
  · show y.2.2.2 = _
    rw [ho.2.1]
  · show va_up y.2.1 14 (va_up (y.2.1 14) (r * 225 + (i * 15 + j)) w) 8 k = _
    rw [vup_ne _ _ (by decide)]
    exact hb b hb2 k hk
theorem wpf_neg {N : Nat} {c : Nat → Nat} (hN : N ≤ 14) : 2147483648 ≤ wpf N c ↔ wpf N c = 4294967295 := by
  constructor
  · intro h
    have hb : ∀ M p, fstBad c M = some p → p < M := by
      intro M
      induction M with
      | zero => intro p hp; cases hp
      | succ M ih =>
        intro p hp
        simp only [fstBad] at hp
        cases hq : fstBad c M with
        | some q => rw [hq] at hp; have hqp : q = p := Option.some.inj hp; have := ih q hq; omega
        | none =>
          rw [hq] at hp
          dsimp only at hp
          split at hp
          · cases hp
          · cases hp; omega
    unfold wpf at h ⊢
    cases hq : fstBad c N with
    | some q =>
      rw [hq] at h
      have := hb N q hq
      dsimp only at h
      omega
    | none =>
      rw [hq] at h
      dsimp only at h ⊢
      split
      · rename_i z; rw [if_pos z] at h; omega
      · rfl
  · intro h; omega
theorem mst_a {x : ST} {a : Nat} : MST x (sS (sS (sS x 5 a) 1 0) 5 2) 2 := ⟨rfl, fun k => by
  simp only [sS_1]
  by_cases h1 : k = 1 <;> by_cases h5 : k = 5 <;> simp [h1, h5]⟩
theorem mst_c {x y : ST} {a : Nat} (hz : a = 0) (y2 : ∀ k, k ≠ 1 → k ≠ 2 → y.1 k = (sS x 5 a).1 k) (y3 : y.1 1 = 0) (y4 : y.1 2 = x.1 2) : ∀ k, (sS y 5 0).1 k = if k = 1 then 0 else if k = 5 then 0 else x.1 k := by
  intro k
  simp only [sS_1]
  by_cases h1 : k = 1
  · subst h1; simp [y3]
  · by_cases h5 : k = 5
    · subst h5; simp
    · by_cases h2 : k = 2
      · subst h2; simp [y4]
      · rw [if_neg h5, if_neg h1, if_neg h5, y2 k h1 h2, sS_1, if_neg h5]
theorem mst_b {x y : ST} {a : Nat} (hz : a = 0) (y1 : y.2 = x.2) (y2 : ∀ k, k ≠ 1 → k ≠ 2 → y.1 k = (sS x 5 a).1 k) (y3 : y.1 1 = 0) (y4 : y.1 2 = x.1 2) : MST x (sS (sS y 5 0) 5 3) 3 := ⟨y1, fun k => by
  have := mst_c hz y2 y3 y4 k
  rw [sS_1]
  by_cases h5 : k = 5
  · subst h5; simp
  · rw [if_neg h5, this, if_neg h5, if_neg h5]⟩
theorem sc3_b {x y : ST} {a p : Nat} (hz : a = 0) (y1 : y.2 = x.2) (y2 : ∀ k, k ≠ 1 → k ≠ 2 → y.1 k = (sS x 5 a).1 k) (y3 : y.1 1 = 0) (y4 : y.1 2 = p) : SC3 x (sS y 5 (1 - 0)) p 1 := ⟨y1, fun k => by
  simp only [sS_1]
  by_cases h1 : k = 1
  · subst h1; simp [y3]
  · by_cases h5 : k = 5
    · subst h5; simp
    · by_cases h2 : k = 2
      · subst h2; simp [y4]
      · rw [if_neg h5, if_neg h1, if_neg h2, if_neg h5, y2 k h1 h2, sS_1, if_neg h5]⟩
theorem wlm_t {x : ST} (h3 : x.1 1 = 3) (hc : 65 ≤ x.2.1 1 2 ∧ x.2.1 1 2 ≤ 70) (h : (rch (gM x) (x.2.1 1 2 - 65)).testBit (x.2.1 1 0 - 65) = true) : wlM x = true := by
  unfold wlM
  rw [decide_eq_true h3, ntM_some hc]
  simpa using h
theorem wp6 {N : Nat} {c : Nat → Nat} (h : ∀ q, q < N → fitsB q (c q) = true) : N ≤ 6 := by
  have q6 : ¬ 6 < N := fun q => absurd (h 6 q) (by rw [wrM_f (by omega), decide_eq_false (by omega)]; decide)
  omega
theorem un_ret {x y : ST} (ho : Only [11] (sS (sS x 5 0) 0 (x.1 0 - 1)) y) (hw : WF y) (h : ∀ q, q < 256 → y.2.1 11 q = UNb x 16 (x.1 0 - 1) q) : UNm x (CHm y) := by
  refine ⟨fun k hk => ?_, ?_, h, (hw.sS _ (by decide)).sS _ (by decide), fun k => ?_⟩
  · exact ho.2.2 k (by simp only [List.mem_cons, List.not_mem_nil, or_false]; exact hk)
  · exact ho.2.1
  · show va_up (va_up y.1 6 0) 7 0 k = _
    rw [ho.1]
    show va_up (va_up (va_up (va_up x.1 5 0) 0 (x.1 0 - 1)) 6 0) 7 0 k = _
    simp only [vup_if]
    by_cases h0 : k = 0 <;> by_cases h5 : k = 5 <;> by_cases h6 : k = 6 <;> by_cases h7 : k = 7 <;> simp [h0, h5, h6, h7] <;> omega
theorem nxm_1 {x : ST} {n k : Nat} {e : Nat → Nat} (he : ∀ k, k < n → x.2.1 7 (k + 1) = e k) (hk : k + 1 < n) : ∀ c, c < k + 2 → (sA x 7 (k + 1) (e k + 1)).2.1 7 c = if c < k + 1 then (if c = 0 then (sA x 7 (k + 1) (e k + 1)).2.1 7 0 else e (c - 1)) else e k + 1 + (c - (k + 1)) := by
  intro c hc
  by_cases e1 : c = k + 1
  · subst e1
    rw [sA_same, if_neg (by omega), Nat.sub_self]
  · rw [if_pos (by omega)]
    by_cases e0 : c = 0
    · rw [if_pos e0, e0]
    · rw [if_neg e0, sA_at _ _ _ e1]
      have := he (c - 1) (by omega)
      rwa [show c - 1 + 1 = c by omega] at this
theorem nxm_2 {y : ST} {k q : Nat} {e : Nat → Nat} (h : ∀ c, c < q → y.2.1 7 c = if c < k + 1 then (if c = 0 then y.2.1 7 0 else e (c - 1)) else e k + 1 + (c - (k + 1))) (hq : k + 2 ≤ q) : ∀ c, c < q + 1 → (sA y 7 q (e k + 1 + (q - 1 - (k + 1)) + 1)).2.1 7 c = if c < k + 1 then (if c = 0 then (sA y 7 q (e k + 1 + (q - 1 - (k + 1)) + 1)).2.1 7 0 else e (c - 1)) else e k + 1 + (c - (k + 1)) := by
  intro c hc
  rw [show (sA y 7 q (e k + 1 + (q - 1 - (k + 1)) + 1)).2.1 7 0 = y.2.1 7 0 from sA_at _ _ _ (by omega)]
  by_cases e1 : c = q
  · subst e1
    rw [sA_same, if_neg (by omega)]
    omega
  · rw [sA_at _ _ _ e1]
    exact h c (by omega)

/-! arraycopy, the tree's rows, the grammar's changes -/
theorem wSt_acpy : Cond.static arraycopyName ∈ LG := LG_in (List.mem_of_getElem? (i := 562) (by decide +kernel)) (by decide +kernel)
theorem wNa_acpy : Cond.native arraycopyName ∈ LG := LG_in (List.mem_of_getElem? (i := 563) (by decide +kernel)) (by decide +kernel)
theorem nf_cpy (f g : Nat → Nat) (s d n : Nat) : va_cpy (nf f) (nf g) s d n = nf (va_cpy f g s d n) := by
  funext k
  unfold nf va_cpy
  dsimp only
  split <;> rfl
theorem nI_nn {n : Nat} (h : n < 2147483648) : ¬ nI n < 0 := fun q => by
  have := (nI_neg (show n < 4294967296 by omega)).mp q
  omega
theorem a_acpy {K : KX} {cc : ByteArray} {own : String} {tys : List (ClassId × FieldType)} {ws ws' : va_W} {L : List (Option Value)} {pc lv : Nat} {S : List Value} {a : Nat} {q0 t0 n sp dp cnt index : Nat} {cA : ClassId} {f : Nat → Nat} (C : CT K cc own tys lv) (hl : Cond.methodLink own index arraycopyName ∈ LG) (he : ws[q0]? = some (a, .inl (cA, n, .inl (nf f)))) (ht : tys[t0]? = some (cA, .int)) (hn : n < 2147483648) (h1 : sp + cnt ≤ n) (h2 : dp + cnt ≤ n) (hlv : 1 ≤ lv) (hcat : (S.map fun v => v.category).sum ≤ 8) (hset : ws.set q0 (a, .inl (cA, n, .inl (nf (va_cpy f f sp dp cnt)))) = ws') (d : decode cc pc = .ok (.invokestatic index, 3)) (k : WA K ws' L (pc + 3) S) : WA K ws L pc (.int (nI cnt) :: .int (nI dp) :: .ref a :: .int (nI sp) :: .ref a :: S) := fun H locs ls hP hD hS hlv2 => by
  have hr := C.2.2.2.2.2.2.2.2.2
  have e1 : (nI sp).toNatClampNeg = sp := nI_clamp (by omega)
  have e2 : (nI dp).toNatClampNeg = dp := nI_clamp (by omega)
  have e3 : (nI cnt).toNatClampNeg = cnt := nI_clamp (by omega)
  refine va_copyi C.1 C.2.1 (C.2.2.1.trans hlv2.1.symm) C.2.2.2.1 (C.2.2.2.2.1 _ hl) (C.2.2.2.2.1 _ wNa_acpy) (C.2.2.2.2.1 _ wSt_acpy) (C.2.2.2.2.1 _ wIni_System) C.2.2.2.2.2.1 hP hD hS q0 q0 t0 t0 he he ht ht rfl (nI_nn (by omega)) (nI_nn (by omega)) (nI_nn (by omega)) (by rw [e1, e3]; exact h1) (by rw [e2, e3]; exact h2) (fun i hi => rfl) (by omega) ?_ d ?_
  · have : nativeFrameWords "java/lang/System" "arraycopy" 5 = 7 := by decide
    rw [this]
    omega
  · intro H1 locs1 hP1 hD1 hS1
    rw [e1, e2, e3, nf_cpy, hset] at hP1 hD1
    exact k H1 locs1 ls hP1 hD1 hS1 hlv2
def sC (x : ST) (k sp dp n : Nat) : ST := (x.1, va_up x.2.1 k (va_cpy (x.2.1 k) (x.2.1 k) sp dp n), x.2.2)
section CPS
variable {K : KX} {cc : ByteArray} {own : String} {cI cD cZ cJ : ClassId} {ad : Nat → Nat} {x : ST} {L : List (Option Value)} {pc lv sp dp n index : Nat} {S : List Value}
theorem cpS_20 (C : CT K cc own (ty4 cI cD cZ cJ) lv) (hl : Cond.methodLink own index arraycopyName ∈ LG) (d : decode cc pc = .ok (.invokestatic index, 3)) (h1 : sp + n ≤ 162) (h2 : dp + n ≤ 162) (hlv : 1 ≤ lv) (hcat : (S.map fun v => v.category).sum ≤ 8) (k : WA K (WS ad cI cD cZ (sC x 20 sp dp n)) L (pc + 3) S) : WA K (WS ad cI cD cZ x) L pc (.int (nI n) :: .int (nI dp) :: .ref (ad 20) :: .int (nI sp) :: .ref (ad 20) :: S) := a_acpy C hl (q0 := 20) (t0 := 0) rfl rfl (by decide) h1 h2 hlv hcat rfl d k
theorem cpS_21 (C : CT K cc own (ty4 cI cD cZ cJ) lv) (hl : Cond.methodLink own index arraycopyName ∈ LG) (d : decode cc pc = .ok (.invokestatic index, 3)) (h1 : sp + n ≤ 162) (h2 : dp + n ≤ 162) (hlv : 1 ≤ lv) (hcat : (S.map fun v => v.category).sum ≤ 8) (k : WA K (WS ad cI cD cZ (sC x 21 sp dp n)) L (pc + 3) S) : WA K (WS ad cI cD cZ x) L pc (.int (nI n) :: .int (nI dp) :: .ref (ad 21) :: .int (nI sp) :: .ref (ad 21) :: S) := a_acpy C hl (q0 := 21) (t0 := 0) rfl rfl (by decide) h1 h2 hlv hcat rfl d k
theorem cpS_22 (C : CT K cc own (ty4 cI cD cZ cJ) lv) (hl : Cond.methodLink own index arraycopyName ∈ LG) (d : decode cc pc = .ok (.invokestatic index, 3)) (h1 : sp + n ≤ 162) (h2 : dp + n ≤ 162) (hlv : 1 ≤ lv) (hcat : (S.map fun v => v.category).sum ≤ 8) (k : WA K (WS ad cI cD cZ (sC x 22 sp dp n)) L (pc + 3) S) : WA K (WS ad cI cD cZ x) L pc (.int (nI n) :: .int (nI dp) :: .ref (ad 22) :: .int (nI sp) :: .ref (ad 22) :: S) := a_acpy C hl (q0 := 22) (t0 := 0) rfl rfl (by decide) h1 h2 hlv hcat rfl d k
end CPS
/-- one more node put in between -/
def INS (x : ST) (p r b e : Nat) : ST := sS (sA (sA (sA (sC (sC (sC x 20 p (p + 1) (x.1 4 - p)) 21 p (p + 1) (x.1 4 - p)) 22 p (p + 1) (x.1 4 - p)) 20 p r) 21 p b) 22 p e) 4 (x.1 4 + 1)
def TLs (L : List Nd) (u : ST) : Prop := u.1 4 = L.length ∧ ∀ k, k < L.length → L[k]? = some (u.2.1 20 k, u.2.1 21 k, u.2.1 22 k)
def TR (x u : ST) : Prop := (∀ k, k ≠ 4 → u.1 k = x.1 k) ∧ (∀ k, k ∉ [20, 21, 22] → u.2.1 k = x.2.1 k) ∧ u.2.2 = x.2.2
theorem TR.rf (x : ST) : TR x x := ⟨fun _ _ => rfl, fun _ _ => rfl, rfl⟩
theorem TR.trans {x y z : ST} (h : TR x y) (h2 : TR y z) : TR x z := ⟨fun k hk => (h2.1 k hk).trans (h.1 k hk), fun k hk => (h2.2.1 k hk).trans (h.2.1 k hk), h2.2.2.trans h.2.2⟩
theorem TR.gP {x u : ST} (h : TR x u) : gP u = gP x := gP_same (h.1 3 (by decide)) (by rw [h.2.2]) (fun k hk => h.2.1 k (fun q => by
  simp only [List.mem_cons, List.not_mem_nil, or_false] at hk q
  omega))
def insA (f : Nat → Nat) (p n v : Nat) : Nat → Nat := va_up (va_cpy f f p (p + 1) n) p v
theorem insA_lo {f : Nat → Nat} {p n v k : Nat} (h : k < p) : insA f p n v k = f k := by
  unfold insA va_up va_cpy
  rw [if_neg (by omega), if_neg (by omega)]
theorem insA_at {f : Nat → Nat} {p n v : Nat} : insA f p n v p = v := by
  unfold insA va_up
  rw [if_pos rfl]
theorem insA_hi {f : Nat → Nat} {p n v k : Nat} (h : p ≤ k) (h2 : k < p + n) : insA f p n v (k + 1) = f k := by
  unfold insA va_up va_cpy
  rw [if_neg (by omega), if_pos (by omega), show p + (k + 1 - (p + 1)) = k by omega]
theorem INS_20 (x : ST) (p r b e : Nat) : (INS x p r b e).2.1 20 = insA (x.2.1 20) p (x.1 4 - p) r := rfl
theorem INS_21 (x : ST) (p r b e : Nat) : (INS x p r b e).2.1 21 = insA (x.2.1 21) p (x.1 4 - p) b := rfl
theorem INS_22 (x : ST) (p r b e : Nat) : (INS x p r b e).2.1 22 = insA (x.2.1 22) p (x.1 4 - p) e := rfl
theorem vup_ne {α : Type} (f : Nat → α) {k k' : Nat} (v : α) (h : k' ≠ k) : va_up f k v k' = f k' := by
  unfold va_up
  rw [if_neg h]
theorem vup_eq {α : Type} (f : Nat → α) (k : Nat) (v : α) : va_up f k v k = v := by
  unfold va_up
  rw [if_pos rfl]
theorem TR_ins (x : ST) (p r b e : Nat) : TR x (INS x p r b e) := by
  refine ⟨fun k hk => vup_ne _ _ hk, fun k hk => ?_, rfl⟩
  simp only [List.mem_cons, List.not_mem_nil, or_false, not_or] at hk
  simp only [INS, sS, sA, sC]
  rw [vup_ne _ _ hk.2.2, vup_ne _ _ hk.2.1, vup_ne _ _ hk.1, vup_ne _ _ hk.2.2, vup_ne _ _ hk.2.1, vup_ne _ _ hk.1]
theorem WF.sC {x : ST} (h : WF x) (k sp dp n : Nat) : WF (sC x k sp dp n) := by
  refine ⟨fun k' i => ?_, h.2⟩
  show va_up x.2.1 k (va_cpy (x.2.1 k) (x.2.1 k) sp dp n) k' i < 4294967296
  by_cases e : k' = k
  · subst e
    rw [vup_eq]
    unfold va_cpy
    split
    · exact h.1 _ _
    · exact h.1 _ _
  · rw [vup_ne _ _ e]
    exact h.1 _ _
theorem WF_ins {x : ST} (h : WF x) {p r b e : Nat} (hr : r < 4294967296) (hb : b < 4294967296) (he : e < 4294967296) (hs : x.1 4 < 162) : WF (INS x p r b e) := by
  unfold INS
  exact ((((((h.sC _ _ _ _).sC _ _ _ _).sC _ _ _ _).sA _ _ hr).sA _ _ hb).sA _ _ he).sS _ (by omega)
theorem TL_ins {L : List Nd} {x : ST} {p r b e : Nat} (h : TLs L x) (hp : p ≤ L.length) : TLs (L.take p ++ (r, b, e) :: L.drop p) (INS x p r b e) := by
  have hl : (L.take p ++ (r, b, e) :: L.drop p).length = L.length + 1 := by
    simp only [List.length_append, List.length_take, List.length_cons, List.length_drop]
    omega
  have h4 := h.1
  refine ⟨?_, fun k hk => ?_⟩
  · rw [hl, ← h4]
    exact vup_eq (sA (sA (sA (sC (sC (sC x 20 p (p + 1) (x.1 4 - p)) 21 p (p + 1) (x.1 4 - p)) 22 p (p + 1) (x.1 4 - p)) 20 p r) 21 p b) 22 p e).1 4 (x.1 4 + 1)
  · rw [INS_20, INS_21, INS_22, h4]
    rw [hl] at hk
    rcases Nat.lt_trichotomy k p with q | q | q
    · rw [List.getElem?_append_left (by rw [List.length_take]; omega), List.getElem?_take, if_pos q, h.2 k (by omega), insA_lo q, insA_lo q, insA_lo q]
    · subst q
      rw [List.getElem?_append_right (by rw [List.length_take]; omega), List.length_take, show k - min k L.length = 0 by omega, insA_at, insA_at, insA_at]
      rfl
    · obtain ⟨j, rfl⟩ : ∃ j, k = j + 1 := ⟨k - 1, by omega⟩
      rw [List.getElem?_append_right (by rw [List.length_take]; omega), List.length_take, show j + 1 - min p L.length = (j - p) + 1 by omega, List.getElem?_cons_succ, List.getElem?_drop, show p + (j - p) = j by omega, h.2 j (by omega), insA_hi (by omega) (by omega), insA_hi (by omega) (by omega), insA_hi (by omega) (by omega)]
theorem TL_ins2 {A M t : List Nd} {x : ST} {p r b e : Nat} (h : TLs (A ++ (M ++ t)) x) (hp : p = A.length + M.length) : TLs (A ++ ((M ++ [(r, b, e)]) ++ t)) (INS x p r b e) := by
  have := TL_ins (p := p) (r := r) (b := b) (e := e) h (by simp only [List.length_append]; omega)
  have e1 : (A ++ (M ++ t)).take p = A ++ M := by
    rw [← List.append_assoc, hp, ← List.length_append, List.take_left]
  have e2 : (A ++ (M ++ t)).drop p = t := by
    rw [← List.append_assoc, hp, ← List.length_append, List.drop_left]
  rw [e1, e2] at this
  simpa [List.append_assoc] using this
theorem pk_get {e : Nat → Nat} : ∀ n, (∀ k, k < n → e k < 16) → ∀ s, s < n → (pkN e n / 2 ^ (4 * s)) &&& 15 = e s := by
  intro n hn s hs
  have hb : ∀ m, m ≤ n → s < m → ∀ i, i < 4 → (pkN e m).testBit (4 * s + i) = (e s).testBit i := by
    intro m
    induction m with
    | zero => intro _ h; omega
    | succ m ih =>
      intro hm hs2 i hi
      have hpk : pkN e (m + 1) = pkN e m ||| (e m * 2 ^ (4 * m)) := rfl
      rw [hpk, Nat.testBit_or, Nat.testBit_mul_two_pow]
      by_cases q : s = m
      · subst q
        have hlt := pkN_lt (e := e) (n := s) (fun k hk => hn k (by omega))
        rw [Nat.testBit_lt_two_pow (Nat.lt_of_lt_of_le hlt (Nat.pow_le_pow_right (by decide) (by omega)))]
        rw [decide_eq_true (show 4 * s ≤ 4 * s + i by omega), show 4 * s + i - 4 * s = i by omega]
        simp
      · rw [ih (by omega) (by omega) i hi, decide_eq_false (show ¬ 4 * m ≤ 4 * s + i by omega)]
        simp
  apply Nat.eq_of_testBit_eq
  intro i
  rw [Nat.testBit_and, Nat.testBit_div_two_pow]
  by_cases hi : i < 4
  · rw [show i + 4 * s = 4 * s + i by omega, hb n (Nat.le_refl _) hs i hi]
    have : (15 : Nat).testBit i = true := by
      rcases (show i = 0 ∨ i = 1 ∨ i = 2 ∨ i = 3 by omega) with rfl | rfl | rfl | rfl <;> decide
    rw [this, Bool.and_true]
  · have h15 : (15 : Nat).testBit i = false := Nat.testBit_lt_two_pow (Nat.lt_of_lt_of_le (show 15 < 2 ^ 4 by decide) (Nat.pow_le_pow_right (by decide) (by omega)))
    have hes : (e s).testBit i = false := Nat.testBit_lt_two_pow (Nat.lt_of_lt_of_le (hn s hs) (show 2 ^ 4 ≤ 2 ^ i from Nat.pow_le_pow_right (by decide) (by omega)))
    rw [h15, hes, Bool.and_false]
theorem tpg_tpv {g : GT} {N : Nat} {ch : Nat → Nat} {r k a b : Nat} (h : syv g N ch (sW g N ch) r k a b ≠ 0) : tpg g N ch r k a b = tpv g (sW g N ch) (sH g N ch) r k a b := by
  unfold tpg tpv
  cases hc : nt (gs g r k) with
  | none => rfl
  | some c =>
    dsimp only
    rw [if_pos (syv_tp (h := sH g N ch) hc h).1]
theorem kidsK_n {g : GT} {w : Nat → Nat → Nat → Nat} {h : Nat → Nat → Nat → UInt64} {r i : Nat} {l : List Nat} {k : Nat} (hn : tpv g w h r k (bg i l k) (lgd l k) = none) : kidsK g w h r i l (k + 1) = kidsK g w h r i l k := by
  simp only [kidsK, hn, List.append_nil]
theorem kidsK_s {g : GT} {w : Nat → Nat → Nat → Nat} {h : Nat → Nat → Nat → UInt64} {r i : Nat} {l : List Nat} {k s : Nat} (hn : tpv g w h r k (bg i l k) (lgd l k) = some s) : kidsK g w h r i l (k + 1) = kidsK g w h r i l k ++ [(s, bg i l k, lgd l k)] := by
  simp only [kidsK, hn]
theorem oN_lt16 {g : GT} {w : Nat → Nat → Nat → Nat} {h : Nat → Nat → Nat → UInt64} {r k a b : Nat} (G : GOk g) : oN (tpv g w h r k a b) = 4294967295 ∧ tpv g w h r k a b = none ∨ ∃ s, tpv g w h r k a b = some s ∧ oN (tpv g w h r k a b) = s ∧ s < 16 := by
  unfold tpv
  cases hc : nt (gs g r k) with
  | none => exact Or.inl ⟨rfl, rfl⟩
  | some c =>
    dsimp only
    cases ht : tp g c (alw g r k) (fun s => w s a b) (fun s => h s a b) (gR g) with
    | none => exact Or.inl ⟨rfl, rfl⟩
    | some s => exact Or.inr ⟨s, rfl, rfl, Nat.lt_of_lt_of_le (tp_some ht).1 G.1⟩
theorem kidsK_le {g : GT} {w : Nat → Nat → Nat → Nat} {h : Nat → Nat → Nat → UInt64} {r i : Nat} {l : List Nat} : ∀ k n, k ≤ n → (kidsK g w h r i l k).length ≤ (kidsK g w h r i l n).length
  | k, 0, hk => by rw [show k = 0 by omega]; exact Nat.le_refl _
  | k, n + 1, hk => by
    by_cases e : k = n + 1
    · rw [e]; exact Nat.le_refl _
    · refine Nat.le_trans (kidsK_le k n (by omega)) ?_
      simp only [kidsK, List.length_append]
      omega
theorem TR.cht {x u : ST} {N : Nat} {ch : Nat → Nat} {g : GT} {d : Nat} (h : TR x u) (hc : CHT g N ch x d) : CHT g N ch u d := by
  intro a b h1 h2 h3
  obtain ⟨q1, q2⟩ := hc a b h1 h2 h3
  have e12 := h.2.1 12 (by decide)
  have e14 := h.2.1 14 (by decide)
  have e15 := h.2.1 15 (by decide)
  have e16 := h.2.1 16 (by decide)
  refine ⟨fun r hr => ?_, fun r hr k hk => ?_⟩
  · unfold ROK
    rw [e12, e14, h.2.2]
    exact q1 r hr
  · unfold UOK
    rw [e15, e16]
    exact q2 r hr k hk
/-- what insertBelow needs of a node -/
theorem ib_facts {x : ST} {N : Nat} {ch : Nat → Nat} {r i j : Nat} (G : GOk (gP x)) (A : Acy (gP x)) (hN : N ≤ 14) (hv : Vd (gP x) N ch (r, i, j)) (hc : CHT (gP x) N ch x 15) : ∃ l : List Nat, kids (gP x) N ch (r, i, j) = kidsK (gP x) (sW (gP x) N ch) (sH (gP x) N ch) r i l (gz (gP x) r) ∧ (∀ k, k < gz (gP x) r → i ≤ bg i l k ∧ bg i l k < lgd l k ∧ lgd l k ≤ j) ∧ x.2.1 14 (r * 105 + spn i j) < 65536 ∧ (∀ k, k < gz (gP x) r → (x.2.1 14 (r * 105 + spn i j) / 2 ^ (4 * k)) &&& 15 = lgd l k) ∧ ∀ k, k < gz (gP x) r → x.2.1 16 ((r * 4 + k) * 105 + spn (bg i l k) (lgd l k)) = oN (tpv (gP x) (sW (gP x) N ch) (sH (gP x) N ch) r k (bg i l k) (lgd l k)) := by
  obtain ⟨hr, hij, hj, hw⟩ := hv
  dsimp only at hr hij hj hw
  obtain ⟨-, -, b, hb, hbl, hpw⟩ := kids_ok (ht := hgt (gP x)) G (hts_of G A) (show N < 15 by omega) (e := (r, i, j)) ⟨hr, hij, hj, hw⟩
  dsimp only at hb hbl hpw
  have hz := G.2 r hr
  have hp : ∀ k, k < gz (gP x) r → _ := fun k hk => piece (n := gz (gP x) r) (i := i) (j := j) (t := b) (by omega) (by omega) (by omega) hbl hk
  have h14 : x.2.1 14 (r * 105 + spn i j) = pkN (lgd ((dv (gz (gP x) r) i j).getD b [])) (gz (gP x) r) := by
    rw [((hc i j hij hj (by omega)).1 r hr).2.2]
    unfold PKB
    rw [hb]
    rfl
  have hlt : ∀ k, k < gz (gP x) r → lgd ((dv (gz (gP x) r) i j).getD b []) k < 16 := fun k hk => by
    have := (hp k hk).2.2.1
    omega
  refine ⟨(dv (gz (gP x) r) i j).getD b [], ?_, fun k hk => ⟨(hp k hk).1, (hp k hk).2.1, (hp k hk).2.2.1⟩, ?_, fun k hk => ?_, fun k hk => ?_⟩
  · unfold kids
    dsimp only
    rw [hb]
  · rw [h14]
    exact Nat.lt_of_lt_of_le (pkN_lt hlt) (show 2 ^ (4 * gz (gP x) r) ≤ 2 ^ 16 from Nat.pow_le_pow_right (by decide) (by omega))
  · rw [h14]
    exact pk_get _ hlt k hk
  · have hk2 := hp k hk
    rw [((hc _ _ hk2.2.1 (by omega) (by omega)).2 r hr k hk).2, tpg_tpv (pw_zero _ hpw k hk)]
theorem TL_hd {A t : List Nd} {r i j : Nat} {x : ST} (h : TLs (A ++ (r, i, j) :: t) x) : x.2.1 20 A.length = r ∧ x.2.1 21 A.length = i ∧ x.2.1 22 A.length = j := by
  have := h.2 A.length (by simp)
  rw [List.getElem?_append_right (Nat.le_refl _), Nat.sub_self] at this
  simp only [List.getElem?_cons_zero, Option.some.injEq, Prod.mk.injEq] at this
  exact ⟨this.1.symm, this.2.1.symm, this.2.2.symm⟩
theorem tst_succ {kd : Nd → List Nd} {root e : Nd} {x : Nat} {t : List Nd} (h : (tst kd root x).2 = e :: t) : (tst kd root (x + 1)).1 = (tst kd root x).1 ++ [e] ∧ (tst kd root (x + 1)).2 = kd e ++ t := by
  constructor <;> simp only [tst, h]
theorem gr_step {g : GT} {N : Nat} {ch : Nat → Nat} {root : Nd} {k : Nat} (G : GOk g) (A : Acy g) (hN : N ≤ 14) (hv : Vd g N ch root) (hk : (tst (kids g N ch) root k).1.length = k) (hlt : k < ((tst (kids g N ch) root k).1 ++ (tst (kids g N ch) root k).2).length) : ∃ r i j t, (tst (kids g N ch) root k).2 = (r, i, j) :: t ∧ Vd g N ch (r, i, j) ∧ k + 1 + (kids g N ch (r, i, j)).length + t.length ≤ 162 ∧ (tst (kids g N ch) root (k + 1)).1.length = k + 1 ∧ (tst (kids g N ch) root (k + 1)).1 ++ (tst (kids g N ch) root (k + 1)).2 = (tst (kids g N ch) root k).1 ++ (r, i, j) :: (kids g N ch (r, i, j) ++ t) := by
  have hT := hts_of G A
  have t1 := TI_at (ht := hgt g) G hT (show N < 15 by omega) hv k
  have t2 := TI_at (ht := hgt g) G hT (show N < 15 by omega) hv (k + 1)
  cases hq : (tst (kids g N ch) root k).2 with
  | nil => rw [hq, List.append_nil, hk] at hlt; omega
  | cons e t =>
    obtain ⟨r, i, j⟩ := e
    obtain ⟨s1, s2⟩ := tst_succ hq
    rw [hq] at t1
    have hl := phs_len (ht := hgt g) _ t2.1
    have h3 := t2.2.2.1
    rw [s1, s2] at h3
    rw [s2] at hl
    simp only [List.length_append, List.length_singleton] at h3 hl
    refine ⟨r, i, j, t, rfl, t1.1 _ List.mem_cons_self, by omega, by rw [s1]; simp only [List.length_append, List.length_singleton]; omega, ?_⟩
    rw [s1, s2]
    simp
theorem gr_full {g : GT} {N : Nat} {ch : Nat → Nat} {root : Nd} {k : Nat} (G : GOk g) (A : Acy g) (hN : N ≤ 14) (hv : Vd g N ch root) (hk : (tst (kids g N ch) root k).1.length = k) : ((tst (kids g N ch) root k).1 ++ (tst (kids g N ch) root k).2).length ≤ 162 := by
  have t1 := TI_at (ht := hgt g) G (hts_of G A) (show N < 15 by omega) hv k
  have hl := phs_len (ht := hgt g) _ t1.1
  have := t1.2.2.1
  rw [List.length_append]
  omega
theorem gr_end {kd : Nd → List Nd} {root : Nd} {k : Nat} (hk : (tst kd root k).1.length = k) (h : ((tst kd root k).1 ++ (tst kd root k).2).length ≤ k) : (tst kd root k).2 = [] := by
  rw [List.length_append, hk] at h
  exact List.length_eq_zero_iff.mp (by omega)
/-- how many nodes from q on, before n, begin before e -/
def nbl (b : Nat → Nat) (e n : Nat) : Nat → Nat → Nat
  | 0, q => q
  | f + 1, q => if q < n ∧ b q < e then nbl b e n f (q + 1) else q
theorem ga_6 {x y : ST} {k : Nat} (h6 : ∀ i, y.2.1 6 i = if x.1 3 * 4 ≤ i ∧ i < x.1 3 * 4 + k then tAt x (i - x.1 3 * 4 + 2) else x.2.1 6 i) : ∀ i, (sA y 6 (x.1 3 * 4 + k) (tAt x (k + 2))).2.1 6 i = if x.1 3 * 4 ≤ i ∧ i < x.1 3 * 4 + (k + 1) then tAt x (i - x.1 3 * 4 + 2) else x.2.1 6 i := by
  intro i
  by_cases e : i = x.1 3 * 4 + k
  · subst e
    rw [sA_same, if_pos (by omega), show x.1 3 * 4 + k - x.1 3 * 4 + 2 = k + 2 by omega]
  · rw [sA_at _ _ _ e, h6 i]
    by_cases q : x.1 3 * 4 ≤ i ∧ i < x.1 3 * 4 + k
    · rw [if_pos q, if_pos (by omega)]
    · rw [if_neg q, if_neg (by omega)]
theorem ga_ret {x y : ST} {k : Nat} {w : UInt64} (ho : Only [6] (sA (sA x 4 (x.1 3) (oN (nt (tAt x 0)))) 5 (x.1 3) (x.1 2 - 2)) y) (hwy : WF y) (h6 : ∀ i, y.2.1 6 i = if x.1 3 * 4 ≤ i ∧ i < x.1 3 * 4 + k then tAt x (i - x.1 3 * 4 + 2) else x.2.1 6 i) (h4 : 4 ≤ k) (h4' : k ≤ 4) (hR : x.1 3 < 16) : WF (sS (sA (sD y 7 (x.1 3) w) 8 (x.1 3) 0) 3 (y.1 3 + 1)) ∧ (sS (sA (sD y 7 (x.1 3) w) 8 (x.1 3) 0) 3 (y.1 3 + 1)).1 = va_up x.1 3 (x.1 3 + 1) ∧ (sS (sA (sD y 7 (x.1 3) w) 8 (x.1 3) 0) 3 (y.1 3 + 1)).2.1 4 = va_up (x.2.1 4) (x.1 3) (oN (nt (tAt x 0))) ∧ (sS (sA (sD y 7 (x.1 3) w) 8 (x.1 3) 0) 3 (y.1 3 + 1)).2.1 5 = va_up (x.2.1 5) (x.1 3) (x.1 2 - 2) ∧ (sS (sA (sD y 7 (x.1 3) w) 8 (x.1 3) 0) 3 (y.1 3 + 1)).2.1 8 = va_up (x.2.1 8) (x.1 3) 0 ∧ (∀ k, k ∉ [4, 5, 6, 8] → (sS (sA (sD y 7 (x.1 3) w) 8 (x.1 3) 0) 3 (y.1 3 + 1)).2.1 k = x.2.1 k) ∧ (∀ i, (sS (sA (sD y 7 (x.1 3) w) 8 (x.1 3) 0) 3 (y.1 3 + 1)).2.1 6 i = if x.1 3 * 4 ≤ i ∧ i < x.1 3 * 4 + 4 then tAt x (i - x.1 3 * 4 + 2) else x.2.1 6 i) ∧ (sS (sA (sD y 7 (x.1 3) w) 8 (x.1 3) 0) 3 (y.1 3 + 1)).2.2.1 = va_up x.2.2.1 7 (va_up (x.2.2.1 7) (x.1 3) w) ∧ (sS (sA (sD y 7 (x.1 3) w) 8 (x.1 3) 0) 3 (y.1 3 + 1)).2.2.2 = x.2.2.2 := by
  have e1 : y.1 = x.1 := ho.1
  have e2 : y.2.2 = x.2.2 := ho.2.1
  have e8 : y.2.1 8 = x.2.1 8 := ho.2.2 8 (by decide)
  have k4 : k = 4 := by omega
  subst k4
  refine ⟨((hwy.sD _ _ _).sA _ _ (by decide)).sS _ (by rw [e1]; omega), ?_, ?_, ?_, ?_, ?_, ?_, ?_, ?_⟩
  · show va_up y.1 3 (y.1 3 + 1) = _
    rw [e1]
  · show va_up y.2.1 8 (va_up (y.2.1 8) (x.1 3) 0) 4 = _
    rw [vup_ne _ _ (by decide), ho.2.2 4 (by decide)]
    rfl
  · show va_up y.2.1 8 (va_up (y.2.1 8) (x.1 3) 0) 5 = _
    rw [vup_ne _ _ (by decide), ho.2.2 5 (by decide)]
    rfl
  · show va_up y.2.1 8 (va_up (y.2.1 8) (x.1 3) 0) 8 = _
    rw [vup_eq]
    show va_up (y.2.1 8) (x.1 3) 0 = _
    rw [e8]
  · intro k hk
    simp only [List.mem_cons, List.not_mem_nil, or_false, not_or] at hk
    show va_up y.2.1 8 (va_up (y.2.1 8) (x.1 3) 0) k = _
    rw [vup_ne _ _ hk.2.2.2, ho.2.2 k (by simp only [List.mem_cons, List.not_mem_nil, or_false]; exact hk.2.2.1)]
    show va_up (va_up x.2.1 4 (va_up (x.2.1 4) (x.1 3) (oN (nt (tAt x 0))))) 5 (va_up (x.2.1 5) (x.1 3) (x.1 2 - 2)) k = _
    rw [vup_ne _ _ hk.2.1, vup_ne _ _ hk.1]
  · intro i
    show va_up y.2.1 8 (va_up (y.2.1 8) (x.1 3) 0) 6 i = _
    rw [vup_ne _ _ (by decide)]
    exact h6 i
  · show va_up y.2.2.1 7 (va_up (y.2.2.1 7) (x.1 3) w) = _
    rw [e2]
  · show y.2.2.2 = _
    rw [e2]
theorem rl_9 {x y : ST} {r m M : Nat} (h9 : ∀ i, y.2.1 9 i = if i < r then x.2.1 9 i &&& M else if i = m then 0 else x.2.1 9 i) (hr : r < m) : ∀ i, (sA y 9 r (if 0 = 0 then y.2.1 9 r &&& M else y.2.1 9 r ||| (1 * 2 ^ m))).2.1 9 i = if i < r + 1 then x.2.1 9 i &&& M else if i = m then 0 else x.2.1 9 i := by
  intro i
  by_cases e : i = r
  · subst e
    rw [sA_same, if_pos rfl, h9 i, if_neg (by omega), if_neg (by omega), if_pos (by omega)]
  · rw [sA_at _ _ _ e, h9 i]
    by_cases q : i < r
    · rw [if_pos q, if_pos (by omega)]
    · rw [if_neg q, if_neg (show ¬ i < r + 1 by omega)]

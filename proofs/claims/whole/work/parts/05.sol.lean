/-! THE MATHEMATICS: a grammar, what a rule has over a span, and that the equations have one solution -/
abbrev GT : Type := Nat × (Nat → Nat) × (Nat → Nat) × (Nat → Nat) × (Nat → Nat → Nat) × (Nat → UInt64) × (Nat → Nat → Bool) × (Nat → Nat → Bool)
def gR (g : GT) : Nat := g.1
def gl (g : GT) : Nat → Nat := g.2.1
def gz (g : GT) : Nat → Nat := g.2.2.1
def gm (g : GT) : Nat → Nat := g.2.2.2.1
def gs (g : GT) : Nat → Nat → Nat := g.2.2.2.2.1
def gw (g : GT) : Nat → UInt64 := g.2.2.2.2.2.1
def gb (g : GT) : Nat → Nat → Bool := g.2.2.2.2.2.2.1
def gf (g : GT) : Nat → Nat → Bool := g.2.2.2.2.2.2.2
/-- the nonterminal that a character names -/
def nt (c : Nat) : Option Nat := if 65 ≤ c ∧ c ≤ 70 then some (c - 65) else none
def stands (c x : Nat) : Bool := if c = 35 then decide (48 ≤ x ∧ x ≤ 57) else if c = 64 then decide (97 ≤ x ∧ x ≤ 122) else decide (c = x)
/-- may rule s stand under r as its k-th symbol -/
def alw (g : GT) (r k s : Nat) : Bool := !(gb g r s) && !(decide (r = s) && (decide (gm g r = 2 ∧ k + 1 = gz g r) || decide (gm g r = 3 ∧ k = 0)))
def MX : Nat := 1000000000
def dgt (x y : UInt64) : Bool := match FP.dcmp x y with
  | some .gt => true
  | _ => false
def inN (g : GT) (n : Nat) (sel : Nat → Bool) (s : Nat) : Bool := decide (gl g s = n) && decide (gm g s ≠ 1) && sel s
def cn (g : GT) (n : Nat) (sel : Nat → Bool) (w : Nat → Nat) : Nat → Nat
  | 0 => 0
  | s + 1 => if inN g n sel s = true then min MX (cn g n sel w s + w s) else cn g n sel w s
def tp (g : GT) (n : Nat) (sel : Nat → Bool) (w : Nat → Nat) (h : Nat → UInt64) : Nat → Option Nat
  | 0 => none
  | s + 1 => if inN g n sel s = true ∧ w s ≠ 0 then (match tp g n sel w h s with
    | none => some s
    | some b => if dgt (h s) (h b) = true then some s else some b) else tp g n sel w h s
/-- no rejecting rule of n has one -/
def nrej (g : GT) (n : Nat) (w : Nat → Nat) : Nat → Bool
  | 0 => true
  | s + 1 => nrej g n w s && !(decide (gl g s = n ∧ gm g s = 1 ∧ w s ≠ 0))
def gd (g : GT) (N : Nat) (ch : Nat → Nat) (n j : Nat) (w : Nat → Nat) : Bool := nrej g n w (gR g) && (decide (j = N) || !(gf g n (ch j)))
/-- how many the k-th symbol of r has from a to b -/
def syv (g : GT) (N : Nat) (ch : Nat → Nat) (w : Nat → Nat → Nat → Nat) (r k a b : Nat) : Nat := match nt (gs g r k) with
  | none => if b = a + 1 ∧ stands (gs g r k) (ch a) = true then 1 else 0
  | some n => if gd g N ch n b (fun s => w s a b) = true then cn g n (alw g r k) (fun s => w s a b) (gR g) else 0
/-- the rule by which it is derived there at its heaviest -/
def tpv (g : GT) (w : Nat → Nat → Nat → Nat) (h : Nat → Nat → Nat → UInt64) (r k a b : Nat) : Option Nat := match nt (gs g r k) with
  | none => none
  | some n => tp g n (alw g r k) (fun s => w s a b) (fun s => h s a b) (gR g)
def wtv (g : GT) (w : Nat → Nat → Nat → Nat) (h : Nat → Nat → Nat → UInt64) (r k a b : Nat) : Option UInt64 := (tpv g w h r k a b).map (fun s => h s a b)
/-- the product of the first k pieces' numbers -/
def pw (sym : Nat → Nat → Nat → Nat) (i : Nat) (l : List Nat) : Nat → Nat
  | 0 => 1
  | k + 1 => min MX (pw sym i l k * sym k (bg i l k) (lgd l k))
def fw (w0 : UInt64) (f : Nat → Nat → Nat → Option UInt64) (i : Nat) (l : List Nat) : Nat → UInt64
  | 0 => w0
  | k + 1 => match f k (bg i l k) (lgd l k) with
    | none => fw w0 f i l k
    | some x => FP.dmul (fw w0 f i l k) x
def aw (sym : Nat → Nat → Nat → Nat) (n i : Nat) (L : List (List Nat)) : Nat → Nat
  | 0 => 0
  | t + 1 => min MX (aw sym n i L t + pw sym i (L.getD t []) n)
def bs (sym : Nat → Nat → Nat → Nat) (fwt : List Nat → UInt64) (n i : Nat) (L : List (List Nat)) : Nat → Option Nat
  | 0 => none
  | t + 1 => if pw sym i (L.getD t []) n = 0 then bs sym fwt n i L t else (match bs sym fwt n i L t with
    | none => some t
    | some b => if dgt (fwt (L.getD t [])) (fwt (L.getD b [])) = true then some t else some b)
def FW (g : GT) (w : Nat → Nat → Nat → Nat) (h : Nat → Nat → Nat → UInt64) (r i : Nat) (l : List Nat) : UInt64 := fw (gw g r) (wtv g w h r) i l (gz g r)
def WAYS (g : GT) (N : Nat) (ch : Nat → Nat) (w : Nat → Nat → Nat → Nat) (r i j : Nat) : Nat := aw (syv g N ch w r) (gz g r) i (dv (gz g r) i j) (dv (gz g r) i j).length
def BEST (g : GT) (N : Nat) (ch : Nat → Nat) (w : Nat → Nat → Nat → Nat) (h : Nat → Nat → Nat → UInt64) (r i j : Nat) : Option Nat := bs (syv g N ch w r) (FW g w h r i) (gz g r) i (dv (gz g r) i j) (dv (gz g r) i j).length
def HEAVY (g : GT) (N : Nat) (ch : Nat → Nat) (w : Nat → Nat → Nat → Nat) (h : Nat → Nat → Nat → UInt64) (r i j : Nat) : UInt64 := match BEST g N ch w h r i j with
  | none => 0
  | some b => FW g w h r i ((dv (gz g r) i j).getD b [])
def Sol (g : GT) (N : Nat) (ch : Nat → Nat) (w : Nat → Nat → Nat → Nat) (h : Nat → Nat → Nat → UInt64) : Prop := ∀ r, r < gR g → ∀ i j, i < j → j ≤ N → w r i j = WAYS g N ch w r i j ∧ h r i j = HEAVY g N ch w h r i j
/-- the heights of the nonterminals: chains lead down -/
def Hts (g : GT) (ht : Nat → Nat) : Prop := (∀ n, ht n ≤ 5) ∧ ∀ r, r < gR g → gz g r = 1 → ∀ c, nt (gs g r 0) = some c → ht c < ht (gl g r)
def GOk (g : GT) : Prop := gR g ≤ 16 ∧ ∀ r, r < gR g → gl g r < 6 ∧ 1 ≤ gz g r ∧ gz g r ≤ 4 ∧ gm g r ≤ 3 ∧ (∃ L : Int, fp_E (gw g r) L ∧ -3 ≤ L ∧ L ≤ 3) ∧ ∀ k, k < gz g r → 33 ≤ gs g r k ∧ gs g r k ≤ 126
-- congruences
theorem cn_congr {g : GT} {n : Nat} {sel : Nat → Bool} {w w' : Nat → Nat} : ∀ m, (∀ s, s < m → gl g s = n → w s = w' s) → cn g n sel w m = cn g n sel w' m
  | 0, _ => rfl
  | m + 1, h => by
    have ih := cn_congr (sel := sel) m (fun s hs => h s (by omega))
    simp only [cn]
    by_cases hc : inN g n sel m = true
    · rw [if_pos hc, if_pos hc, ih, h m (by omega) (by simp only [inN, Bool.and_eq_true, decide_eq_true_eq] at hc; exact hc.1.1)]
    · rw [if_neg hc, if_neg hc, ih]
theorem tp_congr {g : GT} {n : Nat} {sel : Nat → Bool} {w w' : Nat → Nat} {h h' : Nat → UInt64} : ∀ m, (∀ s, s < m → gl g s = n → w s = w' s ∧ h s = h' s) → tp g n sel w h m = tp g n sel w' h' m ∧ ∀ b, tp g n sel w h m = some b → b < m ∧ gl g b = n ∧ w b ≠ 0
  | 0, _ => ⟨rfl, fun b hb => by cases hb⟩
  | m + 1, hh => by
    obtain ⟨ih, ib⟩ := tp_congr (sel := sel) m (fun s hs => hh s (by omega))
    simp only [tp]
    by_cases hc : inN g n sel m = true ∧ w m ≠ 0
    · have hn : gl g m = n := by
        have := hc.1
        simp only [inN, Bool.and_eq_true, decide_eq_true_eq] at this
        exact this.1.1
      obtain ⟨e1, e2⟩ := hh m (by omega) hn
      rw [if_pos hc, if_pos (by rw [← e1]; exact hc), ← ih]
      cases ht : tp g n sel w h m with
      | none => exact ⟨rfl, fun b hb => by cases hb; exact ⟨by omega, hn, hc.2⟩⟩
      | some b0 =>
        obtain ⟨q1, q2, q3⟩ := ib b0 ht
        dsimp only
        rw [← e2, ← (hh b0 (by omega) q2).2]
        refine ⟨rfl, fun b hb => ?_⟩
        split at hb
        · cases hb; exact ⟨by omega, hn, hc.2⟩
        · cases hb; exact ⟨by omega, q2, q3⟩
    · rw [if_neg hc]
      refine ⟨?_, fun b hb => ?_⟩
      · by_cases hn : gl g m = n
        · rw [if_neg (by rw [← (hh m (by omega) hn).1]; exact hc), ih]
        · rw [if_neg (fun q => hn (by have := q.1; simp only [inN, Bool.and_eq_true, decide_eq_true_eq] at this; exact this.1.1)), ih]
      · obtain ⟨q1, q2, q3⟩ := ib b hb
        exact ⟨by omega, q2, q3⟩
theorem tp_some {g : GT} {n : Nat} {sel : Nat → Bool} {w : Nat → Nat} {h : Nat → UInt64} {m b : Nat} (hb : tp g n sel w h m = some b) : b < m ∧ gl g b = n ∧ w b ≠ 0 := (tp_congr (w := w) (w' := w) (h := h) (h' := h) m (fun _ _ _ => ⟨rfl, rfl⟩)).2 b hb
theorem tp_none {g : GT} {n : Nat} {sel : Nat → Bool} {w : Nat → Nat} {h : Nat → UInt64} : ∀ m, tp g n sel w h m = none → cn g n sel w m = 0
  | 0, _ => rfl
  | m + 1, hz => by
    simp only [tp] at hz
    simp only [cn]
    by_cases hc : inN g n sel m = true ∧ w m ≠ 0
    · rw [if_pos hc] at hz
      split at hz
      · cases hz
      · split at hz <;> cases hz
    · rw [if_neg hc] at hz
      have ih := tp_none m hz
      by_cases hi : inN g n sel m = true
      · rw [if_pos hi, ih]
        have : w m = 0 := by
          rcases Nat.eq_zero_or_pos (w m) with q | q
          · exact q
          · exact absurd ⟨hi, by omega⟩ hc
        rw [this]
        rfl
      · rw [if_neg hi, ih]
theorem nrej_congr {g : GT} {n : Nat} {w w' : Nat → Nat} : ∀ m, (∀ s, s < m → gl g s = n → w s = w' s) → nrej g n w m = nrej g n w' m
  | 0, _ => rfl
  | m + 1, h => by
    simp only [nrej]
    rw [nrej_congr m (fun s hs => h s (by omega))]
    by_cases hn : gl g m = n
    · rw [h m (by omega) hn]
    · have e1 : decide (gl g m = n ∧ gm g m = 1 ∧ w m ≠ 0) = false := by simp [hn]
      have e2 : decide (gl g m = n ∧ gm g m = 1 ∧ w' m ≠ 0) = false := by simp [hn]
      rw [e1, e2]
theorem gd_congr {g : GT} {N : Nat} {ch : Nat → Nat} {n j : Nat} {w w' : Nat → Nat} (h : ∀ s, s < gR g → gl g s = n → w s = w' s) : gd g N ch n j w = gd g N ch n j w' := by
  unfold gd
  rw [nrej_congr _ h]
theorem syv_congr {g : GT} {N : Nat} {ch : Nat → Nat} {w w' : Nat → Nat → Nat → Nat} {r k a b : Nat} (h : ∀ n, nt (gs g r k) = some n → ∀ s, s < gR g → gl g s = n → w s a b = w' s a b) : syv g N ch w r k a b = syv g N ch w' r k a b := by
  unfold syv
  cases hn : nt (gs g r k) with
  | none => rfl
  | some n =>
    dsimp only
    rw [gd_congr (h n hn), cn_congr _ (h n hn)]
theorem wtv_congr {g : GT} {w w' : Nat → Nat → Nat → Nat} {h h' : Nat → Nat → Nat → UInt64} {r k a b : Nat} (hh : ∀ n, nt (gs g r k) = some n → ∀ s, s < gR g → gl g s = n → w s a b = w' s a b ∧ h s a b = h' s a b) : wtv g w h r k a b = wtv g w' h' r k a b ∧ tpv g w h r k a b = tpv g w' h' r k a b := by
  unfold wtv tpv
  cases hn : nt (gs g r k) with
  | none => exact ⟨rfl, rfl⟩
  | some n =>
    dsimp only
    obtain ⟨e, eb⟩ := tp_congr (sel := alw g r k) (w := fun s => w s a b) (w' := fun s => w' s a b) (h := fun s => h s a b) (h' := fun s => h' s a b) (gR g) (fun s hs hg => hh n hn s hs hg)
    rw [← e]
    refine ⟨?_, rfl⟩
    cases ht : tp g n (alw g r k) (fun s => w s a b) (fun s => h s a b) (gR g) with
    | none => rfl
    | some s0 =>
      obtain ⟨q1, q2, -⟩ := eb s0 ht
      show some (h s0 a b) = some (h' s0 a b)
      rw [(hh n hn s0 q1 q2).2]
theorem pw_congr {sym sym' : Nat → Nat → Nat → Nat} {i : Nat} {l : List Nat} : ∀ m, (∀ k, k < m → sym k (bg i l k) (lgd l k) = sym' k (bg i l k) (lgd l k)) → pw sym i l m = pw sym' i l m
  | 0, _ => rfl
  | m + 1, h => by
    simp only [pw]
    rw [pw_congr m (fun k hk => h k (by omega)), h m (by omega)]
theorem fw_congr {w0 : UInt64} {f f' : Nat → Nat → Nat → Option UInt64} {i : Nat} {l : List Nat} : ∀ m, (∀ k, k < m → f k (bg i l k) (lgd l k) = f' k (bg i l k) (lgd l k)) → fw w0 f i l m = fw w0 f' i l m
  | 0, _ => rfl
  | m + 1, h => by
    simp only [fw]
    rw [fw_congr m (fun k hk => h k (by omega)), h m (by omega)]
theorem aw_congr {sym sym' : Nat → Nat → Nat → Nat} {n i : Nat} {L : List (List Nat)} : ∀ m, (∀ t, t < m → pw sym i (L.getD t []) n = pw sym' i (L.getD t []) n) → aw sym n i L m = aw sym' n i L m
  | 0, _ => rfl
  | m + 1, h => by
    simp only [aw]
    rw [aw_congr m (fun t ht => h t (by omega)), h m (by omega)]
theorem bs_lt {sym : Nat → Nat → Nat → Nat} {fwt : List Nat → UInt64} {n i : Nat} {L : List (List Nat)} : ∀ m b, bs sym fwt n i L m = some b → b < m ∧ pw sym i (L.getD b []) n ≠ 0
  | 0, b, h => by cases h
  | m + 1, b, h => by
    simp only [bs] at h
    split at h
    · have := bs_lt m b h
      exact ⟨by omega, this.2⟩
    · rename_i hp
      split at h
      · cases h; exact ⟨by omega, hp⟩
      · rename_i b0 hb0
        have := bs_lt m b0 hb0
        split at h
        · cases h; exact ⟨by omega, hp⟩
        · cases h; exact ⟨by omega, this.2⟩
theorem bs_congr {sym sym' : Nat → Nat → Nat → Nat} {fwt fwt' : List Nat → UInt64} {n i : Nat} {L : List (List Nat)} : ∀ m, (∀ t, t < m → pw sym i (L.getD t []) n = pw sym' i (L.getD t []) n ∧ (pw sym i (L.getD t []) n ≠ 0 → fwt (L.getD t []) = fwt' (L.getD t []))) → bs sym fwt n i L m = bs sym' fwt' n i L m
  | 0, _ => rfl
  | m + 1, h => by
    have ih := bs_congr m (fun t ht => h t (by omega))
    obtain ⟨e1, e2⟩ := h m (by omega)
    simp only [bs]
    by_cases hp : pw sym i (L.getD m []) n = 0
    · rw [if_pos hp, if_pos (by rw [← e1]; exact hp), ih]
    · rw [if_neg hp, if_neg (by rw [← e1]; exact hp), ih, ← e2 hp]
      cases hb : bs sym' fwt' n i L m with
      | none => rfl
      | some b =>
        have q := bs_lt m b (ih.trans hb)
        dsimp only
        rw [(h b (by omega)).2 q.2]
theorem bs_none {sym : Nat → Nat → Nat → Nat} {fwt : List Nat → UInt64} {n i : Nat} {L : List (List Nat)} : ∀ m, bs sym fwt n i L m = none ↔ aw sym n i L m = 0
  | 0 => by simp [bs, aw]
  | m + 1 => by
    have ih := bs_none (sym := sym) (fwt := fwt) (n := n) (i := i) (L := L) m
    simp only [bs, aw]
    by_cases hp : pw sym i (L.getD m []) n = 0
    · rw [if_pos hp, hp, Nat.add_zero, ih]
      constructor
      · intro h; rw [h]; rfl
      · intro h; simp only [MX] at h; omega
    · rw [if_neg hp]
      constructor
      · intro h
        split at h
        · cases h
        · split at h <;> cases h
      · intro h; simp only [MX] at h; omega
theorem gt_of {L : List (List Nat)} {t : Nat} (h : t < L.length) : L[t]? = some (L.getD t []) := by
  simp [List.getD, List.getElem?_eq_getElem h]
theorem piece {n i j t k : Nat} (hn : n < 5) (hj : j < 15) (hi : i < 15) (ht : t < (dv n i j).length) (hk : k < n) : i ≤ bg i ((dv n i j).getD t []) k ∧ bg i ((dv n i j).getD t []) k < lgd ((dv n i j).getD t []) k ∧ lgd ((dv n i j).getD t []) k ≤ j ∧ (lgd ((dv n i j).getD t []) k - bg i ((dv n i j).getD t []) k < j - i ∨ (n = 1 ∧ bg i ((dv n i j).getD t []) k = i ∧ lgd ((dv n i j).getD t []) k = j)) := by
  have h := gt_of ht
  generalize (dv n i j).getD t [] = l at h ⊢
  obtain ⟨h1, h2, h3⟩ := dv_ok hn hj hi h
  have h4 := dv_mono hn hj hi h
  have a := h2 k hk
  have b := h4 k hk
  have e : i + k ≤ bg i l k := by
    unfold bg
    split
    · omega
    · have := (h4 (k - 1) (by omega)).1
      omega
  refine ⟨by omega, a, by omega, ?_⟩
  by_cases hn1 : n = 1
  · right
    subst hn1
    have hk0 : k = 0 := by omega
    subst hk0
    exact ⟨rfl, rfl, h3 (by omega)⟩
  · left
    omega
/-- two charts agree on what rule r needs over the span from i to j -/
def Agr (g : GT) (w w' : Nat → Nat → Nat → Nat) (h h' : Nat → Nat → Nat → UInt64) (r i j : Nat) : Prop := ∀ k, k < gz g r → ∀ a b, i ≤ a → a < b → b ≤ j → (b - a < j - i ∨ (gz g r = 1 ∧ a = i ∧ b = j)) → ∀ c, nt (gs g r k) = some c → ∀ s, s < gR g → gl g s = c → w s a b = w' s a b ∧ h s a b = h' s a b
theorem eqs_congr {g : GT} {N : Nat} {ch : Nat → Nat} {w w' : Nat → Nat → Nat → Nat} {h h' : Nat → Nat → Nat → UInt64} {r i j : Nat} (hz : gz g r < 5) (hj : j < 15) (hi : i < 15) (A : Agr g w w' h h' r i j) : WAYS g N ch w r i j = WAYS g N ch w' r i j ∧ BEST g N ch w h r i j = BEST g N ch w' h' r i j ∧ HEAVY g N ch w h r i j = HEAVY g N ch w' h' r i j := by
  have hp : ∀ t, t < (dv (gz g r) i j).length → pw (syv g N ch w r) i ((dv (gz g r) i j).getD t []) (gz g r) = pw (syv g N ch w' r) i ((dv (gz g r) i j).getD t []) (gz g r) := by
    intro t ht
    refine pw_congr _ (fun k hk => ?_)
    obtain ⟨p1, p2, p3, p4⟩ := piece hz hj hi ht hk
    exact syv_congr (fun n hn s hs hg => (A k hk _ _ p1 p2 p3 p4 n hn s hs hg).1)
  have hf : ∀ t, t < (dv (gz g r) i j).length → FW g w h r i ((dv (gz g r) i j).getD t []) = FW g w' h' r i ((dv (gz g r) i j).getD t []) := by
    intro t ht
    refine fw_congr _ (fun k hk => ?_)
    obtain ⟨p1, p2, p3, p4⟩ := piece hz hj hi ht hk
    exact (wtv_congr (fun n hn s hs hg => A k hk _ _ p1 p2 p3 p4 n hn s hs hg)).1
  have e1 : WAYS g N ch w r i j = WAYS g N ch w' r i j := aw_congr _ hp
  have e2 : BEST g N ch w h r i j = BEST g N ch w' h' r i j := bs_congr _ (fun t ht => ⟨hp t ht, fun _ => hf t ht⟩)
  refine ⟨e1, e2, ?_⟩
  unfold HEAVY
  rw [← e2]
  cases hb : BEST g N ch w h r i j with
  | none => rfl
  | some b => exact hf b (bs_lt _ b hb).1
/-- the solution: what is over a span rests on shorter spans, and over the same one on lower nonterminals -/
def val (g : GT) (N : Nat) (ch : Nat → Nat) : Nat → Nat → Nat → Nat → Nat × UInt64
  | 0 => fun _ _ _ => (0, 0)
  | f + 1 => fun r i j => (WAYS g N ch (fun r i j => (val g N ch f r i j).1) r i j, HEAVY g N ch (fun r i j => (val g N ch f r i j).1) (fun r i j => (val g N ch f r i j).2) r i j)
def sW (g : GT) (N : Nat) (ch : Nat → Nat) (r i j : Nat) : Nat := (val g N ch 100 r i j).1
def sH (g : GT) (N : Nat) (ch : Nat → Nat) (r i j : Nat) : UInt64 := (val g N ch 100 r i j).2
theorem val_stable {g : GT} {N : Nat} {ch : Nat → Nat} {ht : Nat → Nat} (G : GOk g) (T : Hts g ht) : ∀ f r i j, r < gR g → i < j → j < 15 → 6 * (j - i - 1) + ht (gl g r) + 1 ≤ f → val g N ch f r i j = val g N ch (f + 1) r i j := by
  intro f
  induction f with
  | zero => intro r i j _ _ _ h; omega
  | succ f ih =>
    intro r i j hr hij hj hf
    have hz := G.2 r hr
    have A : Agr g (fun r i j => (val g N ch f r i j).1) (fun r i j => (val g N ch (f + 1) r i j).1) (fun r i j => (val g N ch f r i j).2) (fun r i j => (val g N ch (f + 1) r i j).2) r i j := by
      intro k hk a b h1 h2 h3 h4 c hc s hs hgs
      have e : val g N ch f s a b = val g N ch (f + 1) s a b := by
        refine ih s a b hs h2 (by omega) ?_
        have t1 := T.1 (gl g s)
        rcases h4 with h4 | ⟨h4, h5, h6⟩
        · omega
        · have hk0 : k = 0 := by omega
          subst hk0
          have := T.2 r hr h4 c hc
          rw [hgs]
          subst h5; subst h6
          omega
      dsimp only
      rw [e]
      exact ⟨rfl, rfl⟩
    obtain ⟨e1, -, e3⟩ := eqs_congr (N := N) (ch := ch) (by omega) hj (by omega) A
    show (_, _) = (_, _)
    rw [e1, e3]
theorem sol_ok {g : GT} {N : Nat} {ch : Nat → Nat} {ht : Nat → Nat} (G : GOk g) (T : Hts g ht) {r i j : Nat} (hr : r < gR g) (hij : i < j) (hj : j < 15) : sW g N ch r i j = WAYS g N ch (sW g N ch) r i j ∧ sH g N ch r i j = HEAVY g N ch (sW g N ch) (sH g N ch) r i j := by
  have h := val_stable (N := N) (ch := ch) G T 100 r i j hr hij hj (by have := T.1 (gl g r); omega)
  unfold sW sH
  constructor
  · exact congrArg Prod.fst h
  · exact congrArg Prod.snd h
/-! WEIGHTS: positive, of bounded exponent -/
/-- how many nodes a tree of rule r over a span can have at most -/
def phi (g : GT) (ht : Nat → Nat) (r i j : Nat) : Nat := 12 * (j - i) - 11 + ht (gl g r)
def fpb (x : UInt64) (m : Nat) : Prop := ∃ L : Int, fp_E x L ∧ 2 - 5 * (m : Int) ≤ L ∧ L ≤ 5 * (m : Int) - 2
/-- what is there is positive, of bounded exponent -/
def Pos (g : GT) (ht : Nat → Nat) (w : Nat → Nat → Nat → Nat) (h : Nat → Nat → Nat → UInt64) (r i j : Nat) : Prop := w r i j ≠ 0 → fpb (h r i j) (phi g ht r i j)
/-- the sum of what the first k pieces can have -/
def psum (f : Nat → Nat → Nat → Nat) (i : Nat) (l : List Nat) : Nat → Nat
  | 0 => 0
  | k + 1 => psum f i l k + f k (bg i l k) (lgd l k)
theorem fw_pos {w0 : UInt64} {f : Nat → Nat → Nat → Option UInt64} {ph : Nat → Nat → Nat → Nat} {i : Nat} {l : List Nat} (h0 : ∃ L : Int, fp_E w0 L ∧ -3 ≤ L ∧ L ≤ 3) : ∀ m, (∀ k, k < m → (∀ x, f k (bg i l k) (lgd l k) = some x → fpb x (ph k (bg i l k) (lgd l k)))) → psum ph i l m ≤ 163 → ∃ L : Int, fp_E (fw w0 f i l m) L ∧ -3 - 5 * (psum ph i l m : Int) ≤ L ∧ L ≤ 3 + 5 * (psum ph i l m : Int)
  | 0, _, _ => by
    obtain ⟨L, h1, h2, h3⟩ := h0
    exact ⟨L, h1, by simp only [psum]; omega, by simp only [psum]; omega⟩
  | m + 1, hf, hs => by
    simp only [psum] at hs ⊢
    obtain ⟨L, h1, h2, h3⟩ := fw_pos h0 m (fun k hk => hf k (by omega)) (by omega)
    simp only [fw]
    cases hx : f m (bg i l m) (lgd l m) with
    | none => exact ⟨L, h1, by omega, by omega⟩
    | some x =>
      obtain ⟨L2, g1, g2, g3⟩ := hf m (by omega) x hx
      obtain ⟨L3, k1, k2, k3⟩ := fp_mul h1 g1 (by omega) (by omega)
      exact ⟨L3, k1, by omega, by omega⟩
theorem psum_le {f : Nat → Nat → Nat → Nat} {i : Nat} {l : List Nat} (hb : ∀ k, bg i l (k + 1) = lgd l k) : ∀ m, (∀ k, k < m + 1 → i ≤ bg i l k ∧ bg i l k < lgd l k ∧ f k (bg i l k) (lgd l k) + 6 ≤ 12 * (lgd l k - bg i l k)) → psum f i l (m + 1) + 6 * (m + 1) ≤ 12 * (lgd l m - i)
  | 0, h => by
    have h0 := h 0 (by omega)
    simp only [psum]
    simp only [bg, if_true] at h0 ⊢
    omega
  | m + 1, h => by
    have ih := psum_le hb m (fun k hk => h k (by omega))
    have h1 := h (m + 1) (by omega)
    have h2 := h m (by omega)
    rw [psum]
    rw [hb m] at h1 ⊢
    omega
theorem bg_succ (i : Nat) (l : List Nat) (k : Nat) : bg i l (k + 1) = lgd l k := by
  unfold bg
  rw [if_neg (by omega), Nat.add_sub_cancel]
/-- what a piece can have: a nonterminal's nodes -/
def ppc (g : GT) (ht : Nat → Nat) (r k a b : Nat) : Nat := match nt (gs g r k) with
  | none => 0
  | some c => 12 * (b - a) - 11 + ht c
/-- the charts' values are positive where rule r needs them over the span from i to j -/
def PosA (g : GT) (ht : Nat → Nat) (w : Nat → Nat → Nat → Nat) (h : Nat → Nat → Nat → UInt64) (r i j : Nat) : Prop := ∀ k, k < gz g r → ∀ a b, i ≤ a → a < b → b ≤ j → (b - a < j - i ∨ (gz g r = 1 ∧ a = i ∧ b = j)) → ∀ c, nt (gs g r k) = some c → ∀ s, s < gR g → gl g s = c → Pos g ht w h s a b
theorem psum_phi {g : GT} {ht : Nat → Nat} (G : GOk g) (T : Hts g ht) {r i j t : Nat} (hr : r < gR g) (hij : i < j) (hj : j < 15) (htt : t < (dv (gz g r) i j).length) : psum (ppc g ht r) i ((dv (gz g r) i j).getD t []) (gz g r) + 1 ≤ phi g ht r i j := by
  obtain ⟨g1, g2, g3, -⟩ := G.2 r hr
  have hpc := fun k (hk : k < gz g r) => piece (by omega) hj (by omega) htt hk
  have hok := dv_ok (by omega) hj (by omega) (gt_of htt)
  generalize (dv (gz g r) i j).getD t [] = l at hpc hok ⊢
  unfold phi
  by_cases h1 : gz g r = 1
  · rw [h1]
    obtain ⟨p1, p2, p3, p4⟩ := hpc 0 (by omega)
    simp only [psum, ppc, Nat.zero_add]
    have hl : lgd l 0 = j := by
      have := hok.2.2 (by omega)
      rw [h1] at this
      exact this
    have hb : bg i l 0 = i := rfl
    cases hc : nt (gs g r 0) with
    | none => dsimp only; omega
    | some c =>
      have := T.2 r hr h1 c hc
      dsimp only
      rw [hl, hb]
      omega
  · have hm : gz g r = (gz g r - 1) + 1 := by omega
    have := psum_le (f := ppc g ht r) (bg_succ i l) (gz g r - 1) (fun k hk => by
      obtain ⟨p1, p2, p3, p4⟩ := hpc k (by omega)
      refine ⟨p1, p2, ?_⟩
      unfold ppc
      split
      · omega
      · rename_i c hc
        have := T.1 c
        omega)
    rw [← hm] at this
    have hl := hok.2.2 (by omega)
    rw [hl] at this
    omega
theorem FW_pos {g : GT} {ht : Nat → Nat} (G : GOk g) (T : Hts g ht) {w : Nat → Nat → Nat → Nat} {h : Nat → Nat → Nat → UInt64} {r i j t : Nat} (hr : r < gR g) (hij : i < j) (hj : j < 15) (htt : t < (dv (gz g r) i j).length) (P : PosA g ht w h r i j) : fpb (FW g w h r i ((dv (gz g r) i j).getD t [])) (phi g ht r i j) ∧ ∀ m, m ≤ gz g r → ∃ L : Int, fp_E (fw (gw g r) (wtv g w h r) i ((dv (gz g r) i j).getD t []) m) L ∧ -900 ≤ L ∧ L ≤ 900 := by
  obtain ⟨g1, g2, g3, g4, g5, g6⟩ := G.2 r hr
  have hs := psum_phi G T hr hij hj htt
  have hph : phi g ht r i j ≤ 162 := by
    unfold phi
    have := T.1 (gl g r)
    omega
  have hf : ∀ k, k < gz g r → ∀ x, wtv g w h r k (bg i ((dv (gz g r) i j).getD t []) k) (lgd ((dv (gz g r) i j).getD t []) k) = some x → fpb x (ppc g ht r k (bg i ((dv (gz g r) i j).getD t []) k) (lgd ((dv (gz g r) i j).getD t []) k)) := by
    intro k hk x hx
    obtain ⟨p1, p2, p3, p4⟩ := piece (by omega) hj (by omega) htt hk
    unfold wtv tpv at hx
    unfold ppc
    cases hc : nt (gs g r k) with
    | none => rw [hc] at hx; cases hx
    | some c =>
      rw [hc] at hx
      dsimp only at hx ⊢
      cases hq : tp g c (alw g r k) (fun s => w s (bg i ((dv (gz g r) i j).getD t []) k) (lgd ((dv (gz g r) i j).getD t []) k)) (fun s => h s (bg i ((dv (gz g r) i j).getD t []) k) (lgd ((dv (gz g r) i j).getD t []) k)) (gR g) with
      | none => rw [hq] at hx; cases hx
      | some s =>
        rw [hq] at hx
        cases hx
        obtain ⟨q1, q2, q3⟩ := tp_some hq
        have := P k hk _ _ p1 p2 p3 p4 c hc s q1 q2 q3
        unfold phi at this
        rw [q2] at this
        exact this
  have mono : ∀ m d, psum (ppc g ht r) i ((dv (gz g r) i j).getD t []) m ≤ psum (ppc g ht r) i ((dv (gz g r) i j).getD t []) (m + d) := by
    intro m d
    induction d with
    | zero => exact Nat.le_refl _
    | succ d ih => exact Nat.le_trans ih (by rw [← Nat.add_assoc, psum]; omega)
  refine ⟨?_, fun m hm => ?_⟩
  · obtain ⟨L, e1, e2, e3⟩ := fw_pos (ph := ppc g ht r) g5 (gz g r) hf (by omega)
    exact ⟨L, e1, by omega, by omega⟩
  · have := mono m (gz g r - m)
    rw [show m + (gz g r - m) = gz g r by omega] at this
    obtain ⟨L, e1, e2, e3⟩ := fw_pos (ph := ppc g ht r) g5 m (fun k hk => hf k (by omega)) (by omega)
    exact ⟨L, e1, by omega, by omega⟩
theorem HEAVY_pos {g : GT} {ht : Nat → Nat} (G : GOk g) (T : Hts g ht) {N : Nat} {ch : Nat → Nat} {w : Nat → Nat → Nat → Nat} {h : Nat → Nat → Nat → UInt64} {r i j : Nat} (hr : r < gR g) (hij : i < j) (hj : j < 15) (P : PosA g ht w h r i j) (hw : WAYS g N ch w r i j ≠ 0) : fpb (HEAVY g N ch w h r i j) (phi g ht r i j) := by
  unfold HEAVY
  cases hb : BEST g N ch w h r i j with
  | none => exact absurd ((bs_none _).mp hb) hw
  | some b => exact (FW_pos G T hr hij hj (bs_lt _ b hb).1 P).1
theorem fpb_gt {x : UInt64} {m : Nat} (h : fpb x m) : dgt x 0 = true := by
  obtain ⟨L, h1, -⟩ := h
  unfold dgt
  rw [fp_pos h1]
theorem sol_pos {g : GT} {N : Nat} {ch : Nat → Nat} {ht : Nat → Nat} (G : GOk g) (T : Hts g ht) : ∀ d t, ∀ r, r < gR g → ∀ i j, i < j → j < 15 → j - i < d ∨ (j - i = d ∧ ht (gl g r) < t) → Pos g ht (sW g N ch) (sH g N ch) r i j := by
  intro d
  induction d with
  | zero =>
    intro t r hr i j hij hjN hh
    omega
  | succ d ihd =>
    intro t
    induction t with
    | zero =>
      intro r hr i j hij hj hh
      rcases hh with hh | hh
      · rcases Nat.lt_or_ge (j - i) d with q | q
        · exact ihd 0 r hr i j hij hj (Or.inl q)
        · exact ihd 6 r hr i j hij hj (Or.inr ⟨by omega, by have := T.1 (gl g r); omega⟩)
      · omega
    | succ t iht =>
      intro r hr i j hij hj hh
      rcases hh with hh | ⟨hd, htt⟩
      · exact iht r hr i j hij hj (Or.inl hh)
      · intro hw
        obtain ⟨e1, e2⟩ := sol_ok (N := N) (ch := ch) G T hr hij hj
        rw [e2]
        refine HEAVY_pos G T hr hij hj ?_ (by rw [← e1]; exact hw)
        intro k hk a b h1 h2 h3 h4 c hc s hs hgs
        rcases h4 with h4 | ⟨h4, h5, h6⟩
        · exact iht s hs a b h2 (by omega) (Or.inl (by omega))
        · have hk0 : k = 0 := by omega
          subst hk0
          have := T.2 r hr h4 c hc
          subst h5; subst h6
          exact iht s hs a b h2 (by omega) (Or.inr ⟨hd, by rw [hgs]; omega⟩)
theorem sol_posA {g : GT} {N : Nat} {ch : Nat → Nat} {ht : Nat → Nat} (G : GOk g) (T : Hts g ht) {r i j : Nat} (hr : r < gR g) (hij : i < j) (hj : j < 15) : Pos g ht (sW g N ch) (sH g N ch) r i j := sol_pos G T (j - i) 6 r hr i j hij hj (Or.inr ⟨rfl, by have := T.1 (gl g r); omega⟩)

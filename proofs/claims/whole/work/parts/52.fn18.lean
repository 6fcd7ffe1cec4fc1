/-! THE REFERENCE'S TREE -/
def mxa (en : Nat → Nat) (b : Nat) : Nat → Nat
  | 0 => 4294967295
  | q + 1 => if b < en q then q else mxa en b q
theorem mxa_ok (en : Nat → Nat) (b : Nat) : ∀ n, (mxa en b n = 4294967295 ∧ ∀ q, q < n → ¬ b < en q) ∨ (mxa en b n < n ∧ b < en (mxa en b n) ∧ ∀ q, mxa en b n < q → q < n → ¬ b < en q)
  | 0 => Or.inl ⟨rfl, fun q hq => absurd hq (Nat.not_lt_zero _)⟩
  | n + 1 => by
    simp only [mxa]
    by_cases h : b < en n
    · rw [if_pos h]
      exact Or.inr ⟨by omega, h, fun q h1 h2 => by omega⟩
    · rw [if_neg h]
      rcases mxa_ok en b n with ⟨a1, a2⟩ | ⟨a1, a2, a3⟩
      · left
        refine ⟨a1, fun q hq => ?_⟩
        by_cases e : q = n
        · rw [e]; exact h
        · exact a2 q (by omega)
      · right
        refine ⟨by omega, a2, fun q h1 h2 => ?_⟩
        by_cases e : q = n
        · rw [e]; exact h
        · exact a3 q h1 (by omega)
theorem mxa_congr {en en' : Nat → Nat} {b b' : Nat} : ∀ n, (∀ q, q < n → (b < en q ↔ b' < en' q)) → mxa en b n = mxa en' b' n
  | 0, _ => rfl
  | n + 1, h => by
    simp only [mxa]
    rw [mxa_congr n (fun q hq => h q (by omega))]
    by_cases e : b < en n
    · rw [if_pos e, if_pos ((h n (by omega)).mp e)]
    · rw [if_neg e, if_neg (fun q => e ((h n (by omega)).mpr q))]
theorem mxa_32 (en : Nat → Nat) (b n : Nat) (hn : n ≤ 4294967295) : mxa en b n < 4294967296 := by
  rcases mxa_ok en b n with ⟨h, -⟩ | ⟨h, -⟩ <;> omega
def blc (bn en : Nat → Nat) (p : Nat) : Nat → Nat
  | 0 => 0
  | q + 1 => blc bn en p q + (if p < q ∧ bn q < en p then 1 else 0)
theorem blc_0 {bn en : Nat → Nat} {p : Nat} : ∀ q, q ≤ p + 1 → blc bn en p q = 0
  | 0, _ => rfl
  | q + 1, h => by
    simp only [blc]
    rw [blc_0 q (by omega), if_neg (by omega)]
theorem blc_le {bn en : Nat → Nat} {p : Nat} : ∀ q, blc bn en p q ≤ q
  | 0 => Nat.le_refl _
  | q + 1 => by
    have := blc_le (bn := bn) (en := en) (p := p) q
    simp only [blc]
    split <;> omega
theorem blc_congr {bn en bn' en' : Nat → Nat} {p : Nat} (he : en p = en' p) : ∀ n, (∀ q, q < n → bn q = bn' q) → blc bn en p n = blc bn' en' p n
  | 0, _ => rfl
  | n + 1, h => by
    simp only [blc]
    rw [blc_congr he n (fun q hq => h q (by omega)), he, h n (by omega)]
theorem blc_all {bn en : Nat → Nat} {k : Nat} : ∀ q, k < q → (∀ p, k < p → p < q → bn p < en k) → blc bn en k q = q - (k + 1)
  | 0, h, _ => absurd h (Nat.not_lt_zero _)
  | q + 1, h, ha => by
    simp only [blc]
    by_cases e : q = k
    · subst e
      rw [blc_0 q (by omega), if_neg (by omega)]
      omega
    · rw [blc_all q (by omega) (fun p h1 h2 => ha p h1 (by omega)), if_pos ⟨by omega, ha q (by omega) (by omega)⟩]
      omega
theorem blc_stop {bn en : Nat → Nat} {k q : Nat} : ∀ d, (∀ p, q ≤ p → p < q + d → ¬ bn p < en k) → blc bn en k (q + d) = blc bn en k q
  | 0, _ => rfl
  | d + 1, h => by
    rw [← Nat.add_assoc]
    simp only [blc]
    rw [blc_stop d (fun p h1 h2 => h p h1 (by omega)), if_neg (fun z => h (q + d) (by omega) (by omega) z.2)]
    rfl
theorem nbl_blc {bn en : Nat → Nat} {k n : Nat} (hm : ∀ p q, p < q → q < n → bn p ≤ bn q) : ∀ f q, k + 1 ≤ q → q ≤ n → n ≤ q + f → (∀ p, k < p → p < q → bn p < en k) → nbl bn (en k) n f q = k + 1 + blc bn en k n
  | 0, q, h1, h2, h3, ha => by
    have e : q = n := by omega
    subst e
    rw [blc_all q (by omega) ha]
    show q = _
    omega
  | f + 1, q, h1, h2, h3, ha => by
    simp only [nbl]
    by_cases z : q < n ∧ bn q < en k
    · rw [if_pos z]
      refine nbl_blc hm f (q + 1) (by omega) (by omega) (by omega) (fun p h4 h5 => ?_)
      by_cases e : p = q
      · rw [e]; exact z.2
      · exact ha p h4 (by omega)
    · rw [if_neg z]
      have hb : blc bn en k n = blc bn en k q := by
        have := blc_stop (bn := bn) (en := en) (k := k) (q := q) (n - q) (fun p h4 h5 => by
          have hq : ¬ bn q < en k := fun w => z ⟨by omega, w⟩
          by_cases e : p = q
          · rw [e]; exact hq
          · have := hm q p (by omega) (by omega)
            omega)
        rwa [show q + (n - q) = n by omega] at this
      rw [hb, blc_all q (by omega) ha]
      omega
theorem pw_get {α : Type} {R : α → α → Prop} {L : List α} (h : L.Pairwise R) {p q : Nat} {a b : α} (hp : L[p]? = some a) (hq : L[q]? = some b) (hpq : p < q) : R a b := by
  obtain ⟨h1, e1⟩ := List.getElem?_eq_some_iff.mp hp
  obtain ⟨h2, e2⟩ := List.getElem?_eq_some_iff.mp hq
  rw [← e1, ← e2]
  exact List.pairwise_iff_getElem.mp h p q h1 h2 hpq
theorem ti_nest {g : GT} {N : Nat} {ch : Nat → Nat} {ht : Nat → Nat} (G : GOk g) (T : Hts g ht) (hN : N < 15) {e : Nd} (hv : Vd g N ch e) : ∀ x, (tst (kids g N ch) e x).1.Pairwise (fun a b => b.2.1 < a.2.2 → b.2.2 ≤ a.2.2)
  | 0 => List.Pairwise.nil
  | x + 1 => by
    have ih := ti_nest G T hN hv x
    have t1 := TI_at (ht := ht) G T hN hv x
    simp only [tst]
    cases hq : (tst (kids g N ch) e x).2 with
    | nil => exact ih
    | cons a t =>
      rw [hq] at t1
      refine List.pairwise_append.mpr ⟨ih, List.pairwise_singleton _ _, fun c hc b hb => ?_⟩
      rw [List.mem_singleton.mp hb]
      exact t1.2.2.2.2.2.2 c hc a List.mem_cons_self
def PLs (y : ST) (t : List Nd) (x n : Nat) : Prop := n = 4 * t.length ∧ ∀ m e, t[m]? = some e → y.2.1 20 (4 * (t.length - 1 - m)) = e.1 ∧ y.2.1 20 (4 * (t.length - 1 - m) + 1) = e.2.1 ∧ y.2.1 20 (4 * (t.length - 1 - m) + 2) = e.2.2 ∧ y.2.1 20 (4 * (t.length - 1 - m) + 3) = mxa (y.2.1 17) e.2.1 x
theorem PL_pop {y : ST} {e : Nd} {t : List Nd} {x n : Nat} (h : PLs y (e :: t) x n) : n = 4 * t.length + 4 ∧ (y.2.1 20 (n - 4) = e.1 ∧ y.2.1 20 (n - 4 + 1) = e.2.1 ∧ y.2.1 20 (n - 4 + 2) = e.2.2 ∧ y.2.1 20 (n - 4 + 3) = mxa (y.2.1 17) e.2.1 x) ∧ PLs y t x (n - 4) := by
  obtain ⟨h1, h2⟩ := h
  rw [List.length_cons] at h1 h2
  refine ⟨by omega, ?_, by omega, fun m f hm => ?_⟩
  · have := h2 0 e rfl
    rw [show 4 * (t.length + 1 - 1 - 0) = n - 4 by omega] at this
    exact this
  · have := h2 (m + 1) f hm
    rw [show t.length + 1 - 1 - (m + 1) = t.length - 1 - m by omega] at this
    exact this
theorem PL_push {y : ST} {r i j p : Nat} {t : List Nd} {x n : Nat} (h : PLs y t x n) (hp : p = mxa (y.2.1 17) i x) : PLs (sA (sA (sA (sA y 20 n r) 20 (n + 1) i) 20 (n + 2) j) 20 (n + 3) p) ((r, i, j) :: t) x (n + 4) := by
  obtain ⟨h1, h2⟩ := h
  refine ⟨by rw [List.length_cons]; omega, fun m e hm => ?_⟩
  rw [List.length_cons]
  have e17 : (sA (sA (sA (sA y 20 n r) 20 (n + 1) i) 20 (n + 2) j) 20 (n + 3) p).2.1 17 = y.2.1 17 := by rw [sA_ne _ _ _ (by decide), sA_ne _ _ _ (by decide), sA_ne _ _ _ (by decide), sA_ne _ _ _ (by decide)]
  rw [e17]
  cases m with
  | zero =>
    cases hm
    rw [show 4 * (t.length + 1 - 1 - 0) = n by omega]
    refine ⟨?_, ?_, ?_, ?_⟩
    · rw [sA_at _ _ _ (by omega), sA_at _ _ _ (by omega), sA_at _ _ _ (by omega), sA_same]
    · rw [sA_at _ _ _ (by omega), sA_at _ _ _ (by omega), sA_same]
    · rw [sA_at _ _ _ (by omega), sA_same]
    · rw [sA_same, hp]
  | succ m =>
    have hm : t[m]? = some e := hm
    have hl : m < t.length := (List.getElem?_eq_some_iff.mp hm).1
    have := h2 m e hm
    rw [show t.length + 1 - 1 - (m + 1) = t.length - 1 - m by omega]
    have hb : 4 * (t.length - 1 - m) + 4 ≤ n := by omega
    rw [sA_at _ _ _ (by omega), sA_at _ _ _ (by omega), sA_at _ _ _ (by omega), sA_at _ _ _ (by omega), sA_at _ _ _ (by omega), sA_at _ _ _ (by omega), sA_at _ _ _ (by omega), sA_at _ _ _ (by omega), sA_at _ _ _ (by omega), sA_at _ _ _ (by omega), sA_at _ _ _ (by omega), sA_at _ _ _ (by omega), sA_at _ _ _ (by omega), sA_at _ _ _ (by omega), sA_at _ _ _ (by omega), sA_at _ _ _ (by omega)]
    exact this
/-- a new node: what is still to do keeps its parents -/
theorem PL_new {y z : ST} {t : List Nd} {x n j : Nat} (h : PLs y t x n) (h20 : z.2.1 20 = y.2.1 20) (h17 : z.2.1 17 = va_up (y.2.1 17) x j) (hd : ∀ f ∈ t, j ≤ f.2.1) : PLs z t (x + 1) n := by
  obtain ⟨h1, h2⟩ := h
  refine ⟨h1, fun m e hm => ?_⟩
  obtain ⟨a1, a2, a3, a4⟩ := h2 m e hm
  have hj := hd e (List.mem_of_getElem? hm)
  rw [h20]
  refine ⟨a1, a2, a3, a4.trans ?_⟩
  simp only [mxa]
  rw [h17, vup_eq, if_neg (by omega)]
  exact mxa_congr x (fun q hq => by rw [vup_ne _ _ (by omega)])
def kidsS (g : GT) (w : Nat → Nat → Nat → Nat) (h : Nat → Nat → Nat → UInt64) (r i : Nat) (l : List Nat) (n : Nat) : Nat → List Nd
  | 0 => []
  | d + 1 => (match tpv g w h r (n - (d + 1)) (bg i l (n - (d + 1))) (lgd l (n - (d + 1))) with
    | none => []
    | some s => [(s, bg i l (n - (d + 1)), lgd l (n - (d + 1)))]) ++ kidsS g w h r i l n d
theorem kids_S {g : GT} {w : Nat → Nat → Nat → Nat} {h : Nat → Nat → Nat → UInt64} {r i : Nat} {l : List Nat} {n : Nat} : ∀ d, d ≤ n → kidsK g w h r i l n = kidsK g w h r i l (n - d) ++ kidsS g w h r i l n d
  | 0, _ => by simp [kidsS]
  | d + 1, hd => by
    rw [kids_S d (by omega), show n - d = n - (d + 1) + 1 by omega]
    simp only [kidsK, kidsS]
    rw [List.append_assoc]
    cases tpv g w h r (n - (d + 1)) (bg i l (n - (d + 1))) (lgd l (n - (d + 1))) <;> rfl
theorem kids_Sn {g : GT} {w : Nat → Nat → Nat → Nat} {h : Nat → Nat → Nat → UInt64} {r i : Nat} {l : List Nat} {n : Nat} : kidsK g w h r i l n = kidsS g w h r i l n n := by
  have := kids_S (g := g) (w := w) (h := h) (r := r) (i := i) (l := l) (n := n) n (Nat.le_refl _)
  rw [Nat.sub_self] at this
  exact this
theorem kS_n {g : GT} {w : Nat → Nat → Nat → Nat} {h : Nat → Nat → Nat → UInt64} {r i : Nat} {l : List Nat} {n d k : Nat} (hk : k = n - (d + 1)) (hn : tpv g w h r k (bg i l k) (lgd l k) = none) : kidsS g w h r i l n (d + 1) = kidsS g w h r i l n d := by
  simp only [kidsS]
  rw [← hk, hn]
  rfl
theorem kS_s {g : GT} {w : Nat → Nat → Nat → Nat} {h : Nat → Nat → Nat → UInt64} {r i : Nat} {l : List Nat} {n d k s : Nat} (hk : k = n - (d + 1)) (hn : tpv g w h r k (bg i l k) (lgd l k) = some s) : kidsS g w h r i l n (d + 1) = (s, bg i l k, lgd l k) :: kidsS g w h r i l n d := by
  simp only [kidsS]
  rw [← hk, hn]
  rfl
theorem kS_le {g : GT} {w : Nat → Nat → Nat → Nat} {h : Nat → Nat → Nat → UInt64} {r i : Nat} {l : List Nat} {n : Nat} {d : Nat} (hd : d ≤ n) : (kidsS g w h r i l n d).length ≤ (kidsK g w h r i l n).length := by
  rw [kids_S d hd, List.length_append]
  omega
/-- the nodes that are done -/
def GI (g : GT) (N : Nat) (ch : Nat → Nat) (root : Nd) (y : ST) (k : Nat) : Prop := (tst (kids g N ch) root k).1.length = k ∧ y.1 4 = k ∧ (∀ q, q < k → (tst (kids g N ch) root k).1[q]? = some (y.2.1 15 q, y.2.1 16 q, y.2.1 17 q)) ∧ (∀ q, q < k → y.2.1 18 q = mxa (y.2.1 17) (y.2.1 16 q) q) ∧ (∀ q, q < k → y.2.1 19 q = blc (y.2.1 16) (y.2.1 17) q k)
theorem gi_mono {g : GT} {N : Nat} {ch : Nat → Nat} {root : Nd} {y : ST} {k : Nat} (G : GOk g) (A : Acy g) (hN : N ≤ 14) (hv : Vd g N ch root) (h : GI g N ch root y k) : ∀ p q, p < q → q < k → y.2.1 16 p ≤ y.2.1 16 q := fun p q h1 h2 => pw_get (TI_at (ht := hgt g) G (hts_of G A) (show N < 15 by omega) hv k).2.2.2.2.1 (h.2.2.1 p (by omega)) (h.2.2.1 q h2) h1
theorem gi_nest {g : GT} {N : Nat} {ch : Nat → Nat} {root : Nd} {y : ST} {k : Nat} (G : GOk g) (A : Acy g) (hN : N ≤ 14) (hv : Vd g N ch root) (h : GI g N ch root y k) : ∀ p q, p < q → q < k → y.2.1 16 q < y.2.1 17 p → y.2.1 17 q ≤ y.2.1 17 p := fun p q h1 h2 => pw_get (ti_nest G (hts_of G A) (show N < 15 by omega) hv k) (h.2.2.1 p (by omega)) (h.2.2.1 q h2) h1
/-- what the next node is -/
theorem gi_next {g : GT} {N : Nat} {ch : Nat → Nat} {root : Nd} {y : ST} {k n : Nat} (G : GOk g) (A : Acy g) (hN : N ≤ 14) (hv : Vd g N ch root) (h : GI g N ch root y k) (hp : PLs y (tst (kids g N ch) root k).2 k n) (hn : 0 < n) : ∃ r i j t, (tst (kids g N ch) root k).2 = (r, i, j) :: t ∧ Vd g N ch (r, i, j) ∧ k + 1 + (kids g N ch (r, i, j)).length + t.length ≤ 162 ∧ (tst (kids g N ch) root (k + 1)).1 = (tst (kids g N ch) root k).1 ++ [(r, i, j)] ∧ (tst (kids g N ch) root (k + 1)).2 = kids g N ch (r, i, j) ++ t ∧ (∀ f ∈ t, j ≤ f.2.1) ∧ (∀ q, q < k → y.2.1 16 q ≤ i ∧ (i < y.2.1 17 q → j ≤ y.2.1 17 q)) := by
  have hT := hts_of G A
  have t1 := TI_at (ht := hgt g) G hT (show N < 15 by omega) hv k
  cases hq : (tst (kids g N ch) root k).2 with
  | nil => rw [hq] at hp; have := hp.1; simp at this; omega
  | cons e t =>
    obtain ⟨r, i, j⟩ := e
    obtain ⟨r', i', j', t', e1, e2, e3, e4, e5⟩ := gr_step G A hN hv h.1 (by rw [hq, List.length_append, h.1, List.length_cons]; omega)
    rw [hq] at e1
    cases e1
    obtain ⟨s1, s2⟩ := tst_succ hq
    rw [hq] at t1
    refine ⟨r, i, j, t, rfl, e2, e3, s1, s2, fun f hf => ?_, fun q hq2 => ?_⟩
    · exact (List.pairwise_cons.mp t1.2.2.2.1).1 f hf
    · have hm := List.mem_of_getElem? (h.2.2.1 q hq2)
      exact ⟨t1.2.2.2.2.2.1 _ hm (r, i, j) List.mem_cons_self, t1.2.2.2.2.2.2 _ hm (r, i, j) List.mem_cons_self⟩
/-- one more node -/
theorem gi_step {g : GT} {N : Nat} {ch : Nat → Nat} {root : Nd} {y z : ST} {k r i j : Nat} (h : GI g N ch root y k) (h1 : (tst (kids g N ch) root (k + 1)).1 = (tst (kids g N ch) root k).1 ++ [(r, i, j)]) (z4 : z.1 4 = k + 1) (z15 : z.2.1 15 = va_up (y.2.1 15) k r) (z16 : z.2.1 16 = va_up (y.2.1 16) k i) (z17 : z.2.1 17 = va_up (y.2.1 17) k j) (z18 : z.2.1 18 = va_up (y.2.1 18) k (mxa (y.2.1 17) i k)) (z19 : ∀ q, q < k → z.2.1 19 q = y.2.1 19 q + (if i < y.2.1 17 q then 1 else 0)) (z19k : z.2.1 19 k = 0) : GI g N ch root z (k + 1) := by
  obtain ⟨g1, g2, g3, g4, g5⟩ := h
  refine ⟨by rw [h1, List.length_append, g1]; rfl, z4, fun q hq => ?_, fun q hq => ?_, fun q hq => ?_⟩
  · rw [h1, z15, z16, z17]
    by_cases e : q = k
    · subst e
      rw [List.getElem?_append_right (by omega), g1, Nat.sub_self, vup_eq, vup_eq, vup_eq]
      rfl
    · rw [List.getElem?_append_left (by omega), vup_ne _ _ e, vup_ne _ _ e, vup_ne _ _ e]
      exact g3 q (by omega)
  · rw [z16, z17, z18]
    by_cases e : q = k
    · subst e
      rw [vup_eq, vup_eq]
      exact mxa_congr q (fun p hp => by rw [vup_ne _ _ (by omega)])
    · rw [vup_ne _ _ e, vup_ne _ _ e, g4 q (by omega)]
      exact mxa_congr q (fun p hp => by rw [vup_ne _ _ (by omega)])
  · by_cases e : q = k
    · subst e
      rw [z19k, blc_0 _ (by omega)]
    · simp only [blc]
      rw [z19 q (by omega), g5 q (by omega), z16, z17, vup_eq, vup_ne _ _ e]
      rw [blc_congr (bn' := va_up (y.2.1 16) k i) (en' := va_up (y.2.1 17) k j) (by rw [vup_ne _ _ e]) k (fun p hp => by rw [vup_ne _ _ (by omega)])]
      by_cases c : i < y.2.1 17 q
      · rw [if_pos c, if_pos ⟨by omega, c⟩]
      · rw [if_neg c, if_neg (fun z => c z.2)]
/-- the way up to the root -/
theorem gi_up {g : GT} {N : Nat} {ch : Nat → Nat} {root : Nd} {y : ST} {k i p : Nat} (G : GOk g) (A : Acy g) (hN : N ≤ 14) (hv : Vd g N ch root) (h : GI g N ch root y k) (hp : p < k) (hi : i < y.2.1 17 p) (hpi : y.2.1 16 p ≤ i) : y.2.1 18 p = mxa (y.2.1 17) i p := by
  rw [h.2.2.2.1 p hp]
  refine mxa_congr p (fun q hq => ⟨fun z => ?_, fun z => by omega⟩)
  have := gi_nest G A hN hv h q p hq hp z
  omega
theorem gi_cnt {y z : ST} {k pp i : Nat} (hz : ∀ q, q < k → z.2.1 19 q = y.2.1 19 q + (if pp ≤ q ∧ i < y.2.1 17 q then 1 else 0)) (hp : mxa (y.2.1 17) i pp < pp) (hpp : pp ≤ k) (h0 : i < y.2.1 17 (mxa (y.2.1 17) i pp)) (h1 : ∀ q, mxa (y.2.1 17) i pp < q → q < pp → ¬ i < y.2.1 17 q) : ∀ q, q < k → (sA z 19 (mxa (y.2.1 17) i pp) (z.2.1 19 (mxa (y.2.1 17) i pp) + 1)).2.1 19 q = y.2.1 19 q + (if mxa (y.2.1 17) i pp ≤ q ∧ i < y.2.1 17 q then 1 else 0) := by
  intro q hq
  generalize mxa (y.2.1 17) i pp = p at *
  by_cases e : q = p
  · subst e
    rw [sA_same, hz q hq, if_neg (by omega), if_pos ⟨Nat.le_refl _, h0⟩]
  · rw [sA_at _ _ _ e, hz q hq]
    by_cases c : pp ≤ q ∧ i < y.2.1 17 q
    · rw [if_pos c, if_pos ⟨by omega, c.2⟩]
    · rw [if_neg c, if_neg (fun w => c ⟨by have := h1 q (by omega); omega, w.2⟩)]
theorem gi_fin {y z : ST} {k pp i : Nat} (hz : ∀ q, q < k → z.2.1 19 q = y.2.1 19 q + (if pp ≤ q ∧ i < y.2.1 17 q then 1 else 0)) (h1 : ∀ q, q < pp → ¬ i < y.2.1 17 q) : ∀ q, q < k → z.2.1 19 q = y.2.1 19 q + (if i < y.2.1 17 q then 1 else 0) := by
  intro q hq
  rw [hz q hq]
  by_cases c : i < y.2.1 17 q
  · rw [if_pos c, if_pos ⟨by have := h1 q; omega, c⟩]
  · rw [if_neg c, if_neg (fun w => c w.2)]
/-- frame of grow -/
def GF (x y : ST) : Prop := (∀ k, k ≠ 4 → y.1 k = x.1 k) ∧ (∀ k, k ∉ [7, 8, 14, 15, 16, 17, 18, 19, 20] → y.2.1 k = x.2.1 k) ∧ (∀ k, k ≠ 10 → y.2.2.1 k = x.2.2.1 k)
theorem GF.gM {x y : ST} (h : GF x y) : gM y = gM x := gM_same (h.1 0 (by decide)) (h.2.2 9 (by decide)) (fun k hk => h.2.1 k (fun q => by
  simp only [List.mem_cons, List.not_mem_nil, or_false] at hk q
  omega))
theorem GF.trans {x y z : ST} (h : GF x y) (h2 : GF y z) : GF x z := ⟨fun k hk => (h2.1 k hk).trans (h.1 k hk), fun k hk => (h2.2.1 k hk).trans (h.2.1 k hk), fun k hk => (h2.2.2 k hk).trans (h.2.2 k hk)⟩
theorem GF.sA {x y : ST} (h : GF x y) {k : Nat} (hk : k ∈ [7, 8, 14, 15, 16, 17, 18, 19, 20]) (i v : Nat) : GF x (sA y k i v) := ⟨h.1, fun k' hk' => by
  rw [sA_ne _ _ _ (fun e => hk' (by rw [e]; exact hk))]
  exact h.2.1 k' hk', h.2.2⟩
theorem GF.only {x y z : ST} {ks : List Nat} (h : GF x y) (ho : Only ks y z) (hk : ∀ k, k ∈ ks → k ∈ [7, 8, 14, 15, 16, 17, 18, 19, 20]) : GF x z := ⟨fun k hk' => by rw [ho.1]; exact h.1 k hk', fun k hk' => (ho.2.2 k (fun q => hk' (hk k q))).trans (h.2.1 k hk'), fun k hk' => by rw [ho.2.1]; exact h.2.2 k hk'⟩
theorem GF.sS {x y : ST} (h : GF x y) (v : Nat) : GF x (sS y 4 v) := ⟨fun k hk => (vup_ne _ _ hk).trans (h.1 k hk), h.2.1, h.2.2⟩
theorem GF_div {y u : ST} {N r i j : Nat} (h : DIV y N r i j u) : GF y u := by
  obtain ⟨w, hv, d1, d2, d14, d10, dt, -, -, -⟩ := h
  refine ⟨fun k _ => by rw [d1], fun k hk => ?_, fun k hk => ?_⟩
  · simp only [List.mem_cons, List.not_mem_nil, or_false, not_or] at hk
    exact d2 k (by simp only [List.mem_cons, List.not_mem_nil, or_false]; omega)
  · rw [d10, vup_ne _ _ hk]
theorem cm_same {g : GT} {N : Nat} {ch : Nat → Nat} {y z : ST} {d : Nat} (h : CHM g N ch y d) (h13 : z.2.1 13 = y.2.1 13) (h14 : z.2.1 14 = y.2.1 14) (h10 : z.2.2.1 10 = y.2.2.1 10) : CHM g N ch z d := by
  intro a b h1 h2 h3
  obtain ⟨q1, q2⟩ := h a b h1 h2 h3
  refine ⟨fun r hr => ?_, fun c hc => ?_⟩
  · unfold RMok
    rw [wM_o h14, hM_o h10]
    exact q1 r hr
  · unfold GMok
    rw [h13]
    exact q2 c hc
/-- dividing once more changes nothing, and lays down the best cuts -/
theorem gd_div {g : GT} {N : Nat} {ch : Nat → Nat} {y u : ST} {r i j : Nat} (eg : gM y = g) (ec : y.2.1 2 = ch) (G : GOk g) (A : Acy g) (hN : N ≤ 14) (hv : Vd g N ch (r, i, j)) (hc : CHM g N ch y 15) (hd : DIV y N r i j u) : CHM g N ch u 15 ∧ ∃ zl : List Nat, kids g N ch (r, i, j) = kidsK g (sW g N ch) (sH g N ch) r i zl (gz g r) ∧ (∀ k, k < gz g r → i ≤ bg i zl k ∧ bg i zl k < lgd zl k ∧ lgd zl k ≤ j) ∧ (∀ k, k ≤ gz g r → u.2.1 8 k = bg i zl k) ∧ (∀ k, k < gz g r → ∀ c, nt (gs g r k) = some c → ∃ s, s < 16 ∧ tpv g (sW g N ch) (sH g N ch) r k (bg i zl k) (lgd zl k) = some s) := by
  obtain ⟨hr, hij, hj, hw⟩ := hv
  dsimp only at hr hij hj hw
  have hT := hts_of G A
  have hz := (G.2 r hr).2.2.1
  obtain ⟨-, -, b, hb, hbl, hpw⟩ := kids_ok (ht := hgt g) G hT (show N < 15 by omega) (e := (r, i, j)) ⟨hr, hij, hj, hw⟩
  dsimp only at hb hbl hpw
  have hI : INm g N ch y r i j := by
    intro k hk a b h1 h2 h3 h4 c hcc
    obtain ⟨q1, q2⟩ := hc a b h2 (by omega) (by omega)
    exact ⟨q2 c (nt_lt hcc), fun s hs _ => q1 s hs⟩
  obtain ⟨e1, e2⟩ := dm_eq eg ec G hT (by omega) hr hij hj hI hd
  have hFM := FM_div (by omega) (by omega) hd
  have hp : ∀ k, k < gz g r → _ := fun k hk => piece (n := gz g r) (i := i) (j := j) (t := b) (by omega) (by omega) (by omega) hbl hk
  refine ⟨fun a b' h1 h2 h3 => ?_, (dv (gz g r) i j).getD b [], ?_, fun k hk => ⟨(hp k hk).1, (hp k hk).2.1, (hp k hk).2.2.1⟩, ?_, fun k hk c hcc => ?_⟩
  · obtain ⟨q1, q2⟩ := hc a b' h1 h2 h3
    refine ⟨fun s hs => ?_, fun c hcc => ?_⟩
    · by_cases e : a = i ∧ b' = j
      · obtain ⟨rfl, rfl⟩ := e
        by_cases es : s = r
        · rw [es]; exact e1
        · exact RM_tr (DIV_ne hd es) (q1 s hs)
      · have := hFM.2.2.2.2 s a b' (by omega) (by omega) e
        exact RM_tr ⟨this.1, this.2.1⟩ (q1 s hs)
    · unfold GMok
      obtain ⟨_, _, _, d2, _⟩ := hd
      rw [d2 13 (by decide)]
      exact q2 c hcc
  · unfold kids
    dsimp only
    rw [hb]
  · obtain ⟨_, _, _, _, _, _, _, _, _, hbest⟩ := hd
    subst eg
    exact hbest b (e2.trans hb)
  · obtain ⟨-, s, h1, h2, -⟩ := syv_tp (h := sH g N ch) hcc (pw_zero _ hpw k hk)
    exact ⟨s, Nat.lt_of_lt_of_le h2 G.1, h1⟩
/-- the answers about nodes -/
def MTL (u : ST) (L : List Nd) : Prop := u.1 4 = L.length ∧ ∀ k, k < L.length → L[k]? = some (u.2.1 15 k, u.2.1 16 k, u.2.1 17 k) ∧ u.2.1 19 k = blc (u.2.1 16) (u.2.1 17) k L.length
theorem grk {y z : ST} {k r i j p v q : Nat} (h : Only [19] (sA (sA (sA (sA (sA y 15 k r) 16 k i) 17 k j) 18 k p) 19 k 0) z) (hq : q ∉ [15, 16, 17, 18, 19]) : (sS z 4 v).2.1 q = y.2.1 q := by
  simp only [List.mem_cons, List.not_mem_nil, or_false, not_or] at hq
  show z.2.1 q = _
  rw [h.2.2 q (by simp only [List.mem_cons, List.not_mem_nil, or_false]; omega), sA_ne _ _ _ hq.2.2.2.2, sA_ne _ _ _ hq.2.2.2.1, sA_ne _ _ _ hq.2.2.1, sA_ne _ _ _ hq.2.1, sA_ne _ _ _ hq.1]
theorem div_k {y u : ST} {N r i j k : Nat} (h : DIV y N r i j u) (hk : k ∉ [7, 8, 14]) : u.2.1 k = y.2.1 k := by
  obtain ⟨_, _, _, d2, _⟩ := h
  exact d2 k hk
theorem gr_a {y z u : ST} {N k r i j p v r' i' j' : Nat} (h : Only [19] (sA (sA (sA (sA (sA y 15 k r) 16 k i) 17 k j) 18 k p) 19 k 0) z) (hd : DIV (sS z 4 v) N r' i' j' u) : u.2.1 15 = va_up (y.2.1 15) k r ∧ u.2.1 16 = va_up (y.2.1 16) k i ∧ u.2.1 17 = va_up (y.2.1 17) k j ∧ u.2.1 18 = va_up (y.2.1 18) k p ∧ u.2.1 19 = z.2.1 19 ∧ u.2.1 20 = y.2.1 20 ∧ u.1 4 = v := by
  refine ⟨?_, ?_, ?_, ?_, ?_, ?_, ?_⟩
  · rw [div_k hd (by decide)]
    show z.2.1 15 = _
    rw [h.2.2 15 (by decide), sA_ne _ _ _ (by decide), sA_ne _ _ _ (by decide), sA_ne _ _ _ (by decide), sA_ne _ _ _ (by decide)]
    show va_up y.2.1 15 (va_up (y.2.1 15) k r) 15 = _
    rw [vup_eq]
  · rw [div_k hd (by decide)]
    show z.2.1 16 = _
    rw [h.2.2 16 (by decide), sA_ne _ _ _ (by decide), sA_ne _ _ _ (by decide), sA_ne _ _ _ (by decide)]
    show va_up (sA y 15 k r).2.1 16 (va_up ((sA y 15 k r).2.1 16) k i) 16 = _
    rw [vup_eq, sA_ne _ _ _ (by decide)]
  · rw [div_k hd (by decide)]
    show z.2.1 17 = _
    rw [h.2.2 17 (by decide), sA_ne _ _ _ (by decide), sA_ne _ _ _ (by decide)]
    show va_up (sA (sA y 15 k r) 16 k i).2.1 17 (va_up ((sA (sA y 15 k r) 16 k i).2.1 17) k j) 17 = _
    rw [vup_eq, sA_ne _ _ _ (by decide), sA_ne _ _ _ (by decide)]
  · rw [div_k hd (by decide)]
    show z.2.1 18 = _
    rw [h.2.2 18 (by decide), sA_ne _ _ _ (by decide)]
    show va_up (sA (sA (sA y 15 k r) 16 k i) 17 k j).2.1 18 (va_up ((sA (sA (sA y 15 k r) 16 k i) 17 k j).2.1 18) k p) 18 = _
    rw [vup_eq, sA_ne _ _ _ (by decide), sA_ne _ _ _ (by decide), sA_ne _ _ _ (by decide)]
  · rw [div_k hd (by decide)]
    rfl
  · rw [div_k hd (by decide), grk h (by decide)]
  · obtain ⟨_, _, d1, _⟩ := hd
    rw [d1]
    exact vup_eq z.1 4 v
theorem gr_u {g : GT} {N N' : Nat} {ch : Nat → Nat} {root : Nd} {y z u : ST} {k r i j : Nat} (h : GI g N ch root y k) (h1 : (tst (kids g N ch) root (k + 1)).1 = (tst (kids g N ch) root k).1 ++ [(r, i, j)]) (ho : Only [19] (sA (sA (sA (sA (sA y 15 k r) 16 k i) 17 k j) 18 k (mxa (y.2.1 17) i k)) 19 k 0) z) (hz : ∀ q, q < k → z.2.1 19 q = y.2.1 19 q + (if i < y.2.1 17 q then 1 else 0)) (hzk : z.2.1 19 k = 0) (hd : DIV (sS z 4 (k + 1)) N' r i j u) : GI g N ch root u (k + 1) := by
  obtain ⟨a1, a2, a3, a4, a5, a6, a7⟩ := gr_a ho hd
  exact gi_step h h1 a7 a1 a2 a3 a4 (by rw [a5]; exact hz) (by rw [a5]; exact hzk)
theorem gr_p {y z u : ST} {N' k r i j p n v : Nat} {t : List Nd} (h : PLs y t k n) (hd0 : ∀ f ∈ t, j ≤ f.2.1) (ho : Only [19] (sA (sA (sA (sA (sA y 15 k r) 16 k i) 17 k j) 18 k p) 19 k 0) z) (hd : DIV (sS z 4 v) N' r i j u) : PLs u t (k + 1) n := by
  obtain ⟨a1, a2, a3, a4, a5, a6, a7⟩ := gr_a ho hd
  exact PL_new h a6 a3 hd0
theorem gr_17 {y z u : ST} {N' k r i j p v : Nat} (ho : Only [19] (sA (sA (sA (sA (sA y 15 k r) 16 k i) 17 k j) 18 k p) 19 k 0) z) (hd : DIV (sS z 4 v) N' r i j u) : u.2.1 17 k = j := by
  rw [(gr_a ho hd).2.2.1, vup_eq]
theorem gM_only {x y : ST} (h : Only [20] x y) : gM y = gM x := gM_same (by rw [h.1]) (by rw [h.2.1]) (fun k hk => h.2.2 k (fun q => by
  simp only [List.mem_cons, List.not_mem_nil, or_false] at hk q
  omega))
theorem gr_s {g : GT} {N : Nat} {ch : Nat → Nat} {w u : ST} {r d a b c s R : Nat} (hg : gM w = g) (hw : wM w = wM u) (hh : hM w = hM u) (hr : ∀ s, s < gR g → RMok g N ch u s a b) (hn : nt (gs g r d) = some c) (ht : tpv g (sW g N ch) (sH g N ch) r d a b = some s) (hR : R = gR g) : oN (tp (gM w) c (alw g r d) (fun s => wM w s a b) (fun s => hM w s a b) R) = s := by
  rw [tpvM hn] at ht
  rw [hg, hw, hh, hR, (tp_congr (gR g) (fun s hs _ => ⟨(hr s hs).1, (hr s hs).2⟩)).1, ht]
  rfl
theorem gi_only {g : GT} {N : Nat} {ch : Nat → Nat} {root : Nd} {y z : ST} {k : Nat} (h : GI g N ch root y k) (ho : Only [20] y z) : GI g N ch root z k := by
  unfold GI
  rw [ho.1, ho.2.2 15 (by decide), ho.2.2 16 (by decide), ho.2.2 17 (by decide), ho.2.2 18 (by decide), ho.2.2 19 (by decide)]
  exact h
theorem gr_pa {g : GT} {N : Nat} {ch : Nat → Nat} {y : ST} {r i j : Nat} (G : GOk g) (A : Acy g) (hN : N ≤ 14) (hv : Vd g N ch (r, i, j)) (hc : CHM g N ch y 15) : PosA g (hgt g) (wM y) (hM y) r i j := by
  obtain ⟨hr, hij, hj, hw⟩ := hv
  dsimp only at hr hij hj hw
  intro k hk a b h1 h2 h3 h4 c hcc s hs hsl hne
  obtain ⟨e1, e2⟩ := (hc a b h2 (by omega) (by omega)).1 s hs
  rw [e1] at hne
  rw [e2]
  exact sol_posA G (hts_of G A) hs h2 (by omega) hne
theorem gr_e {y : ST} {t : List Nd} {k p : Nat} (h : PLs y t k p) (hp : p = 0) : t = [] := by
  have := h.1
  exact List.length_eq_zero_iff.mp (by omega)
theorem gr_m {g : GT} {N : Nat} {ch : Nat → Nat} {root : Nd} {y : ST} {k : Nat} (h : GI g N ch root y k) : MTL y (tst (kids g N ch) root k).1 := by
  obtain ⟨h1, h2, h3, h4, h5⟩ := h
  refine ⟨h2.trans h1.symm, fun q hq => ?_⟩
  rw [h1] at hq ⊢
  exact ⟨h3 q hq, h5 q hq⟩

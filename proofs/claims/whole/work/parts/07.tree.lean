/-! THE TREE: both programs keep a list of what is still to do; its head comes out, its children go in its place -/
abbrev Nd : Type := Nat × Nat × Nat
/-- the nodes right below, of the first k symbols -/
def kidsK (g : GT) (w : Nat → Nat → Nat → Nat) (h : Nat → Nat → Nat → UInt64) (r i : Nat) (l : List Nat) : Nat → List Nd
  | 0 => []
  | k + 1 => kidsK g w h r i l k ++ (match tpv g w h r k (bg i l k) (lgd l k) with
    | none => []
    | some s => [(s, bg i l k, lgd l k)])
def kids (g : GT) (N : Nat) (ch : Nat → Nat) (e : Nd) : List Nd := match BEST g N ch (sW g N ch) (sH g N ch) e.1 e.2.1 e.2.2 with
  | none => []
  | some b => kidsK g (sW g N ch) (sH g N ch) e.1 e.2.1 ((dv (gz g e.1) e.2.1 e.2.2).getD b []) (gz g e.1)
def tst (kd : Nd → List Nd) (root : Nd) : Nat → List Nd × List Nd
  | 0 => ([], [root])
  | x + 1 => match (tst kd root x).2 with
    | [] => tst kd root x
    | e :: t => ((tst kd root x).1 ++ [e], kd e ++ t)
def Vd (g : GT) (N : Nat) (ch : Nat → Nat) (e : Nd) : Prop := e.1 < gR g ∧ e.2.1 < e.2.2 ∧ e.2.2 ≤ N ∧ sW g N ch e.1 e.2.1 e.2.2 ≠ 0
def phs (g : GT) (ht : Nat → Nat) : List Nd → Nat
  | [] => 0
  | e :: t => phi g ht e.1 e.2.1 e.2.2 + phs g ht t
theorem phs_app (g : GT) (ht : Nat → Nat) : ∀ a b, phs g ht (a ++ b) = phs g ht a + phs g ht b
  | [], b => by simp [phs]
  | e :: t, b => by
    simp only [List.cons_append, phs]
    rw [phs_app g ht t b]
    omega
theorem syv_tp {g : GT} {N : Nat} {ch : Nat → Nat} {w : Nat → Nat → Nat → Nat} {h : Nat → Nat → Nat → UInt64} {r k a b c : Nat} (hc : nt (gs g r k) = some c) (hs : syv g N ch w r k a b ≠ 0) : gd g N ch c b (fun s => w s a b) = true ∧ ∃ s, tpv g w h r k a b = some s ∧ s < gR g ∧ gl g s = c ∧ w s a b ≠ 0 := by
  unfold syv at hs
  rw [hc] at hs
  dsimp only at hs
  split at hs
  · rename_i hg
    refine ⟨hg, ?_⟩
    unfold tpv
    rw [hc]
    dsimp only
    cases ht : tp g c (alw g r k) (fun s => w s a b) (fun s => h s a b) (gR g) with
    | none => exact absurd (tp_none _ ht) hs
    | some s => exact ⟨s, rfl, tp_some ht⟩
  · exact absurd rfl hs
theorem pw_zero {sym : Nat → Nat → Nat → Nat} {i : Nat} {l : List Nat} : ∀ m, pw sym i l m ≠ 0 → ∀ k, k < m → sym k (bg i l k) (lgd l k) ≠ 0
  | 0, _, k, hk => by omega
  | m + 1, h, k, hk => by
    simp only [pw] at h
    by_cases hkm : k = m
    · subst hkm
      intro q
      rw [q, Nat.mul_zero] at h
      exact h rfl
    · refine pw_zero m (fun q => ?_) k (by omega)
      rw [q, Nat.zero_mul] at h
      exact h rfl
/-- what the children are: valid, apart, in order, and they have less in all -/
def KOk (g : GT) (N : Nat) (ch : Nat → Nat) (e : Nd) (L : List Nd) : Prop := (∀ x ∈ L, Vd g N ch x ∧ e.2.1 ≤ x.2.1 ∧ x.2.2 ≤ e.2.2) ∧ L.Pairwise (fun a b => a.2.2 ≤ b.2.1)
theorem kidsK_ok {g : GT} {N : Nat} {ch : Nat → Nat} {ht : Nat → Nat} (G : GOk g) (T : Hts g ht) (hN : N < 15) {r i j t : Nat} (hr : r < gR g) (hij : i < j) (hj : j ≤ N) (htt : t < (dv (gz g r) i j).length) (hp : pw (syv g N ch (sW g N ch) r) i ((dv (gz g r) i j).getD t []) (gz g r) ≠ 0) : ∀ m, m ≤ gz g r →
    (∀ x ∈ kidsK g (sW g N ch) (sH g N ch) r i ((dv (gz g r) i j).getD t []) m, Vd g N ch x ∧ i ≤ x.2.1 ∧ x.2.2 ≤ bg i ((dv (gz g r) i j).getD t []) m) ∧ (kidsK g (sW g N ch) (sH g N ch) r i ((dv (gz g r) i j).getD t []) m).Pairwise (fun a b => a.2.2 ≤ b.2.1) ∧ phs g ht (kidsK g (sW g N ch) (sH g N ch) r i ((dv (gz g r) i j).getD t []) m) = psum (ppc g ht r) i ((dv (gz g r) i j).getD t []) m
  | 0, _ => ⟨fun x hx => (nomatch hx), List.Pairwise.nil, rfl⟩
  | m + 1, hm => by
    obtain ⟨h1, h2, h3⟩ := kidsK_ok G T hN hr hij hj htt hp m (by omega)
    have hz := G.2 r hr
    obtain ⟨p1, p2, p3, p4⟩ := piece (by omega) (by omega) (by omega) htt (show m < gz g r by omega)
    have hs := pw_zero _ hp m (by omega)
    generalize (dv (gz g r) i j).getD t [] = l at *
    simp only [kidsK, psum]
    rw [bg_succ]
    cases hc : nt (gs g r m) with
    | none =>
      have e1 : tpv g (sW g N ch) (sH g N ch) r m (bg i l m) (lgd l m) = none := by unfold tpv; rw [hc]
      have e2 : ppc g ht r m (bg i l m) (lgd l m) = 0 := by unfold ppc; rw [hc]
      rw [e1, e2]
      dsimp only
      rw [List.append_nil]
      exact ⟨fun x hx => ⟨(h1 x hx).1, (h1 x hx).2.1, Nat.le_trans (h1 x hx).2.2 (by omega)⟩, h2, h3⟩
    | some c =>
      obtain ⟨-, s, e1, s1, s2, s3⟩ := syv_tp (h := sH g N ch) hc hs
      have e2 : ppc g ht r m (bg i l m) (lgd l m) = 12 * (lgd l m - bg i l m) - 11 + ht c := by unfold ppc; rw [hc]
      rw [e1, e2]
      dsimp only
      refine ⟨fun x hx => ?_, ?_, ?_⟩
      · rcases List.mem_append.mp hx with q | q
        · exact ⟨(h1 x q).1, (h1 x q).2.1, Nat.le_trans (h1 x q).2.2 (by omega)⟩
        · rw [List.mem_singleton.mp q]
          exact ⟨⟨s1, p2, Nat.le_trans p3 hj, s3⟩, p1, Nat.le_refl _⟩
      · refine List.pairwise_append.mpr ⟨h2, List.pairwise_singleton _ _, fun a ha b hb => ?_⟩
        rw [List.mem_singleton.mp hb]
        exact (h1 a ha).2.2
      · rw [phs_app, h3]
        simp only [phs, phi]
        rw [s2]
        omega
theorem kids_ok {g : GT} {N : Nat} {ch : Nat → Nat} {ht : Nat → Nat} (G : GOk g) (T : Hts g ht) (hN : N < 15) {e : Nd} (hv : Vd g N ch e) : KOk g N ch e (kids g N ch e) ∧ phs g ht (kids g N ch e) + 1 ≤ phi g ht e.1 e.2.1 e.2.2 ∧ ∃ b, BEST g N ch (sW g N ch) (sH g N ch) e.1 e.2.1 e.2.2 = some b ∧ b < (dv (gz g e.1) e.2.1 e.2.2).length ∧ pw (syv g N ch (sW g N ch) e.1) e.2.1 ((dv (gz g e.1) e.2.1 e.2.2).getD b []) (gz g e.1) ≠ 0 := by
  obtain ⟨r, i, j⟩ := e
  obtain ⟨hr, hij, hj, hw⟩ := hv
  dsimp only at hr hij hj hw ⊢
  obtain ⟨e1, e2⟩ := sol_ok (N := N) (ch := ch) G T hr hij (show j < 15 by omega)
  unfold kids
  dsimp only
  cases hb : BEST g N ch (sW g N ch) (sH g N ch) r i j with
  | none => exact absurd ((bs_none _).mp hb) (by rw [e1] at hw; exact hw)
  | some b =>
    obtain ⟨b1, b2⟩ := bs_lt _ b hb
    have hz := G.2 r hr
    obtain ⟨k1, k2, k3⟩ := kidsK_ok (ht := ht) G T hN hr hij hj b1 b2 (gz g r) (Nat.le_refl _)
    have hl : bg i ((dv (gz g r) i j).getD b []) (gz g r) = j := by
      have := (dv_ok (by omega) (by omega) (by omega) (gt_of b1)).2.2 (by omega)
      unfold bg
      rw [if_neg (by omega)]
      exact this
    rw [hl] at k1
    have hps := psum_phi G T hr hij (show j < 15 by omega) b1
    dsimp only
    exact ⟨⟨fun x hx => k1 x hx, k2⟩, by rw [k3]; exact hps, b, rfl, b1, b2⟩
def TI (g : GT) (N : Nat) (ch : Nat → Nat) (ht : Nat → Nat) (d t : List Nd) : Prop := (∀ e ∈ t, Vd g N ch e) ∧ (∀ e ∈ d, Vd g N ch e) ∧ d.length + phs g ht t ≤ 162 ∧ t.Pairwise (fun a b => a.2.2 ≤ b.2.1) ∧ d.Pairwise (fun a b => a.2.1 ≤ b.2.1) ∧ (∀ a ∈ d, ∀ b ∈ t, a.2.1 ≤ b.2.1) ∧ (∀ a ∈ d, ∀ b ∈ t, b.2.1 < a.2.2 → b.2.2 ≤ a.2.2)
theorem TI_step {g : GT} {N : Nat} {ch : Nat → Nat} {ht : Nat → Nat} (G : GOk g) (T : Hts g ht) (hN : N < 15) {d t : List Nd} {e : Nd} (h : TI g N ch ht d (e :: t)) : TI g N ch ht (d ++ [e]) (kids g N ch e ++ t) := by
  obtain ⟨h1, h2, h3, h4, h5, h6, h7⟩ := h
  have he := h1 e List.mem_cons_self
  obtain ⟨⟨k1, k2⟩, k3, -⟩ := kids_ok (ht := ht) G T hN he
  obtain ⟨h4a, h4b⟩ := List.pairwise_cons.mp h4
  have hee : e.2.1 < e.2.2 := he.2.1
  refine ⟨fun x hx => ?_, fun x hx => ?_, ?_, ?_, ?_, fun a ha b hb => ?_, fun a ha b hb hab => ?_⟩
  · rcases List.mem_append.mp hx with q | q
    · exact (k1 x q).1
    · exact h1 x (List.mem_cons_of_mem _ q)
  · rcases List.mem_append.mp hx with q | q
    · exact h2 x q
    · rw [List.mem_singleton.mp q]; exact he
  · rw [phs_app]
    simp only [phs] at h3
    simp only [List.length_append, List.length_singleton]
    omega
  · refine List.pairwise_append.mpr ⟨k2, h4b, fun a ha b hb => ?_⟩
    exact Nat.le_trans (k1 a ha).2.2 (h4a b hb)
  · refine List.pairwise_append.mpr ⟨h5, List.pairwise_singleton _ _, fun a ha b hb => ?_⟩
    rw [List.mem_singleton.mp hb]
    exact h6 a ha e List.mem_cons_self
  · rcases List.mem_append.mp ha with qa | qa
    · rcases List.mem_append.mp hb with qb | qb
      · exact Nat.le_trans (h6 a qa e List.mem_cons_self) (k1 b qb).2.1
      · exact h6 a qa b (List.mem_cons_of_mem _ qb)
    · rw [List.mem_singleton.mp qa]
      rcases List.mem_append.mp hb with qb | qb
      · exact (k1 b qb).2.1
      · have := h4a b qb
        omega
  · rcases List.mem_append.mp ha with qa | qa
    · rcases List.mem_append.mp hb with qb | qb
      · have := (k1 b qb).2
        exact Nat.le_trans this.2 (h7 a qa e List.mem_cons_self (by omega))
      · exact h7 a qa b (List.mem_cons_of_mem _ qb) hab
    · rw [List.mem_singleton.mp qa] at hab ⊢
      rcases List.mem_append.mp hb with qb | qb
      · exact (k1 b qb).2.2
      · have := h4a b qb
        omega
theorem TI_0 {g : GT} {N : Nat} {ch : Nat → Nat} {ht : Nat → Nat} (T : Hts g ht) (hN : N < 15) {e : Nd} (hv : Vd g N ch e) : TI g N ch ht [] [e] := by
  refine ⟨fun x hx => by rw [List.mem_singleton.mp hx]; exact hv, fun x hx => (nomatch hx), ?_, List.pairwise_singleton _ _, List.Pairwise.nil, fun a ha => (nomatch ha), fun a ha => (nomatch ha)⟩
  simp only [phs, phi, List.length_nil]
  have := T.1 (gl g e.1)
  have := hv.2.1
  have := hv.2.2.1
  omega
theorem TI_at {g : GT} {N : Nat} {ch : Nat → Nat} {ht : Nat → Nat} (G : GOk g) (T : Hts g ht) (hN : N < 15) {e : Nd} (hv : Vd g N ch e) : ∀ x, TI g N ch ht (tst (kids g N ch) e x).1 (tst (kids g N ch) e x).2
  | 0 => TI_0 T hN hv
  | x + 1 => by
    have ih := TI_at G T hN hv x
    simp only [tst]
    cases hq : (tst (kids g N ch) e x).2 with
    | nil => rw [hq] at ih; dsimp only; rw [hq]; exact ih
    | cons a t => rw [hq] at ih; exact TI_step G T hN ih
theorem tst_stop {kd : Nd → List Nd} {e : Nd} {x : Nat} (h : (tst kd e x).2 = []) : ∀ k, tst kd e (x + k) = tst kd e x
  | 0 => rfl
  | k + 1 => by
    have ih := tst_stop h k
    rw [← Nat.add_assoc]
    simp only [tst]
    rw [ih, h]
theorem tst_one {kd : Nd → List Nd} {e : Nd} {x y : Nat} (h : (tst kd e x).2 = []) (h' : (tst kd e y).2 = []) : (tst kd e x).1 = (tst kd e y).1 := by
  rcases Nat.le_total x y with q | q
  · have := tst_stop h (y - x)
    rw [show x + (y - x) = y by omega] at this
    rw [this]
  · have := tst_stop h' (x - y)
    rw [show y + (x - y) = x by omega] at this
    rw [this]
theorem tst_len {kd : Nd → List Nd} {e : Nd} : ∀ x, (tst kd e x).1.length ≤ x ∧ ((tst kd e x).2 ≠ [] → (tst kd e x).1.length = x)
  | 0 => ⟨Nat.le_refl _, fun _ => rfl⟩
  | x + 1 => by
    obtain ⟨i1, i2⟩ := tst_len (kd := kd) (e := e) x
    simp only [tst]
    cases hq : (tst kd e x).2 with
    | nil => dsimp only; rw [hq]; exact ⟨by omega, fun h => absurd rfl h⟩
    | cons a t =>
      dsimp only
      have := i2 (by rw [hq]; exact List.cons_ne_nil _ _)
      simp only [List.length_append, List.length_singleton]
      exact ⟨by omega, fun _ => by omega⟩
theorem phs_len {g : GT} {N : Nat} {ch : Nat → Nat} {ht : Nat → Nat} : ∀ t, (∀ e ∈ t, Vd g N ch e) → t.length ≤ phs g ht t
  | [], _ => Nat.le_refl _
  | e :: t, h => by
    have ih := phs_len (ht := ht) t (fun x hx => h x (List.mem_cons_of_mem _ hx))
    have := (h e List.mem_cons_self).2.1
    simp only [phs, phi, List.length_cons]
    omega

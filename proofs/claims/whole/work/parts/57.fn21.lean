/-! THE TWO SIDES HOLD THE SAME GRAMMAR: what rests on a grammar is the same on both -/
def GEq (g g' : GT) : Prop := gR g = gR g' ∧ (∀ r, r < gR g → gl g r = gl g' r ∧ gz g r = gz g' r ∧ gm g r = gm g' r ∧ gw g r = gw g' r ∧ (∀ k, k < gz g r → gs g r k = gs g' r k) ∧ ∀ s, s < gR g → gb g r s = gb g' r s) ∧ ∀ n, n < 6 → ∀ c, 33 ≤ c → c ≤ 126 → gf g n c = gf g' n c
section GEQ
variable {g g' : GT} {N : Nat} {ch ch' : Nat → Nat}
theorem ge_in (Q : GEq g g') {n s : Nat} {sel sel' : Nat → Bool} (hs : s < gR g) (h : sel s = sel' s) : inN g n sel s = inN g' n sel' s := by
  unfold inN
  rw [(Q.2.1 s hs).1, (Q.2.1 s hs).2.2.1, h]
theorem ge_cn (Q : GEq g g') {n : Nat} {sel sel' : Nat → Bool} {w w' : Nat → Nat} : ∀ m, m ≤ gR g → (∀ s, s < m → sel s = sel' s ∧ w s = w' s) → cn g n sel w m = cn g' n sel' w' m
  | 0, _, _ => rfl
  | m + 1, hm, h => by
    simp only [cn]
    rw [ge_in Q (by omega) (h m (by omega)).1, ge_cn Q m (by omega) (fun s hs => h s (by omega)), (h m (by omega)).2]
theorem ge_tp (Q : GEq g g') {n : Nat} {sel sel' : Nat → Bool} {w w' : Nat → Nat} {h h' : Nat → UInt64} : ∀ m, m ≤ gR g → (∀ s, s < m → sel s = sel' s ∧ w s = w' s ∧ h s = h' s) → tp g n sel w h m = tp g' n sel' w' h' m
  | 0, _, _ => rfl
  | m + 1, hm, hh => by
    obtain ⟨e1, e2, e3⟩ := hh m (by omega)
    simp only [tp]
    rw [ge_in Q (by omega) e1, ge_tp Q m (by omega) (fun s hs => hh s (by omega)), e2]
    by_cases hc : inN g' n sel' m = true ∧ w' m ≠ 0
    · rw [if_pos hc, if_pos hc]
      cases ht : tp g' n sel' w' h' m with
      | none => rfl
      | some b =>
        dsimp only
        rw [e3, (hh b (by have := (tp_some ht).1; omega)).2.2]
    · rw [if_neg hc, if_neg hc]
theorem ge_nrej (Q : GEq g g') {n : Nat} {w w' : Nat → Nat} : ∀ m, m ≤ gR g → (∀ s, s < m → w s = w' s) → nrej g n w m = nrej g' n w' m
  | 0, _, _ => rfl
  | m + 1, hm, h => by
    simp only [nrej]
    rw [ge_nrej Q m (by omega) (fun s hs => h s (by omega)), (Q.2.1 m (by omega)).1, (Q.2.1 m (by omega)).2.2.1, h m (by omega)]
def CEq (N : Nat) (ch ch' : Nat → Nat) : Prop := ∀ q, q < N → ch q = ch' q ∧ 33 ≤ ch q ∧ ch q ≤ 126
theorem ge_gd (Q : GEq g g') (X : CEq N ch ch') {n j : Nat} {w w' : Nat → Nat} (hn : n < 6) (hj : j ≤ N) (h : ∀ s, s < gR g → w s = w' s) : gd g N ch n j w = gd g' N ch' n j w' := by
  unfold gd
  rw [ge_nrej Q _ (Nat.le_refl _) h, Q.1]
  by_cases e : j = N
  · rw [decide_eq_true e]; rfl
  · obtain ⟨e1, e2, e3⟩ := X j (by omega)
    rw [Q.2.2 n hn (ch j) e2 e3, e1]
theorem ge_alw (Q : GEq g g') {r s : Nat} (k : Nat) (hr : r < gR g) (hs : s < gR g) : alw g r k s = alw g' r k s := by
  obtain ⟨e1, e2, e3, e4, e5, e6⟩ := Q.2.1 r hr
  unfold alw
  rw [e6 s hs, e2, e3]
theorem ge_syv (Q : GEq g g') (X : CEq N ch ch') {w w' : Nat → Nat → Nat → Nat} {r k a b : Nat} (hr : r < gR g) (hk : k < gz g r) (hab : a < b) (hb : b ≤ N) (h : ∀ s, s < gR g → w s a b = w' s a b) : syv g N ch w r k a b = syv g' N ch' w' r k a b := by
  unfold syv
  rw [← (Q.2.1 r hr).2.2.2.2.1 k hk]
  cases hn : nt (gs g r k) with
  | none =>
    dsimp only
    rw [(X a (by omega)).1]
  | some n =>
    dsimp only
    rw [ge_gd Q X (w' := fun s => w' s a b) (nt_lt hn) hb h, ge_cn Q (sel' := alw g' r k) (w' := fun s => w' s a b) _ (Nat.le_refl _) (fun s hs => ⟨ge_alw Q k hr hs, h s hs⟩), Q.1]
theorem ge_tpv (Q : GEq g g') {w w' : Nat → Nat → Nat → Nat} {h h' : Nat → Nat → Nat → UInt64} {r k a b : Nat} (hr : r < gR g) (hk : k < gz g r) (hw : ∀ s, s < gR g → w s a b = w' s a b ∧ h s a b = h' s a b) : tpv g w h r k a b = tpv g' w' h' r k a b := by
  unfold tpv
  rw [← (Q.2.1 r hr).2.2.2.2.1 k hk]
  cases hn : nt (gs g r k) with
  | none => rfl
  | some n =>
    dsimp only
    rw [ge_tp Q (sel' := alw g' r k) (w' := fun s => w' s a b) (h' := fun s => h' s a b) _ (Nat.le_refl _) (fun s hs => ⟨ge_alw Q k hr hs, hw s hs⟩), Q.1]
theorem tpv_lt {w : Nat → Nat → Nat → Nat} {h : Nat → Nat → Nat → UInt64} {r k a b s : Nat} (e : tpv g w h r k a b = some s) : s < gR g := by
  unfold tpv at e
  cases hn : nt (gs g r k) with
  | none => rw [hn] at e; cases e
  | some n => rw [hn] at e; exact (tp_some e).1
theorem ge_wtv (Q : GEq g g') {w w' : Nat → Nat → Nat → Nat} {h h' : Nat → Nat → Nat → UInt64} {r k a b : Nat} (hr : r < gR g) (hk : k < gz g r) (hw : ∀ s, s < gR g → w s a b = w' s a b ∧ h s a b = h' s a b) : wtv g w h r k a b = wtv g' w' h' r k a b := by
  unfold wtv
  rw [← ge_tpv Q hr hk hw]
  cases ht : tpv g w h r k a b with
  | none => rfl
  | some s =>
    show some (h s a b) = some (h' s a b)
    rw [(hw s (tpv_lt ht)).2]
theorem ge_eqs (Q : GEq g g') (X : CEq N ch ch') (G : GOk g) (hN : N ≤ 14) {w w' : Nat → Nat → Nat → Nat} {h h' : Nat → Nat → Nat → UInt64} {r i j : Nat} (hr : r < gR g) (hij : i < j) (hj : j ≤ N) (A : ∀ s, s < gR g → ∀ a b, a < b → b ≤ N → w s a b = w' s a b ∧ h s a b = h' s a b) : WAYS g N ch w r i j = WAYS g' N ch' w' r i j ∧ BEST g N ch w h r i j = BEST g' N ch' w' h' r i j ∧ HEAVY g N ch w h r i j = HEAVY g' N ch' w' h' r i j := by
  obtain ⟨e1, e2, e3, e4, e5, e6⟩ := Q.2.1 r hr
  have hz := G.2 r hr
  have hp : ∀ t, t < (dv (gz g r) i j).length → pw (syv g N ch w r) i ((dv (gz g r) i j).getD t []) (gz g r) = pw (syv g' N ch' w' r) i ((dv (gz g r) i j).getD t []) (gz g r) := by
    intro t ht
    refine pw_congr _ (fun k hk => ?_)
    obtain ⟨p1, p2, p3, p4⟩ := piece (by omega) (by omega) (by omega) ht hk
    exact ge_syv Q X hr hk p2 (by omega) (fun s hs => (A s hs _ _ p2 (by omega)).1)
  have hf : ∀ t, t < (dv (gz g r) i j).length → FW g w h r i ((dv (gz g r) i j).getD t []) = FW g' w' h' r i ((dv (gz g r) i j).getD t []) := by
    intro t ht
    unfold FW
    rw [← e4, ← e2]
    refine fw_congr _ (fun k hk => ?_)
    obtain ⟨p1, p2, p3, p4⟩ := piece (by omega) (by omega) (by omega) ht hk
    exact ge_wtv Q hr hk (fun s hs => A s hs _ _ p2 (by omega))
  have f1 : WAYS g N ch w r i j = WAYS g' N ch' w' r i j := by
    unfold WAYS
    rw [← e2]
    exact aw_congr _ hp
  have f2 : BEST g N ch w h r i j = BEST g' N ch' w' h' r i j := by
    unfold BEST
    rw [← e2]
    exact bs_congr _ (fun t ht => ⟨hp t ht, fun _ => hf t ht⟩)
  refine ⟨f1, f2, ?_⟩
  unfold HEAVY
  rw [← f2]
  cases hb : BEST g N ch w h r i j with
  | none => rfl
  | some b =>
    dsimp only
    rw [← e2]
    exact hf b (bs_lt _ b hb).1
theorem ge_val (Q : GEq g g') (X : CEq N ch ch') (G : GOk g) (hN : N ≤ 14) : ∀ f r i j, r < gR g → i < j → j ≤ N → val g N ch f r i j = val g' N ch' f r i j
  | 0, _, _, _, _, _, _ => rfl
  | f + 1, r, i, j, hr, hij, hj => by
    obtain ⟨f1, -, f3⟩ := ge_eqs (w := fun r i j => (val g N ch f r i j).1) (w' := fun r i j => (val g' N ch' f r i j).1) (h := fun r i j => (val g N ch f r i j).2) (h' := fun r i j => (val g' N ch' f r i j).2) Q X G hN hr hij hj (fun s hs a b h1 h2 => by
      rw [ge_val Q X G hN f s a b hs h1 h2]
      exact ⟨rfl, rfl⟩)
    show (_, _) = (_, _)
    rw [f1, f3]
theorem ge_sol (Q : GEq g g') (X : CEq N ch ch') (G : GOk g) (hN : N ≤ 14) {r i j : Nat} (hr : r < gR g) (hij : i < j) (hj : j ≤ N) : sW g N ch r i j = sW g' N ch' r i j ∧ sH g N ch r i j = sH g' N ch' r i j := by
  have h := ge_val Q X G hN 100 r i j hr hij hj
  exact ⟨congrArg Prod.fst h, congrArg Prod.snd h⟩
theorem ge_kidsK (Q : GEq g g') {w w' : Nat → Nat → Nat → Nat} {h h' : Nat → Nat → Nat → UInt64} {r i : Nat} {l : List Nat} (hr : r < gR g) (hw : ∀ k, k < gz g r → ∀ s, s < gR g → w s (bg i l k) (lgd l k) = w' s (bg i l k) (lgd l k) ∧ h s (bg i l k) (lgd l k) = h' s (bg i l k) (lgd l k)) (m : Nat) : m ≤ gz g r → kidsK g w h r i l m = kidsK g' w' h' r i l m := by
  induction m with
  | zero => intro _; rfl
  | succ m ih =>
    intro hm
    simp only [kidsK]
    rw [ih (by omega), ge_tpv Q (w' := w') (h' := h') hr (by omega) (hw m (by omega))]
theorem ge_kids (Q : GEq g g') (X : CEq N ch ch') (G : GOk g) (hN : N ≤ 14) {e : Nd} (h1 : e.1 < gR g) (h2 : e.2.1 < e.2.2) (h3 : e.2.2 ≤ N) : kids g N ch e = kids g' N ch' e := by
  unfold kids
  rw [← (ge_eqs Q X G hN h1 h2 h3 (fun s hs a b q1 q2 => ge_sol Q X G hN hs q1 q2)).2.1]
  cases hb : BEST g N ch (sW g N ch) (sH g N ch) e.1 e.2.1 e.2.2 with
  | none => rfl
  | some b =>
    dsimp only
    rw [← (Q.2.1 e.1 h1).2.1]
    have ht := (bs_lt _ b hb).1
    have hz := G.2 e.1 h1
    exact ge_kidsK Q h1 (fun k hk s hs => by
      obtain ⟨p1, p2, p3, p4⟩ := piece (k := k) (by omega) (by omega) (by omega) ht hk
      exact ge_sol Q X G hN hs p2 (by omega)) _ (Nat.le_refl _)
theorem ge_tst (Q : GEq g g') (X : CEq N ch ch') (G : GOk g) (A : Acy g) (hN : N ≤ 14) {root : Nd} (hv : Vd g N ch root) : ∀ m, tst (kids g N ch) root m = tst (kids g' N ch') root m
  | 0 => rfl
  | m + 1 => by
    have ih := ge_tst Q X G A hN hv m
    simp only [tst]
    rw [← ih]
    cases h : (tst (kids g N ch) root m).2 with
    | nil => rfl
    | cons e t =>
      dsimp only
      have q := (TI_at (ht := hgt g) G (hts_of G A) (show N < 15 by omega) hv m).1 e (by rw [h]; exact List.mem_cons_self)
      rw [ge_kids Q X G hN q.1 q.2.1 q.2.2.1]
theorem ge_pv (Q : GEq g g') (X : CEq N ch ch') (G : GOk g) (hN : N ≤ 14) (h0 : 0 < N) (n : Nat) : pv g N ch n = pv g' N ch' n := by
  unfold pv
  rw [ge_nrej Q (w' := fun s => sW g' N ch' s 0 N) _ (Nat.le_refl _) (fun s hs => (ge_sol Q X G hN hs h0 (Nat.le_refl _)).1), ge_cn Q (sel' := fun _ => true) (w' := fun s => sW g' N ch' s 0 N) _ (Nat.le_refl _) (fun s hs => ⟨rfl, (ge_sol Q X G hN hs h0 (Nat.le_refl _)).1⟩), Q.1]
theorem ge_top (Q : GEq g g') (X : CEq N ch ch') (G : GOk g) (hN : N ≤ 14) (h0 : 0 < N) (n : Nat) : tp g n (fun _ => true) (fun s => sW g N ch s 0 N) (fun s => sH g N ch s 0 N) (gR g) = tp g' n (fun _ => true) (fun s => sW g' N ch' s 0 N) (fun s => sH g' N ch' s 0 N) (gR g') := by
  rw [ge_tp Q (sel' := fun _ => true) (w' := fun s => sW g' N ch' s 0 N) (h' := fun s => sH g' N ch' s 0 N) _ (Nat.le_refl _) (fun s hs => ⟨rfl, ge_sol Q X G hN hs h0 (Nat.le_refl _)⟩), Q.1]
theorem ge_chn (Q : GEq g g') (G : GOk g) {r : Nat} (hr : r < gR g) : chn g r = chn g' r := by
  have hz := G.2 r hr
  obtain ⟨e1, e2, e3, e4, e5, e6⟩ := Q.2.1 r hr
  unfold chn
  rw [← e2, e5 0 (by omega)]
theorem ge_clR (Q : GEq g g') (G : GOk g) : ∀ m s, m ≤ gR g → clR g m s = clR g' m s
  | 0, _, _ => rfl
  | m + 1, s, hm => by
    simp only [clR]
    rw [ge_chn Q G (by omega), ge_clR Q G m s (by omega), (Q.2.1 m (by omega)).1]
theorem ge_clo (Q : GEq g g') (G : GOk g) : ∀ t s, clo g t s = clo g' t s
  | 0, _ => rfl
  | t + 1, s => by
    simp only [clo]
    rw [ge_clo Q G t s, ge_clR Q G _ _ (Nat.le_refl _), Q.1]
theorem ge_rch (Q : GEq g g') (G : GOk g) (a : Nat) : rch g a = rch g' a := ge_clo Q G 6 _
theorem ge_ok (Q : GEq g g') (G : GOk g) : GOk g' := by
  refine ⟨by rw [← Q.1]; exact G.1, fun r hr => ?_⟩
  have hr' : r < gR g := by rw [Q.1]; exact hr
  obtain ⟨e1, e2, e3, e4, e5, e6⟩ := Q.2.1 r hr'
  obtain ⟨a1, a2, a3, a4, a5, a6⟩ := G.2 r hr'
  rw [← e1, ← e2, ← e3, ← e4]
  exact ⟨a1, a2, a3, a4, a5, fun k hk => by rw [← e5 k hk]; exact a6 k hk⟩
theorem ge_acy (Q : GEq g g') (G : GOk g) (A : Acy g) : Acy g' := acy_sub (Nat.le_of_eq Q.1.symm) (fun r hr => by
  have hr' : r < gR g := by rw [Q.1]; exact hr
  exact ⟨(Q.2.1 r hr').1.symm, (ge_chn Q G hr').symm⟩) A
end GEQ

/-! THE CLASS'S CHART against the solution -/
def tpg (g : GT) (N : Nat) (ch : Nat → Nat) (r k a b : Nat) : Option Nat := match nt (gs g r k) with
  | none => none
  | some c => if gd g N ch c b (fun s => sW g N ch s a b) = true then tp g c (alw g r k) (fun s => sW g N ch s a b) (fun s => sH g N ch s a b) (gR g) else none
def PKB (g : GT) (N : Nat) (ch : Nat → Nat) (r a b : Nat) : Nat := PK (BEST g N ch (sW g N ch) (sH g N ch) r a b) (fun t => pkN (lgd ((dv (gz g r) a b).getD t [])) (gz g r))
def UOK (g : GT) (N : Nat) (ch : Nat → Nat) (y : ST) (r k a b : Nat) : Prop := y.2.1 15 ((r * 4 + k) * 105 + spn a b) = syv g N ch (sW g N ch) r k a b ∧ y.2.1 16 ((r * 4 + k) * 105 + spn a b) = oN (tpg g N ch r k a b)
def ROK (g : GT) (N : Nat) (ch : Nat → Nat) (y : ST) (r a b : Nat) : Prop := y.2.1 12 (r * 105 + spn a b) = sW g N ch r a b ∧ y.2.2.1 13 (r * 105 + spn a b) = sH g N ch r a b ∧ y.2.1 14 (r * 105 + spn a b) = PKB g N ch r a b
def INP (g : GT) (N : Nat) (ch : Nat → Nat) (y : ST) (r i j : Nat) : Prop := ∀ k, k < gz g r → ∀ a b, i ≤ a → a < b → b ≤ j → (b - a < j - i ∨ (gz g r = 1 ∧ a = i ∧ b = j)) → UOK g N ch y r k a b ∧ ∀ c, nt (gs g r k) = some c → ∀ s, s < gR g → gl g s = c → ROK g N ch y s a b
theorem inp_all {N : Nat} {ch : Nat → Nat} {ht : Nat → Nat} {y : ST} {r i j : Nat} (G : GOk (gP y)) (T : Hts (gP y) ht) (hN : N < 15) (hr : r < gR (gP y)) (hij : i < j) (hj : j ≤ N) (I : INP (gP y) N ch y r i j) :
    (∀ t, t < (dv (y.2.1 5 r) i j).length → pw (symP y r) i ((dv (y.2.1 5 r) i j).getD t []) (y.2.1 5 r) = pw (syv (gP y) N ch (sW (gP y) N ch) r) i ((dv (y.2.1 5 r) i j).getD t []) (y.2.1 5 r)) ∧
    (∀ t, t < (dv (y.2.1 5 r) i j).length → pw (symP y r) i ((dv (y.2.1 5 r) i j).getD t []) (y.2.1 5 r) ≠ 0 →
      (∀ k, k < y.2.1 5 r → y.2.1 16 ((r * 4 + k) * 105 + spn (bg i ((dv (y.2.1 5 r) i j).getD t []) k) (lgd ((dv (y.2.1 5 r) i j).getD t []) k)) = 4294967295 ∨ y.2.1 16 ((r * 4 + k) * 105 + spn (bg i ((dv (y.2.1 5 r) i j).getD t []) k) (lgd ((dv (y.2.1 5 r) i j).getD t []) k)) < 16) ∧
      (∀ m, m ≤ y.2.1 5 r → fw (y.2.2.1 7 r) (wtP y r) i ((dv (y.2.1 5 r) i j).getD t []) m = fw (y.2.2.1 7 r) (wtv (gP y) (sW (gP y) N ch) (sH (gP y) N ch) r) i ((dv (y.2.1 5 r) i j).getD t []) m) ∧
      (∀ k, k < y.2.1 5 r → ∀ z, wtP y r k (bg i ((dv (y.2.1 5 r) i j).getD t []) k) (lgd ((dv (y.2.1 5 r) i j).getD t []) k) = some z → vf_n64 (FP.dmul (fw (y.2.2.1 7 r) (wtP y r) i ((dv (y.2.1 5 r) i j).getD t []) k) z)) ∧
      dgt (fw (y.2.2.1 7 r) (wtP y r) i ((dv (y.2.1 5 r) i j).getD t []) (y.2.1 5 r)) 0 = true) := by
  have hz := G.2 r hr
  have hz4 : y.2.1 5 r ≤ 4 := hz.2.2.1
  have hR : gR (gP y) ≤ 16 := G.1
  have pc := fun t (ht : t < (dv (y.2.1 5 r) i j).length) k (hk : k < y.2.1 5 r) => piece (show y.2.1 5 r < 5 by omega) (show j < 15 by omega) (show i < 15 by omega) ht hk
  have hp : ∀ t, t < (dv (y.2.1 5 r) i j).length → pw (symP y r) i ((dv (y.2.1 5 r) i j).getD t []) (y.2.1 5 r) = pw (syv (gP y) N ch (sW (gP y) N ch) r) i ((dv (y.2.1 5 r) i j).getD t []) (y.2.1 5 r) := by
    intro t ht
    refine pw_congr _ (fun k hk => ?_)
    obtain ⟨p1, p2, p3, p4⟩ := pc t ht k hk
    exact (I k hk _ _ p1 p2 p3 p4).1.1
  refine ⟨hp, fun t ht hpz => ?_⟩
  rw [hp t ht] at hpz
  have hs := pw_zero _ hpz
  have key : ∀ k, k < y.2.1 5 r → (y.2.1 16 ((r * 4 + k) * 105 + spn (bg i ((dv (y.2.1 5 r) i j).getD t []) k) (lgd ((dv (y.2.1 5 r) i j).getD t []) k)) = 4294967295 ∨ y.2.1 16 ((r * 4 + k) * 105 + spn (bg i ((dv (y.2.1 5 r) i j).getD t []) k) (lgd ((dv (y.2.1 5 r) i j).getD t []) k)) < 16) ∧ wtP y r k (bg i ((dv (y.2.1 5 r) i j).getD t []) k) (lgd ((dv (y.2.1 5 r) i j).getD t []) k) = wtv (gP y) (sW (gP y) N ch) (sH (gP y) N ch) r k (bg i ((dv (y.2.1 5 r) i j).getD t []) k) (lgd ((dv (y.2.1 5 r) i j).getD t []) k) := by
    intro k hk
    obtain ⟨p1, p2, p3, p4⟩ := pc t ht k hk
    obtain ⟨⟨-, u2⟩, u3⟩ := I k hk _ _ p1 p2 p3 p4
    have hsk := hs k hk
    generalize bg i ((dv (y.2.1 5 r) i j).getD t []) k = a at *
    generalize lgd ((dv (y.2.1 5 r) i j).getD t []) k = b at *
    unfold wtP wtv
    cases hc : nt (gs (gP y) r k) with
    | none =>
      have e1 : tpg (gP y) N ch r k a b = none := by unfold tpg; rw [hc]
      have e2 : tpv (gP y) (sW (gP y) N ch) (sH (gP y) N ch) r k a b = none := by unfold tpv; rw [hc]
      rw [e1] at u2
      rw [e2]
      have u2 : y.2.1 16 ((r * 4 + k) * 105 + spn a b) = 4294967295 := u2
      exact ⟨Or.inl u2, by rw [if_pos u2]; rfl⟩
    | some c =>
      obtain ⟨hg, s, e2, s1, s2, s3⟩ := syv_tp (h := sH (gP y) N ch) hc hsk
      have e1 : tpg (gP y) N ch r k a b = some s := by
        unfold tpg
        rw [hc]
        dsimp only
        rw [if_pos hg]
        unfold tpv at e2
        rw [hc] at e2
        exact e2
      rw [e1] at u2
      rw [e2]
      have u2 : y.2.1 16 ((r * 4 + k) * 105 + spn a b) = s := u2
      have hs16 : s < 16 := by omega
      refine ⟨Or.inr (by omega), ?_⟩
      rw [if_neg (by omega), u2, (u3 c hc s s1 s2).2.1]
      rfl
  have hfw : ∀ m, m ≤ y.2.1 5 r → fw (y.2.2.1 7 r) (wtP y r) i ((dv (y.2.1 5 r) i j).getD t []) m = fw (y.2.2.1 7 r) (wtv (gP y) (sW (gP y) N ch) (sH (gP y) N ch) r) i ((dv (y.2.1 5 r) i j).getD t []) m := fun m hm => fw_congr m (fun k hk => (key k (by omega)).2)
  have hpos := FW_pos (w := sW (gP y) N ch) (h := sH (gP y) N ch) G T hr hij (show j < 15 by omega) ht (fun k hk a b h1 h2 h3 h4 c hc s hs hgs => sol_posA G T hs h2 (by omega))
  refine ⟨fun k hk => (key k hk).1, hfw, fun k hk z hz2 => ?_, ?_⟩
  · obtain ⟨L, e1, -, -⟩ := hpos.2 (k + 1) (by show k + 1 ≤ y.2.1 5 r; omega)
    have e2 := hfw (k + 1) (by omega)
    have e3 : fw (y.2.2.1 7 r) (wtP y r) i ((dv (y.2.1 5 r) i j).getD t []) (k + 1) = FP.dmul (fw (y.2.2.1 7 r) (wtP y r) i ((dv (y.2.1 5 r) i j).getD t []) k) z := by
      simp only [fw]
      rw [hz2]
    rw [← e3, e2]
    exact fp_S.n e1
  · rw [hfw _ (Nat.le_refl _)]
    exact fpb_gt hpos.1
theorem der_pre {N : Nat} {ch : Nat → Nat} {ht : Nat → Nat} {y : ST} {r i j : Nat} (G : GOk (gP y)) (T : Hts (gP y) ht) (hN : N < 15) (hr : r < gR (gP y)) (hij : i < j) (hj : j ≤ N) (I : INP (gP y) N ch y r i j) : ∀ t, t < (dv (y.2.1 5 r) i j).length → pw (symP y r) i ((dv (y.2.1 5 r) i j).getD t []) (y.2.1 5 r) ≠ 0 → (∀ k, k < y.2.1 5 r → y.2.1 16 ((r * 4 + k) * 105 + spn (bg i ((dv (y.2.1 5 r) i j).getD t []) k) (lgd ((dv (y.2.1 5 r) i j).getD t []) k)) = 4294967295 ∨ y.2.1 16 ((r * 4 + k) * 105 + spn (bg i ((dv (y.2.1 5 r) i j).getD t []) k) (lgd ((dv (y.2.1 5 r) i j).getD t []) k)) < 16) ∧ (∀ k, k < y.2.1 5 r → ∀ z, wtP y r k (bg i ((dv (y.2.1 5 r) i j).getD t []) k) (lgd ((dv (y.2.1 5 r) i j).getD t []) k) = some z → vf_n64 (FP.dmul (fw (y.2.2.1 7 r) (wtP y r) i ((dv (y.2.1 5 r) i j).getD t []) k) z)) ∧ dgt (fw (y.2.2.1 7 r) (wtP y r) i ((dv (y.2.1 5 r) i j).getD t []) (y.2.1 5 r)) 0 = true := fun t ht hp => by
  obtain ⟨a, -, b, c⟩ := (inp_all G T hN hr hij hj I).2 t ht hp
  exact ⟨a, b, c⟩
theorem der_post {N : Nat} {ch : Nat → Nat} {ht : Nat → Nat} {y u : ST} {r i j : Nat} (G : GOk (gP y)) (T : Hts (gP y) ht) (hN : N < 15) (hr : r < gR (gP y)) (hij : i < j) (hj : j ≤ N) (I : INP (gP y) N ch y r i j) (hD : DER y r i j u) : ROK (gP y) N ch u r i j := by
  obtain ⟨w, p, h, -, -, d12, d14, d13, -, -, hw, hh, hp⟩ := hD
  obtain ⟨q1, q2⟩ := inp_all G T hN hr hij hj I
  obtain ⟨s1, s2⟩ := sol_ok (N := N) (ch := ch) G T hr hij (show j < 15 by omega)
  have eb : bs (symP y r) (fun l => fw (y.2.2.1 7 r) (wtP y r) i l (y.2.1 5 r)) (y.2.1 5 r) i (dv (y.2.1 5 r) i j) (dv (y.2.1 5 r) i j).length = BEST (gP y) N ch (sW (gP y) N ch) (sH (gP y) N ch) r i j := bs_congr _ (fun t ht => ⟨q1 t ht, fun hpz => (q2 t ht hpz).2.1 _ (Nat.le_refl _)⟩)
  refine ⟨?_, ?_, ?_⟩
  · rw [d12, va_up_self, hw, s1]
    exact aw_congr _ q1
  · rw [d13, va_up_self, va_up_self, hh, s2, eb]
    unfold HEAVY
    cases hb : BEST (gP y) N ch (sW (gP y) N ch) (sH (gP y) N ch) r i j with
    | none => rfl
    | some t =>
      obtain ⟨b1, b2⟩ := bs_lt _ t (eb.trans hb)
      exact (q2 t b1 b2).2.1 _ (Nat.le_refl _)
  · rw [d14, va_up_self, hp, eb]
    rfl

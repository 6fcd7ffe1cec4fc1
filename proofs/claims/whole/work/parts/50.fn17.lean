/-! THE REFERENCE'S CHART -/
def RMok (g : GT) (N : Nat) (ch : Nat → Nat) (y : ST) (r a b : Nat) : Prop := wM y r a b = sW g N ch r a b ∧ hM y r a b = sH g N ch r a b
def GMok (g : GT) (N : Nat) (ch : Nat → Nat) (y : ST) (c a b : Nat) : Prop := y.2.1 13 (c * 225 + (a * 15 + b)) = if gd g N ch c b (fun s => sW g N ch s a b) = true then 1 else 0
def CHM (g : GT) (N : Nat) (ch : Nat → Nat) (y : ST) (d : Nat) : Prop := ∀ a b, a < b → b ≤ N → b - a < d → (∀ r, r < gR g → RMok g N ch y r a b) ∧ (∀ c, c < 6 → GMok g N ch y c a b)
def FM (i j : Nat) (x y : ST) : Prop := y.1 = x.1 ∧ (∀ k, k ∉ [7, 8, 13, 14] → y.2.1 k = x.2.1 k) ∧ (∀ k, k ≠ 10 → y.2.2.1 k = x.2.2.1 k) ∧ y.2.2.2 = x.2.2.2 ∧ (∀ s a b, a ≤ 14 → b ≤ 14 → ¬ (a = i ∧ b = j) → wM y s a b = wM x s a b ∧ hM y s a b = hM x s a b ∧ y.2.1 13 (s * 225 + (a * 15 + b)) = x.2.1 13 (s * 225 + (a * 15 + b)))
theorem FM.rf (i j : Nat) (x : ST) : FM i j x x := ⟨rfl, fun _ _ => rfl, fun _ _ => rfl, rfl, fun _ _ _ _ _ _ => ⟨rfl, rfl, rfl⟩⟩
theorem FM.trans {i j : Nat} {x y z : ST} (h : FM i j x y) (h2 : FM i j y z) : FM i j x z := ⟨h2.1.trans h.1, fun k hk => (h2.2.1 k hk).trans (h.2.1 k hk), fun k hk => (h2.2.2.1 k hk).trans (h.2.2.1 k hk), h2.2.2.2.1.trans h.2.2.2.1, fun s a b h3 h4 h5 => by
  obtain ⟨a1, a2, a3⟩ := h.2.2.2.2 s a b h3 h4 h5
  obtain ⟨b1, b2, b3⟩ := h2.2.2.2.2 s a b h3 h4 h5
  exact ⟨b1.trans a1, b2.trans a2, b3.trans a3⟩⟩
theorem FM.gM {i j : Nat} {x y : ST} (h : FM i j x y) : gM y = gM x := gM_same (by rw [h.1]) (h.2.2.1 9 (by decide)) (fun k hk => h.2.1 k (fun q => by
  simp only [List.mem_cons, List.not_mem_nil, or_false] at hk q
  omega))
theorem idx_ne {s s' a b i j : Nat} (ha : a ≤ 14) (hb : b ≤ 14) (hi : i ≤ 14) (hj : j ≤ 14) (h : ¬ (a = i ∧ b = j)) : s * 225 + (a * 15 + b) ≠ s' * 225 + (i * 15 + j) := by omega
theorem idx_ne2 {s s' i j : Nat} (h : s ≠ s') : s * 225 + (i * 15 + j) ≠ s' * 225 + (i * 15 + j) := by omega
theorem FM_14 {y : ST} {i j r v : Nat} (hi : i ≤ 14) (hj : j ≤ 14) : FM i j y (sA y 14 (r * 225 + (i * 15 + j)) v) := by
  refine ⟨rfl, fun k hk => ?_, fun _ _ => rfl, rfl, fun s a b h3 h4 h5 => ⟨?_, rfl, ?_⟩⟩
  · simp only [List.mem_cons, List.not_mem_nil, or_false, not_or] at hk
    exact sA_ne _ _ _ hk.2.2.2
  · exact sA_at _ _ _ (idx_ne h3 h4 hi hj h5)
  · rw [sA_ne _ _ _ (by decide)]
theorem FM_13 {y : ST} {i j r v : Nat} (hi : i ≤ 14) (hj : j ≤ 14) : FM i j y (sA y 13 (r * 225 + (i * 15 + j)) v) := by
  refine ⟨rfl, fun k hk => ?_, fun _ _ => rfl, rfl, fun s a b h3 h4 h5 => ⟨?_, rfl, ?_⟩⟩
  · simp only [List.mem_cons, List.not_mem_nil, or_false, not_or] at hk
    exact sA_ne _ _ _ hk.2.2.1
  · unfold wM
    rw [sA_ne _ _ _ (by decide)]
  · exact sA_at _ _ _ (idx_ne h3 h4 hi hj h5)
theorem FM_div {y u : ST} {N i j r : Nat} (hi : i ≤ 14) (hj : j ≤ 14) (h : DIV y N r i j u) : FM i j y u := by
  obtain ⟨w, hv, d1, d2, d14, d10, dt, -, -, -⟩ := h
  refine ⟨d1, fun k hk => ?_, fun k hk => ?_, dt, fun s a b h3 h4 h5 => ⟨?_, ?_, ?_⟩⟩
  · simp only [List.mem_cons, List.not_mem_nil, or_false, not_or] at hk
    exact d2 k (by simp only [List.mem_cons, List.not_mem_nil, or_false]; omega)
  · rw [d10, vup_ne _ _ hk]
  · unfold wM
    rw [d14, vup_ne _ _ (idx_ne h3 h4 hi hj h5)]
  · unfold hM
    rw [d10, vup_eq, vup_ne _ _ (idx_ne h3 h4 hi hj h5)]
  · rw [d2 13 (by decide)]
theorem DIV_ne {y u : ST} {N i j r s : Nat} (h : DIV y N r i j u) (hs : s ≠ r) : wM u s i j = wM y s i j ∧ hM u s i j = hM y s i j := by
  obtain ⟨w, hv, d1, d2, d14, d10, dt, -, -, -⟩ := h
  constructor
  · unfold wM
    rw [d14, vup_ne _ _ (idx_ne2 hs)]
  · unfold hM
    rw [d10, vup_eq, vup_ne _ _ (idx_ne2 hs)]
def INm (g : GT) (N : Nat) (ch : Nat → Nat) (y : ST) (r i j : Nat) : Prop := ∀ k, k < gz g r → ∀ a b, i ≤ a → a < b → b ≤ j → (b - a < j - i ∨ (gz g r = 1 ∧ a = i ∧ b = j)) → ∀ c, nt (gs g r k) = some c → GMok g N ch y c a b ∧ ∀ s, s < gR g → gl g s = c → RMok g N ch y s a b
theorem dm_eq {g : GT} {N : Nat} {ch : Nat → Nat} {ht : Nat → Nat} {y u : ST} {r i j : Nat} (eg : gM y = g) (ec : y.2.1 2 = ch) (G : GOk g) (T : Hts g ht) (hN : N < 15) (hr : r < gR g) (hij : i < j) (hj : j ≤ N) (I : INm g N ch y r i j) (hD : DIV y N r i j u) : RMok g N ch u r i j ∧ BSm y N r i j (dv (y.2.1 4 r) i j).length = BEST g N ch (sW g N ch) (sH g N ch) r i j := by
  subst eg
  subst ec
  obtain ⟨w, h, -, -, d14, d10, -, hw, hh, -⟩ := hD
  have hz := (G.2 r hr).2.2.1
  have pc := fun t (ht : t < (dv (gz (gM y) r) i j).length) k (hk : k < gz (gM y) r) => piece (show gz (gM y) r < 5 by omega) (show j < 15 by omega) (show i < 15 by omega) ht hk
  have q1 : ∀ t, t < (dv (gz (gM y) r) i j).length → pw (symM y N r) i ((dv (gz (gM y) r) i j).getD t []) (gz (gM y) r) = pw (syv (gM y) N (y.2.1 2) (sW (gM y) N (y.2.1 2)) r) i ((dv (gz (gM y) r) i j).getD t []) (gz (gM y) r) := by
    intro t ht
    refine pw_congr _ (fun k hk => ?_)
    obtain ⟨p1, p2, p3, p4⟩ := pc t ht k hk
    have hI := I k hk _ _ p1 p2 p3 p4
    unfold symM syv
    cases hc : nt (gs (gM y) r k) with
    | none => rfl
    | some c =>
      obtain ⟨i1, i2⟩ := hI c hc
      dsimp only
      unfold GMok at i1
      rw [i1, cn_congr _ (fun s hs hl => (i2 s hs hl).1)]
      by_cases q : gd (gM y) N (y.2.1 2) c (lgd ((dv (gz (gM y) r) i j).getD t []) k) (fun s => sW (gM y) N (y.2.1 2) s (bg i ((dv (gz (gM y) r) i j).getD t []) k) (lgd ((dv (gz (gM y) r) i j).getD t []) k)) = true
      · rw [if_pos q, if_pos q, if_pos (by decide)]
      · rw [if_neg q, if_neg q, if_neg (by decide)]
  have q2 : ∀ t, t < (dv (gz (gM y) r) i j).length → FFm y r i j t = FW (gM y) (sW (gM y) N (y.2.1 2)) (sH (gM y) N (y.2.1 2)) r i ((dv (gz (gM y) r) i j).getD t []) := by
    intro t ht
    refine fw_congr _ (fun k hk => ?_)
    obtain ⟨p1, p2, p3, p4⟩ := pc t ht k hk
    exact (wtv_congr (fun c hc s hs hl => (I k hk _ _ p1 p2 p3 p4 c hc).2 s hs hl)).1
  have eb : BSm y N r i j (dv (y.2.1 4 r) i j).length = BEST (gM y) N (y.2.1 2) (sW (gM y) N (y.2.1 2)) (sH (gM y) N (y.2.1 2)) r i j := bs_congr _ (fun t ht => ⟨q1 t ht, fun _ => q2 t ht⟩)
  obtain ⟨s1, s2⟩ := sol_ok (N := N) (ch := y.2.1 2) G T hr hij (show j < 15 by omega)
  refine ⟨⟨?_, ?_⟩, eb⟩
  · unfold wM
    rw [d14, vup_eq, hw, s1]
    exact aw_congr _ q1
  · unfold hM
    rw [d10, vup_eq, vup_eq, hh, s2, eb]
    unfold HEAVY
    cases hb : BEST (gM y) N (y.2.1 2) (sW (gM y) N (y.2.1 2)) (sH (gM y) N (y.2.1 2)) r i j with
    | none => rfl
    | some t => exact q2 t (bs_lt _ t (eb.trans hb)).1
theorem dm_pre {g : GT} {N : Nat} {ht : Nat → Nat} {y : ST} {r i j : Nat} (eg : gM y = g) (G : GOk g) (T : Hts g ht) (hr : r < gR g) (hij : i < j) (hj : j < 15) (P : PosA g ht (wM y) (hM y) r i j) : ∀ t, t < (dv (y.2.1 4 r) i j).length → pw (symM y N r) i ((dv (y.2.1 4 r) i j).getD t []) (y.2.1 4 r) ≠ 0 → ∀ k, k < y.2.1 4 r → ∀ z, wtv (gM y) (wM y) (hM y) r k (bg i ((dv (y.2.1 4 r) i j).getD t []) k) (lgd ((dv (y.2.1 4 r) i j).getD t []) k) = some z → vf_n64 (FP.dmul (fw (y.2.2.1 9 r) (wtv (gM y) (wM y) (hM y) r) i ((dv (y.2.1 4 r) i j).getD t []) k) z) := by
  subst eg
  intro t ht0 _ k hk z hz
  obtain ⟨L, e1, -, -⟩ := (FW_pos (t := t) G T hr hij hj ht0 P).2 (k + 1) hk
  have e3 : fw (y.2.2.1 9 r) (wtv (gM y) (wM y) (hM y) r) i ((dv (y.2.1 4 r) i j).getD t []) (k + 1) = FP.dmul (fw (y.2.2.1 9 r) (wtv (gM y) (wM y) (hM y) r) i ((dv (y.2.1 4 r) i j).getD t []) k) z := fwM_s hz
  rw [← e3]
  exact fp_S.n e1
theorem dm_pos {g : GT} {N : Nat} {ht : Nat → Nat} {y u : ST} {r i j : Nat} (eg : gM y = g) (G : GOk g) (T : Hts g ht) (hr : r < gR g) (hij : i < j) (hj : j < 15) (P : PosA g ht (wM y) (hM y) r i j) (hD : DIV y N r i j u) : Pos g ht (wM u) (hM u) r i j := by
  subst eg
  obtain ⟨w, h, -, -, d14, d10, -, hw, hh, -⟩ := hD
  intro hne
  have e1 : wM u r i j = w := by unfold wM; rw [d14, vup_eq]
  have e2 : hM u r i j = h := by unfold hM; rw [d10, vup_eq, vup_eq]
  rw [e1, hw] at hne
  rw [e2, hh]
  cases hb : BSm y N r i j (dv (y.2.1 4 r) i j).length with
  | none => exact absurd ((bs_none _).mp hb) hne
  | some b => exact (FW_pos G T hr hij hj (bs_lt _ b hb).1 P).1
theorem RM_tr {g : GT} {N : Nat} {ch : Nat → Nat} {x y : ST} {r a b : Nat} (h : wM y r a b = wM x r a b ∧ hM y r a b = hM x r a b) (hx : RMok g N ch x r a b) : RMok g N ch y r a b := ⟨h.1.trans hx.1, h.2.trans hx.2⟩
theorem inm_of {g : GT} {N : Nat} {ch : Nat → Nat} {x y : ST} {r i j : Nat} (hN : N ≤ 14) (hj : j ≤ N) (hz : gz g r ≤ 4) (hc : CHM g N ch x (j - i)) (hf : FM i j x y) (hs : ∀ c, chn g r = some c → GMok g N ch y c i j ∧ ∀ s, s < gR g → gl g s = c → RMok g N ch y s i j) : INm g N ch y r i j := by
  intro k hk a b h1 h2 h3 h4 c hcc
  by_cases e : a = i ∧ b = j
  · obtain ⟨rfl, rfl⟩ := e
    have hz1 : gz g r = 1 := by omega
    have hk0 : k = 0 := by omega
    subst hk0
    exact hs c (by unfold chn; rw [if_pos hz1]; exact hcc)
  · obtain ⟨q1, q2⟩ := hc a b h2 (by omega) (by omega)
    refine ⟨?_, fun s hs2 _ => ?_⟩
    · unfold GMok
      rw [(hf.2.2.2.2 c a b (by omega) (by omega) e).2.2]
      exact q2 c (nt_lt hcc)
    · have := hf.2.2.2.2 s a b (by omega) (by omega) e
      exact RM_tr ⟨this.1, this.2.1⟩ (q1 s hs2)
theorem posa_of {g : GT} {N : Nat} {ch : Nat → Nat} {x y : ST} {r i j : Nat} (G : GOk g) (A : Acy g) (hN : N ≤ 14) (hj : j ≤ N) (hc : CHM g N ch x (j - i)) (hf : FM i j x y) (hs : ∀ c, chn g r = some c → ∀ s, s < gR g → gl g s = c → Pos g (hgt g) (wM y) (hM y) s i j) : PosA g (hgt g) (wM y) (hM y) r i j := by
  intro k hk a b h1 h2 h3 h4 c hcc s hs2 hsl
  by_cases e : a = i ∧ b = j
  · obtain ⟨rfl, rfl⟩ := e
    have hz1 : gz g r = 1 := by omega
    have hk0 : k = 0 := by omega
    subst hk0
    exact hs c (by unfold chn; rw [if_pos hz1]; exact hcc) s hs2 hsl
  · obtain ⟨q1, -⟩ := hc a b h2 (by omega) (by omega)
    have h5 := hf.2.2.2.2 s a b (by omega) (by omega) e
    have h6 := q1 s hs2
    intro hne
    have e1 : wM y s a b = sW g N ch s a b := h5.1.trans h6.1
    have e2 : hM y s a b = sH g N ch s a b := h5.2.1.trans h6.2
    rw [e1] at hne
    rw [e2]
    exact sol_posA G (hts_of G A) hs2 h2 (by omega) hne
def LV (g : GT) (N : Nat) (ch : Nat → Nat) (y : ST) (i j t : Nat) : Prop := ∀ s, s < gR g → (chn g s = none ∨ hgt g (gl g s) < t) → RMok g N ch y s i j
def PI (g : GT) (y : ST) (i j : Nat) : Prop := ∀ s, s < gR g → Pos g (hgt g) (wM y) (hM y) s i j
def GL (g : GT) (N : Nat) (ch : Nat → Nat) (y : ST) (i j t : Nat) : Prop := ∀ c, c < 6 → hgt g c < t → GMok g N ch y c i j
def F1 (g : GT) (N : Nat) (ch : Nat → Nat) (y : ST) (i j r : Nat) : Prop := ∀ s, s < r → (chn g s = none → RMok g N ch y s i j) ∧ (chn g s ≠ none → wM y s i j = 0)
theorem sA14 (y : ST) (r i j v s : Nat) : wM (sA y 14 (r * 225 + (i * 15 + j)) v) s i j = (if s = r then v else wM y s i j) ∧ hM (sA y 14 (r * 225 + (i * 15 + j)) v) s i j = hM y s i j := by
  refine ⟨?_, rfl⟩
  unfold wM
  by_cases e : s = r
  · rw [if_pos e, e, sA_same]
  · rw [if_neg e, sA_at _ _ _ (idx_ne2 e)]
theorem f1_c {g : GT} {N : Nat} {ch : Nat → Nat} {y : ST} {i j r : Nat} (h : F1 g N ch y i j r) (hc : chn g r ≠ none) : F1 g N ch (sA y 14 (r * 225 + (i * 15 + j)) 0) i j (r + 1) := by
  intro s hs
  have h14 := sA14 y r i j 0 s
  by_cases e : s = r
  · subst e
    exact ⟨fun q => absurd q hc, fun _ => by rw [h14.1, if_pos rfl]⟩
  · rw [if_neg e] at h14
    obtain ⟨a, b⟩ := h s (by omega)
    exact ⟨fun q => RM_tr h14 (a q), fun q => h14.1.trans (b q)⟩
theorem f1_n {g : GT} {N : Nat} {ch : Nat → Nat} {y u : ST} {i j r : Nat} (h : F1 g N ch y i j r) (hd : DIV (sA y 14 (r * 225 + (i * 15 + j)) 0) N r i j u) (hc : chn g r = none) (hr : RMok g N ch u r i j) : F1 g N ch u i j (r + 1) := by
  intro s hs
  by_cases e : s = r
  · subst e
    exact ⟨fun _ => hr, fun q => absurd hc q⟩
  · have h14 := sA14 y r i j 0 s
    rw [if_neg e] at h14
    have hn := DIV_ne hd e
    have h2 : wM u s i j = wM y s i j ∧ hM u s i j = hM y s i j := ⟨hn.1.trans h14.1, hn.2.trans h14.2⟩
    obtain ⟨a, b⟩ := h s (by omega)
    exact ⟨fun q => RM_tr h2 (a q), fun q => h2.1.trans (b q)⟩
theorem lv_0 {g : GT} {N : Nat} {ch : Nat → Nat} {y : ST} {i j : Nat} (h : F1 g N ch y i j (gR g)) : LV g N ch y i j 0 := fun s hs q => (h s hs).1 (q.resolve_right (Nat.not_lt_zero _))
theorem pi_0 {g : GT} {N : Nat} {ch : Nat → Nat} {y : ST} {i j : Nat} (G : GOk g) (A : Acy g) (hij : i < j) (hj : j ≤ 14) (h : F1 g N ch y i j (gR g)) : PI g y i j := by
  intro s hs hne
  by_cases q : chn g s = none
  · obtain ⟨a, b⟩ := (h s hs).1 q
    rw [a] at hne
    rw [b]
    exact sol_posA G (hts_of G A) hs hij (by omega) hne
  · exact absurd ((h s hs).2 q) hne
theorem gl_s {g : GT} {N : Nat} {ch : Nat → Nat} {y : ST} {i j t n v : Nat} (h : ∀ c, c < n → hgt g c < t → GMok g N ch y c i j) (hl : LV g N ch y i j t) (hv : v = if gd g N ch n j (fun s => wM y s i j) = true then 1 else 0) : ∀ c, c < n + 1 → hgt g c < t → GMok g N ch (sA y 13 (n * 225 + (i * 15 + j)) v) c i j := by
  intro c hc ht
  unfold GMok
  by_cases e : c = n
  · subst e
    rw [sA_same, hv, gd_congr (fun s hs hgl => (hl s hs (Or.inr (by rw [hgl]; exact ht))).1)]
  · rw [sA_at _ _ _ (idx_ne2 e)]
    exact h c (by omega) ht
theorem s13 (y : ST) (q v s a b : Nat) : wM (sA y 13 q v) s a b = wM y s a b ∧ hM (sA y 13 q v) s a b = hM y s a b := by
  refine ⟨?_, rfl⟩
  unfold wM
  rw [sA_ne _ _ _ (by decide)]
theorem lv_13 {g : GT} {N : Nat} {ch : Nat → Nat} {y : ST} {i j t q v : Nat} (h : LV g N ch y i j t) : LV g N ch (sA y 13 q v) i j t := fun s hs hq => RM_tr (s13 y q v s i j) (h s hs hq)
theorem pi_13 {g : GT} {y : ST} {i j q v : Nat} (h : PI g y i j) : PI g (sA y 13 q v) i j := fun s hs => by
  have := s13 y q v s i j
  unfold Pos
  rw [this.1, this.2]
  exact h s hs
/-- a chain rule divided in a round -/
theorem rd_s {g : GT} {N : Nat} {ch : Nat → Nat} {x y u : ST} {i j r t : Nat} (eg : gM y = g) (ec : y.2.1 2 = ch) (G : GOk g) (A : Acy g) (hN : N ≤ 14) (hij : i < j) (hj : j ≤ N) (hr : r < gR g) (hcm : CHM g N ch x (j - i)) (hf : FM i j x y) (hl : LV g N ch y i j t) (hp : PI g y i j) (hg : GL g N ch y i j t) (hl2 : ∀ s, s < r → hgt g (gl g s) < t + 1 → RMok g N ch y s i j) (hc : (chn g r).isSome = true) (hd : DIV y N r i j u) : LV g N ch u i j t ∧ PI g u i j ∧ GL g N ch u i j t ∧ (∀ s, s < r + 1 → hgt g (gl g s) < t + 1 → RMok g N ch u s i j) := by
  have hT := hts_of G A
  obtain ⟨c, hcc⟩ := Option.isSome_iff_exists.mp hc
  have hz : gz g r = 1 ∧ nt (gs g r 0) = some c := by
    unfold chn at hcc
    split at hcc
    · exact ⟨by assumption, hcc⟩
    · cases hcc
  have hlt : hgt g c < hgt g (gl g r) := hT.2 r hr hz.1 c hz.2
  have hrr : hgt g (gl g r) < t + 1 → RMok g N ch u r i j := fun q => (dm_eq eg ec G hT (by omega) hr hij hj (inm_of hN hj (by omega) hcm hf (fun c' hc' => by
    rw [hcc] at hc'
    cases hc'
    exact ⟨hg c (nt_lt hz.2) (by omega), fun s hs hsl => hl s hs (Or.inr (by rw [hsl]; omega))⟩)) hd).1
  have hPA : PosA g (hgt g) (wM y) (hM y) r i j := posa_of G A hN hj hcm hf (fun c' _ s hs _ => hp s hs)
  refine ⟨fun s hs q => ?_, fun s hs => ?_, fun c' hc' hq => ?_, fun s hs q => ?_⟩
  · by_cases e : s = r
    · subst e
      rcases q with q | q
      · rw [hcc] at q; cases q
      · exact hrr (by omega)
    · exact RM_tr (DIV_ne hd e) (hl s hs q)
  · by_cases e : s = r
    · subst e
      exact dm_pos eg G hT hr hij (by omega) hPA hd
    · have := DIV_ne hd e
      unfold Pos
      rw [this.1, this.2]
      exact hp s hs
  · unfold GMok
    obtain ⟨_, _, _, d2, _⟩ := hd
    rw [d2 13 (by decide)]
    exact hg c' hc' hq
  · by_cases e : s = r
    · subst e
      exact hrr q
    · exact RM_tr (DIV_ne hd e) (hl2 s (by omega) q)
theorem rd_k {g : GT} {N : Nat} {ch : Nat → Nat} {y : ST} {i j r t : Nat} (hr : r < gR g) (hl : LV g N ch y i j t) (hl2 : ∀ s, s < r → hgt g (gl g s) < t + 1 → RMok g N ch y s i j) (hc : chn g r = none) : ∀ s, s < r + 1 → hgt g (gl g s) < t + 1 → RMok g N ch y s i j := by
  intro s hs q
  by_cases e : s = r
  · subst e; exact hl s hr (Or.inl hc)
  · exact hl2 s (by omega) q
theorem lv_n {g : GT} {N : Nat} {ch : Nat → Nat} {y : ST} {i j r t : Nat} (hr : gR g ≤ r) (hl : LV g N ch y i j t) (hl2 : ∀ s, s < r → hgt g (gl g s) < t + 1 → RMok g N ch y s i j) : LV g N ch y i j (t + 1) := fun s hs q => by
  rcases q with q | q
  · exact hl s hs (Or.inl q)
  · exact hl2 s (by omega) q
theorem hgt_5 {g : GT} (G : GOk g) (A : Acy g) (n : Nat) : hgt g n < 6 := by
  have := (hts_of G A).1 n
  omega
theorem chn_f {g : GT} {r : Nat} (h : ¬ (chn g r).isSome = true) : chn g r = none := by
  cases hq : chn g r with
  | none => rfl
  | some c => rw [hq] at h; exact absurd rfl h
theorem chn_t {g : GT} {r : Nat} (h : (chn g r).isSome = true) : chn g r ≠ none := by
  intro q
  rw [q] at h
  cases h
theorem u14 {y : ST} {q0 v : Nat} (hu : ∀ q, y.2.1 14 q ≤ 1000000000) (hv : v ≤ 1000000000) : ∀ q, (sA y 14 q0 v).2.1 14 q ≤ 1000000000 := by
  intro q
  show va_up y.2.1 14 (va_up (y.2.1 14) q0 v) 14 q ≤ _
  rw [vup_eq, vup_if]
  split
  · exact hv
  · exact hu q
theorem u13 {y : ST} {q0 v : Nat} (hu : ∀ q, y.2.1 14 q ≤ 1000000000) : ∀ q, (sA y 13 q0 v).2.1 14 q ≤ 1000000000 := by
  intro q
  rw [sA_ne _ _ _ (by decide)]
  exact hu q

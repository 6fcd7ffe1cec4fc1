/-! the reference's parse -/
def FN (x y : ST) : Prop := y.1 = x.1 ∧ (∀ k, k ∉ [7, 8, 13, 14] → y.2.1 k = x.2.1 k) ∧ (∀ k, k ≠ 10 → y.2.2.1 k = x.2.2.1 k) ∧ y.2.2.2 = x.2.2.2
theorem FN.rf (x : ST) : FN x x := ⟨rfl, fun _ _ => rfl, fun _ _ => rfl, rfl⟩
theorem FN.tr {x y z : ST} {i j : Nat} (h : FN x y) (h2 : FM i j y z) : FN x z := ⟨h2.1.trans h.1, fun k hk => (h2.2.1 k hk).trans (h.2.1 k hk), fun k hk => (h2.2.2.1 k hk).trans (h.2.2.1 k hk), h2.2.2.2.1.trans h.2.2.2⟩
theorem FN.gM {x y : ST} (h : FN x y) : gM y = gM x := gM_same (by rw [h.1]) (h.2.2.1 9 (by decide)) (fun k hk => h.2.1 k (fun q => by
  simp only [List.mem_cons, List.not_mem_nil, or_false] at hk q
  omega))
theorem cm_up {g : GT} {N : Nat} {ch : Nat → Nat} {y : ST} {d i : Nat} (hc : CHM g N ch y d) (hi : ∀ a, a < i → a + d ≤ N → (∀ r, r < gR g → RMok g N ch y r a (a + d)) ∧ (∀ c, c < 6 → GMok g N ch y c a (a + d))) (hN : N < i + d) : CHM g N ch y (d + 1) := by
  intro a b h1 h2 h3
  rcases (show b - a < d ∨ b - a = d by omega) with q | q
  · exact hc a b h1 h2 q
  · have e : b = a + d := by omega
    subst e
    exact hi a (by omega) h2
theorem cm_fr {g : GT} {N : Nat} {ch : Nat → Nat} {y u : ST} {d i : Nat} (hN : N ≤ 14) (hd : 1 ≤ d) (hi : i + d ≤ N) (hc : CHM g N ch y d) (hf : FM i (i + d) y u) : CHM g N ch u d := by
  intro a b h1 h2 h3
  obtain ⟨q1, q2⟩ := hc a b h1 h2 h3
  have hne : ¬ (a = i ∧ b = i + d) := by omega
  refine ⟨fun r hr => ?_, fun c hcc => ?_⟩
  · have := hf.2.2.2.2 r a b (by omega) (by omega) hne
    exact RM_tr ⟨this.1, this.2.1⟩ (q1 r hr)
  · unfold GMok
    rw [(hf.2.2.2.2 c a b (by omega) (by omega) hne).2.2]
    exact q2 c hcc
theorem cm_in {g : GT} {N : Nat} {ch : Nat → Nat} {y u : ST} {d i : Nat} (hN : N ≤ 14) (hd : 1 ≤ d) (hiN : i + d ≤ N) (hi : ∀ a, a < i → a + d ≤ N → (∀ r, r < gR g → RMok g N ch y r a (a + d)) ∧ (∀ c, c < 6 → GMok g N ch y c a (a + d))) (hf : FM i (i + d) y u) (hr : ∀ r, r < gR g → RMok g N ch u r i (i + d)) (hk : ∀ c, c < 6 → GMok g N ch u c i (i + d)) : ∀ a, a < i + 1 → a + d ≤ N → (∀ r, r < gR g → RMok g N ch u r a (a + d)) ∧ (∀ c, c < 6 → GMok g N ch u c a (a + d)) := by
  intro a ha hN2
  by_cases e : a = i
  · subst e
    exact ⟨hr, hk⟩
  · obtain ⟨q1, q2⟩ := hi a (by omega) hN2
    have hne : ¬ (a = i ∧ a + d = i + d) := by omega
    refine ⟨fun r hr2 => ?_, fun c hcc => ?_⟩
    · have := hf.2.2.2.2 r a (a + d) (by omega) (by omega) hne
      exact RM_tr ⟨this.1, this.2.1⟩ (q1 r hr2)
    · unfold GMok
      rw [(hf.2.2.2.2 c a (a + d) (by omega) (by omega) hne).2.2]
      exact q2 c hcc
def PM0 (x u : ST) : Prop := WF u ∧ (∀ q, u.2.1 14 q ≤ 1000000000) ∧ u.1 0 = x.1 0 ∧ u.1 1 = 0 ∧ u.1 2 = x.1 2 ∧ u.1 3 = x.1 1 ∧ u.1 6 = 1 ∧ (∀ k, k ∉ [2, 7, 8, 13, 14, 15, 16, 17, 18, 19, 20] → u.2.1 k = x.2.1 k) ∧ (∀ k, k ≠ 10 → u.2.2.1 k = x.2.2.1 k) ∧ (∀ q, q < x.1 1 → u.2.1 2 q = x.2.1 1 q) ∧ CHM (gM x) (x.1 1) (u.2.1 2) u 15
def PM1 (x u : ST) (n : Nat) : Prop := ∃ r, tp (gM x) n (fun _ => true) (fun s => sW (gM x) (x.1 1) (u.2.1 2) s 0 (x.1 1)) (fun s => sH (gM x) (x.1 1) (u.2.1 2) s 0 (x.1 1)) (gR (gM x)) = some r ∧ u.2.2.2 = sH (gM x) (x.1 1) (u.2.1 2) r 0 (x.1 1) ∧ ∃ m, (tst (kids (gM x) (x.1 1) (u.2.1 2)) (r, 0, x.1 1) m).2 = [] ∧ MTL u (tst (kids (gM x) (x.1 1) (u.2.1 2)) (r, 0, x.1 1) m).1
/-- the state when the chart is filled, and the flags set -/
def PX (x c u : ST) (th fo : Nat) : Prop := WF u ∧ (∀ q, u.2.1 14 q ≤ 1000000000) ∧ u.1 0 = x.1 0 ∧ u.1 1 = 0 ∧ u.1 2 = x.1 2 ∧ u.1 3 = x.1 1 ∧ u.1 6 = 1 ∧ u.1 7 = fo ∧ u.1 5 = th ∧ (∀ k, k ∉ [2, 7, 8, 13, 14, 15, 16, 17, 18, 19, 20] → u.2.1 k = x.2.1 k) ∧ (∀ k, k ≠ 10 → u.2.2.1 k = x.2.2.1 k) ∧ u.2.1 2 = c.2.1 2 ∧ CHM (gM x) (x.1 1) (c.2.1 2) u 15
theorem px_0 {x c y : ST} (hw : WF y) (hu : ∀ q, y.2.1 14 q ≤ 1000000000) (hc : Only [2] (sS (sS x 5 0) 3 (x.1 1)) c) (hf : FN (sS c 1 0) y) (hcm : CHM (gM x) (x.1 1) (c.2.1 2) y 15) : PX x c (sS (sS y 6 1) 7 0) 0 0 := by
  have e1 : ∀ k, y.1 k = (sS c 1 0).1 k := fun k => by rw [hf.1]
  have e2 : ∀ k, c.1 k = (sS (sS x 5 0) 3 (x.1 1)).1 k := fun k => by rw [hc.1]
  refine ⟨(hw.sS _ (by decide)).sS _ (by decide), hu, ?_, ?_, ?_, ?_, rfl, rfl, ?_, fun k hk => ?_, fun k hk => ?_, hf.2.1 2 (by decide), hcm⟩
  · show y.1 0 = _
    rw [e1]; show c.1 0 = _
    rw [e2]; rfl
  · show y.1 1 = _
    rw [e1]; rfl
  · show y.1 2 = _
    rw [e1]; show c.1 2 = _
    rw [e2]; rfl
  · show y.1 3 = _
    rw [e1]; show c.1 3 = _
    rw [e2]; rfl
  · show y.1 5 = _
    rw [e1]; show c.1 5 = _
    rw [e2]; rfl
  · simp only [List.mem_cons, List.not_mem_nil, or_false, not_or] at hk
    show y.2.1 k = _
    rw [hf.2.1 k (by simp only [List.mem_cons, List.not_mem_nil, or_false]; omega)]
    exact hc.2.2 k (by simp only [List.mem_cons, List.not_mem_nil, or_false]; omega)
  · show y.2.2.1 k = _
    rw [hf.2.2.1 k hk]
    show c.2.2.1 k = _
    rw [hc.2.1]; rfl
theorem px_m {x c u : ST} {th fo : Nat} (h : PX x c u th fo) (hc : ∀ q, q < x.1 1 → c.2.1 2 q = x.2.1 1 q) : PM0 x u := by
  obtain ⟨a1, a2, a3, a4, a5, a6, a7, a8, a9, b1, b2, b3, b4⟩ := h
  refine ⟨a1, a2, a3, a4, a5, a6, a7, b1, b2, by rw [b3]; exact hc, by rw [b3]; exact b4⟩
theorem px_s {x c u : ST} {th fo th2 : Nat} (h : PX x c u th fo) (ht : th2 < 4294967296) : PX x c (sS u 5 th2) th2 fo := by
  obtain ⟨a1, a2, a3, a4, a5, a6, a7, a8, a9, b1, b2, b3, b4⟩ := h
  exact ⟨a1.sS 5 ht, a2, a3, a4, a5, a6, a7, a8, rfl, b1, b2, b3, b4⟩
theorem px_f {x c u : ST} {th fo : Nat} (h : PX x c u th fo) : PX x c (sS u 7 1) th 1 := by
  obtain ⟨a1, a2, a3, a4, a5, a6, a7, a8, a9, b1, b2, b3, b4⟩ := h
  exact ⟨a1.sS 7 (by decide), a2, a3, a4, a5, a6, a7, rfl, a9, b1, b2, b3, b4⟩
theorem px_g {x c u v : ST} {th fo : Nat} (h : PX x c u th fo) (hf : GF u v) (hw : WF v) (hu : ∀ q, v.2.1 14 q ≤ 1000000000) (hc : CHM (gM x) (x.1 1) (c.2.1 2) v 15) : PX x c v th fo := by
  obtain ⟨a1, a2, a3, a4, a5, a6, a7, a8, a9, b1, b2, b3, b4⟩ := h
  refine ⟨hw, hu, (hf.1 0 (by decide)).trans a3, (hf.1 1 (by decide)).trans a4, (hf.1 2 (by decide)).trans a5, (hf.1 3 (by decide)).trans a6, (hf.1 6 (by decide)).trans a7, (hf.1 7 (by decide)).trans a8, (hf.1 5 (by decide)).trans a9, fun k hk => ?_, fun k hk => (hf.2.2 k hk).trans (b2 k hk), (hf.2.1 2 (by decide)).trans b3, hc⟩
  simp only [List.mem_cons, List.not_mem_nil, or_false, not_or] at hk
  exact (hf.2.1 k (by simp only [List.mem_cons, List.not_mem_nil, or_false]; omega)).trans (b1 k (by simp only [List.mem_cons, List.not_mem_nil, or_false]; omega))
theorem px_gM {x c u : ST} {th fo : Nat} (h : PX x c u th fo) : gM u = gM x := by
  obtain ⟨a1, a2, a3, a4, a5, a6, a7, a8, a9, b1, b2, b3, b4⟩ := h
  exact gM_same a3 (b2 9 (by decide)) (fun k hk => b1 k (fun q => by
    simp only [List.mem_cons, List.not_mem_nil, or_false] at hk q
    omega))
theorem gd_N {g : GT} {N : Nat} {ch : Nat → Nat} {n : Nat} {w : Nat → Nat} : gd g N ch n N w = nrej g n w (gR g) := by
  unfold gd
  rw [decide_eq_true rfl]
  simp

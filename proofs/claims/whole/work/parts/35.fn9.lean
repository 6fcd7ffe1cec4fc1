theorem fp_neg {x : UInt64} {L : Int} (h : fp_E x L) : FP.dcmp 0 x = some .lt := by
  obtain ⟨c, q, h, h1, h2, h3⟩ := h
  show FP.Core.order (FP.Core.decode FP.Core.b64 (0 : UInt64).toNat) (FP.Core.decode FP.Core.b64 x.toNat) = some .lt
  have h0 : FP.Core.decode FP.Core.b64 (0 : UInt64).toNat = .fin false 0 (-1074) := by decide
  rw [h, h0]
  unfold FP.Core.order FP.Core.signed FP.Core.inUnits
  dsimp only
  rw [fp_cmpI]
  have hp : 0 < c * 2 ^ (q - min (-1074) q).toNat := Nat.mul_pos (by omega) (Nat.pow_pos (by decide))
  simp only [Bool.false_eq_true, if_false]
  rw [if_pos (by omega)]
theorem dgt_00 : dgt 0 0 = false := by decide
theorem sol_zero {g : GT} {N : Nat} {ch : Nat → Nat} {ht : Nat → Nat} (G : GOk g) (T : Hts g ht) {r i j : Nat} (hr : r < gR g) (hij : i < j) (hj : j < 15) (h : sW g N ch r i j = 0) : sH g N ch r i j = 0 := by
  obtain ⟨e1, e2⟩ := sol_ok (N := N) (ch := ch) G T hr hij hj
  rw [e2]
  rw [e1] at h
  unfold HEAVY
  have : BEST g N ch (sW g N ch) (sH g N ch) r i j = none := (bs_none _).mpr h
  rw [this]
theorem wanB_cn {g : GT} {n r k : Nat} {gb : Bool} {f w : Nat → Nat} (hf : ∀ s, s < gR g → gl g s = n → f s = w s) : ∀ m, wanB (selU g n gb r k) f m = if gb = true then cn g n (alw g r k) w (min m (gR g)) else 0
  | 0 => by
    simp only [wanB, Nat.zero_min]
    split <;> rfl
  | m + 1 => by
    have ih := wanB_cn (r := r) (k := k) (gb := gb) hf m
    simp only [wanB]
    cases gb with
    | false =>
      have e : selU g n false r k m = false := by unfold selU; simp
      rw [e, ih]
      simp
    | true =>
      rw [if_pos rfl] at ih ⊢
      by_cases hm : m < gR g
      · rw [show min (m + 1) (gR g) = m + 1 by omega]
        rw [show min m (gR g) = m by omega] at ih
        have e : selU g n true r k m = inN g n (alw g r k) m := by unfold selU; simp [hm]
        rw [e, ih]
        simp only [cn, MX]
        by_cases hi : inN g n (alw g r k) m = true
        · have hl : gl g m = n := by
            simp only [inN, Bool.and_eq_true, decide_eq_true_eq] at hi
            exact hi.1.1
          rw [if_pos hi, if_pos hi, hf m hm hl]
        · rw [if_neg hi, if_neg hi]
      · have e : selU g n true r k m = false := by unfold selU; simp [hm]
        rw [e, show min (m + 1) (gR g) = gR g by omega]
        rw [show min m (gR g) = gR g by omega] at ih
        rw [if_neg (by decide), ih]
def hot (o : Option Nat) (h : Nat → UInt64) : Nat × UInt64 := match o with
  | none => (4294967295, 0)
  | some b => (b, h b)
theorem hofB_tp {g : GT} {n r k : Nat} {gb : Bool} {f h : Nat → UInt64} {w : Nat → Nat} (hf : ∀ s, s < gR g → gl g s = n → f s = h s) (hz : ∀ s, s < gR g → gl g s = n → w s = 0 → h s = 0) (hp : ∀ s, s < gR g → gl g s = n → w s ≠ 0 → ∃ L : Int, fp_E (h s) L) : ∀ m, hofB (selU g n gb r k) f m = hot (if gb = true then tp g n (alw g r k) w h (min m (gR g)) else none) h
  | 0 => by
    simp only [hofB, Nat.zero_min]
    split <;> rfl
  | m + 1 => by
    have ih := hofB_tp (r := r) (k := k) (gb := gb) hf hz hp m
    simp only [hofB]
    cases gb with
    | false =>
      have e : selU g n false r k m = false := by unfold selU; simp
      rw [if_neg (by rw [e]; simp), ih]
      rfl
    | true =>
      rw [if_pos rfl] at ih ⊢
      by_cases hm : m < gR g
      · rw [show min (m + 1) (gR g) = m + 1 by omega]
        rw [show min m (gR g) = m by omega] at ih
        have e : selU g n true r k m = inN g n (alw g r k) m := by unfold selU; simp [hm]
        rw [e, ih]
        by_cases hi : inN g n (alw g r k) m = true
        · have hl : gl g m = n := by
            simp only [inN, Bool.and_eq_true, decide_eq_true_eq] at hi
            exact hi.1.1
          rw [hf m hm hl]
          by_cases hw : w m = 0
          · have et : tp g n (alw g r k) w h (m + 1) = tp g n (alw g r k) w h m := by
              simp only [tp]
              rw [if_neg (fun q => q.2 hw)]
            rw [et, hz m hm hl hw]
            refine if_neg (fun q => ?_)
            cases ht : tp g n (alw g r k) w h m with
            | none => rw [ht] at q; exact absurd q.2 (by rw [show (hot none h).2 = 0 from rfl, dgt_00]; decide)
            | some b =>
              rw [ht] at q
              obtain ⟨b1, b2, b3⟩ := tp_some ht
              obtain ⟨L, hL⟩ := hp b (by omega) b2 b3
              exact absurd q.2 (by rw [show (hot (some b) h).2 = h b from rfl, dgt_lt (fp_neg hL)]; decide)
          · obtain ⟨L, hL⟩ := hp m hm hl hw
            cases ht : tp g n (alw g r k) w h m with
            | none =>
              have et : tp g n (alw g r k) w h (m + 1) = some m := by
                simp only [tp]
                rw [if_pos ⟨hi, hw⟩, ht]
              rw [et]
              exact if_pos ⟨hi, dgt_of (fp_pos hL)⟩
            | some b =>
              by_cases hg : dgt (h m) (h b) = true
              · have et : tp g n (alw g r k) w h (m + 1) = some m := by
                  simp only [tp]
                  rw [if_pos ⟨hi, hw⟩, ht]
                  exact if_pos hg
                rw [et]
                exact if_pos ⟨hi, hg⟩
              · have et : tp g n (alw g r k) w h (m + 1) = some b := by
                  simp only [tp]
                  rw [if_pos ⟨hi, hw⟩, ht]
                  exact if_neg hg
                rw [et]
                exact if_neg (fun q => hg q.2)
        · have et : tp g n (alw g r k) w h (m + 1) = tp g n (alw g r k) w h m := by
            simp only [tp]
            rw [if_neg (fun q => hi q.1)]
          rw [et]
          exact if_neg (fun q => hi q.1)
      · have e : selU g n true r k m = false := by unfold selU; simp [hm]
        rw [show min (m + 1) (gR g) = gR g by omega]
        rw [show min m (gR g) = gR g by omega] at ih
        rw [if_neg (by rw [e]; simp), ih]
theorem hot_1 (o : Option Nat) (h : Nat → UInt64) : (hot o h).1 = oN o := by cases o <;> rfl
/-- what settleNonterminal writes is the solution's -/
theorem sn_ok {N : Nat} {ch : Nat → Nat} {ht : Nat → Nat} {y : ST} {n i j : Nat} {gb : Bool} (G : GOk (gP y)) (T : Hts (gP y) ht) (hN : N < 15) (hij : i < j) (hj : j ≤ N) (hR : ∀ s, s < gR (gP y) → gl (gP y) s = n → ROK (gP y) N ch y s i j) (hg : gb = gd (gP y) N ch n j (fun s => sW (gP y) N ch s i j)) {r k : Nat} (hc : nt (gs (gP y) r k) = some n) :
    wanB (selU (gP y) n gb r k) (fun s => y.2.1 12 (s * 105 + spn i j)) 16 = syv (gP y) N ch (sW (gP y) N ch) r k i j ∧ (hofB (selU (gP y) n gb r k) (fun s => y.2.2.1 13 (s * 105 + spn i j)) 16).1 = oN (tpg (gP y) N ch r k i j) := by
  have h16 : min 16 (gR (gP y)) = gR (gP y) := by have := G.1; omega
  constructor
  · rw [wanB_cn (w := fun s => sW (gP y) N ch s i j) (fun s hs hl => (hR s hs hl).1) 16, h16, hg]
    unfold syv
    rw [hc]
  · rw [hofB_tp (h := fun s => sH (gP y) N ch s i j) (w := fun s => sW (gP y) N ch s i j) (fun s hs hl => (hR s hs hl).2.1) (fun s hs hl hz => sol_zero G T hs hij (by omega) hz) (fun s hs hl hz => by
      obtain ⟨L, h1, -⟩ := sol_posA (N := N) (ch := ch) G T hs hij (show j < 15 by omega) hz
      exact ⟨L, h1⟩) 16, h16, hot_1, hg]
    unfold tpg
    rw [hc]
theorem nrej_wan {g : GT} {n : Nat} {f w : Nat → Nat} (hf : ∀ s, s < gR g → gl g s = n → f s = w s) (hR : gR g ≤ 16) : (wan (rmk g n 1 (gR g)) f 16 = 0) ↔ nrej g n w (gR g) = true := by
  have h1 : ∀ m, (wan (rmk g n 1 (gR g)) f m = 0) ↔ nrej g n w (min m (gR g)) = true := by
    intro m
    induction m with
    | zero => simp [wan, nrej]
    | succ m ih =>
      simp only [wan]
      rw [rmk_bit]
      by_cases hm : m < gR g
      · rw [show min (m + 1) (gR g) = m + 1 by omega]
        rw [show min m (gR g) = m by omega] at ih
        simp only [nrej, Bool.and_eq_true]
        by_cases hc : gl g m = n ∧ gm g m = 1
        · rw [if_pos (by simp [hm, hc.1, hc.2]), ← ih, hf m hm hc.1]
          simp only [hc.1, hc.2, true_and, ne_eq, decide_not, Bool.not_not, decide_eq_true_eq]
          omega
        · rw [if_neg (by simp only [decide_eq_true_eq]; rintro ⟨-, a, b⟩; apply hc; refine ⟨a, ?_⟩; by_cases q : gm g m = 1; exact q; rw [if_neg q] at b; cases b), ← ih]
          have : decide (gl g m = n ∧ gm g m = 1 ∧ w m ≠ 0) = false := decide_eq_false (fun q => hc ⟨q.1, q.2.1⟩)
          rw [this]
          simp
      · rw [show min (m + 1) (gR g) = gR g by omega]
        rw [show min m (gR g) = gR g by omega] at ih
        rw [if_neg (by simp [hm]), ih]
  have := h1 16
  rw [show min 16 (gR g) = gR g by omega] at this
  exact this

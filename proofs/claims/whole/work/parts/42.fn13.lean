/-! THE CLASS'S PUBLIC METHODS: rows and pure parts -/
section SWI
variable {K : KX} {cc : ByteArray} {own : String} {tys : List (ClassId × FieldType)} {ws : va_W} {L : List (Option Value)} {pc lv : Nat} {S : List Value}
theorem a_tsw {a n : Nat} {dflt hi : Int} {offs : Array Int} {len tgtD : Nat} (tg : Nat → Nat) (C : CT K cc own tys lv) (d : decode cc pc = .ok (.tableswitch dflt 0 hi offs, len)) (ha : a < 4294967296) (hn : (n : Int) = hi + 1) (hn2 : n ≤ 100) (hd : (pc : Int) + dflt = (tgtD : Int)) (ht : ∀ k, k < n → offs[k]? = some ((tg k : Int) - (pc : Int))) (kin : a < n → WA K ws L (tg a) S) (kout : n ≤ a → WA K ws L tgtD S) : WA K ws L pc (.int (nI a) :: S) := fun H locs ls hP hD hS hl => by
  by_cases h : a < n
  · have e : (nI a).toInt = (a : Int) := by rw [nI_int ha, if_pos (by omega)]
    exact lv_tableIn C.1 C.2.1 d (by rw [e]; omega) (by rw [e]; omega) (by rw [e, show ((a : Int) - 0).toNat = a by omega]; exact ht a h) (show (pc : Int) + ((tg a : Int) - (pc : Int)) = (tg a : Int) by omega) (kin h H locs ls hP hD hS hl)
  · refine lv_tableOut C.1 C.2.1 d ?_ hd (kout (by omega) H locs ls hP hD hS hl)
    rw [nI_int ha]
    split
    · right; omega
    · left; omega
theorem a_cltB {a b tgt : Nat} {off : Int} (C : CT K cc own tys lv) (d : decode cc pc = .ok (.if_icmp .lt off, 3)) (ht : (pc : Int) + off = (tgt : Int)) (ha : a < 2147483648) (hb : b < 4294967296) (kt : a < b ∧ b < 2147483648 → WA K ws L tgt S) (kf : b ≤ a ∨ 2147483648 ≤ b → WA K ws L (pc + 3) S) : WA K ws L pc (.int (nI b) :: .int (nI a) :: S) := fun H locs ls hP hD hS hl => by
  have e : nI a < nI b ↔ (a < b ∧ b < 2147483648) := by
    rw [Int32.lt_iff_toInt_lt, nI_int (by omega), nI_int hb, if_pos ha]
    split <;> omega
  exact lv_icmp_lt C.1 C.2.1 d ht (fun h => kt (e.mp h) H locs ls hP hD hS hl) (fun h => kf (by have h2 : ¬ (a < b ∧ b < 2147483648) := fun q => h (e.mpr q); omega) H locs ls hP hD hS hl)
theorem us_amt : ∀ b, b < 64 → ((nI b).toInt64.toUInt64 &&& Int64.toUInt64 63) = UInt64.ofNat b := by decide +kernel
theorem lN_ushr {a b : Nat} (hb : b < 64) (ha : a < 18446744073709551616) : ((lN a).toUInt64 >>> ((nI b).toInt64.toUInt64 &&& Int64.toUInt64 63)).toInt64 = lN (a / 2 ^ b) := by
  rw [us_amt b hb]
  have h1 : UInt64.ofNat a >>> UInt64.ofNat b = UInt64.ofNat (a / 2 ^ b) := by
    apply UInt64.toNat_inj.mp
    have hd : a / 2 ^ b ≤ a := Nat.div_le_self _ _
    rw [UInt64.toNat_shiftRight, UInt64.toNat_ofNat', UInt64.toNat_ofNat', UInt64.toNat_ofNat', Nat.mod_eq_of_lt (show a < 2 ^ 64 by omega), Nat.mod_eq_of_lt (show b < 2 ^ 64 by omega), Nat.mod_eq_of_lt hb, Nat.shiftRight_eq_div_pow, Nat.mod_eq_of_lt (show a / 2 ^ b < 2 ^ 64 by omega)]
  have h2 : (lN a).toUInt64 = UInt64.ofNat a := rfl
  rw [h2, h1]
  rfl
theorem a_lushr {a b : Nat} (C : CT K cc own tys lv) (d : decode cc pc = .ok (.lushr, 1)) (h : b < 64) (ha : a < 18446744073709551616) (k : WA K ws L (pc + 1) (.long (lN (a / 2 ^ b)) :: S)) : WA K ws L pc (.int (nI b) :: .long (lN a) :: S) := fun H locs ls hP hD hS hl => lv_lushr C.1 C.2.1 d (lN_ushr h ha) (k H locs ls hP hD hS hl)
end SWI
-- type
def shv (t : Nat) : Nat := if t < 8 then 56 - 8 * t else 4294967288
theorem shv_inc : ∀ t, t < 8 → nI (shv t) + Int32.ofInt (-8) = nI (shv (t + 1)) := by decide +kernel
theorem shv_neg {t : Nat} (ht : t ≤ 8) (h : 2147483648 ≤ shv t) : t = 8 := by
  unfold shv at h
  split at h <;> omega
theorem shv_pos {t : Nat} (h : shv t < 2147483648) : t < 8 ∧ shv t = 56 - 8 * t := by
  unfold shv at h ⊢
  split at h
  · rename_i q; exact ⟨q, if_pos q⟩
  · omega
theorem shv_32 (t : Nat) : shv t < 4294967296 := by unfold shv; split <;> omega
def byt (e t : Nat) : Nat := (e / 2 ^ (56 - 8 * t)) &&& 255
theorem byt_lt (e t : Nat) : byt e t < 256 := Nat.lt_of_le_of_lt Nat.and_le_right (by decide)
def tcn (e : Nat) : Nat → Nat
  | 0 => 0
  | t + 1 => tcn e t + (if byt e t = 0 then 0 else 1)
def tok (e : Nat) : Nat → Bool
  | 0 => true
  | t + 1 => tok e t && (decide (byt e t = 0) || decide (33 ≤ byt e t ∧ byt e t ≤ 126))
theorem tcn_mono (e : Nat) : ∀ d t, tcn e t ≤ tcn e (t + d)
  | 0, t => Nat.le_refl _
  | d + 1, t => Nat.le_trans (tcn_mono e d t) (by rw [← Nat.add_assoc]; simp only [tcn]; omega)
theorem tcn_le (e : Nat) : ∀ t, tcn e t ≤ t
  | 0 => Nat.le_refl _
  | t + 1 => by have := tcn_le e t; simp only [tcn]; split <;> omega
theorem tok_down (e : Nat) : ∀ d t, tok e t = false → tok e (t + d) = false
  | 0, _, h => h
  | d + 1, t, h => by rw [← Nat.add_assoc]; simp only [tok]; rw [tok_down e d t h]; rfl
theorem tok_bad {e t : Nat} (ht : t < 8) (h0 : byt e t ≠ 0) (h1 : ¬ (33 ≤ byt e t ∧ byt e t ≤ 126)) : tok e 8 = false := by
  have h : tok e (t + 1) = false := by
    simp only [tok]
    rw [decide_eq_false h0, decide_eq_false h1]
    simp
  have := tok_down e (8 - (t + 1)) (t + 1) h
  rwa [show t + 1 + (8 - (t + 1)) = 8 by omega] at this
theorem tok_0 {e t : Nat} (h : tok e t = true) (h0 : byt e t = 0) : tok e (t + 1) = true := by
  simp only [tok]
  rw [h, decide_eq_true h0]
  rfl
theorem tok_1 {e t : Nat} (h : tok e t = true) (h0 : 33 ≤ byt e t ∧ byt e t ≤ 126) : tok e (t + 1) = true := by
  simp only [tok]
  rw [h, decide_eq_true h0]
  simp
theorem tcn_0 {e t : Nat} (h0 : byt e t = 0) : tcn e (t + 1) = tcn e t := by
  simp only [tcn]
  rw [if_pos h0]
  rfl
theorem tcn_1 {e t : Nat} (h0 : byt e t ≠ 0) : tcn e (t + 1) = tcn e t + 1 := by
  simp only [tcn]
  rw [if_neg h0]
/-- the class's text, and what is put behind it -/
def apS (e : Nat) (x : ST) : Nat → ST
  | 0 => x
  | t + 1 => if byt e t = 0 then apS e x t else sS (sA (apS e x t) 2 ((apS e x t).1 2) (byt e t)) 2 ((apS e x t).1 2 + 1)
theorem apS_0 {e t : Nat} {x : ST} (h : byt e t = 0) : apS e x (t + 1) = apS e x t := by
  simp only [apS]
  rw [if_pos h]
theorem apS_1 {e t : Nat} {x : ST} (h : byt e t ≠ 0) : apS e x (t + 1) = sS (sA (apS e x t) 2 ((apS e x t).1 2) (byt e t)) 2 ((apS e x t).1 2 + 1) := by
  simp only [apS]
  rw [if_neg h]
theorem apS_len (e : Nat) (x : ST) : ∀ t, (apS e x t).1 2 = x.1 2 + tcn e t
  | 0 => rfl
  | t + 1 => by
    have ih := apS_len e x t
    by_cases h : byt e t = 0
    · rw [apS_0 h, tcn_0 h, ih]
    · rw [apS_1 h, tcn_1 h]
      rw [show (sS (sA (apS e x t) 2 ((apS e x t).1 2) (byt e t)) 2 ((apS e x t).1 2 + 1)).1 2 = (apS e x t).1 2 + 1 from vup_eq (sA (apS e x t) 2 ((apS e x t).1 2) (byt e t)).1 2 ((apS e x t).1 2 + 1), ih]
      rfl
theorem apS_room {e t : Nat} {x : ST} (ht : t < 8) (h0 : byt e t ≠ 0) (h : x.1 2 + tcn e 8 ≤ 14) : (apS e x t).1 2 < 14 := by
  rw [apS_len]
  have := tcn_mono e (8 - (t + 1)) (t + 1)
  rw [show t + 1 + (8 - (t + 1)) = 8 by omega, tcn_1 h0] at this
  omega
-- rule
def rokB (w : UInt64) : Bool := (match FP.dcmp w 4593671619917905920 with | some .gt => true | some .eq => true | _ => false) && (match FP.dcmp w 4620693217682128896 with | some .lt => true | some .eq => true | _ => false)
def fstBad (c : Nat → Nat) : Nat → Option Nat
  | 0 => none
  | p + 1 => match fstBad c p with
    | some q => some q
    | none => if fitsB p (c p) = true then none else some p
def wpf (N : Nat) (c : Nat → Nat) : Nat := match fstBad c N with
  | some q => q
  | none => if N < 3 then N else 4294967295
theorem fb_none {c : Nat → Nat} : ∀ N, (∀ q, q < N → fitsB q (c q) = true) → fstBad c N = none
  | 0, _ => rfl
  | N + 1, h => by
    simp only [fstBad]
    rw [fb_none N (fun q hq => h q (by omega))]
    exact if_pos (h N (by omega))
theorem fb_some {c : Nat → Nat} {p : Nat} (hb : fitsB p (c p) = false) (h : ∀ q, q < p → fitsB q (c q) = true) : ∀ d, fstBad c (p + 1 + d) = some p
  | 0 => by
    simp only [Nat.add_zero, fstBad]
    rw [fb_none p h]
    exact if_neg (by rw [hb]; decide)
  | d + 1 => by
    rw [← Nat.add_assoc]
    simp only [fstBad]
    rw [fb_some hb h d]
theorem wpf_of {N rr : Nat} {c : Nat → Nat} (h : (∃ p, p < N ∧ rr = p ∧ fitsB p (c p) = false ∧ ∀ q, q < p → fitsB q (c q) = true) ∨ ((∀ q, q < N → fitsB q (c q) = true) ∧ rr = if N < 3 then N else 4294967295)) : rr = wpf N c := by
  rcases h with ⟨p, h1, h2, h3, h4⟩ | ⟨h1, h2⟩
  · have := fb_some h3 h4 (N - (p + 1))
    rw [show p + 1 + (N - (p + 1)) = N by omega] at this
    unfold wpf
    rw [this]
    exact h2
  · unfold wpf
    rw [fb_none N h1]
    exact h2
def FG (u : ST) : ST := sS (sT (sS u 1 0) 0) 4 0
def ADD (x : ST) (w : UInt64) (u : ST) : Prop := WF u ∧ u.1 = va_up x.1 3 (x.1 3 + 1) ∧ u.2.1 4 = va_up (x.2.1 4) (x.1 3) (oN (nt (tAt x 0))) ∧ u.2.1 5 = va_up (x.2.1 5) (x.1 3) (x.1 2 - 2) ∧ u.2.1 8 = va_up (x.2.1 8) (x.1 3) 0 ∧ (∀ k, k ∉ [4, 5, 6, 8] → u.2.1 k = x.2.1 k) ∧ (∀ i, u.2.1 6 i = if x.1 3 * 4 ≤ i ∧ i < x.1 3 * 4 + 4 then tAt x (i - x.1 3 * 4 + 2) else x.2.1 6 i) ∧ u.2.2.1 = va_up x.2.2.1 7 (va_up (x.2.2.1 7) (x.1 3) w) ∧ u.2.2.2 = x.2.2.2
def REM (x u : ST) : Prop := WF u ∧ u.1 = va_up x.1 3 (x.1 3 - 1) ∧ (∀ k, k ≠ 9 → u.2.1 k = x.2.1 k) ∧ u.2.2 = x.2.2 ∧ (∀ r, u.2.1 9 r = if r < x.1 3 - 1 then x.2.1 9 r &&& ((1 * 2 ^ (x.1 3 - 1)) ^^^ 4294967295) else if r = x.1 3 - 1 then 0 else x.2.1 9 r)
theorem wpf_3 {N : Nat} {c : Nat → Nat} (h : wpf N c = 4294967295) (hN : N < 4294967295) : 3 ≤ N ∧ ∀ q, q < N → fitsB q (c q) = true := by
  have key : ∀ M, (∀ p, fstBad c M = some p → p < M) ∧ (fstBad c M = none → ∀ q, q < M → fitsB q (c q) = true) := by
    intro M
    induction M with
    | zero => exact ⟨fun p hp => (nomatch hp), fun _ q hq => absurd hq (Nat.not_lt_zero _)⟩
    | succ M ih =>
      simp only [fstBad]
      cases hq : fstBad c M with
      | some q =>
        dsimp only
        refine ⟨fun p hp => ?_, fun hn => (nomatch hn)⟩
        cases hp
        have := ih.1 q hq
        omega
      | none =>
        dsimp only
        by_cases hf : fitsB M (c M) = true
        · rw [if_pos hf]
          refine ⟨fun p hp => (nomatch hp), fun _ q hq2 => ?_⟩
          rcases (show q < M ∨ q = M by omega) with z | z
          · exact ih.2 hq q z
          · rw [z]; exact hf
        · rw [if_neg hf]
          refine ⟨fun p hp => ?_, fun hn => (nomatch hn)⟩
          cases hp
          omega
  unfold wpf at h
  cases hq : fstBad c N with
  | some q =>
    rw [hq] at h
    have := (key N).1 q hq
    dsimp only at h
    omega
  | none =>
    rw [hq] at h
    dsimp only at h
    split at h
    · omega
    · exact ⟨by omega, (key N).2 hq⟩
-- parse
def selT (g : GT) (n : Nat) (gb : Bool) (sl : Nat → Bool) (s : Nat) : Bool := gb && decide (s < gR g) && inN g n sl s
theorem wanT_cn {g : GT} {n : Nat} {sl : Nat → Bool} {gb : Bool} {f w : Nat → Nat} (hf : ∀ s, s < gR g → gl g s = n → f s = w s) : ∀ m, wanB (selT g n gb sl) f m = if gb = true then cn g n (sl) w (min m (gR g)) else 0
  | 0 => by
    simp only [wanB, Nat.zero_min]
    split <;> rfl
  | m + 1 => by
    have ih := wanT_cn (sl := sl) (gb := gb) hf m
    simp only [wanB]
    cases gb with
    | false =>
      have e : selT g n false sl m = false := by unfold selT; simp
      rw [e, ih]
      simp
    | true =>
      rw [if_pos rfl] at ih ⊢
      by_cases hm : m < gR g
      · rw [show min (m + 1) (gR g) = m + 1 by omega]
        rw [show min m (gR g) = m by omega] at ih
        have e : selT g n true sl m = inN g n (sl) m := by unfold selT; simp [hm]
        rw [e, ih]
        simp only [cn, MX]
        by_cases hi : inN g n (sl) m = true
        · have hl : gl g m = n := by
            simp only [inN, Bool.and_eq_true, decide_eq_true_eq] at hi
            exact hi.1.1
          rw [if_pos hi, if_pos hi, hf m hm hl]
        · rw [if_neg hi, if_neg hi]
      · have e : selT g n true sl m = false := by unfold selT; simp [hm]
        rw [e, show min (m + 1) (gR g) = gR g by omega]
        rw [show min m (gR g) = gR g by omega] at ih
        rw [if_neg (by decide), ih]
theorem hofT_tp {g : GT} {n : Nat} {sl : Nat → Bool} {gb : Bool} {f h : Nat → UInt64} {w : Nat → Nat} (hf : ∀ s, s < gR g → gl g s = n → f s = h s) (hz : ∀ s, s < gR g → gl g s = n → w s = 0 → h s = 0) (hp : ∀ s, s < gR g → gl g s = n → w s ≠ 0 → ∃ L : Int, fp_E (h s) L) : ∀ m, hofB (selT g n gb sl) f m = hot (if gb = true then tp g n (sl) w h (min m (gR g)) else none) h
  | 0 => by
    simp only [hofB, Nat.zero_min]
    split <;> rfl
  | m + 1 => by
    have ih := hofT_tp (sl := sl) (gb := gb) hf hz hp m
    simp only [hofB]
    cases gb with
    | false =>
      have e : selT g n false sl m = false := by unfold selT; simp
      rw [if_neg (by rw [e]; simp), ih]
      rfl
    | true =>
      rw [if_pos rfl] at ih ⊢
      by_cases hm : m < gR g
      · rw [show min (m + 1) (gR g) = m + 1 by omega]
        rw [show min m (gR g) = m by omega] at ih
        have e : selT g n true sl m = inN g n (sl) m := by unfold selT; simp [hm]
        rw [e, ih]
        by_cases hi : inN g n (sl) m = true
        · have hl : gl g m = n := by
            simp only [inN, Bool.and_eq_true, decide_eq_true_eq] at hi
            exact hi.1.1
          rw [hf m hm hl]
          by_cases hw : w m = 0
          · have et : tp g n (sl) w h (m + 1) = tp g n (sl) w h m := by
              simp only [tp]
              rw [if_neg (fun q => q.2 hw)]
            rw [et, hz m hm hl hw]
            refine if_neg (fun q => ?_)
            cases ht : tp g n (sl) w h m with
            | none => rw [ht] at q; exact absurd q.2 (by rw [show (hot none h).2 = 0 from rfl, dgt_00]; decide)
            | some b =>
              rw [ht] at q
              obtain ⟨b1, b2, b3⟩ := tp_some ht
              obtain ⟨L, hL⟩ := hp b (by omega) b2 b3
              exact absurd q.2 (by rw [show (hot (some b) h).2 = h b from rfl, dgt_lt (fp_neg hL)]; decide)
          · obtain ⟨L, hL⟩ := hp m hm hl hw
            cases ht : tp g n (sl) w h m with
            | none =>
              have et : tp g n (sl) w h (m + 1) = some m := by
                simp only [tp]
                rw [if_pos ⟨hi, hw⟩, ht]
              rw [et]
              exact if_pos ⟨hi, dgt_of (fp_pos hL)⟩
            | some b =>
              by_cases hg : dgt (h m) (h b) = true
              · have et : tp g n (sl) w h (m + 1) = some m := by
                  simp only [tp]
                  rw [if_pos ⟨hi, hw⟩, ht]
                  exact if_pos hg
                rw [et]
                exact if_pos ⟨hi, hg⟩
              · have et : tp g n (sl) w h (m + 1) = some b := by
                  simp only [tp]
                  rw [if_pos ⟨hi, hw⟩, ht]
                  exact if_neg hg
                rw [et]
                exact if_neg (fun q => hg q.2)
        · have et : tp g n (sl) w h (m + 1) = tp g n (sl) w h m := by
            simp only [tp]
            rw [if_neg (fun q => hi q.1)]
          rw [et]
          exact if_neg (fun q => hi q.1)
      · have e : selT g n true sl m = false := by unfold selT; simp [hm]
        rw [show min (m + 1) (gR g) = gR g by omega]
        rw [show min m (gR g) = gR g by omega] at ih
        rw [if_neg (by rw [e]; simp), ih]
/-- how many derivations the nonterminal has over the whole input -/
def pv (g : GT) (N : Nat) (ch : Nat → Nat) (n : Nat) : Nat := if nrej g n (fun s => sW g N ch s 0 N) (gR g) = true then cn g n (fun _ => true) (fun s => sW g N ch s 0 N) (gR g) else 0
theorem rmk_selT {g : GT} {n : Nat} {s : Nat} : (rmk g n 0 (gR g)).testBit s = selT g n true (fun _ => true) s := by
  rw [rmk_bit]
  unfold selT inN
  by_cases h1 : s < gR g <;> by_cases h2 : gl g s = n <;> by_cases h3 : gm g s = 1 <;> simp [h1, h2, h3]
theorem ps_cn {g : GT} {n : Nat} {f w : Nat → Nat} (hf : ∀ s, s < gR g → gl g s = n → f s = w s) (hR : gR g ≤ 16) : wan (rmk g n 0 (gR g)) f 16 = cn g n (fun _ => true) w (gR g) := by
  rw [wan_B 16 (fun s _ => rmk_selT), wanT_cn hf 16, if_pos rfl, show min 16 (gR g) = gR g by omega]
theorem ps_tp {g : GT} {n : Nat} {f h : Nat → UInt64} {w : Nat → Nat} (hf : ∀ s, s < gR g → gl g s = n → f s = h s) (hz : ∀ s, s < gR g → gl g s = n → w s = 0 → h s = 0) (hp : ∀ s, s < gR g → gl g s = n → w s ≠ 0 → ∃ L : Int, fp_E (h s) L) (hR : gR g ≤ 16) : (hof (rmk g n 0 (gR g)) f 16).1 = oN (tp g n (fun _ => true) w h (gR g)) := by
  rw [hof_B 16 (fun s _ => rmk_selT), hofT_tp hf hz hp 16, if_pos rfl, show min 16 (gR g) = gR g by omega, hot_1]
theorem ps_root {g : GT} {N : Nat} {ch : Nat → Nat} {n : Nat} (h : pv g N ch n ≠ 0) : nrej g n (fun s => sW g N ch s 0 N) (gR g) = true ∧ ∃ r, tp g n (fun _ => true) (fun s => sW g N ch s 0 N) (fun s => sH g N ch s 0 N) (gR g) = some r ∧ r < gR g ∧ gl g r = n ∧ sW g N ch r 0 N ≠ 0 := by
  unfold pv at h
  by_cases hn : nrej g n (fun s => sW g N ch s 0 N) (gR g) = true
  · rw [if_pos hn] at h
    refine ⟨hn, ?_⟩
    cases ht : tp g n (fun _ => true) (fun s => sW g N ch s 0 N) (fun s => sH g N ch s 0 N) (gR g) with
    | none => exact absurd (tp_none _ ht) h
    | some r => exact ⟨r, rfl, tp_some ht⟩
  · rw [if_neg hn] at h
    exact absurd rfl h
/-- the class's state behind a parse -/
def PS0 (x u : ST) : Prop := WF u ∧ UB u ∧ u.1 0 = x.1 0 ∧ u.1 1 = x.1 2 ∧ u.1 2 = 0 ∧ u.1 3 = x.1 3 ∧ (∀ k, k ∉ [12, 14, 15, 16, 17, 18, 20, 21, 22] → u.2.1 k = x.2.1 k) ∧ (∀ k, k ≠ 13 → u.2.2.1 k = x.2.2.1 k) ∧ CHT (gP x) (x.1 2) (x.2.1 2) u 15
def PS1 (x u : ST) (n : Nat) : Prop := ∃ r, tp (gP x) n (fun _ => true) (fun s => sW (gP x) (x.1 2) (x.2.1 2) s 0 (x.1 2)) (fun s => sH (gP x) (x.1 2) (x.2.1 2) s 0 (x.1 2)) (gR (gP x)) = some r ∧ u.2.2.2 = sH (gP x) (x.1 2) (x.2.1 2) r 0 (x.1 2) ∧ ∃ m, (tst (kids (gP x) (x.1 2) (x.2.1 2)) (r, 0, x.1 2) m).2 = [] ∧ TLs (tst (kids (gP x) (x.1 2) (x.2.1 2)) (r, 0, x.1 2) m).1 u
-- node
def ndv (x : ST) (k what : Nat) : Nat := if what = 0 then x.2.1 20 k else if what = 1 then x.2.1 21 k else if what = 2 then x.2.1 22 k else nbl (x.2.1 21) (x.2.1 22 k) (x.1 4) 162 (k + 1) - k - 1
theorem nbl_ge (b : Nat → Nat) (e n : Nat) : ∀ f q, q ≤ nbl b e n f q ∧ nbl b e n f q ≤ q + f
  | 0, q => ⟨Nat.le_refl _, Nat.le_refl _⟩
  | f + 1, q => by
    simp only [nbl]
    split
    · have := nbl_ge b e n f (q + 1)
      omega
    · omega
-- count
def ctv (x : ST) (what : Nat) : Nat := if what = 0 then x.1 3 else if what = 1 then x.1 0 else if what = 2 then x.1 2 else if what = 3 then x.1 4 else if what = 4 then x.1 1 else 4294967295
theorem ps0_of {x u : ST} (hf : FA (sS (sS (sT (sS x 1 0) 0) 4 0) 1 (x.1 2)) u) (hw : WF u) (hu : UB u) (hc : CHT (gP x) (x.1 2) (x.2.1 2) u 15) : PS0 x (sS u 2 0) ∧ (sS u 2 0).1 4 = 0 := by
  have e1 := hf.1
  refine ⟨⟨hw.sS 2 (by decide), hu, ?_, ?_, ?_, ?_, fun k hk => ?_, fun k hk => ?_, hc⟩, ?_⟩
  · show u.1 0 = _
    rw [e1]; rfl
  · show u.1 1 = _
    rw [e1]; rfl
  · rfl
  · show u.1 3 = _
    rw [e1]; rfl
  · exact hf.2.1 k (fun q => hk (by simp only [List.mem_cons, List.not_mem_nil, or_false] at q ⊢; omega))
  · exact hf.2.2.1 k hk
  · show u.1 4 = _
    rw [e1]; rfl
theorem ps0_tr {x v u : ST} {d : UInt64} (h : PS0 x v) (ht : TR (sT v d) u) (hw : WF u) : PS0 x u := by
  obtain ⟨h1, h2, h3, h4, h5, h6, h7, h8, h9⟩ := h
  refine ⟨hw, ?_, (ht.1 0 (by decide)).trans h3, (ht.1 1 (by decide)).trans h4, (ht.1 2 (by decide)).trans h5, (ht.1 3 (by decide)).trans h6, fun k hk => ?_, fun k hk => ?_, ?_⟩
  · unfold UB
    rw [ht.2.1 15 (by decide), ht.2.1 12 (by decide)]
    exact h2
  · exact (ht.2.1 k (fun q => hk (by simp only [List.mem_cons, List.not_mem_nil, or_false] at q ⊢; omega))).trans (h7 k hk)
  · rw [ht.2.2]
    exact h8 k hk
  · exact ht.cht (x := sT v d) h9

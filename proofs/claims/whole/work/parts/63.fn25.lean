/-! ONE STEP OF THE LAW: what the class and the reference answer is the same -/
def STEP (h : SH) (n : ST) (c rr : Nat) : Prop := JV h.1 n ∧ n.1 5 = c ∧ (c = 0 → h.2.1 0 = sx rr)
def STEPV (h : SH) (n : ST) (c : Nat) : Prop := JV h.1 n ∧ n.1 5 = c
def STEPD (h : SH) (n : ST) (c : Nat) (rr : UInt64) : Prop := JV h.1 n ∧ n.1 5 = c ∧ (c = 0 → h.2.2 0 = rr ∧ ∃ L : Int, fp_E rr L)
theorem ns1 {c : Nat} {E a : String} (h : (c, E) ∈ [(1, a)]) : c = 1 ∧ E = a := by simpa using h
theorem ns2 {c : Nat} {E a b : String} (h : (c, E) ∈ [(1, a), (2, b)]) : (c = 1 ∧ E = a) ∨ (c = 2 ∧ E = b) := by simpa using h
theorem ns3 {c : Nat} {E a b d : String} (h : (c, E) ∈ [(1, a), (2, b), (3, d)]) : (c = 1 ∧ E = a) ∨ (c = 2 ∧ E = b) ∨ (c = 3 ∧ E = d) := by simpa using h
theorem jt_type {e c rr : Nat} {x m n : ST} {h : SH} (J : JV x m) (hh : HPI (fun rr u => tok e 8 = true ∧ x.1 2 + tcn e 8 ≤ 14 ∧ u = apS e x 8 ∧ rr = u.1 2) (fun E u => u = x ∧ ((E = "java/lang/IllegalArgumentException" ∧ tok e 8 = false) ∨ (E = "java/lang/IllegalStateException" ∧ tok e 8 = true ∧ 14 < x.1 2 + tcn e 8))) [(1, "java/lang/IllegalArgumentException"), (2, "java/lang/IllegalStateException")] c h) (hm : (tok e 8 = false ∧ n = sS m 5 1 ∧ rr = 0) ∨ (tok e 8 = true ∧ 14 < m.1 1 + tcn e 8 ∧ n = sS m 5 2 ∧ rr = 0) ∨ (tok e 8 = true ∧ m.1 1 + tcn e 8 ≤ 14 ∧ n = apM e (sS m 5 0) 8 ∧ rr = n.1 1)) : STEP h n c rr := by
  have hN : m.1 1 = x.1 2 := J.2.2.2.2.1.2.1
  rcases hh with ⟨rfl, r0, hr, ⟨t1, t2, t3, t4⟩, ho⟩ | ⟨E, hE, hu, hx⟩
  · rcases hm with ⟨a, _⟩ | ⟨_, a, _⟩ | ⟨_, _, a, b⟩
    · rw [t1] at a; cases a
    · omega
    · obtain ⟨k1, k2, k3⟩ := j_type J t1 t2
      refine ⟨by rw [t3, a]; exact k1, by rw [a]; exact k2, fun _ => ?_⟩
      rw [ho, t4, b, t3, a, k3]
  · rcases ns2 hE with ⟨rfl, rfl⟩ | ⟨rfl, rfl⟩
    · rcases hx with ⟨-, z⟩ | ⟨z, -⟩
      · rcases hm with ⟨_, b, _⟩ | ⟨a, _⟩ | ⟨a, _⟩
        · rw [b]; exact ⟨by rw [hu]; exact j_5 J 1 (by decide), rfl, fun q => absurd q (by decide)⟩
        · rw [z] at a; cases a
        · rw [z] at a; cases a
      · exact absurd z (by decide)
    · rcases hx with ⟨z, -⟩ | ⟨-, z, z2⟩
      · exact absurd z (by decide)
      · rcases hm with ⟨a, _⟩ | ⟨_, _, b, _⟩ | ⟨_, a, _⟩
        · rw [z] at a; cases a
        · rw [b]; exact ⟨by rw [hu]; exact j_5 J 2 (by decide), rfl, fun q => absurd q (by decide)⟩
        · omega
theorem jt_rule {w : UInt64} {c rr : Nat} {x m n : ST} {h : SH} (J : JV x m) (hh : HPI (fun rr u => rokB w = true ∧ x.1 3 < 16 ∧ wpf (x.1 2) (x.2.1 2) = 4294967295 ∧ wlr x = false ∧ rr = x.1 3 ∧ ∃ v, ADD x w v ∧ u = FG (sS v 2 0)) (fun E u => (E = "java/lang/IllegalArgumentException" ∧ rokB w = false ∧ u = x) ∨ (E = "java/lang/IllegalStateException" ∧ rokB w = true ∧ 16 ≤ x.1 3 ∧ u = sS x 2 0) ∨ (E = "java/lang/IllegalArgumentException" ∧ rokB w = true ∧ x.1 3 < 16 ∧ wpf (x.1 2) (x.2.1 2) ≠ 4294967295 ∧ u = sS (sS x 0 (wpf (x.1 2) (x.2.1 2))) 2 0) ∨ (E = "java/lang/UnsupportedOperationException" ∧ rokB w = true ∧ x.1 3 < 16 ∧ wpf (x.1 2) (x.2.1 2) = 4294967295 ∧ wlr x = true ∧ u = sS x 2 0)) [(1, "java/lang/IllegalArgumentException"), (2, "java/lang/IllegalStateException"), (3, "java/lang/UnsupportedOperationException")] c h) (hm : (rokB w = false ∧ n = sS m 5 1 ∧ rr = 0) ∨ (rokB w = true ∧ 16 ≤ m.1 0 ∧ MST m n 2 ∧ rr = 0) ∨ (rokB w = true ∧ m.1 0 < 16 ∧ wpf (m.1 1) (m.2.1 1) ≠ 4294967295 ∧ SC3 m n (wpf (m.1 1) (m.2.1 1)) 1 ∧ rr = 0) ∨ (rokB w = true ∧ m.1 0 < 16 ∧ wpf (m.1 1) (m.2.1 1) = 4294967295 ∧ wlM m = true ∧ MST m n 3 ∧ rr = 0) ∨ (rokB w = true ∧ m.1 0 < 16 ∧ wpf (m.1 1) (m.2.1 1) = 4294967295 ∧ wlM m = false ∧ ADm m w n ∧ rr = m.1 0)) : STEP h n c rr := by
  have hR : m.1 0 = x.1 3 := J.2.2.2.2.2.2.1.2.2.1.1.symm
  have hW := tx_wpf J.2.2.2.2.1
  have hL := fun q => j_wl J q
  rw [hW] at hm
  have h14 : x.1 2 ≤ 14 := J.2.2.2.2.1.1.1
  rcases hm with ⟨m1, m2, m3⟩ | ⟨m1, m2, m3, m4⟩ | ⟨m1, m2, m3, m4, m5⟩ | ⟨m1, m2, m3, m4, m5, m6⟩ | ⟨m1, m2, m3, m4, m5, m6⟩
  · rcases hh with ⟨rfl, r0, hr, ⟨t1, t2, t3, t4⟩, ho⟩ | ⟨E, hE, hx⟩
    · rw [m1] at t1; cases t1
    · rcases hx with ⟨z, _, zu⟩ | ⟨_, z, _⟩ | ⟨_, z, _⟩ | ⟨_, z, _⟩
      · subst z
        have hc : c = 1 := by
          rcases ns3 hE with q | q | q
          · exact q.1
          · exact absurd q.2 (by decide)
          · exact absurd q.2 (by decide)
        subst hc
        rw [m2]
        exact ⟨by rw [zu]; exact j_5 J 1 (by decide), rfl, fun q => absurd q (by decide)⟩
      · rw [m1] at z; cases z
      · rw [m1] at z; cases z
      · rw [m1] at z; cases z
  · rcases hh with ⟨rfl, r0, hr, ⟨t1, t2, t3, t4⟩, ho⟩ | ⟨E, hE, hx⟩
    · omega
    · rcases hx with ⟨_, z, _⟩ | ⟨z, _, _, zu⟩ | ⟨_, _, z, _⟩ | ⟨_, _, z, _⟩
      · rw [m1] at z; cases z
      · subst z
        have hc : c = 2 := by
          rcases ns3 hE with q | q | q
          · exact absurd q.2 (by decide)
          · exact q.1
          · exact absurd q.2 (by decide)
        subst hc
        exact ⟨by rw [zu]; exact j_rm J (by decide) m3, (m3.2 5).trans rfl, fun q => absurd q (by decide)⟩
      · omega
      · omega
  · rcases hh with ⟨rfl, r0, hr, ⟨t1, t2, t3, t4⟩, ho⟩ | ⟨E, hE, hx⟩
    · exact absurd t3 m3
    · rcases hx with ⟨_, z, _⟩ | ⟨_, _, z, _⟩ | ⟨z, _, _, _, zu⟩ | ⟨_, _, _, z, _⟩
      · rw [m1] at z; cases z
      · omega
      · subst z
        have hc : c = 1 := by
          rcases ns3 hE with q | q | q
          · exact q.1
          · exact absurd q.2 (by decide)
          · exact absurd q.2 (by decide)
        subst hc
        exact ⟨by rw [zu]; exact j_rl J (wpf_32 h14) (by decide) m4.1 m4.2, (m4.2 5).trans rfl, fun q => absurd q (by decide)⟩
      · exact absurd z m3
  · rw [hL m3] at m4
    rcases hh with ⟨rfl, r0, hr, ⟨t1, t2, t3, t4, t5⟩, ho⟩ | ⟨E, hE, hx⟩
    · rw [m4] at t4; cases t4
    · rcases hx with ⟨_, z, _⟩ | ⟨_, _, z, _⟩ | ⟨_, _, _, z, _⟩ | ⟨z, _, _, _, _, zu⟩
      · rw [m1] at z; cases z
      · omega
      · exact absurd m3 z
      · subst z
        have hc : c = 3 := by
          rcases ns3 hE with q | q | q
          · exact absurd q.2 (by decide)
          · exact absurd q.2 (by decide)
          · exact q.1
        subst hc
        exact ⟨by rw [zu]; exact j_rm J (by decide) m5, (m5.2 5).trans rfl, fun q => absurd q (by decide)⟩
  · rw [hL m3] at m4
    rcases hh with ⟨rfl, r0, hr, ⟨t1, t2, t3, t4, t5, v, t6, t7⟩, ho⟩ | ⟨E, hE, hx⟩
    · obtain ⟨k1, k2⟩ := j_add J t1 t2 t3 t4 t6 m5
      refine ⟨by rw [t7]; exact k1, k2, fun _ => ?_⟩
      rw [ho, t5, m6, hR]
    · rcases hx with ⟨_, z, _⟩ | ⟨_, _, z, _⟩ | ⟨_, _, _, z, _⟩ | ⟨_, _, _, _, z, _⟩
      · rw [m1] at z; cases z
      · omega
      · exact absurd m3 z
      · rw [m4] at z; cases z
theorem jt_mark {r t c : Nat} {x m n : ST} {h : SH} (J : JV x m) (hh : HPV (fun u => r < x.1 3 ∧ t ≤ 3 ∧ u = FG (sA x 8 r t)) (fun E u => E = "java/lang/IllegalArgumentException" ∧ u = x ∧ ¬ (r < x.1 3 ∧ t ≤ 3)) [(1, "java/lang/IllegalArgumentException")] c h) (hm : (r < m.1 0 ∧ t ≤ 3 ∧ n = CHm (sA (sS m 5 0) 6 r t)) ∨ (¬ (r < m.1 0 ∧ t ≤ 3) ∧ n = sS m 5 1)) : STEPV h n c := by
  have hR : m.1 0 = x.1 3 := J.2.2.2.2.2.2.1.2.2.1.1.symm
  rw [hR] at hm
  rcases hh with ⟨rfl, t1, t2, t3⟩ | ⟨E, hE, _, hu, hx⟩
  · rcases hm with ⟨_, _, a⟩ | ⟨a, _⟩
    · rw [a]; exact ⟨by rw [t3]; exact j_mark J t1 t2, rfl⟩
    · exact absurd ⟨t1, t2⟩ a
  · obtain ⟨rfl, rfl⟩ := ns1 hE
    rcases hm with ⟨a, b, _⟩ | ⟨_, a⟩
    · exact absurd ⟨a, b⟩ hx
    · rw [a]; exact ⟨by rw [hu]; exact j_5 J 1 (by decide), rfl⟩
theorem jt_bar {r s b c : Nat} {x m n : ST} {h : SH} (J : JV x m) (hb : b ≤ 1) (hh : HPV (fun u => r < x.1 3 ∧ s < x.1 3 ∧ u = FG (sA x 9 r (if b = 0 then x.2.1 9 r &&& ((1 * 2 ^ s) ^^^ 4294967295) else x.2.1 9 r ||| (1 * 2 ^ s)))) (fun E u => E = "java/lang/IllegalArgumentException" ∧ u = x ∧ ¬ (r < x.1 3 ∧ s < x.1 3)) [(1, "java/lang/IllegalArgumentException")] c h) (hm : (r < m.1 0 ∧ s < m.1 0 ∧ n = CHm (sA (sS m 5 0) 11 (r * 16 + s) b)) ∨ (¬ (r < m.1 0 ∧ s < m.1 0) ∧ n = sS m 5 1)) : STEPV h n c := by
  have hR : m.1 0 = x.1 3 := J.2.2.2.2.2.2.1.2.2.1.1.symm
  rw [hR] at hm
  rcases hh with ⟨rfl, t1, t2, t3⟩ | ⟨E, hE, _, hu, hx⟩
  · rcases hm with ⟨_, _, a⟩ | ⟨a, _⟩
    · rw [a]; exact ⟨by rw [t3]; exact j_bar J t1 t2 hb, rfl⟩
    · exact absurd ⟨t1, t2⟩ a
  · obtain ⟨rfl, rfl⟩ := ns1 hE
    rcases hm with ⟨a, b, _⟩ | ⟨_, a⟩
    · exact absurd ⟨a, b⟩ hx
    · rw [a]; exact ⟨by rw [hu]; exact j_5 J 1 (by decide), rfl⟩
theorem jt_follow {a d b c : Nat} {x m n : ST} {h : SH} (J : JV x m) (hb : b ≤ 1) (hh : HPV (fun u => a < 6 ∧ (33 ≤ d ∧ d ≤ 126) ∧ u = FG (sA x 10 (a * 94 + d - 33) (1 - b))) (fun E u => E = "java/lang/IllegalArgumentException" ∧ u = x ∧ ¬ (a < 6 ∧ (33 ≤ d ∧ d ≤ 126))) [(1, "java/lang/IllegalArgumentException")] c h) (hm : (a < 6 ∧ (33 ≤ d ∧ d ≤ 126) ∧ n = CHm (sA (sS m 5 0) 12 (a * 127 + d) (1 - b))) ∨ (¬ (a < 6 ∧ (33 ≤ d ∧ d ≤ 126)) ∧ n = sS m 5 1)) : STEPV h n c := by
  rcases hh with ⟨rfl, t1, t2, t3⟩ | ⟨E, hE, _, hu, hx⟩
  · rcases hm with ⟨_, _, a⟩ | ⟨a, _⟩
    · rw [a]; exact ⟨by rw [t3]; exact j_follow J t1 t2 hb, rfl⟩
    · exact absurd ⟨t1, t2⟩ a
  · obtain ⟨rfl, rfl⟩ := ns1 hE
    rcases hm with ⟨a, b, _⟩ | ⟨_, a⟩
    · exact absurd ⟨a, b⟩ hx
    · rw [a]; exact ⟨by rw [hu]; exact j_5 J 1 (by decide), rfl⟩
theorem jt_undo {c : Nat} {x m n : ST} {h : SH} (J : JV x m) (hh : HPV (fun u => x.1 3 ≠ 0 ∧ ∃ v, REM x v ∧ u = FG v) (fun E u => E = "java/util/NoSuchElementException" ∧ u = x ∧ x.1 3 = 0) [(1, "java/util/NoSuchElementException")] c h) (hm : (m.1 0 = 0 ∧ n = sS m 5 1) ∨ (m.1 0 ≠ 0 ∧ UNm m n)) : STEPV h n c := by
  have hR : m.1 0 = x.1 3 := J.2.2.2.2.2.2.1.2.2.1.1.symm
  rcases hh with ⟨rfl, t1, v, t2, t3⟩ | ⟨E, hE, _, hu, hx⟩
  · rcases hm with ⟨a, _⟩ | ⟨_, a⟩
    · omega
    · obtain ⟨k1, k2⟩ := j_undo J t1 t2 a
      exact ⟨by rw [t3]; exact k1, k2⟩
  · obtain ⟨rfl, rfl⟩ := ns1 hE
    rcases hm with ⟨_, a⟩ | ⟨a, _⟩
    · rw [a]; exact ⟨by rw [hu]; exact j_5 J 1 (by decide), rfl⟩
    · omega
theorem j_pv {x m n : ST} {k : Nat} (J : JV x m) (h0 : 0 < x.1 2) (hn : PM0 m n) : pv (gM m) (m.1 1) (n.2.1 2) k = pv (gP x) (x.1 2) (x.2.1 2) k := by
  obtain ⟨a1, a2, a3, a4, a5, a6, a7, a8⟩ := J
  have q10 := hn.2.2.2.2.2.2.2.2.2.1
  have X : CEq (x.1 2) (x.2.1 2) (n.2.1 2) := fun q hq => ⟨by rw [q10 q (by rw [a5.2.1]; exact hq)]; exact (a5.2.2 q hq).symm, a5.1.2 q hq⟩
  rw [a5.2.1]
  exact (ge_pv a7.2.2.1 X a7.1 a5.1.1 h0 k).symm
theorem jt_parse {k c rr : Nat} {x m n : ST} {h : SH} (J : JV x m) (hh : HPI (fun rr u => k < 6 ∧ 0 < x.1 2 ∧ pv (gP x) (x.1 2) (x.2.1 2) k ≠ 0 ∧ rr = pv (gP x) (x.1 2) (x.2.1 2) k ∧ PS0 x u ∧ PS1 x u k) (fun E u => (E = "java/lang/IllegalArgumentException" ∧ u = x ∧ ¬ (k < 6 ∧ 0 < x.1 2)) ∨ (E = "java/util/NoSuchElementException" ∧ k < 6 ∧ 0 < x.1 2 ∧ pv (gP x) (x.1 2) (x.2.1 2) k = 0 ∧ PS0 x u ∧ u.1 4 = 0)) [(1, "java/lang/IllegalArgumentException"), (2, "java/util/NoSuchElementException")] c h) (hm : (¬ (k < 6 ∧ 0 < m.1 1) ∧ n = sS m 5 1 ∧ rr = 0) ∨ (k < 6 ∧ 0 < m.1 1 ∧ PM0 m n ∧ pv (gM m) (m.1 1) (n.2.1 2) k = 0 ∧ n.1 5 = 2 ∧ n.1 7 = 0 ∧ rr = 0 ∧ n.1 4 = m.1 4) ∨ (k < 6 ∧ 0 < m.1 1 ∧ PM0 m n ∧ pv (gM m) (m.1 1) (n.2.1 2) k ≠ 0 ∧ n.1 5 = 0 ∧ n.1 7 = 1 ∧ PM1 m n k ∧ rr = pv (gM m) (m.1 1) (n.2.1 2) k)) : STEP h n c rr := by
  have hN : m.1 1 = x.1 2 := J.2.2.2.2.1.2.1
  rcases hm with ⟨m1, m2, m3⟩ | ⟨m1, m2, m3, m4, m5, m6, m7, m8⟩ | ⟨m1, m2, m3, m4, m5, m6, m7, m8⟩
  · rw [hN] at m1
    rcases hh with ⟨rfl, r0, hr, ⟨t1, t2, t3⟩, ho⟩ | ⟨E, hE, hx⟩
    · exact absurd ⟨t1, t2⟩ m1
    · rcases hx with ⟨z, zu, _⟩ | ⟨_, z1, z2, _⟩
      · subst z
        have hc : c = 1 := by
          rcases ns2 hE with q | q
          · exact q.1
          · exact absurd q.2 (by decide)
        subst hc
        rw [m2]
        exact ⟨by rw [zu]; exact j_5 J 1 (by decide), rfl, fun q => absurd q (by decide)⟩
      · exact absurd ⟨z1, z2⟩ m1
  · have h0 : 0 < x.1 2 := by omega
    have e := j_pv (k := k) J h0 m3
    rcases hh with ⟨rfl, r0, hr, ⟨t1, t2, t3, t4⟩, ho⟩ | ⟨E, hE, hx⟩
    · exact absurd (e.symm.trans m4) t3
    · rcases hx with ⟨_, _, z⟩ | ⟨z, z1, z2, z3, z4, z5⟩
      · exact absurd ⟨m1, h0⟩ z
      · subst z
        have hc : c = 2 := by
          rcases ns2 hE with q | q
          · exact absurd q.2 (by decide)
          · exact q.1
        subst hc
        exact ⟨j_p0 J h0 z4 m3 (by rw [m8]; exact J.2.2.2.1.2.2) (Or.inl ⟨m6, z5⟩), m5, fun q => absurd q (by decide)⟩
  · have h0 : 0 < x.1 2 := by omega
    have e := j_pv (k := k) J h0 m3
    rcases hh with ⟨rfl, r0, hr, ⟨t1, t2, t3, t4, t5, t6⟩, ho⟩ | ⟨E, hE, hx⟩
    · have P := j_p1 J h0 t5 m3 t6 m7 m6
      refine ⟨j_p0 J h0 t5 m3 (by have q1 := P.2.1; have q2 := P.2.2.2.1; omega) (Or.inr P), m5, fun _ => ?_⟩
      rw [ho, t4, m8, e]
    · rcases hx with ⟨_, _, z⟩ | ⟨z, z1, z2, z3, z4, z5⟩
      · exact absurd ⟨m1, h0⟩ z
      · exact absurd (e.trans z3) m4
/-- found or not, on both sides -/
theorem prs_f {x m : ST} (h : PRS x m) : (m.1 7 = 0 ∧ x.1 4 = 0) ∨ PF x m := by
  rcases h with ⟨_, h2, _, h4⟩ | ⟨_, _, _, _, h⟩
  · exact Or.inl ⟨h2, h4⟩
  · exact h
theorem jt_weight {c : Nat} {rr : UInt64} {x m n : ST} {h : SH} (J : JV x m) (hh : HPD (fun rr u => u = x ∧ x.1 4 ≠ 0 ∧ rr = x.2.2.2) (fun E u => E = "java/util/NoSuchElementException" ∧ u = x ∧ x.1 4 = 0) [(1, "java/util/NoSuchElementException")] c h) (hm : (m.1 7 ≠ 0 ∧ n = sS m 5 0 ∧ rr = m.2.2.2) ∨ (m.1 7 = 0 ∧ n = sS m 5 1)) : STEPD h n c rr := by
  have P := prs_f J.2.2.2.2.2.2.2
  rcases hh with ⟨rfl, r0, ⟨t1, t2, t3⟩, ho⟩ | ⟨E, hE, _, hu, hx⟩
  · rcases P with ⟨_, p⟩ | ⟨p1, p2, p3, p4, p5, p6, p7⟩
    · exact absurd p t2
    · rcases hm with ⟨_, a, b⟩ | ⟨a, _⟩
      · rw [a]
        refine ⟨by rw [t1]; exact j_5 J 0 (by decide), rfl, fun _ => ⟨?_, ?_⟩⟩
        · rw [ho, t3, b, p5]
        · rw [b, ← p5]; exact p6
      · omega
  · obtain ⟨rfl, rfl⟩ := ns1 hE
    rcases P with ⟨p, _⟩ | ⟨p1, p2, p3, _⟩
    · rcases hm with ⟨a, _⟩ | ⟨_, a⟩
      · exact absurd p a
      · rw [a]; exact ⟨by rw [hu]; exact j_5 J 1 (by decide), rfl, fun q => absurd q (by decide)⟩
    · exact absurd hx p3
theorem jt_node {k t c rr : Nat} {x m n : ST} {h : SH} (J : JV x m) (hh : HPI (fun rr u => u = x ∧ t ≤ 3 ∧ k < x.1 4 ∧ rr = ndv x k t) (fun E u => u = x ∧ ((E = "java/lang/IllegalArgumentException" ∧ ¬ t ≤ 3) ∨ (E = "java/util/NoSuchElementException" ∧ t ≤ 3 ∧ ¬ k < x.1 4))) [(1, "java/lang/IllegalArgumentException"), (2, "java/util/NoSuchElementException")] c h) (hm : (¬ t ≤ 3 ∧ n = sS m 5 1 ∧ rr = 0) ∨ (t ≤ 3 ∧ ¬ (m.1 7 ≠ 0 ∧ k < m.1 4) ∧ n = sS m 5 2 ∧ rr = 0) ∨ (t ≤ 3 ∧ (m.1 7 ≠ 0 ∧ k < m.1 4) ∧ n = sS m 5 0 ∧ rr = ndM m k t)) : STEP h n c rr := by
  have P := prs_f J.2.2.2.2.2.2.2
  have hk : (m.1 7 ≠ 0 ∧ k < m.1 4) ↔ k < x.1 4 := by
    rcases P with ⟨p1, p2⟩ | ⟨p1, p2, _⟩ <;> omega
  rw [hk] at hm
  rcases hh with ⟨rfl, r0, hr, ⟨t1, t2, t3, t4⟩, ho⟩ | ⟨E, hE, hu, hx⟩
  · rcases hm with ⟨a, _⟩ | ⟨_, a, _⟩ | ⟨_, _, a, b⟩
    · exact absurd t2 a
    · exact absurd t3 a
    · rw [a]
      refine ⟨by rw [t1]; exact j_5 J 0 (by decide), rfl, fun _ => ?_⟩
      rw [ho, t4, b]
      rcases P with ⟨_, p2⟩ | ⟨p1, p2, p3, p4, p5, p6, p7⟩
      · omega
      · obtain ⟨q1, q2, q3, q4, q5, q6⟩ := p7 k t3
        rcases (show t = 0 ∨ t = 1 ∨ t = 2 ∨ t = 3 by omega) with rfl | rfl | rfl | rfl
        · show sx (x.2.1 20 k) = sx (m.2.1 15 k); rw [q1]
        · show sx (x.2.1 21 k) = sx (m.2.1 16 k); rw [q2]
        · show sx (x.2.1 22 k) = sx (m.2.1 17 k); rw [q3]
        · rw [q6]; rfl
  · rcases ns2 hE with ⟨rfl, rfl⟩ | ⟨rfl, rfl⟩
    · rcases hx with ⟨-, z⟩ | ⟨z, -⟩
      · rcases hm with ⟨_, b, _⟩ | ⟨a, _⟩ | ⟨a, _⟩
        · rw [b]; exact ⟨by rw [hu]; exact j_5 J 1 (by decide), rfl, fun q => absurd q (by decide)⟩
        · exact absurd a z
        · exact absurd a z
      · exact absurd z (by decide)
    · rcases hx with ⟨z, -⟩ | ⟨-, z, z2⟩
      · exact absurd z (by decide)
      · rcases hm with ⟨a, _⟩ | ⟨_, _, b, _⟩ | ⟨_, a, _⟩
        · exact absurd z a
        · rw [b]; exact ⟨by rw [hu]; exact j_5 J 2 (by decide), rfl, fun q => absurd q (by decide)⟩
        · exact absurd a z2
theorem jt_many {r i j c rr : Nat} {x m n : ST} {h : SH} (J : JV x m) (hh : HPI (fun rr u => u = x ∧ r < x.1 3 ∧ i < j ∧ j ≤ x.1 1 ∧ rr = x.2.1 12 (r * 105 + spn i j)) (fun E u => u = x ∧ ((E = "java/lang/IllegalArgumentException" ∧ ¬ r < x.1 3) ∨ (E = "java/util/NoSuchElementException" ∧ r < x.1 3 ∧ ¬ (i < j ∧ j ≤ x.1 1)))) [(1, "java/lang/IllegalArgumentException"), (2, "java/util/NoSuchElementException")] c h) (hm : (¬ r < m.1 0 ∧ n = sS m 5 1 ∧ rr = 0) ∨ (r < m.1 0 ∧ ¬ (m.1 6 ≠ 0 ∧ i < j ∧ j ≤ m.1 3) ∧ n = sS m 5 2 ∧ rr = 0) ∨ (r < m.1 0 ∧ (m.1 6 ≠ 0 ∧ i < j ∧ j ≤ m.1 3) ∧ n = sS m 5 0 ∧ rr = wM m r i j)) : STEP h n c rr := by
  have hR : m.1 0 = x.1 3 := J.2.2.2.2.2.2.1.2.2.1.1.symm
  have P := J.2.2.2.2.2.2.2
  have hk : (m.1 6 ≠ 0 ∧ i < j ∧ j ≤ m.1 3) ↔ (i < j ∧ j ≤ x.1 1) := by
    rcases P with ⟨p1, p2, p3, p4⟩ | ⟨p1, p2, _⟩ <;> omega
  rw [hk, hR] at hm
  rcases hh with ⟨rfl, r0, hr, ⟨t1, t2, t3, t4, t5⟩, ho⟩ | ⟨E, hE, hu, hx⟩
  · rcases hm with ⟨a, _⟩ | ⟨_, a, _⟩ | ⟨_, _, a, b⟩
    · exact absurd t2 a
    · exact absurd ⟨t3, t4⟩ a
    · rw [a]
      refine ⟨by rw [t1]; exact j_5 J 0 (by decide), rfl, fun _ => ?_⟩
      rw [ho, t5, b]
      rcases P with ⟨p1, p2, p3, p4⟩ | ⟨p1, p2, p3, p4, _⟩
      · omega
      · rw [p4 r t2 i j t3 t4]
  · rcases ns2 hE with ⟨rfl, rfl⟩ | ⟨rfl, rfl⟩
    · rcases hx with ⟨-, z⟩ | ⟨z, -⟩
      · rcases hm with ⟨_, b, _⟩ | ⟨a, _⟩ | ⟨a, _⟩
        · rw [b]; exact ⟨by rw [hu]; exact j_5 J 1 (by decide), rfl, fun q => absurd q (by decide)⟩
        · exact absurd a z
        · exact absurd a z
      · exact absurd z (by decide)
    · rcases hx with ⟨z, -⟩ | ⟨-, z, z2⟩
      · exact absurd z (by decide)
      · rcases hm with ⟨a, _⟩ | ⟨_, _, b, _⟩ | ⟨_, a, _⟩
        · exact absurd z a
        · rw [b]; exact ⟨by rw [hu]; exact j_5 J 2 (by decide), rfl, fun q => absurd q (by decide)⟩
        · exact absurd a z2
theorem jt_count {x m : ST} (J : JV x m) (t : Nat) : ctv x t = ctM m t := by
  have hR : m.1 0 = x.1 3 := J.2.2.2.2.2.2.1.2.2.1.1.symm
  have h2 : m.1 2 = x.1 0 := J.2.2.2.2.2.1
  have hN : m.1 1 = x.1 2 := J.2.2.2.2.1.2.1
  have e3 : x.1 4 = if m.1 7 = 0 then 0 else m.1 4 := by
    rcases prs_f J.2.2.2.2.2.2.2 with ⟨p1, p2⟩ | ⟨p1, p2, _⟩
    · rw [if_pos p1, p2]
    · rw [if_neg (by omega), p2]
  have e4 : x.1 1 = if m.1 6 = 0 then 0 else m.1 3 := by
    rcases J.2.2.2.2.2.2.2 with ⟨p1, _, p3, _⟩ | ⟨p1, p2, _⟩
    · rw [if_pos p1, p3]
    · rw [if_neg (by omega), p2]
  unfold ctv ctM
  rw [hR, h2, hN, ← e3, ← e4]

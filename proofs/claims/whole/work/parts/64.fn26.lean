/-! ROWS OF THE LAW -/
def SCR (K : KX) (b Lg : Nat) (xs : Nat → Int32) : Prop := va_X b Lg xs (ks K) (ks K).heap ∧ b < (ks K).heap.size ∧ ¬ kA K b
def sv (xs : Nat → Int32) (j : Nat) : Nat := (xs j).toBitVec.toNat
theorem sv_32 {xs : Nat → Int32} {j : Nat} : sv xs j < 4294967296 := (xs j).toBitVec.isLt
theorem sv_nI {xs : Nat → Int32} {j : Nat} : nI (sv xs j) = xs j := nI_inj (by
  rw [nI_bv]
  unfold sv
  simp)
def shl32 (x : Int64) : Int64 := x <<< ((nI 32).toInt64 &&& 63)
def lov (x y : Int64) : Nat := (x ||| y).toBitVec.toNat
theorem lov_lt {x y : Int64} : lov x y < 18446744073709551616 := (x ||| y).toBitVec.isLt
theorem lN_lov {x y : Int64} : lN (lov x y) = x ||| y := Int64.toBitVec_inj.mp (by
  show BitVec.ofNat 64 (lov x y) = _
  unfold lov
  simp)
def bo (v : Nat) : Nat := if v = 0 then 0 else 1
theorem bo_le (v : Nat) : bo v ≤ 1 := by unfold bo; split <;> omega
section LROWS
variable {K : KX} {cc : ByteArray} {own : String} {tys : List (ClassId × FieldType)} {ws ws' : va_W} {L : List (Option Value)} {pc lv : Nat} {S st0 : List Value} {a b Lg : Nat} {xs : Nat → Int32}
theorem s_ld {i : Nat} (C : CT K cc own tys lv) (hX : SCR K b Lg xs) (hL : Lg < 2147483648) (d : decode cc pc = .ok (.iaload, 1)) (hi : i < Lg) (k : WA K ws L (pc + 1) (.int (nI (sv xs i)) :: S)) : WA K ws L pc (.int (nI i) :: .ref b :: S) := fun H locs ls hP hD hS hl => va_sld C.1 C.2.1 hX.1 hX.2.1 hX.2.2 hS (vp_in_nI hi hL) d (by rw [nI_clamp (show i < 2 ^ 31 by omega), ← sv_nI (xs := xs) (j := i)]; exact k H locs ls hP hD hS hl)
theorem s_len (C : CT K cc own tys lv) (hX : SCR K b Lg xs) (d : decode cc pc = .ok (.arraylength, 1)) (k : WA K ws L (pc + 1) (.int (nI Lg) :: S)) : WA K ws L pc (.ref b :: S) := fun H locs ls hP hD hS hl => va_slen C.1 C.2.1 hX.1 hX.2.1 hX.2.2 hS d (k H locs ls hP hD hS hl)
theorem a_lshl32 {x : Int64} (C : CT K cc own tys lv) (d : decode cc pc = .ok (.lshl, 1)) (k : WA K ws L (pc + 1) (.long (shl32 x) :: S)) : WA K ws L pc (.int (nI 32) :: .long x :: S) := fun H locs ls hP hD hS hl => lv_lshl C.1 C.2.1 d rfl (k H locs ls hP hD hS hl)
theorem a_landg {x y : Int64} (C : CT K cc own tys lv) (d : decode cc pc = .ok (.land, 1)) (k : WA K ws L (pc + 1) (.long (x &&& y) :: S)) : WA K ws L pc (.long y :: .long x :: S) := fun H locs ls hP hD hS hl => lv_land C.1 C.2.1 d (k H locs ls hP hD hS hl)
theorem a_lorE {x y : Int64} (C : CT K cc own tys lv) (d : decode cc pc = .ok (.lor, 1)) (k : WA K ws L (pc + 1) (.long (lN (lov x y)) :: S)) : WA K ws L pc (.long y :: .long x :: S) := fun H locs ls hP hD hS hl => lv_lor C.1 C.2.1 d (by rw [← lN_lov]; exact k H locs ls hP hD hS hl)
theorem a_i2d {n : Nat} (C : CT K cc own tys lv) (d : decode cc pc = .ok (.i2d, 1)) (k : WA K ws L (pc + 1) (.double (FP.i2d (nI n)) :: S)) : WA K ws L pc (.int (nI n) :: S) := fun H locs ls hP hD hS hl => lv_i2d C.1 C.2.1 d (k H locs ls hP hD hS hl)
theorem a_lcmpS {x y : Int64} (C : CT K cc own tys lv) (d : decode cc pc = .ok (.lcmp, 1)) (hxy : x = y) (k : WA K ws L (pc + 1) (.int (nI 0) :: S)) : WA K ws L pc (.long y :: .long x :: S) := fun H locs ls hP hD hS hl => W.lcmp C.1 C.2.1 d (by
  subst hxy
  have e : lg_cmp x x = nI 0 := by
    have h1 : ¬ x < x := Int64.lt_irrefl
    have h4 : (0 : Int32) = nI 0 := by decide
    simp [lg_cmp, h1, ← h4]
  rw [e]; exact k H locs ls hP hD hS hl)
theorem a_dcmpS {x y : UInt64} {op : CmpOp} (C : CT K cc own tys lv) (d : decode cc pc = .ok (.dcmp op, 1)) (hxy : x = y) (hf : ∃ E : Int, fp_E y E) (k : WA K ws L (pc + 1) (.int (nI 0) :: S)) : WA K ws L pc (.double y :: .double x :: S) := by
  obtain ⟨E, hE⟩ := hf
  subst hxy
  have e := fp_self hE
  refine a_dcmp C d (fun q => ?_) (fun _ => k) (fun q => ?_) (fun q => ?_)
  · rw [e] at q; cases q
  · rw [e] at q; cases q
  · rw [e] at q; cases q
theorem a_bool {v : Nat} {pc7 pc8 : Nat} (C : CT K cc own tys lv) (d0 : decode cc pc = .ok (.ifCond .eq 7, 3)) (d3 : decode cc (pc + 3) = .ok (.iconst 1, 1)) (d4 : decode cc (pc + 3 + 1) = .ok (.goto 4, 3)) (h7 : pc + 7 = pc7) (h8 : pc7 + 1 = pc8) (d7 : decode cc pc7 = .ok (.iconst 0, 1)) (hv : v < 4294967296) (k : WA K ws L pc8 (.int (nI (bo v)) :: S)) : WA K ws L pc (.int (nI v) :: S) := by
  subst h7; subst h8
  refine a_ifeq (tgt := pc + 7) C d0 (by omega) hv (fun h => ?_) (fun h => ?_)
  · refine a_iconst (v := 0) C d7 (by decide) ?_
    have e : bo v = 0 := by unfold bo; rw [if_pos h]
    rw [e] at k
    exact k
  · refine a_iconst (v := 1) C d3 (by decide) ?_
    refine a_goto (tgt := pc + 7 + 1) C d4 (by omega) ?_
    have e : bo v = 1 := by unfold bo; rw [if_neg h]
    rw [e] at k
    exact k
theorem a_wk {L' : List (Option Value)} (h : ∀ (j : Nat) (w : Value), L'[j]? = some (some w) → L[j]? = some (some w)) (k : WA K ws L' pc S) : WA K ws L pc S := fun H locs ls hP hD hS hl => k H locs ls hP hD hS ⟨hl.1, hl.2.1, fun q hq => by
  obtain ⟨j, w⟩ := q
  obtain ⟨-, h2⟩ := lk_of L' 0 j w hq
  rw [Nat.sub_zero] at h2
  have := lk_get L 0 j w (h _ _ h2)
  rw [Nat.zero_add] at this
  exact hl.2.2 _ this⟩
theorem a_f3 {v0 v1 v2 v3 v4 v5 v6 v7 v8 : Option Value} (k : WA K ws [v0, v1, v2, v3, v4, v5, none, none, none] pc S) : WA K ws [v0, v1, v2, v3, v4, v5, v6, v7, v8] pc S := a_wk (fun j w h => by
  rcases j with _ | _ | _ | _ | _ | _ | _ | _ | _ | j
  · exact h
  · exact h
  · exact h
  · exact h
  · exact h
  · exact h
  · cases h
  · cases h
  · cases h
  · cases h) k
theorem a_swap {u v w : va_W} (k : WA K (v ++ (u ++ w)) L pc S) : WA K (u ++ (v ++ w)) L pc S := fun H locs ls hP hD hS hl => by
  have g1 : ∀ j q, u[j]? = some q → (u ++ (v ++ w))[j]? = some q := fun j q h => by
    rw [List.getElem?_append_left (List.getElem?_eq_some_iff.mp h).1]; exact h
  have g2 : ∀ j q, v[j]? = some q → (u ++ (v ++ w))[u.length + j]? = some q := fun j q h => by
    rw [List.getElem?_append_right (by omega), show u.length + j - u.length = j by omega, List.getElem?_append_left (List.getElem?_eq_some_iff.mp h).1]; exact h
  have g3 : ∀ j q, w[j]? = some q → (u ++ (v ++ w))[u.length + (v.length + j)]? = some q := fun j q h => by
    rw [List.getElem?_append_right (by omega), show u.length + (v.length + j) - u.length = v.length + j by omega, List.getElem?_append_right (by omega), show v.length + j - v.length = j by omega]; exact h
  have p1 : va_P (kD K) cls6 u H := fun j q h => hP _ q (g1 j q h)
  have p2 : va_P (kD K) cls6 v H := fun j q h => hP _ q (g2 j q h)
  have p3 : va_P (kD K) cls6 w H := fun j q h => hP _ q (g3 j q h)
  have d1 : va_D (kA K) u := ⟨fun i j p q hi hj e => hD.1 _ _ p q (g1 i p hi) (g1 j q hj) e, fun j q h => hD.2 _ q (g1 j q h)⟩
  have d2 : va_D (kA K) v := ⟨fun i j p q hi hj e => by have := hD.1 _ _ p q (g2 i p hi) (g2 j q hj) e; omega, fun j q h => hD.2 _ q (g2 j q h)⟩
  have d3 : va_D (kA K) w := ⟨fun i j p q hi hj e => by have := hD.1 _ _ p q (g3 i p hi) (g3 j q hj) e; omega, fun j q h => hD.2 _ q (g3 j q h)⟩
  have d13 : va_D (kA K) (u ++ w) := d1.app d3 (fun i j p q hi hj e => by
    have := hD.1 _ _ p q (g1 i p hi) (g3 j q hj) e
    have := (List.getElem?_eq_some_iff.mp hi).1
    omega)
  have p13 : va_P (kD K) cls6 (u ++ w) H := p1.app p3
  refine k H locs ls (p2.app p13) (d2.app d13 (fun i j p q hi hj e => ?_)) hS hl
  have h2 := (List.getElem?_eq_some_iff.mp hi).1
  by_cases hj2 : j < u.length
  · rw [List.getElem?_append_left hj2] at hj
    have := hD.1 _ _ p q (g2 i p hi) (g1 j q hj) e
    omega
  · rw [List.getElem?_append_right (by omega)] at hj
    have := hD.1 _ _ p q (g2 i p hi) (g3 _ q hj) e
    omega
theorem gi_W {cx cy : Cond} {own : String} {idx : Nat} {y : MethodName} (h1 : Cond.methodLink own idx y ∈ LG) (h2 : Cond.static y ∈ LG) (h4 : Cond.initialized y.cls ∈ LG) (h5 : cy ∈ LG) : GoodIn (cx :: LG) (va_wsS own idx y (cy :: LG)) := by
  intro w hw
  rcases List.mem_append.mp hw with h | h
  · have hl : w ∈ LG := by
      simp only [List.mem_cons, List.not_mem_nil, or_false] at h
      rcases h with rfl | rfl | rfl
      · exact h1
      · exact h2
      · exact h4
    exact ⟨List.mem_cons_of_mem _ hl, LG_good hl⟩
  · rcases List.mem_cons.mp h with rfl | h
    · exact ⟨List.mem_cons_of_mem _ h5, LG_good h5⟩
    · exact ⟨List.mem_cons_of_mem _ h, LG_good h⟩
theorem e_H {y : MethodName} {cy : ByteArray} {mL index n : Nat} {hh : List (Nat × Nat × Nat × Nat)} {As : List Value} {post : Nat → SH → Prop} {h : SH} {WW : SH → va_W} {w1 w2 : va_W} (C : CT K cc own tys lv) (X : XK K) (hM : CH (kl K) (kD K) tys WW y cy mL hh As h post) (h1 : Cond.methodLink own index y ∈ LG) (h2 : Cond.static y ∈ LG) (h4 : Cond.initialized y.cls ∈ LG) (h5 : Cond.codeWith y cy mL (some .int) hh ∈ LG) (hd : y.cls ≠ "java/lang/invoke/MethodHandle" ∧ y.cls ≠ "java/lang/invoke/VarHandle" ∧ (parseMethodDescriptor y.desc).map (fun d => d.parameters.length) = some n) (hlev : 7 < lv) (hmL : mL ≤ 21) (hn : As.length = n) (hst : st0 = As.reverse ++ S) (hcat : (S.map fun v => v.category).sum ≤ 8) (d : decode cc pc = .ok (.invokestatic index, 3)) (hr1 : kce K + 1 ≤ (kR K).cells) (hr2 : ksl K + 6 ≤ (kR K).slots) (kk : ∀ (n : Nat) (u : SH), n < 4294967296 → post n u → WA (kset K (kce K + 1) (ksl K + 6)) (w1 ++ (WW u ++ w2)) L (pc + 3) (.int (nI n) :: S)) : WA K (w1 ++ (WW h ++ w2)) L pc st0 := by
  intro H locs ls hP hD hS hl
  obtain ⟨r1, r2, r3, r4⟩ := C.2.2.2.2.2.2.2.2.2
  have hts := (fix_of C).2.2.2.2
  have hF := fr_of C (sub_D hD) hS
  refine va_calli (vx_runSW (fix_of C) (hM H.size) (vx_cwSW n hts (gi_W h1 h2 h4 h5) rfl rfl rfl hd ⟨show 7 + 1 ≤ _ by omega, show 8 + (mL + 11) + 40 * 7 ≤ _ by omega⟩) ⟨PREX_blind, fun U hU hW => pre_x C X (sub_P hP) (sub_D hD) hS hU hW⟩ rfl hn hl.1 hst (lv_room hcat) d ⟨hr1, hr2⟩) hS (fun q _ h => hF q h) hF (fun r u t H1 locs1 ht hvm hw hB hz1 hk1 hS1 => ?_)
  obtain ⟨n, rfl, hn, hp⟩ := hw
  obtain ⟨hP1, hD1⟩ := hB
  rw [ht] at hP1
  obtain ⟨e1, e2⟩ := emb hP hD (A_ge C hS) hP1 hD1 hk1
  exact kk n u hn hp H1 locs1 ls e1 e2 hS1 hl
end LROWS
theorem j_b4 {x m : ST} (J : JV x m) : x.1 4 ≤ 162 ∧ ∀ q, q < x.1 4 → x.2.1 21 q ≤ 14 ∧ x.2.1 22 q ≤ 14 := by
  rcases prs_f J.2.2.2.2.2.2.2 with ⟨_, p⟩ | ⟨_, _, _, p4, _, _, p⟩
  · exact ⟨by omega, fun q hq => by omega⟩
  · exact ⟨p4, fun q hq => ⟨(p q hq).2.2.2.1, (p q hq).2.2.2.2.1⟩⟩
theorem j_b1 {x m : ST} (J : JV x m) : x.1 1 ≤ 14 := by
  rcases J.2.2.2.2.2.2.2 with ⟨_, _, p, _⟩ | ⟨_, _, p, _⟩ <;> omega
theorem j_ch33 {x m : ST} (J : JV x m) : m.1 1 ≤ 14 ∧ ∀ q, q < m.1 1 → 33 ≤ m.2.1 1 q ∧ m.2.1 1 q ≤ 126 := by
  have a5 := J.2.2.2.2.1
  refine ⟨by rw [a5.2.1]; exact a5.1.1, fun q hq => ?_⟩
  rw [a5.2.1] at hq
  rw [a5.2.2 q hq]
  exact a5.1.2 q hq

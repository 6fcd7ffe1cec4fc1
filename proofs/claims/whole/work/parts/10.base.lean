/-! THE JUDGEMENT: all that stays the same in a method's walk is one tuple K; ints are nI of natural numbers; locals are a list by slot -/
abbrev KX : Type := (Program × Launch × Env × Room × State) × (MethodId × Array Value × List Frame × Method × Code) × (va_G × (Nat → Prop) × Nat × (State → Prop)) × (Nat × Nat)
abbrev kp (K : KX) : Program := K.1.1
abbrev kl (K : KX) : Launch := K.1.2.1
abbrev ke (K : KX) : Env := K.1.2.2.1
abbrev kR (K : KX) : Room := K.1.2.2.2.1
abbrev ks (K : KX) : State := K.1.2.2.2.2
abbrev km (K : KX) : MethodId := K.2.1.1
abbrev ka (K : KX) : Array Value := K.2.1.2.1
abbrev kb (K : KX) : List Frame := K.2.1.2.2.1
abbrev kt (K : KX) : Method := K.2.1.2.2.2.1
abbrev kc (K : KX) : Code := K.2.1.2.2.2.2
abbrev kD (K : KX) : va_G := K.2.2.1.1
abbrev kA (K : KX) : Nat → Prop := K.2.2.1.2.1
abbrev kn (K : KX) : Nat := K.2.2.1.2.2.1
abbrev kQ (K : KX) : State → Prop := K.2.2.1.2.2.2
abbrev kce (K : KX) : Nat := K.2.2.2.1
abbrev ksl (K : KX) : Nat := K.2.2.2.2
/-- the locals that are known, with their slots -/
def lk : Nat → List (Option Value) → List (Nat × Value)
  | _, [] => []
  | i, none :: t => lk (i + 1) t
  | i, some v :: t => (i, v) :: lk (i + 1) t
theorem lk_get : ∀ (L : List (Option Value)) (o i : Nat) (v : Value), L[i]? = some (some v) → (o + i, v) ∈ lk o L
  | [], _, i, _, h => by simp at h
  | none :: t, o, 0, v, h => by simp at h
  | none :: t, o, i + 1, v, h => by
    have := lk_get t (o + 1) i v (by simpa using h)
    rw [show o + (i + 1) = o + 1 + i by omega]
    exact this
  | some x :: t, o, 0, v, h => by
    simp at h
    subst h
    exact List.mem_cons_self
  | some x :: t, o, i + 1, v, h => by
    have := lk_get t (o + 1) i v (by simpa using h)
    rw [show o + (i + 1) = o + 1 + i by omega]
    exact List.mem_cons_of_mem _ this
theorem lk_of : ∀ (L : List (Option Value)) (o j : Nat) (v : Value), (j, v) ∈ lk o L → o ≤ j ∧ L[j - o]? = some (some v)
  | [], _, _, _, h => by cases h
  | none :: t, o, j, v, h => by
    obtain ⟨h1, h2⟩ := lk_of t (o + 1) j v h
    refine ⟨by omega, ?_⟩
    rw [show j - o = (j - (o + 1)) + 1 by omega]
    exact h2
  | some x :: t, o, j, v, h => by
    rcases List.mem_cons.mp h with h | h
    · cases h
      exact ⟨Nat.le_refl _, by simp⟩
    · obtain ⟨h1, h2⟩ := lk_of t (o + 1) j v h
      refine ⟨by omega, ?_⟩
      rw [show j - o = (j - (o + 1)) + 1 by omega]
      exact h2
theorem lk_at {ls : Array Slot} {nL : Nat} {L : List (Option Value)} {i : Nat} {v : Value} (h : lv_has ls nL (lk 0 L)) (hi : L[i]? = some (some v)) : ls[i]? = some (.val v) := h.2.2 (i, v) (by have := lk_get L 0 i v hi; rwa [Nat.zero_add] at this)
/-- a slot that holds no long or double -/
def c1 : Option Value → Bool
  | none => true
  | some v => v.category == 1
def WA (K : KX) (ws : va_W) (L : List (Option Value)) (pc : Nat) (S : List Value) : Prop := ∀ (H : Heap) (locs : List Loc) (ls : Array Slot), va_P (kD K) cls6 ws H → va_D (kA K) ws → va_S (kA K) (ks K).heap H locs → lv_has ls (kn K) (lk 0 L) → W (kp K) (kl K) (ke K) (kR K) (ks K) (km K) (ka K) (kb K) (kt K) (kc K) H locs (kce K) (ksl K) (kQ K) (F0 (km K) pc ls S)
def CT (K : KX) (cc : ByteArray) (own : String) (tys : List (ClassId × FieldType)) (lv : Nat) : Prop := (kp K).tables.exec = Jvm.exec ∧ (kc K).code = cc ∧ (kc K).maxLocals = kn K ∧ (ks K).vm.findClass own = some (km K).cls ∧ (∀ w ∈ LG, w.before (ka K) (ks K) = true) ∧ va_K (kD K) cls6 tys (ks K) ∧ ENV (ks K) ∧ (∀ q, (ks K).heap.size ≤ q → kA K q) ∧ (kt K).locks = false ∧ (lv ≤ (kR K).frames ∧ 40 * lv ≤ (kR K).locals ∧ kce K ≤ (kR K).cells ∧ ksl K ≤ (kR K).slots)
section BASE
variable {K : KX} {cc : ByteArray} {own : String} {tys : List (ClassId × FieldType)} {ws : va_W} {L : List (Option Value)} {pc lv : Nat} {S : List Value}
theorem a_iload {i : Nat} {x : Int32} (C : CT K cc own tys lv) (d : decode cc pc = .ok (.iload i, 2)) (h : L[i]? = some (some (.int x))) (k : WA K ws L (pc + 2) (.int x :: S)) : WA K ws L pc S := fun H locs ls hP hD hS hl => lv_iload C.1 C.2.1 d (lk_at hl h) (k H locs ls hP hD hS hl)
theorem a_iloadn {j : Fin 4} {i : Nat} {x : Int32} (C : CT K cc own tys lv) (d : decode cc pc = .ok (.iload_n j, 1)) (hj : (j : Nat) = i) (h : L[i]? = some (some (.int x))) (k : WA K ws L (pc + 1) (.int x :: S)) : WA K ws L pc S := fun H locs ls hP hD hS hl => lv_iload_n C.1 C.2.1 d hj (lk_at hl h) (k H locs ls hP hD hS hl)
theorem a_lload {i : Nat} {x : Int64} (C : CT K cc own tys lv) (d : decode cc pc = .ok (.lload i, 2)) (h : L[i]? = some (some (.long x))) (k : WA K ws L (pc + 2) (.long x :: S)) : WA K ws L pc S := fun H locs ls hP hD hS hl => lv_lload C.1 C.2.1 d (lk_at hl h) (k H locs ls hP hD hS hl)
theorem a_lloadn {j : Fin 4} {i : Nat} {x : Int64} (C : CT K cc own tys lv) (d : decode cc pc = .ok (.lload_n j, 1)) (hj : (j : Nat) = i) (h : L[i]? = some (some (.long x))) (k : WA K ws L (pc + 1) (.long x :: S)) : WA K ws L pc S := fun H locs ls hP hD hS hl => lv_lload_n C.1 C.2.1 d hj (lk_at hl h) (k H locs ls hP hD hS hl)
theorem a_dload {i : Nat} {x : UInt64} (C : CT K cc own tys lv) (d : decode cc pc = .ok (.dload i, 2)) (h : L[i]? = some (some (.double x))) (k : WA K ws L (pc + 2) (.double x :: S)) : WA K ws L pc S := fun H locs ls hP hD hS hl => lv_dload C.1 C.2.1 d (lk_at hl h) (k H locs ls hP hD hS hl)
theorem a_dloadn {j : Fin 4} {i : Nat} {x : UInt64} (C : CT K cc own tys lv) (d : decode cc pc = .ok (.dload_n j, 1)) (hj : (j : Nat) = i) (h : L[i]? = some (some (.double x))) (k : WA K ws L (pc + 1) (.double x :: S)) : WA K ws L pc S := fun H locs ls hP hD hS hl => lv_dload_n C.1 C.2.1 d hj (lk_at hl h) (k H locs ls hP hD hS hl)
theorem a_aload {i : Nat} {x : Nat} (C : CT K cc own tys lv) (d : decode cc pc = .ok (.aload i, 2)) (h : L[i]? = some (some (.ref x))) (k : WA K ws L (pc + 2) (.ref x :: S)) : WA K ws L pc S := fun H locs ls hP hD hS hl => lv_aload C.1 C.2.1 d (lk_at hl h) (k H locs ls hP hD hS hl)
theorem a_aloadn {j : Fin 4} {i : Nat} {x : Nat} (C : CT K cc own tys lv) (d : decode cc pc = .ok (.aload_n j, 1)) (hj : (j : Nat) = i) (h : L[i]? = some (some (.ref x))) (k : WA K ws L (pc + 1) (.ref x :: S)) : WA K ws L pc S := fun H locs ls hP hD hS hl => lv_aload_n C.1 C.2.1 d hj (lk_at hl h) (k H locs ls hP hD hS hl)
theorem lk_st1 {L L' : List (Option Value)} {ls : Array Slot} {nL i : Nat} {v : Value} (h : lv_has ls nL ((i, v) :: (lk 0 L).filter (fun q => !(q.1 == i) && !(q.1 + 1 == i && q.2.category == 2)))) (hL : ∀ j w, L'[j]? = some (some w) → (j = i ∧ w = v) ∨ (j ≠ i ∧ L[j]? = some (some w) ∧ (j + 1 = i → w.category = 1))) : lv_has ls nL (lk 0 L') := by
  refine ⟨h.1, h.2.1, fun q hq => ?_⟩
  obtain ⟨j, w⟩ := q
  obtain ⟨-, h2⟩ := lk_of L' 0 j w hq
  rw [Nat.sub_zero] at h2
  rcases hL j w h2 with ⟨rfl, rfl⟩ | ⟨a, b, c⟩
  · exact h.2.2 _ List.mem_cons_self
  · refine h.2.2 (j, w) (List.mem_cons_of_mem _ (List.mem_filter.mpr ⟨?_, ?_⟩))
    · have := lk_get L 0 j w b
      rwa [Nat.zero_add] at this
    · simp only [Bool.and_eq_true, Bool.not_eq_true', beq_eq_false_iff_ne, ne_eq, Bool.and_eq_false_iff]
      refine ⟨a, ?_⟩
      by_cases e : j + 1 = i
      · right; rw [c e]; decide
      · left; exact e
theorem lk_st2 {L L' : List (Option Value)} {ls : Array Slot} {nL i : Nat} {v : Value} (h : lv_has ls nL ((i, v) :: (lk 0 L).filter (fun q => !(q.1 == i) && (!(q.1 == i + 1) && !(q.1 + 1 == i && q.2.category == 2))))) (hL : ∀ j w, L'[j]? = some (some w) → (j = i ∧ w = v) ∨ (j ≠ i ∧ j ≠ i + 1 ∧ L[j]? = some (some w) ∧ (j + 1 = i → w.category = 1))) : lv_has ls nL (lk 0 L') := by
  refine ⟨h.1, h.2.1, fun q hq => ?_⟩
  obtain ⟨j, w⟩ := q
  obtain ⟨-, h2⟩ := lk_of L' 0 j w hq
  rw [Nat.sub_zero] at h2
  rcases hL j w h2 with ⟨rfl, rfl⟩ | ⟨a, a2, b, c⟩
  · exact h.2.2 _ List.mem_cons_self
  · refine h.2.2 (j, w) (List.mem_cons_of_mem _ (List.mem_filter.mpr ⟨?_, ?_⟩))
    · have := lk_get L 0 j w b
      rwa [Nat.zero_add] at this
    · simp only [Bool.and_eq_true, Bool.not_eq_true', beq_eq_false_iff_ne, ne_eq, Bool.and_eq_false_iff]
      refine ⟨a, a2, ?_⟩
      by_cases e : j + 1 = i
      · right; rw [c e]; decide
      · left; exact e
theorem c1_cat {o : Option Value} {v : Value} (h : c1 o = true) (e : o = some v) : v.category = 1 := by
  subst e
  simpa [c1] using h
/-- one slot of a list replaced -/
theorem lset1 {L : List (Option Value)} {i : Nat} {v : Value} (hc : c1 (L.getD (i - 1) none) = true ∨ i = 0) : ∀ j w, (L.set i (some v))[j]? = some (some w) → (j = i ∧ w = v) ∨ (j ≠ i ∧ L[j]? = some (some w) ∧ (j + 1 = i → w.category = 1)) := by
  intro j w h
  by_cases e : i = j
  · subst e
    by_cases hl : i < L.length
    · rw [List.getElem?_set_self hl] at h
      left; exact ⟨rfl, by cases h; rfl⟩
    · rw [List.getElem?_eq_none (by simp; omega)] at h
      cases h
  · rw [List.getElem?_set_ne e] at h
    right
    refine ⟨fun q => e q.symm, h, fun q => ?_⟩
    rcases hc with hc | hc
    · refine c1_cat hc ?_
      rw [show i - 1 = j by omega]
      simp [List.getD, h]
    · omega
theorem lset2 {L : List (Option Value)} {i : Nat} {v : Value} (hc : c1 (L.getD (i - 1) none) = true ∨ i = 0) : ∀ j w, ((L.set i (some v)).set (i + 1) none)[j]? = some (some w) → (j = i ∧ w = v) ∨ (j ≠ i ∧ j ≠ i + 1 ∧ L[j]? = some (some w) ∧ (j + 1 = i → w.category = 1)) := by
  intro j w h
  by_cases e2 : i + 1 = j
  · subst e2
    by_cases hl : i + 1 < (L.set i (some v)).length
    · rw [List.getElem?_set_self hl] at h
      cases h
    · rw [List.getElem?_eq_none (by simp at hl ⊢; omega)] at h
      cases h
  · rw [List.getElem?_set_ne e2] at h
    rcases lset1 hc j w h with q | ⟨q1, q2, q3⟩
    · exact Or.inl q
    · exact Or.inr ⟨q1, fun q => e2 q.symm, q2, q3⟩
theorem a_ist {i : Nat} {x : Int32} {L' : List (Option Value)} (C : CT K cc own tys lv) (d : decode cc pc = .ok (.istore i, 2)) (hn : i < kn K) (hL : L.set i (some (.int x)) = L') (hc : c1 (L.getD (i - 1) none) = true ∨ i = 0) (k : WA K ws L' (pc + 2) S) : WA K ws L pc (.int x :: S) := fun H locs ls hP hD hS hl => lv_istore C.1 C.2.1 d hl hn rfl (fun ls' hl' => k H locs ls' hP hD hS (lk_st1 hl' (by rw [← hL]; exact lset1 hc)))
theorem a_istn {j : Fin 4} {i : Nat} {x : Int32} {L' : List (Option Value)} (C : CT K cc own tys lv) (d : decode cc pc = .ok (.istore_n j, 1)) (hj : (j : Nat) = i) (hn : i < kn K) (hL : L.set i (some (.int x)) = L') (hc : c1 (L.getD (i - 1) none) = true ∨ i = 0) (k : WA K ws L' (pc + 1) S) : WA K ws L pc (.int x :: S) := fun H locs ls hP hD hS hl => lv_istore_n C.1 C.2.1 d hj hl hn rfl (fun ls' hl' => k H locs ls' hP hD hS (lk_st1 hl' (by rw [← hL]; exact lset1 hc)))
theorem a_ast {i : Nat} {x : Nat} {L' : List (Option Value)} (C : CT K cc own tys lv) (d : decode cc pc = .ok (.astore i, 2)) (hn : i < kn K) (hL : L.set i (some (.ref x)) = L') (hc : c1 (L.getD (i - 1) none) = true ∨ i = 0) (k : WA K ws L' (pc + 2) S) : WA K ws L pc (.ref x :: S) := fun H locs ls hP hD hS hl => lv_astore C.1 C.2.1 d hl hn rfl (fun ls' hl' => k H locs ls' hP hD hS (lk_st1 hl' (by rw [← hL]; exact lset1 hc)))
theorem a_astn {j : Fin 4} {i : Nat} {x : Nat} {L' : List (Option Value)} (C : CT K cc own tys lv) (d : decode cc pc = .ok (.astore_n j, 1)) (hj : (j : Nat) = i) (hn : i < kn K) (hL : L.set i (some (.ref x)) = L') (hc : c1 (L.getD (i - 1) none) = true ∨ i = 0) (k : WA K ws L' (pc + 1) S) : WA K ws L pc (.ref x :: S) := fun H locs ls hP hD hS hl => lv_astore_n C.1 C.2.1 d hj hl hn rfl (fun ls' hl' => k H locs ls' hP hD hS (lk_st1 hl' (by rw [← hL]; exact lset1 hc)))
theorem a_lst {i : Nat} {x : Int64} {L' : List (Option Value)} (C : CT K cc own tys lv) (d : decode cc pc = .ok (.lstore i, 2)) (hn : i + 1 < kn K) (hL : (L.set i (some (.long x))).set (i + 1) none = L') (hc : c1 (L.getD (i - 1) none) = true ∨ i = 0) (k : WA K ws L' (pc + 2) S) : WA K ws L pc (.long x :: S) := fun H locs ls hP hD hS hl => lv_lstore C.1 C.2.1 d hl hn rfl (fun ls' hl' => k H locs ls' hP hD hS (lk_st2 hl' (by rw [← hL]; exact lset2 hc)))
theorem a_lstn {j : Fin 4} {i : Nat} {x : Int64} {L' : List (Option Value)} (C : CT K cc own tys lv) (d : decode cc pc = .ok (.lstore_n j, 1)) (hj : (j : Nat) = i) (hn : i + 1 < kn K) (hL : (L.set i (some (.long x))).set (i + 1) none = L') (hc : c1 (L.getD (i - 1) none) = true ∨ i = 0) (k : WA K ws L' (pc + 1) S) : WA K ws L pc (.long x :: S) := fun H locs ls hP hD hS hl => lv_lstore_n C.1 C.2.1 d hj hl hn rfl (fun ls' hl' => k H locs ls' hP hD hS (lk_st2 hl' (by rw [← hL]; exact lset2 hc)))
theorem a_dst {i : Nat} {x : UInt64} {L' : List (Option Value)} (C : CT K cc own tys lv) (d : decode cc pc = .ok (.dstore i, 2)) (hn : i + 1 < kn K) (hL : (L.set i (some (.double x))).set (i + 1) none = L') (hc : c1 (L.getD (i - 1) none) = true ∨ i = 0) (k : WA K ws L' (pc + 2) S) : WA K ws L pc (.double x :: S) := fun H locs ls hP hD hS hl => lv_dstore C.1 C.2.1 d hl hn rfl (fun ls' hl' => k H locs ls' hP hD hS (lk_st2 hl' (by rw [← hL]; exact lset2 hc)))
theorem a_dstn {j : Fin 4} {i : Nat} {x : UInt64} {L' : List (Option Value)} (C : CT K cc own tys lv) (d : decode cc pc = .ok (.dstore_n j, 1)) (hj : (j : Nat) = i) (hn : i + 1 < kn K) (hL : (L.set i (some (.double x))).set (i + 1) none = L') (hc : c1 (L.getD (i - 1) none) = true ∨ i = 0) (k : WA K ws L' (pc + 1) S) : WA K ws L pc (.double x :: S) := fun H locs ls hP hD hS hl => lv_dstore_n C.1 C.2.1 d hj hl hn rfl (fun ls' hl' => k H locs ls' hP hD hS (lk_st2 hl' (by rw [← hL]; exact lset2 hc)))
theorem a_iinc {i : Nat} {n : Int} {x v : Nat} {L' : List (Option Value)} (C : CT K cc own tys lv) (d : decode cc pc = .ok (.iinc i n, 3)) (h : L[i]? = some (some (.int (nI x)))) (hv : nI x + Int32.ofInt n = nI v) (hn : i < kn K) (hL : L.set i (some (.int (nI v))) = L') (hc : c1 (L.getD (i - 1) none) = true ∨ i = 0) (k : WA K ws L' (pc + 3) S) : WA K ws L pc S := fun H locs ls hP hD hS hl => by
  have hm : (i, Value.int (nI x)) ∈ lk 0 L := by have := lk_get L 0 i _ h; rwa [Nat.zero_add] at this
  obtain ⟨k0, hk0⟩ := List.getElem?_of_mem hm
  exact lv_iinc C.1 C.2.1 d hl hk0 hv hn rfl (fun ls' hl' => k H locs ls' hP hD hS (lk_st1 hl' (by rw [← hL]; exact lset1 hc)))
theorem inc_up {x c : Nat} {n : Int} (hn : Int32.ofInt n = nI c) : nI x + Int32.ofInt n = nI (x + c) := by rw [hn, nI_add]
theorem inc_dn {x c : Nat} {n : Int} (h : c ≤ x) (hn : Int32.ofInt n = - nI c) : nI x + Int32.ofInt n = nI (x - c) := by rw [hn, ← pk_sub h, Int32.sub_eq_add_neg]
-- constants
theorem a_iconst {n : Int} {v : Nat} (C : CT K cc own tys lv) (d : decode cc pc = .ok (.iconst n, 1)) (hv : Int32.ofInt n = nI v) (k : WA K ws L (pc + 1) (.int (nI v) :: S)) : WA K ws L pc S := fun H locs ls hP hD hS hl => lv_iconst C.1 C.2.1 d hv (k H locs ls hP hD hS hl)
theorem a_bipush {n : Int} {v : Nat} (C : CT K cc own tys lv) (d : decode cc pc = .ok (.bipush n, 2)) (hv : (Int8.ofInt n).toInt32 = nI v) (k : WA K ws L (pc + 2) (.int (nI v) :: S)) : WA K ws L pc S := fun H locs ls hP hD hS hl => lv_bipush C.1 C.2.1 d hv (k H locs ls hP hD hS hl)
theorem a_sipush {n : Int} {v : Nat} (C : CT K cc own tys lv) (d : decode cc pc = .ok (.sipush n, 3)) (hv : (Int16.ofInt n).toInt32 = nI v) (k : WA K ws L (pc + 3) (.int (nI v) :: S)) : WA K ws L pc S := fun H locs ls hP hD hS hl => lv_sipush C.1 C.2.1 d hv (k H locs ls hP hD hS hl)
theorem a_lconst {n : Fin 2} {v : Nat} (C : CT K cc own tys lv) (d : decode cc pc = .ok (.lconst n, 1)) (hv : (n : Nat) = v) (k : WA K ws L (pc + 1) (.long (lN v) :: S)) : WA K ws L pc S := fun H locs ls hP hD hS hl => lv_lconst C.1 C.2.1 d (by rw [hv]; rfl) (k H locs ls hP hD hS hl)
theorem a_ldc {index : Nat} {v : Int32} {n : Nat} (C : CT K cc own tys lv) (hw : Cond.constant own index v ∈ LG) (d : decode cc pc = .ok (.ldc index, 2)) (hv : v = nI n) (k : WA K ws L (pc + 2) (.int (nI n) :: S)) : WA K ws L pc S := fun H locs ls hP hD hS hl => lv_ldc C.1 C.2.1 C.2.2.2.1 (C.2.2.2.2.1 _ hw) d (by rw [hv]; exact k H locs ls hP hD hS hl)
theorem a_ldc2 {index : Nat} {v : Int64} {n : Nat} (C : CT K cc own tys lv) (hw : Cond.constantLong own index v ∈ LG) (d : decode cc pc = .ok (.ldc2_w index, 3)) (hv : v = lN n) (k : WA K ws L (pc + 3) (.long (lN n) :: S)) : WA K ws L pc S := fun H locs ls hP hD hS hl => lv_ldc2 C.1 C.2.1 C.2.2.2.1 (C.2.2.2.2.1 _ hw) d (by rw [hv]; exact k H locs ls hP hD hS hl)
theorem a_ldc2d {index : Nat} {v : UInt64} (C : CT K cc own tys lv) (hw : Cond.constantDouble own index v ∈ LG) (d : decode cc pc = .ok (.ldc2_w index, 3)) (k : WA K ws L (pc + 3) (.double v :: S)) : WA K ws L pc S := fun H locs ls hP hD hS hl => lv_ldc2d C.1 C.2.1 C.2.2.2.1 (C.2.2.2.2.1 _ hw) d (k H locs ls hP hD hS hl)
-- stack
theorem a_dup {va : Value} (C : CT K cc own tys lv) (d : decode cc pc = .ok (.dup, 1)) (h : va.category = 1) (k : WA K ws L (pc + 1) (va :: va :: S)) : WA K ws L pc (va :: S) := fun H locs ls hP hD hS hl => lv_dup C.1 C.2.1 d h (k H locs ls hP hD hS hl)
theorem a_dup2 {va vb : Value} (C : CT K cc own tys lv) (d : decode cc pc = .ok (.dup2, 1)) (h : va.category = 1) (h2 : vb.category = 1) (k : WA K ws L (pc + 1) (va :: vb :: va :: vb :: S)) : WA K ws L pc (va :: vb :: S) := fun H locs ls hP hD hS hl => lv_dup2_11 C.1 C.2.1 d h h2 (k H locs ls hP hD hS hl)
theorem a_goto {off : Int} {tgt : Nat} (C : CT K cc own tys lv) (d : decode cc pc = .ok (.goto off, 3)) (ht : (pc : Int) + off = (tgt : Int)) (k : WA K ws L tgt S) : WA K ws L pc S := fun H locs ls hP hD hS hl => lv_goto C.1 C.2.1 d ht (k H locs ls hP hD hS hl)
-- int arithmetic on natural numbers
theorem a_iadd {a b : Nat} (C : CT K cc own tys lv) (d : decode cc pc = .ok (.iadd, 1)) (k : WA K ws L (pc + 1) (.int (nI (a + b)) :: S)) : WA K ws L pc (.int (nI b) :: .int (nI a) :: S) := fun H locs ls hP hD hS hl => lv_iadd C.1 C.2.1 d (by rw [nI_add]; exact k H locs ls hP hD hS hl)
theorem a_isub {a b : Nat} (C : CT K cc own tys lv) (d : decode cc pc = .ok (.isub, 1)) (h : b ≤ a) (k : WA K ws L (pc + 1) (.int (nI (a - b)) :: S)) : WA K ws L pc (.int (nI b) :: .int (nI a) :: S) := fun H locs ls hP hD hS hl => lv_isub C.1 C.2.1 d (by rw [pk_sub h]; exact k H locs ls hP hD hS hl)
theorem nI_mod (a : Nat) : nI (a + 4294967296) = nI a := by
  show Int32.ofNat _ = Int32.ofNat _
  apply Int32.toBitVec_inj.mp
  show BitVec.ofNat 32 _ = BitVec.ofNat 32 _
  apply BitVec.eq_of_toNat_eq
  simp
theorem nI_wsub {a b : Nat} (h : b ≤ 4294967296) : nI a - nI b = nI (a + (4294967296 - b)) := by
  rw [← nI_mod a, pk_sub (by omega), show a + 4294967296 - b = a + (4294967296 - b) by omega]
theorem a_isubw {a b : Nat} (C : CT K cc own tys lv) (d : decode cc pc = .ok (.isub, 1)) (h : b ≤ 4294967296) (k : WA K ws L (pc + 1) (.int (nI (a + (4294967296 - b))) :: S)) : WA K ws L pc (.int (nI b) :: .int (nI a) :: S) := fun H locs ls hP hD hS hl => lv_isub C.1 C.2.1 d (by rw [nI_wsub h]; exact k H locs ls hP hD hS hl)
theorem a_imul {a b : Nat} (C : CT K cc own tys lv) (d : decode cc pc = .ok (.imul, 1)) (k : WA K ws L (pc + 1) (.int (nI (a * b)) :: S)) : WA K ws L pc (.int (nI b) :: .int (nI a) :: S) := fun H locs ls hP hD hS hl => lv_imul C.1 C.2.1 d (by rw [pk_mul]; exact k H locs ls hP hD hS hl)
theorem a_idiv {a b : Nat} (C : CT K cc own tys lv) (d : decode cc pc = .ok (.idiv, 1)) (h : a < 2147483648) (h0 : 0 < b) (h2 : b < 2147483648) (k : WA K ws L (pc + 1) (.int (nI (a / b)) :: S)) : WA K ws L pc (.int (nI b) :: .int (nI a) :: S) := fun H locs ls hP hD hS hl => lv_idiv C.1 C.2.1 d (nI_ne0 h0 h2) (by rw [pk_div h h0 h2]; exact k H locs ls hP hD hS hl)
theorem nI_bv (a : Nat) : (nI a).toBitVec = BitVec.ofNat 32 a := rfl
theorem nI_inj {x y : Int32} (h : x.toBitVec = y.toBitVec) : x = y := Int32.toBitVec_inj.mp h
theorem nI_and (a b : Nat) : nI a &&& nI b = nI (a &&& b) := nI_inj (by
  show (nI a).toBitVec &&& (nI b).toBitVec = _
  rw [nI_bv, nI_bv, nI_bv]
  apply BitVec.eq_of_getLsbD_eq
  intro i hi
  simp [hi])
theorem nI_or (a b : Nat) : nI a ||| nI b = nI (a ||| b) := nI_inj (by
  show (nI a).toBitVec ||| (nI b).toBitVec = _
  rw [nI_bv, nI_bv, nI_bv]
  apply BitVec.eq_of_getLsbD_eq
  intro i hi
  simp [hi])
theorem nI_xor (a b : Nat) : nI a ^^^ nI b = nI (a ^^^ b) := nI_inj (by
  show (nI a).toBitVec ^^^ (nI b).toBitVec = _
  rw [nI_bv, nI_bv, nI_bv]
  apply BitVec.eq_of_getLsbD_eq
  intro i hi
  simp [hi])
theorem a_iand {a b : Nat} (C : CT K cc own tys lv) (d : decode cc pc = .ok (.iand, 1)) (k : WA K ws L (pc + 1) (.int (nI (a &&& b)) :: S)) : WA K ws L pc (.int (nI b) :: .int (nI a) :: S) := fun H locs ls hP hD hS hl => lv_iand C.1 C.2.1 d (by rw [nI_and]; exact k H locs ls hP hD hS hl)
theorem a_ior {a b : Nat} (C : CT K cc own tys lv) (d : decode cc pc = .ok (.ior, 1)) (k : WA K ws L (pc + 1) (.int (nI (a ||| b)) :: S)) : WA K ws L pc (.int (nI b) :: .int (nI a) :: S) := fun H locs ls hP hD hS hl => lv_ior C.1 C.2.1 d (by rw [nI_or]; exact k H locs ls hP hD hS hl)
theorem a_ixor {a b : Nat} (C : CT K cc own tys lv) (d : decode cc pc = .ok (.ixor, 1)) (k : WA K ws L (pc + 1) (.int (nI (a ^^^ b)) :: S)) : WA K ws L pc (.int (nI b) :: .int (nI a) :: S) := fun H locs ls hP hD hS hl => lv_ixor C.1 C.2.1 d (by rw [nI_xor]; exact k H locs ls hP hD hS hl)
theorem sh_amt : ∀ b, b < 32 → ((nI b &&& 31).toBitVec.smod 32).toNat = b := by decide +kernel
theorem nI_tn (a : Nat) : (nI a).toBitVec.toNat = a % 4294967296 := by rw [nI_bv, BitVec.toNat_ofNat]
theorem nI_shl {a b : Nat} (h : b < 32) : nI a <<< (nI b &&& 31) = nI (a * 2 ^ b) := nI_inj (by
  apply BitVec.eq_of_toNat_eq
  rw [pk_shl (nI a) (nI b &&& 31) b (sh_amt b h), nI_tn, nI_tn]
  rw [Nat.mul_mod, Nat.mod_mod, ← Nat.mul_mod])
theorem a_ishl {a b : Nat} (C : CT K cc own tys lv) (d : decode cc pc = .ok (.ishl, 1)) (h : b < 32) (k : WA K ws L (pc + 1) (.int (nI (a * 2 ^ b)) :: S)) : WA K ws L pc (.int (nI b) :: .int (nI a) :: S) := fun H locs ls hP hD hS hl => lv_ishl C.1 C.2.1 d (by rw [nI_shl h]; exact k H locs ls hP hD hS hl)
theorem a_ishr {a b : Nat} (C : CT K cc own tys lv) (d : decode cc pc = .ok (.ishr, 1)) (h : b < 32) (ha : a < 2147483648) (k : WA K ws L (pc + 1) (.int (nI (a / 2 ^ b)) :: S)) : WA K ws L pc (.int (nI b) :: .int (nI a) :: S) := fun H locs ls hP hD hS hl => lv_ishr C.1 C.2.1 d (by rw [pk_shrN ha _ b (sh_amt b h)]; exact k H locs ls hP hD hS hl)
-- longs
theorem a_i2l {a : Nat} (C : CT K cc own tys lv) (d : decode cc pc = .ok (.i2l, 1)) (h : a < 2147483648) (k : WA K ws L (pc + 1) (.long (lN a) :: S)) : WA K ws L pc (.int (nI a) :: S) := fun H locs ls hP hD hS hl => lv_i2l C.1 C.2.1 d (nI_l h) (k H locs ls hP hD hS hl)
theorem a_l2i {a : Nat} (C : CT K cc own tys lv) (d : decode cc pc = .ok (.l2i, 1)) (k : WA K ws L (pc + 1) (.int (nI a) :: S)) : WA K ws L pc (.long (lN a) :: S) := fun H locs ls hP hD hS hl => lv_l2i C.1 C.2.1 d (lN_i a) (k H locs ls hP hD hS hl)
theorem a_ladd {a b : Nat} (C : CT K cc own tys lv) (d : decode cc pc = .ok (.ladd, 1)) (k : WA K ws L (pc + 1) (.long (lN (a + b)) :: S)) : WA K ws L pc (.long (lN b) :: .long (lN a) :: S) := fun H locs ls hP hD hS hl => lv_ladd C.1 C.2.1 d (by rw [lN_add]; exact k H locs ls hP hD hS hl)
theorem a_lmul {a b : Nat} (C : CT K cc own tys lv) (d : decode cc pc = .ok (.lmul, 1)) (k : WA K ws L (pc + 1) (.long (lN (a * b)) :: S)) : WA K ws L pc (.long (lN b) :: .long (lN a) :: S) := fun H locs ls hP hD hS hl => lv_lmul C.1 C.2.1 d (by rw [lN_mul]; exact k H locs ls hP hD hS hl)
theorem a_lcmp {a b : Nat} (C : CT K cc own tys lv) (d : decode cc pc = .ok (.lcmp, 1)) (ha : a < 9223372036854775808) (hb : b < 9223372036854775808) (k1 : a < b → WA K ws L (pc + 1) (.int (nI 4294967295) :: S)) (k2 : a = b → WA K ws L (pc + 1) (.int (nI 0) :: S)) (k3 : b < a → WA K ws L (pc + 1) (.int (nI 1) :: S)) : WA K ws L pc (.long (lN b) :: .long (lN a) :: S) := fun H locs ls hP hD hS hl => W.lcmp C.1 C.2.1 d (by
  rcases Nat.lt_trichotomy a b with h | h | h
  · have e : lg_cmp (lN a) (lN b) = nI 4294967295 := by
      have h1 : lN a < lN b := (pk_lLT ha hb).mpr h
      have h2 : ¬ lN b < lN a := fun q => by have := (pk_lLT hb ha).mp q; omega
      have h3 : ¬ lN a = lN b := fun q => by have := (pk_lEQ ha hb).mp q; omega
      have h4 : (-1 : Int32) = nI 4294967295 := by decide
      simp [lg_cmp, h1, h2, h3, ← h4]
    rw [e]; exact k1 h H locs ls hP hD hS hl
  · have e : lg_cmp (lN a) (lN b) = nI 0 := by
      subst h
      have h1 : ¬ lN a < lN a := fun q => by have := (pk_lLT ha ha).mp q; omega
      have h4 : (0 : Int32) = nI 0 := by decide
      simp [lg_cmp, h1, ← h4]
    rw [e]; exact k2 h H locs ls hP hD hS hl
  · have e : lg_cmp (lN a) (lN b) = nI 1 := by
      have h1 : lN b < lN a := (pk_lLT hb ha).mpr h
      have h2 : ¬ lN a < lN b := fun q => by have := (pk_lLT ha hb).mp q; omega
      have h3 : ¬ lN a = lN b := fun q => by have := (pk_lEQ ha hb).mp q; omega
      have h4 : (1 : Int32) = nI 1 := by decide
      simp [lg_cmp, h1, h2, h3, ← h4]
    rw [e]; exact k3 h H locs ls hP hD hS hl)
-- doubles
def nanv : CmpOp → Nat
  | .g => 1
  | .l => 4294967295
theorem a_dconst0 (C : CT K cc own tys lv) (d : decode cc pc = .ok (.dconst 0, 1)) (k : WA K ws L (pc + 1) (.double 0 :: S)) : WA K ws L pc S := fun H locs ls hP hD hS hl => lv_dconst0 C.1 C.2.1 d (k H locs ls hP hD hS hl)
theorem a_dmul {x y : UInt64} (C : CT K cc own tys lv) (d : decode cc pc = .ok (.dmul, 1)) (h : vf_n64 (FP.dmul x y)) (k : WA K ws L (pc + 1) (.double (FP.dmul x y) :: S)) : WA K ws L pc (.double y :: .double x :: S) := fun H locs ls hP hD hS hl => lv_dmul C.1 C.2.1 d h (k H locs ls hP hD hS hl)
theorem a_dcmp {x y : UInt64} {op : CmpOp} (C : CT K cc own tys lv) (d : decode cc pc = .ok (.dcmp op, 1)) (k1 : FP.dcmp x y = some .lt → WA K ws L (pc + 1) (.int (nI 4294967295) :: S)) (k2 : FP.dcmp x y = some .eq → WA K ws L (pc + 1) (.int (nI 0) :: S)) (k3 : FP.dcmp x y = some .gt → WA K ws L (pc + 1) (.int (nI 1) :: S)) (k4 : FP.dcmp x y = none → WA K ws L (pc + 1) (.int (nI (nanv op)) :: S)) : WA K ws L pc (.double y :: .double x :: S) := fun H locs ls hP hD hS hl => lv_dcmp C.1 C.2.1 d (by
  have m1 : (-1 : Int32) = nI 4294967295 := by decide
  have p1 : (1 : Int32) = nI 1 := by decide
  have z0 : (0 : Int32) = nI 0 := by decide
  cases hq : FP.dcmp x y with
  | none =>
    have e : Op.cmpValue none op = nI (nanv op) := by cases op <;> decide
    rw [e]; exact k4 hq H locs ls hP hD hS hl
  | some o =>
    cases o with
    | lt => have e : Op.cmpValue (some .lt) op = nI 4294967295 := by simp [Op.cmpValue, m1]
            rw [e]; exact k1 hq H locs ls hP hD hS hl
    | eq => have e : Op.cmpValue (some .eq) op = nI 0 := by simp [Op.cmpValue, z0]
            rw [e]; exact k2 hq H locs ls hP hD hS hl
    | gt => have e : Op.cmpValue (some .gt) op = nI 1 := by simp [Op.cmpValue, p1]
            rw [e]; exact k3 hq H locs ls hP hD hS hl)
-- branches on natural numbers
theorem nI_eq32 {a b : Nat} (ha : a < 4294967296) (hb : b < 4294967296) : nI a = nI b ↔ a = b := by
  constructor
  · intro h
    have := congrArg (fun x : Int32 => x.toBitVec.toNat) h
    simp only [nI_tn] at this
    omega
  · intro h; rw [h]
theorem nI_int {a : Nat} (ha : a < 4294967296) : (nI a).toInt = if a < 2147483648 then (a : Int) else (a : Int) - 4294967296 := by
  show (nI a).toBitVec.toInt = _
  rw [nI_bv, BitVec.toInt_ofNat']
  simp only [Int.bmod]
  omega
theorem nI_neg {a : Nat} (ha : a < 4294967296) : nI a < 0 ↔ 2147483648 ≤ a := by
  rw [Int32.lt_iff_toInt_lt, nI_int ha, show (0 : Int32).toInt = 0 by decide]
  split <;> omega
theorem nI_z : (0 : Int32) = nI 0 := by decide
theorem a_ifeq {a tgt : Nat} {off : Int} (C : CT K cc own tys lv) (d : decode cc pc = .ok (.ifCond .eq off, 3)) (ht : (pc : Int) + off = (tgt : Int)) (ha : a < 4294967296) (kt : a = 0 → WA K ws L tgt S) (kf : a ≠ 0 → WA K ws L (pc + 3) S) : WA K ws L pc (.int (nI a) :: S) := fun H locs ls hP hD hS hl => lv_if_eq C.1 C.2.1 d ht (fun h => kt ((nI_eq32 ha (by decide)).mp (h.trans nI_z)) H locs ls hP hD hS hl) (fun h => kf (fun q => h (by rw [q]; rfl)) H locs ls hP hD hS hl)
theorem a_ifne {a tgt : Nat} {off : Int} (C : CT K cc own tys lv) (d : decode cc pc = .ok (.ifCond .ne off, 3)) (ht : (pc : Int) + off = (tgt : Int)) (ha : a < 4294967296) (kt : a ≠ 0 → WA K ws L tgt S) (kf : a = 0 → WA K ws L (pc + 3) S) : WA K ws L pc (.int (nI a) :: S) := fun H locs ls hP hD hS hl => lv_if_ne C.1 C.2.1 d ht (fun h => kt (fun q => h (by rw [q]; rfl)) H locs ls hP hD hS hl) (fun h => kf ((nI_eq32 ha (by decide)).mp (h.trans nI_z)) H locs ls hP hD hS hl)
theorem a_iflt {a tgt : Nat} {off : Int} (C : CT K cc own tys lv) (d : decode cc pc = .ok (.ifCond .lt off, 3)) (ht : (pc : Int) + off = (tgt : Int)) (ha : a < 4294967296) (kt : 2147483648 ≤ a → WA K ws L tgt S) (kf : a < 2147483648 → WA K ws L (pc + 3) S) : WA K ws L pc (.int (nI a) :: S) := fun H locs ls hP hD hS hl => lv_if_lt C.1 C.2.1 d ht (fun h => kt ((nI_neg ha).mp h) H locs ls hP hD hS hl) (fun h => kf (Nat.lt_of_not_le (fun q => h ((nI_neg ha).mpr q))) H locs ls hP hD hS hl)
theorem a_ifge {a tgt : Nat} {off : Int} (C : CT K cc own tys lv) (d : decode cc pc = .ok (.ifCond .ge off, 3)) (ht : (pc : Int) + off = (tgt : Int)) (ha : a < 4294967296) (kt : a < 2147483648 → WA K ws L tgt S) (kf : 2147483648 ≤ a → WA K ws L (pc + 3) S) : WA K ws L pc (.int (nI a) :: S) := fun H locs ls hP hD hS hl => lv_if_ge C.1 C.2.1 d ht (fun h => kt (Nat.lt_of_not_le (fun q => absurd h (Int32.not_le.mpr ((nI_neg ha).mpr q)))) H locs ls hP hD hS hl) (fun h => kf ((nI_neg ha).mp (Int32.not_le.mp h)) H locs ls hP hD hS hl)
theorem nI_pz {a : Nat} (ha : a < 4294967296) : 0 < nI a ↔ 0 < a ∧ a < 2147483648 := by
  rw [Int32.lt_iff_toInt_lt, nI_int ha, show (0 : Int32).toInt = 0 by decide]
  split <;> omega
theorem a_ifgt {a tgt : Nat} {off : Int} (C : CT K cc own tys lv) (d : decode cc pc = .ok (.ifCond .gt off, 3)) (ht : (pc : Int) + off = (tgt : Int)) (ha : a < 4294967296) (kt : 0 < a → a < 2147483648 → WA K ws L tgt S) (kf : a = 0 ∨ 2147483648 ≤ a → WA K ws L (pc + 3) S) : WA K ws L pc (.int (nI a) :: S) := fun H locs ls hP hD hS hl => lv_if_gt C.1 C.2.1 d ht (fun h => kt ((nI_pz ha).mp h).1 ((nI_pz ha).mp h).2 H locs ls hP hD hS hl) (fun h => kf (by
  rcases Nat.eq_zero_or_pos a with q | q
  · exact Or.inl q
  · right
    rcases Nat.lt_or_ge a 2147483648 with q2 | q2
    · exact absurd ((nI_pz ha).mpr ⟨q, q2⟩) h
    · exact q2) H locs ls hP hD hS hl)
theorem a_ifle {a tgt : Nat} {off : Int} (C : CT K cc own tys lv) (d : decode cc pc = .ok (.ifCond .le off, 3)) (ht : (pc : Int) + off = (tgt : Int)) (ha : a < 4294967296) (kt : a = 0 ∨ 2147483648 ≤ a → WA K ws L tgt S) (kf : 0 < a → a < 2147483648 → WA K ws L (pc + 3) S) : WA K ws L pc (.int (nI a) :: S) := fun H locs ls hP hD hS hl => lv_if_le C.1 C.2.1 d ht (fun h => kt (by
  rcases Nat.eq_zero_or_pos a with q | q
  · exact Or.inl q
  · right
    rcases Nat.lt_or_ge a 2147483648 with q2 | q2
    · exact absurd h (Int32.not_le.mpr ((nI_pz ha).mpr ⟨q, q2⟩))
    · exact q2) H locs ls hP hD hS hl) (fun h => kf ((nI_pz ha).mp (Int32.not_le.mp h)).1 ((nI_pz ha).mp (Int32.not_le.mp h)).2 H locs ls hP hD hS hl)
theorem a_ceq {a b tgt : Nat} {off : Int} (C : CT K cc own tys lv) (d : decode cc pc = .ok (.if_icmp .eq off, 3)) (ht : (pc : Int) + off = (tgt : Int)) (ha : a < 4294967296) (hb : b < 4294967296) (kt : a = b → WA K ws L tgt S) (kf : a ≠ b → WA K ws L (pc + 3) S) : WA K ws L pc (.int (nI b) :: .int (nI a) :: S) := fun H locs ls hP hD hS hl => lv_icmp_eq C.1 C.2.1 d ht (fun h => kt ((nI_eq32 ha hb).mp h) H locs ls hP hD hS hl) (fun h => kf (fun q => h (by rw [q])) H locs ls hP hD hS hl)
theorem a_cne {a b tgt : Nat} {off : Int} (C : CT K cc own tys lv) (d : decode cc pc = .ok (.if_icmp .ne off, 3)) (ht : (pc : Int) + off = (tgt : Int)) (ha : a < 4294967296) (hb : b < 4294967296) (kt : a ≠ b → WA K ws L tgt S) (kf : a = b → WA K ws L (pc + 3) S) : WA K ws L pc (.int (nI b) :: .int (nI a) :: S) := fun H locs ls hP hD hS hl => lv_icmp_ne C.1 C.2.1 d ht (fun h => kt (fun q => h (by rw [q])) H locs ls hP hD hS hl) (fun h => kf ((nI_eq32 ha hb).mp h) H locs ls hP hD hS hl)
theorem a_cge {a b tgt : Nat} {off : Int} (C : CT K cc own tys lv) (d : decode cc pc = .ok (.if_icmp .ge off, 3)) (ht : (pc : Int) + off = (tgt : Int)) (ha : a < 2147483648) (hb : b < 2147483648) (kt : b ≤ a → WA K ws L tgt S) (kf : a < b → WA K ws L (pc + 3) S) : WA K ws L pc (.int (nI b) :: .int (nI a) :: S) := fun H locs ls hP hD hS hl => lv_icmp_ge C.1 C.2.1 d ht (fun h => kt ((nI_leI hb ha).mp h) H locs ls hP hD hS hl) (fun h => kf (Nat.lt_of_not_le (fun q => h ((nI_leI hb ha).mpr q))) H locs ls hP hD hS hl)
theorem a_clt {a b tgt : Nat} {off : Int} (C : CT K cc own tys lv) (d : decode cc pc = .ok (.if_icmp .lt off, 3)) (ht : (pc : Int) + off = (tgt : Int)) (ha : a < 2147483648) (hb : b < 2147483648) (kt : a < b → WA K ws L tgt S) (kf : b ≤ a → WA K ws L (pc + 3) S) : WA K ws L pc (.int (nI b) :: .int (nI a) :: S) := fun H locs ls hP hD hS hl => lv_icmp_lt C.1 C.2.1 d ht (fun h => kt ((nI_ltI ha hb).mp h) H locs ls hP hD hS hl) (fun h => kf (Nat.le_of_not_lt (fun q => h ((nI_ltI ha hb).mpr q))) H locs ls hP hD hS hl)
theorem a_cgt {a b tgt : Nat} {off : Int} (C : CT K cc own tys lv) (d : decode cc pc = .ok (.if_icmp .gt off, 3)) (ht : (pc : Int) + off = (tgt : Int)) (ha : a < 2147483648) (hb : b < 2147483648) (kt : b < a → WA K ws L tgt S) (kf : a ≤ b → WA K ws L (pc + 3) S) : WA K ws L pc (.int (nI b) :: .int (nI a) :: S) := fun H locs ls hP hD hS hl => lv_icmp_gt C.1 C.2.1 d ht (fun h => kt ((nI_ltI hb ha).mp h) H locs ls hP hD hS hl) (fun h => kf (Nat.le_of_not_lt (fun q => h ((nI_ltI hb ha).mpr q))) H locs ls hP hD hS hl)
theorem a_cle {a b tgt : Nat} {off : Int} (C : CT K cc own tys lv) (d : decode cc pc = .ok (.if_icmp .le off, 3)) (ht : (pc : Int) + off = (tgt : Int)) (ha : a < 2147483648) (hb : b < 2147483648) (kt : a ≤ b → WA K ws L tgt S) (kf : b < a → WA K ws L (pc + 3) S) : WA K ws L pc (.int (nI b) :: .int (nI a) :: S) := fun H locs ls hP hD hS hl => lv_icmp_le C.1 C.2.1 d ht (fun h => kt ((nI_leI ha hb).mp h) H locs ls hP hD hS hl) (fun h => kf (Nat.lt_of_not_le (fun q => h ((nI_leI ha hb).mpr q))) H locs ls hP hD hS hl)
end BASE

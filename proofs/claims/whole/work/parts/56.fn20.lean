/-! ROWS FOR WHAT IS MADE, AND FOR CALLS OUT OF A GREATER WORLD -/
def kset (K : KX) (c s : Nat) : KX := (K.1, K.2.1, K.2.2.1, (c, s))
theorem wI_obj : Cond.instanceMethod objectInit ∈ LG := LG_in (List.mem_of_getElem? (i := 57) (by decide +kernel)) (by decide +kernel)
theorem wC_obj : Cond.code objectInit ⟨#[0xb1]⟩ 1 none ∈ LG := LG_in (List.mem_of_getElem? (i := 58) (by decide +kernel)) (by decide +kernel)
section MAKE
variable {K : KX} {cc : ByteArray} {own : String} {tys : List (ClassId × FieldType)} {ws ws' : va_W} {L : List (Option Value)} {pc lv : Nat} {S : List Value}
theorem CT.set (C : CT K cc own tys lv) {c s : Nat} (h1 : c ≤ (kR K).cells) (h2 : s ≤ (kR K).slots) : CT (kset K c s) cc own tys lv := by
  obtain ⟨a1, a2, a3, a4, a5, a6, a7, a8, a9, r1, r2, r3, r4⟩ := C
  exact ⟨a1, a2, a3, a4, a5, a6, a7, a8, a9, r1, r2, h1, h2⟩
theorem a_wid {c s : Nat} (h1 : kce K ≤ c) (h2 : ksl K ≤ s) (k : WA (kset K c s) ws L pc S) : WA K ws L pc S := fun H locs ls hP hD hS hl T hT X => k H locs ls hP hD hS hl T hT (stand_widen X h1 h2)
theorem a_obj {index a : Nat} (C : CT K cc own tys lv) (h1 : Cond.methodLink own index objectInit ∈ LG) (hlv : 1 ≤ lv) (hcat : (S.map fun v => v.category).sum ≤ 8) (d : decode cc pc = .ok (.invokespecial index, 3)) (k : WA K ws L (pc + 3) S) : WA K ws L pc (.ref a :: S) := fun H locs ls hP hD hS hl => by
  obtain ⟨r1, r2, r3, r4⟩ := C.2.2.2.2.2.2.2.2.2
  refine W.objInit C.1 C.2.1 C.2.2.2.1 (C.2.2.2.2.1 _ h1) (C.2.2.2.2.1 _ wI_obj) (C.2.2.2.2.1 _ wC_obj) rfl (hl.1.trans C.2.2.1.symm) rfl d (by omega) ?_ ?_
  · have : 2 * (F0 (km K) pc ls (.ref a :: S)).monitorRoom + (S.map fun v => v.category).sum ≤ 8 := lv_room hcat
    omega
  · exact W.eq (g2 := F0 (km K) (pc + 3) ls S) rfl (k H locs ls hP hD hS hl)
theorem ra_inj {U : State} {a b : ClassId} {ty : FieldType} (h : va_RA U a ty) (h2 : va_RA U b ty) : a = b := by
  cases ty with
  | object C =>
    obtain ⟨_, _, _, _, _, e1⟩ := h
    obtain ⟨_, _, _, _, _, e2⟩ := h2
    exact Option.some.inj (e1.symm.trans e2)
  | _ => exact Option.some.inj (h.symm.trans h2)
theorem a_newa {atype : ArrayType} {ty : FieldType} {n c' s' t0 : Nat} {cT : ClassId} {a0 : vp_A} (C : CT K cc own tys lv) (hc : kce K + 1 ≤ c') (hs : ksl K + n ≤ s') (h1 : c' ≤ (kR K).cells) (h2 : s' ≤ (kR K).slots) (harr : Cond.arrayClass ty ∈ LG) (hty : newarray.typeOf atype = ty) (ht : tys[t0]? = some (cT, ty)) (ha : ∀ cA : ClassId, vp_cell cA a0 = arrV cA n (fun _ => defaultValue ty)) (hn : n < 2147483648) (hb : n * componentBytes ty ≤ 536870912) (d : decode cc pc = .ok (.newarray atype, 2)) (kk : ∀ q : Nat, WA (kset K c' s') (ws ++ [(q, .inl (cT, a0))]) L (pc + 2) (.ref q :: S)) : WA K ws L pc (.int (nI n) :: S) := fun H locs ls hP hD hS hl => by
  refine va_newa C.1 C.2.1 (by rw [hty]; exact C.2.2.2.2.1 _ harr) hty C.2.2.2.2.2.1 hP hD hS C.2.2.2.2.2.2.2.1 ha (nI_nn hn) (nI_clamp (by omega)) hb (by omega) (by omega) d (fun q cA H1 hK1 hP1 hD1 hS1 => ?_)
  have e1 := (hK1.2 tys.length (cA, ty) (by rw [List.getElem?_append_right (Nat.le_refl _), Nat.sub_self]; rfl)).2
  have e2 := (C.2.2.2.2.2.1.2 t0 _ ht).2
  have e3 : cA = cT := ra_inj e1 e2
  subst e3
  exact fun T hT X => kk q H1 locs ls hP1 hD1 hS1 hl T hT (stand_widen X hc hs)
theorem a_newo {Cn : String} {T : u_T} {N ci index c' s' : Nat} {fs : List Value} (ty : Nat → FieldType) (C : CT K cc own tys lv) (hc : kce K + 1 ≤ c') (hs : ksl K + N ≤ s') (h1 : c' ≤ (kR K).cells) (h2 : s' ≤ (kR K).slots) (hin : ∀ w ∈ u_ws Cn T N, w ∈ LG) (hty : ∀ k, k < N → parseFieldDescriptor (T k).2.2.1 = some (ty k)) (hcl : Cond.classLink own index Cn ∈ LG) (hinst : Cond.instantiable Cn N ∈ LG) (hini : Cond.initialized Cn ∈ LG) (hci : cls6[ci]? = some (Cn, T, N)) (hfs : ∀ j, j < N → defaultValue (ty j) = vp_V fs j) (d : decode cc pc = .ok (.new index, 3)) (kk : ∀ q : Nat, WA (kset K c' s') (ws ++ [(q, .inr (ci, fs))]) L (pc + 3) (.ref q :: S)) : WA K ws L pc S := fun H locs ls hP hD hS hl => by
  have htg := C.2.2.2.2.1
  refine va_new C.1 C.2.1 htg hin ty hty C.2.2.2.1 (htg _ hcl) (htg _ hinst) (htg _ hini) C.2.2.2.2.2.1 hP hD hS C.2.2.2.2.2.2.2.1 hci hfs (by omega) (by omega) d (fun q H1 hP1 hD1 hS1 => ?_)
  exact fun T hT X => kk q H1 locs ls hP1 hD1 hS1 hl T hT (stand_widen X hc hs)
theorem a_putF {ci N index q0 a : Nat} {Cn : String} {T : u_T} {fs : List Value} {v : Value} {ty0 : Nat → FieldType} {ty : FieldType} (C : CT K cc own tys lv) (hnm0 : (kt K).name = "<init>") (hin : ∀ w ∈ u_ws Cn T N, w ∈ LG) (hty : ∀ k, k < N → parseFieldDescriptor (T k).2.2.1 = some (ty0 k)) (hnm : ∀ a, a < N → ∀ b, b < N → a ≠ b → (T a).2.1 ≠ (T b).2.1) (hc : cls6[ci]? = some (Cn, T, N)) (j : Nat) (hj : j < N) (hw : Cond.fieldLink own index (T j).1 (T j).2.1 (T j).2.2.1 ∈ LG) (hfin : (T j).2.2.2 = true) (hdc : (T j).1 = own) (hd : parseFieldDescriptor (T j).2.2.1 = some ty) (d : decode cc pc = .ok (.putfield index, 3)) (he : ws[q0]? = some (a, .inr (ci, fs))) (hl : j < fs.length) (hn : narrow ty v = v) (hfit : fits ty v = true) (hset : ws.set q0 (a, .inr (ci, fs.set j v)) = ws') (k : WA K ws' L (pc + 3) S) : WA K ws L pc (v :: .ref a :: S) := fun H locs ls hP hD hS hlv => va_putF C.1 C.2.1 C.2.2.2.2.1 hin ty0 hty hnm C.2.2.2.1 C.2.2.2.2.2.1 hP hD hS q0 he hc j hj (C.2.2.2.2.1 _ hw) (fun _ h9 => h9) hfin hnm0 hdc hd hn hfit hl d (fun H1 locs1 hP1 hD1 hS1 => by
  rw [hset] at hP1 hD1
  exact k H1 locs1 ls hP1 hD1 hS1 hlv)
end MAKE
section EMB
variable {D : va_G} {cl : List vw_C} {A : Nat → Prop} {w1 w0 w2 wp : va_W} {H H1 : Heap}
theorem sub_P (h : va_P D cl (w1 ++ (w0 ++ w2)) H) : va_P D cl w0 H := fun k q hk => h (w1.length + k) q (by
  rw [List.getElem?_append_right (by omega), show w1.length + k - w1.length = k by omega, List.getElem?_append_left (List.getElem?_eq_some_iff.mp hk).1]
  exact hk)
theorem sub_D (h : va_D A (w1 ++ (w0 ++ w2))) : va_D A w0 := by
  have g : ∀ k q, w0[k]? = some q → (w1 ++ (w0 ++ w2))[w1.length + k]? = some q := fun k q hk => by
    rw [List.getElem?_append_right (by omega), show w1.length + k - w1.length = k by omega, List.getElem?_append_left (List.getElem?_eq_some_iff.mp hk).1]
    exact hk
  exact ⟨fun i j p q hi hj e => by have := h.1 _ _ p q (g i p hi) (g j q hj) e; omega, fun k q hk => h.2 _ q (g k q hk)⟩
theorem emb (hP : va_P D cl (w1 ++ (w0 ++ w2)) H) (hD : va_D A (w1 ++ (w0 ++ w2))) (hA : ∀ q, H.size ≤ q → A q) (hP1 : va_P D cl wp H1) (hD1 : va_D (va_A w0 H.size) wp) (hk : ∀ q : Nat, q < H.size → ¬ va_A w0 H.size q → H1[q]? = H[q]?) : va_P D cl (w1 ++ (wp ++ w2)) H1 ∧ va_D A (w1 ++ (wp ++ w2)) := by
  have g0 : ∀ k q, w0[k]? = some q → (w1 ++ (w0 ++ w2))[w1.length + k]? = some q := fun k q hk => by
    rw [List.getElem?_append_right (by omega), show w1.length + k - w1.length = k by omega, List.getElem?_append_left (List.getElem?_eq_some_iff.mp hk).1]
    exact hk
  have g1 : ∀ k q, w1[k]? = some q → (w1 ++ (w0 ++ w2))[k]? = some q := fun k q hk => by
    rw [List.getElem?_append_left (List.getElem?_eq_some_iff.mp hk).1]
    exact hk
  have g2 : ∀ k q, w2[k]? = some q → (w1 ++ (w0 ++ w2))[w1.length + (w0.length + k)]? = some q := fun k q hk => by
    rw [List.getElem?_append_right (by omega), show w1.length + (w0.length + k) - w1.length = w0.length + k by omega, List.getElem?_append_right (by omega), show w0.length + k - w0.length = k by omega]
    exact hk
  have n1 : ∀ (k : Nat) (q : Nat × va_E), w1[k]? = some q → q.1 < H.size ∧ ¬ va_A w0 H.size q.1 := fun k q hq => by
    have hlt := (hP _ q (g1 k q hq)).lt
    refine ⟨hlt, fun z => ?_⟩
    rcases z with ⟨k0, e, z⟩ | z
    · have := hD.1 _ _ _ _ (g1 k q hq) (g0 k0 _ z) rfl
      have := (List.getElem?_eq_some_iff.mp hq).1
      omega
    · omega
  have n2 : ∀ (k : Nat) (q : Nat × va_E), w2[k]? = some q → q.1 < H.size ∧ ¬ va_A w0 H.size q.1 := fun k q hq => by
    have hlt := (hP _ q (g2 k q hq)).lt
    refine ⟨hlt, fun z => ?_⟩
    rcases z with ⟨k0, e, z⟩ | z
    · have := hD.1 _ _ _ _ (g2 k q hq) (g0 k0 _ z) rfl
      have := (List.getElem?_eq_some_iff.mp z).1
      omega
    · omega
  have hP1' : va_P D cl w1 H1 := fun k q hq => (hP _ q (g1 k q hq)).kept (hk _ (n1 k q hq).1 (n1 k q hq).2)
  have hP2' : va_P D cl w2 H1 := fun k q hq => (hP _ q (g2 k q hq)).kept (hk _ (n2 k q hq).1 (n2 k q hq).2)
  have hDp : va_D A wp := ⟨hD1.1, fun k q hq => by
    rcases hD1.2 k q hq with ⟨k0, e, z⟩ | z
    · exact hD.2 _ (q.1, e) (g0 k0 _ z)
    · exact hA _ z⟩
  have hD1' : va_D A w1 := ⟨fun i j p q hi hj e => hD.1 _ _ p q (g1 i p hi) (g1 j q hj) e, fun k q hq => hD.2 _ q (g1 k q hq)⟩
  have hD2' : va_D A w2 := ⟨fun i j p q hi hj e => by have := hD.1 _ _ p q (g2 i p hi) (g2 j q hj) e; omega, fun k q hq => hD.2 _ q (g2 k q hq)⟩
  have hDp2 : va_D A (wp ++ w2) := hDp.app hD2' (fun i j p q hi hj e => (n2 j q hj).2 (by rw [← e]; exact hD1.2 i p hi))
  refine ⟨hP1'.app (hP1.app hP2'), hD1'.app hDp2 (fun i j p q hi hj e => ?_)⟩
  by_cases hl : j < wp.length
  · rw [List.getElem?_append_left hl] at hj
    exact (n1 i p hi).2 (by rw [e]; exact hD1.2 j q hj)
  · rw [List.getElem?_append_right (by omega)] at hj
    have := hD.1 _ _ p q (g1 i p hi) (g2 _ q hj) e
    have := (List.getElem?_eq_some_iff.mp hi).1
    omega
end EMB
section ECALL
variable {K : KX} {cc : ByteArray} {own : String} {tys : List (ClassId × FieldType)} {WW : ST → va_W} {x : ST} {L : List (Option Value)} {pc lv : Nat} {S st0 : List Value} {a : Array Value} {w1 w2 : va_W}
theorem A_ge (C : CT K cc own tys lv) {H : Heap} {locs : List Loc} (hS : va_S (kA K) (ks K).heap H locs) : ∀ q, H.size ≤ q → kA K q := fun q hq => C.2.2.2.2.2.2.2.1 q (Nat.le_trans hS.1 hq)
theorem e_I {post : Nat → ST → Prop} (C : CT K cc own tys lv) (hr : ∀ (H : Heap) (locs : List Loc) (ls : Array Slot), va_P (kD K) cls6 (WW x) H → va_D (kA K) (WW x) → va_S (kA K) (ks K).heap H locs → lv_has ls (kn K) (lk 0 L) → va_Run (kp K) (kl K) (ke K) (kR K) (ks K) (km K) (ka K) (kb K) (kt K) (kc K) H locs (kce K) (ksl K) 0 0 (F0 (km K) pc ls st0) S (QI (kD K) WW post (va_A (WW x) H.size) a) (va_A (WW x) H.size)) (kk : ∀ (n : Nat) (u : ST), n < 4294967296 → post n u → WA K (w1 ++ (WW u ++ w2)) L (pc + 3) (.int (nI n) :: S)) : WA K (w1 ++ (WW x ++ w2)) L pc st0 := by
  intro H locs ls hP hD hS hl
  have hF := fr_of C (sub_D hD) hS
  refine va_calli (hr H locs ls (sub_P hP) (sub_D hD) hS hl) hS (fun q _ h => hF q h) hF (fun r u t H1 locs1 ht hvm hw hB hz1 hk1 hS1 => ?_)
  obtain ⟨n, rfl, hn, hp⟩ := hw
  obtain ⟨hP1, hD1⟩ := hB
  rw [ht] at hP1
  obtain ⟨e1, e2⟩ := emb hP hD (A_ge C hS) hP1 hD1 hk1
  exact kk n u hn hp H1 locs1 ls e1 e2 hS1 hl
theorem e_D {post : UInt64 → ST → Prop} (C : CT K cc own tys lv) (hr : ∀ (H : Heap) (locs : List Loc) (ls : Array Slot), va_P (kD K) cls6 (WW x) H → va_D (kA K) (WW x) → va_S (kA K) (ks K).heap H locs → lv_has ls (kn K) (lk 0 L) → va_Run (kp K) (kl K) (ke K) (kR K) (ks K) (km K) (ka K) (kb K) (kt K) (kc K) H locs (kce K) (ksl K) 0 0 (F0 (km K) pc ls st0) S (QD (kD K) WW post (va_A (WW x) H.size) a) (va_A (WW x) H.size)) (kk : ∀ (n : UInt64) (u : ST), post n u → WA K (w1 ++ (WW u ++ w2)) L (pc + 3) (.double n :: S)) : WA K (w1 ++ (WW x ++ w2)) L pc st0 := by
  intro H locs ls hP hD hS hl
  have hF := fr_of C (sub_D hD) hS
  refine va_calld (hr H locs ls (sub_P hP) (sub_D hD) hS hl) hS (fun q _ h => hF q h) hF (fun r u t H1 locs1 ht hvm hw hB hz1 hk1 hS1 => ?_)
  obtain ⟨hP1, hD1⟩ := hB
  rw [ht] at hP1
  obtain ⟨e1, e2⟩ := emb hP hD (A_ge C hS) hP1 hD1 hk1
  exact kk r u hw H1 locs1 ls e1 e2 hS1 hl
theorem e_V {post : ST → Prop} (C : CT K cc own tys lv) (hr : ∀ (H : Heap) (locs : List Loc) (ls : Array Slot), va_P (kD K) cls6 (WW x) H → va_D (kA K) (WW x) → va_S (kA K) (ks K).heap H locs → lv_has ls (kn K) (lk 0 L) → va_Run (kp K) (kl K) (ke K) (kR K) (ks K) (km K) (ka K) (kb K) (kt K) (kc K) H locs (kce K) (ksl K) 0 0 (F0 (km K) pc ls st0) S (QV (kD K) WW post (va_A (WW x) H.size) a) (va_A (WW x) H.size)) (kk : ∀ u : ST, post u → WA K (w1 ++ (WW u ++ w2)) L (pc + 3) S) : WA K (w1 ++ (WW x ++ w2)) L pc st0 := by
  intro H locs ls hP hD hS hl
  have hF := fr_of C (sub_D hD) hS
  refine va_callv (hr H locs ls (sub_P hP) (sub_D hD) hS hl) hS (fun q _ h => hF q h) hF (fun u t H1 locs1 ht hvm hw hB hz1 hk1 hS1 => ?_)
  obtain ⟨hP1, hD1⟩ := hB
  rw [ht] at hP1
  obtain ⟨e1, e2⟩ := emb hP hD (A_ge C hS) hP1 hD1 hk1
  exact kk u hw H1 locs1 ls e1 e2 hS1 hl
/-- the constructors -/
def rmN (d mc ms : Nat) : Room := { frames := d, cells := mc, slots := ms, locals := 40 * d }
def QN (D : va_G) (WP : (Nat → Nat) → va_W) (post : (Nat → Nat) → Prop) (A : Nat → Prop) : Array Value → State → Outcome → State → Prop := va_Qv post (fun u t => va_P D cls6 (WP u) t.heap ∧ va_D A (WP u)) A
def CN (l : Launch) (D : va_G) (tys : List (ClassId × FieldType)) (y : MethodName) (cy : ByteArray) (mL lev b : Nat) (w0 : va_W) (mc ms : Nat) (WP : (Nat → Nat) → va_W) (post : (Nat → Nat) → Prop) : Prop := ∀ sz, Met l y (.code y cy mL none :: LG) (rmN lev mc ms) (va_Pc [.ref b] (PRE D tys w0 sz)) (QN D WP post (va_A w0 sz)) mc ms (va_A w0 sz)
def RtN (K : KX) (mc ms : Nat) (WP : (Nat → Nat) → va_W) (post : (Nat → Nat) → Prop) : Prop := kQ K = MQ (kb K) (QN (kD K) WP post (kA K)) (ka K) (ks K) mc ms (kA K) ∧ (kt K).sig.returnType = none ∧ (kt K).name = "<init>" ∧ kce K = 0 ∧ ksl K = 0 ∧ mc ≤ (kR K).cells ∧ ms ≤ (kR K).slots
theorem CN_of {l : Launch} {D : va_G} {tys : List (ClassId × FieldType)} {y : MethodName} {cy : ByteArray} {mL lev b mc ms : Nat} {w0 : va_W} {WP : (Nat → Nat) → va_W} {post : (Nat → Nat) → Prop} (hnm : y.name = "<init>") (hy : plainName y.cls = true) (hm1 : mL = 1) (body : ∀ K : KX, CT K cy y.cls tys lev → RtN K mc ms WP post → kn K = 1 → WA K w0 [some (.ref b)] 0 []) : CN l D tys y cy mL lev b w0 mc ms WP post := by
  intro sz
  subst hm1
  refine Met.ofW (cc := cy) (maxL := 1) (ret := none) hy rfl ?_
  intro p e s m args below meth c s₁ B hml hv
  obtain ⟨rfl, hsz, hP, hK, hD0, hE⟩ := hv
  subst hsz
  have hts := atoms_spec (ws := .code y cy 1 none :: LG) B.pre
  have hl := lv_entry [.ref b] (n := 1) (Nat.le_of_ble_eq_true rfl)
  rw [lg_entry_eq]
  generalize (lg_sl [.ref b] ++ List.replicate (1 - (lg_sl [.ref b]).length) Slot.unset).toArray = ls at hl ⊢
  have hin : meth.name = "<init>" := (name_of_methodNamed B.named B.method).1.trans hnm
  exact body ((p, l, e, (headSpec (.code y cy 1 none :: LG) (rmN lev mc ms)).room, s), (m, [Value.ref b].toArray, below, meth, c), (D, va_A w0 s.heap.size, 1, MQ below (QN D WP post (va_A w0 s.heap.size)) [Value.ref b].toArray s mc ms (va_A w0 s.heap.size)), (0, 0)) ⟨B.exec, B.bytes, hml, findClass_of_methodNamed B.named, fun w hw => hts w (List.mem_cons_of_mem _ hw), hK, hE, fun q hq => Or.inr hq, B.notSynchronized, Nat.le_refl _, Nat.le_refl _, Nat.zero_le _, Nat.zero_le _⟩ ⟨rfl, B.returns, hin, rfl, rfl, Nat.le_refl _, Nat.le_refl _⟩ rfl s.heap [] ls hP (hD0.self) va_S.rf hl
theorem r_n {mc ms c s : Nat} {WP : (Nat → Nat) → va_W} {post : (Nat → Nat) → Prop} {u : Nat → Nat} (C : CT (kset K c s) cc own tys lv) (E : RtN K mc ms WP post) (d : decode cc pc = .ok (.return_, 1)) (h1 : c ≤ mc) (h2 : s ≤ ms) (h : post u) : WA (kset K c s) (WP u) L pc [] := fun H locs ls hP hD hS hl => by
  rw [show kQ (kset K c s) = MQ (kb K) (QN (kD K) WP post (kA K)) (ka K) (ks K) mc ms (kA K) from E.1]
  exact fun T hT X => W.vret (cells := mc) (slots := ms) C.1 C.2.1 E.2.1 (fun t ht hW => ⟨⟨u, rfl, h, by rw [ht]; exact hP, hD⟩, hS.F ht⟩) hS.2.2 d (hlocks := C.2.2.2.2.2.2.2.2.1) T hT (stand_widen X h1 h2)
theorem e_N {w0 : va_W} {mc ms c' s' : Nat} {WP : (Nat → Nat) → va_W} {post : (Nat → Nat) → Prop} (C : CT K cc own tys lv) (hc : kce K + mc ≤ c') (hs : ksl K + ms ≤ s') (hr : ∀ (H : Heap) (locs : List Loc) (ls : Array Slot), va_P (kD K) cls6 w0 H → va_D (kA K) w0 → va_S (kA K) (ks K).heap H locs → lv_has ls (kn K) (lk 0 L) → va_Run (kp K) (kl K) (ke K) (kR K) (ks K) (km K) (ka K) (kb K) (kt K) (kc K) H locs (kce K) (ksl K) mc ms (F0 (km K) pc ls st0) S (QN (kD K) WP post (va_A w0 H.size) a) (va_A w0 H.size)) (kk : ∀ u : Nat → Nat, post u → WA (kset K c' s') (w1 ++ (WP u ++ w2)) L (pc + 3) S) : WA K (w1 ++ (w0 ++ w2)) L pc st0 := by
  intro H locs ls hP hD hS hl
  have hF := fr_of C (sub_D hD) hS
  refine va_callv (hr H locs ls (sub_P hP) (sub_D hD) hS hl) hS (fun q _ h => hF q h) hF (fun u t H1 locs1 ht hvm hw hB hz1 hk1 hS1 => ?_)
  obtain ⟨hP1, hD1⟩ := hB
  rw [ht] at hP1
  obtain ⟨e1, e2⟩ := emb hP hD (A_ge C hS) hP1 hD1 hk1
  exact fun T hT X => kk u hw H1 locs1 ls e1 e2 hS1 hl T hT (stand_widen X hc hs)
theorem nI0 {y : MethodName} {cy : ByteArray} {lev index b mc ms c' s' : Nat} {w0 : va_W} {WP : (Nat → Nat) → va_W} {post : (Nat → Nat) → Prop} (C : CT K cc own tys lv) (hM : CN (kl K) (kD K) tys y cy 1 lev b w0 mc ms WP post) (hnm : y.name = "<init>") (h1 : Cond.methodLink own index y ∈ LG) (h2 : Cond.instanceMethod y ∈ LG) (h4 : Cond.initialized y.cls ∈ LG) (h5 : Cond.code y cy 1 none ∈ LG) (hd : y.cls ≠ "java/lang/invoke/MethodHandle" ∧ y.cls ≠ "java/lang/invoke/VarHandle" ∧ (parseMethodDescriptor y.desc).map (fun d => d.parameters.length) = some 0) (hlev : lev < lv) (hc : kce K + mc ≤ c') (hs : ksl K + ms ≤ s') (hc2 : c' ≤ (kR K).cells) (hs2 : s' ≤ (kR K).slots) (hcat : (S.map fun v => v.category).sum ≤ 8) (d : decode cc pc = .ok (.invokespecial index, 3)) (kk : ∀ u : Nat → Nat, post u → WA (kset K c' s') (w1 ++ (WP u ++ w2)) L (pc + 3) S) : WA K (w1 ++ (w0 ++ w2)) L pc (.ref b :: S) := e_N C hc hs (a := [Value.ref b].toArray) (fun H locs ls hP hD hS hl => by
  obtain ⟨r1, r2, r3, r4⟩ := C.2.2.2.2.2.2.2.2.2
  have hts := (fix_of C).2.2.2.2
  have htg := C.2.2.2.2.1
  exact va_runI (As := []) (fix_of C) (hM H.size) ⟨callB_of 0 hts (gi_self h5) rfl rfl rfl (htg _ h4) (htg _ h1) hd ⟨show lev + 1 ≤ _ by omega, show 8 + (1 + 11) + 40 * lev ≤ _ by omega⟩, hnm, htg _ h2⟩ ⟨PRE_blind, fun U hU hW => pre_of (WW := fun _ => w0) (x := ((fun _ => 0, fun _ _ => 0, fun _ _ => 0, 0) : ST)) C hP hD hU hW⟩ rfl rfl hl.1 rfl (lv_room hcat) d ⟨by omega, by omega⟩) kk
theorem nN0 {y : MethodName} {cy : ByteArray} {lev index b mc ms c' s' k0 : Nat} {host : String} {w0 : va_W} {WP : (Nat → Nat) → va_W} {post : (Nat → Nat) → Prop} (C : CT K cc own tys lv) (hM : CN (kl K) (kD K) tys y cy 1 lev b w0 mc ms WP post) (hnm : y.name = "<init>") (h1 : NWs[k0]? = some (own, index, y, host)) (h2 : Cond.instanceMethod y ∈ LG) (h4 : Cond.initialized y.cls ∈ LG) (h5 : Cond.code y cy 1 none ∈ LG) (hd : y.cls ≠ "java/lang/invoke/MethodHandle" ∧ y.cls ≠ "java/lang/invoke/VarHandle" ∧ (parseMethodDescriptor y.desc).map (fun d => d.parameters.length) = some 0) (hlev : lev < lv) (hc : kce K + mc ≤ c') (hs : ksl K + ms ≤ s') (hc2 : c' ≤ (kR K).cells) (hs2 : s' ≤ (kR K).slots) (hcat : (S.map fun v => v.category).sum ≤ 8) (d : decode cc pc = .ok (.invokespecial index, 3)) (kk : ∀ u : Nat → Nat, post u → WA (kset K c' s') (w1 ++ (WP u ++ w2)) L (pc + 3) S) : WA K (w1 ++ (w0 ++ w2)) L pc (.ref b :: S) := e_N C hc hs (a := [Value.ref b].toArray) (fun H locs ls hP hD hS hl => by
  obtain ⟨r1, r2, r3, r4⟩ := C.2.2.2.2.2.2.2.2.2
  have hts := (fix_of C).2.2.2.2
  have htg := C.2.2.2.2.1
  exact va_runIN (As := []) (fix_of C) (hM H.size) ⟨va_cnB 0 hts (gi_self h5) rfl rfl rfl (C.2.2.2.2.2.2.1.at k0 h1) (htg _ h4) hd ⟨show lev + 1 ≤ _ by omega, show 8 + (1 + 11) + 40 * lev ≤ _ by omega⟩, hnm, htg _ h2⟩ ⟨PRE_blind, fun U hU hW => pre_of (WW := fun _ => w0) (x := ((fun _ => 0, fun _ _ => 0, fun _ _ => 0, 0) : ST)) C hP hD hU hW⟩ rfl rfl hl.1 rfl (lv_room hcat) d ⟨by omega, by omega⟩) kk
end ECALL

/-! THE LAW'S HELPERS: they call the class and tell by a number how it went -/
abbrev SH : Type := ST × (Nat → Int64) × (Nat → UInt64)
def WO (oa od : Nat) (cJ cD : ClassId) (o : (Nat → Int64) × (Nat → UInt64)) : va_W := [(oa, .inl (cJ, 1, .inr (.inl o.1))), (od, .inl (cD, 1, .inr (.inr (.inr (.inl o.2)))))]
def WH (ad : Nat → Nat) (oa od : Nat) (cI cD cZ cJ : ClassId) (h : SH) : va_W := WS ad cI cD cZ h.1 ++ WO oa od cJ cD h.2
def QH (D : va_G) (WW : SH → va_W) (post : Nat → SH → Prop) (A : Nat → Prop) : Array Value → State → Outcome → State → Prop := va_Qi (fun (r : Int32) (u : SH) => ∃ n, r = nI n ∧ n < 4294967296 ∧ post n u) (fun u t => va_P D cls6 (WW u) t.heap ∧ va_D A (WW u)) A
def CH (l : Launch) (D : va_G) (tys : List (ClassId × FieldType)) (WW : SH → va_W) (y : MethodName) (cy : ByteArray) (mL : Nat) (hh : List (Nat × Nat × Nat × Nat)) (av : List Value) (h : SH) (post : Nat → SH → Prop) : Prop := ∀ sz, Met l y (.codeWith y cy mL (some .int) hh :: LG) (rmX 7) (va_Pc av (PREX D tys (WW h) sz)) (QH D WW post (va_A (WW h) sz)) 1 6 (va_A (WW h) sz)
def XK (K : KX) : Prop := XW (ks K) ∧ XZ (kA K) (ks K) (ks K).heap ∧ (kl K).stackTraces = false
def RtH (K : KX) (WW : SH → va_W) (post : Nat → SH → Prop) (hh : List (Nat × Nat × Nat × Nat)) : Prop := kQ K = MQ (kb K) (QH (kD K) WW post (kA K)) (ka K) (ks K) 1 6 (kA K) ∧ (kt K).sig.returnType = some .int ∧ XK K ∧ (1 ≤ (kR K).cells ∧ 6 ≤ (kR K).slots ∧ kce K = 0 ∧ ksl K = 0) ∧ (kc K).exceptionTable.toList = tableOf hh
theorem CH_of {l : Launch} {D : va_G} {tys : List (ClassId × FieldType)} {WW : SH → va_W} {y : MethodName} {cy : ByteArray} {mL : Nat} {hh : List (Nat × Nat × Nat × Nat)} {av : List Value} {h : SH} {post : Nat → SH → Prop} (hst : l.stackTraces = false) (L0 : List (Option Value)) (hy : plainName y.cls = true) (hs : (lg_sl av).length ≤ mL) (hL : lv_args 0 av = lk 0 L0) (body : ∀ K : KX, CT K cy y.cls tys 7 → RtH K WW post hh → kl K = l → kD K = D → kn K = mL → WA K (WW h) L0 0 []) : CH l D tys WW y cy mL hh av h post := by
  intro sz
  refine va_MetW (cc := cy) (maxL := mL) (ret := some .int) (hh := hh) hy rfl ?_
  intro p e s m args below meth c s₁ B hml hv
  obtain ⟨rfl, ⟨hsz, hP, hK, hD0, hE⟩, hX1, hX2⟩ := hv
  subst hsz
  have hts := atoms_spec (ws := .codeWith y cy mL (some .int) hh :: LG) B.pre
  have htb := vx_table (x := y) B (hts _ List.mem_cons_self)
  have hl := lv_entry av (n := mL) hs
  rw [lg_entry_eq]
  generalize (lg_sl av ++ List.replicate (mL - (lg_sl av).length) Slot.unset).toArray = ls at hl ⊢
  rw [hL] at hl
  exact body ((p, l, e, (headSpec (.codeWith y cy mL (some .int) hh :: LG) (rmX 7)).room, s), (m, av.toArray, below, meth, c), (D, va_A (WW h) s.heap.size, mL, MQ below (QH D WW post (va_A (WW h) s.heap.size)) av.toArray s 1 6 (va_A (WW h) s.heap.size)), (0, 0)) ⟨B.exec, B.bytes, hml, findClass_of_methodNamed B.named, fun w hw => hts w (List.mem_cons_of_mem _ hw), hK, hE, fun q hq => Or.inr hq, B.notSynchronized, Nat.le_refl _, Nat.le_refl _, Nat.zero_le _, Nat.zero_le _⟩ ⟨rfl, B.returns, ⟨hX1, hX2, hst⟩, ⟨Nat.le_refl _, Nat.le_refl _, rfl, rfl⟩, htb⟩ rfl rfl rfl s.heap [] ls hP (hD0.self) va_S.rf hl
def sx (n : Nat) : Int64 := (nI n).toInt64
section HROWS
variable {K : KX} {cc : ByteArray} {own : String} {tys : List (ClassId × FieldType)} {ws ws' : va_W} {L : List (Option Value)} {pc lv : Nat} {S st0 : List Value} {a : Nat}
theorem r_h {WW : SH → va_W} {post : Nat → SH → Prop} {hh : List (Nat × Nat × Nat × Nat)} {n c s : Nat} {u : SH} (C : CT (kset K c s) cc own tys lv) (E : RtH K WW post hh) (d : decode cc pc = .ok (.ireturn, 1)) (h1 : c ≤ 1) (h2 : s ≤ 6) (hn : n < 4294967296) (h : post n u) : WA (kset K c s) (WW u) L pc [.int (nI n)] := fun H locs ls hP hD hS hl => by
  rw [show kQ (kset K c s) = MQ (kb K) (QH (kD K) WW post (kA K)) (ka K) (ks K) 1 6 (kA K) from E.1]
  exact fun T hT X => W.iret (cells := 1) (slots := 6) C.1 C.2.1 E.2.1 (fun t ht hW => ⟨⟨nI n, u, rfl, ⟨n, rfl, hn, h⟩, by rw [ht]; exact hP, hD⟩, hS.F ht⟩) hS.2.2 d (hlocks := C.2.2.2.2.2.2.2.2.1) T hT (stand_widen X h1 h2)
theorem a_i2lg {n : Nat} (C : CT K cc own tys lv) (d : decode cc pc = .ok (.i2l, 1)) (k : WA K ws L (pc + 1) (.long (sx n) :: S)) : WA K ws L pc (.int (nI n) :: S) := fun H locs ls hP hD hS hl => lv_i2l C.1 C.2.1 d rfl (k H locs ls hP hD hS hl)
theorem a_last {q0 t0 n i : Nat} {v : Int64} {cA : ClassId} {f : Nat → Int64} (C : CT K cc own tys lv) (d : decode cc pc = .ok (.lastore, 1)) (he : ws[q0]? = some (a, .inl (cA, n, .inr (.inl f)))) (ht : tys[t0]? = some (cA, .long)) (hi : i < n) (hn : n < 2147483648) (hset : ws.set q0 (a, .inl (cA, n, .inr (.inl (vp_updL f i v)))) = ws') (k : WA K ws' L (pc + 1) S) : WA K ws L pc (.long v :: .int (nI i) :: .ref a :: S) := fun H locs ls hP hD hS hl => va_last C.1 C.2.1 C.2.2.2.2.2.1 hP hD hS q0 t0 he ht (vp_in_nI hi hn) d (fun H1 locs1 hP1 hD1 hS1 => by
  rw [nI_clamp (show i < 2 ^ 31 by omega), hset] at hP1 hD1
  exact k H1 locs1 ls hP1 hD1 hS1 hl)
theorem a_lald {q0 t0 n i : Nat} {cA : ClassId} {f : Nat → Int64} (C : CT K cc own tys lv) (d : decode cc pc = .ok (.laload, 1)) (he : ws[q0]? = some (a, .inl (cA, n, .inr (.inl f)))) (ht : tys[t0]? = some (cA, .long)) (hi : i < n) (hn : n < 2147483648) (k : WA K ws L (pc + 1) (.long (f i) :: S)) : WA K ws L pc (.int (nI i) :: .ref a :: S) := fun H locs ls hP hD hS hl => va_lald C.1 C.2.1 C.2.2.2.2.2.1 hP q0 t0 he ht (vp_in_nI hi hn) d (by rw [nI_clamp (show i < 2 ^ 31 by omega)]; exact k H locs ls hP hD hS hl)
theorem pre_x (C : CT K cc own tys lv) (X : XK K) {wc : va_W} {H : Heap} {locs : List Loc} {U : State} {av : List Value} (hP : va_P (kD K) cls6 wc H) (hD : va_D (kA K) wc) (hS : va_S (kA K) (ks K).heap H locs) (hU : U.heap = H) (hW : (ks K).WarmedH U.vm) : va_Pc av (PREX (kD K) tys wc H.size) av.toArray U := by
  have hF := fr_of C hD hS
  refine ⟨rfl, ⟨by rw [hU], by rw [hU]; exact hP, va_K.moved hW.alike C.2.2.2.2.2.1, hD.weaken (fun _ _ _ _ => trivial), C.2.2.2.2.2.2.1.warm hW⟩, X.1.warm hW, ?_, ?_⟩
  · rw [hU]; exact ((X.2.1.1.kept hS.2.1).moved hW.alike).narrow hF
  · rw [hU]; exact ((X.2.1.2.kept hS.2.1).moved hW.alike).narrow hF
def HND (K : KX) (own : String) (pc : Nat) (E : String) (hpc : Nat) : Prop := ∃ (pre : List ExceptionTableEntry) (z : ExceptionTableEntry) (suf : List ExceptionTableEntry), (kc K).exceptionTable.toList = pre ++ z :: suf ∧ (∀ y ∈ pre, covers y pc = false ∨ (y.catchType ≠ 0 ∧ ∃ nm : String, Cond.classLink own y.catchType nm ∈ LG ∧ nm ∈ x4 ∧ E ≠ nm)) ∧ covers z pc = true ∧ z.catchType ≠ 0 ∧ Cond.classLink own z.catchType E ∈ LG ∧ z.handlerPc = hpc
theorem hnd0 {E : String} {a b h k : Nat} {r : List (Nat × Nat × Nat × Nat)} (ht : (kc K).exceptionTable.toList = tableOf ((a, b, h, k) :: r)) (hc : covers ⟨a, b, h, k⟩ pc = true) (h0 : k ≠ 0) (hl : Cond.classLink own k E ∈ LG) : HND K own pc E h := ⟨[], ⟨a, b, h, k⟩, tableOf r, ht, fun y hy => (nomatch hy), hc, h0, hl, rfl⟩
theorem hnd1 {E F : String} {a b h k a1 b1 h1 k1 : Nat} {r : List (Nat × Nat × Nat × Nat)} (ht : (kc K).exceptionTable.toList = tableOf ((a1, b1, h1, k1) :: (a, b, h, k) :: r)) (hc : covers ⟨a, b, h, k⟩ pc = true) (h0 : k ≠ 0) (hl : Cond.classLink own k E ∈ LG) (g0 : k1 ≠ 0) (gl : Cond.classLink own k1 F ∈ LG) (gx : F ∈ x4) (gn : E ≠ F) : HND K own pc E h := ⟨[⟨a1, b1, h1, k1⟩], ⟨a, b, h, k⟩, tableOf r, ht, fun y hy => by
  rw [List.mem_singleton] at hy
  subst hy
  exact Or.inr ⟨g0, F, gl, gx, gn⟩, hc, h0, hl, rfl⟩
theorem hnd2 {E F G : String} {a b h k a1 b1 h1 k1 a2 b2 h2 k2 : Nat} {r : List (Nat × Nat × Nat × Nat)} (ht : (kc K).exceptionTable.toList = tableOf ((a1, b1, h1, k1) :: (a2, b2, h2, k2) :: (a, b, h, k) :: r)) (hc : covers ⟨a, b, h, k⟩ pc = true) (h0 : k ≠ 0) (hl : Cond.classLink own k E ∈ LG) (g0 : k1 ≠ 0) (gl : Cond.classLink own k1 F ∈ LG) (gx : F ∈ x4) (gn : E ≠ F) (j0 : k2 ≠ 0) (jl : Cond.classLink own k2 G ∈ LG) (jx : G ∈ x4) (jn : E ≠ G) : HND K own pc E h := ⟨[⟨a1, b1, h1, k1⟩, ⟨a2, b2, h2, k2⟩], ⟨a, b, h, k⟩, tableOf r, ht, fun y hy => by
  rcases List.mem_cons.mp hy with e | hy
  · subst e
    exact Or.inr ⟨g0, F, gl, gx, gn⟩
  · rw [List.mem_singleton] at hy
    subst hy
    exact Or.inr ⟨j0, G, jl, jx, jn⟩, hc, h0, hl, rfl⟩
end HROWS
section XCALL
variable {K : KX} {cc : ByteArray} {own : String} {tys : List (ClassId × FieldType)} {WW : ST → va_W} {x : ST} {L : List (Option Value)} {pc lv : Nat} {S st0 : List Value} {w1 w2 : va_W} {px : String → ST → Prop}
theorem runX {y : MethodName} {cy : ByteArray} {mL index n : Nat} {ret : Option FieldType} {Cn : String} {b : Addr} {As : List Value} {Qc : Array Value → State → Outcome → State → Prop} {XC : String → State → State → Prop} {H : Heap} {locs : List Loc} {ls : Array Slot} (C : CT K cc own tys lv) (X : XK K) (hM : vx_Met (kl K) y (.code y cy mL ret :: LG) (rmX 6) (va_Pc (.ref b :: As) (PREX (kD K) tys (WW x) H.size)) Qc XC 1 6 (va_A (WW x) H.size))
    (h1 : Cond.methodLink own index y ∈ LG) (h2 : Cond.instanceMethod y ∈ LG) (h3 : Cond.selects Cn y y ∈ LG) (h4 : Cond.initialized Cn ∈ LG) (h5 : Cond.code y cy mL ret ∈ LG) (hd : y.cls = Cn ∧ y.cls ≠ "java/lang/invoke/MethodHandle" ∧ y.cls ≠ "java/lang/invoke/VarHandle" ∧ (parseMethodDescriptor y.desc).map (fun d => d.parameters.length) = some n) (hlev : 6 < lv) (hmL : mL ≤ 21)
    {q0 ci : Nat} {fs : List Value} {T : u_T} {N : Nat} (hq : (WW x)[q0]? = some (b, .inr (ci, fs))) (hc : cls6[ci]? = some (Cn, T, N)) (hn : As.length = n) (hst : st0 = As.reverse ++ .ref b :: S) (hcat : (S.map fun v => v.category).sum ≤ 8) (d : decode cc pc = .ok (.invokevirtual index, 3)) (hr1 : kce K + 1 ≤ (kR K).cells) (hr2 : ksl K + 6 ≤ (kR K).slots)
    (hP : va_P (kD K) cls6 (WW x) H) (hD : va_D (kA K) (WW x)) (hS : va_S (kA K) (ks K).heap H locs) (hl : lv_has ls (kn K) (lk 0 L)) : vx_Run (kp K) (kl K) (ke K) (kR K) (ks K) (km K) (ka K) (kb K) (kt K) (kc K) H locs (kce K) (ksl K) 1 6 (F0 (km K) pc ls st0) S (Qc (.ref b :: As).toArray) XC (va_A (WW x) H.size) := by
  obtain ⟨r1, r2, r3, r4⟩ := C.2.2.2.2.2.2.2.2.2
  have hts := (fix_of C).2.2.2.2
  exact vx_runV (fix_of C) hM (cwV n hts (gi_V h1 h2 h3 h4 h5) rfl rfl rfl hd ⟨show 6 + 1 ≤ _ by omega, show 8 + (mL + 11) + 40 * 6 ≤ _ by omega⟩) ⟨PREX_blind, va_recv C.2.2.2.2.2.1 hP hc hq, fun U hU hW => pre_x C X hP hD hS hU hW⟩ rfl hn hl.1 hst (lv_room hcat) d ⟨hr1, hr2⟩
theorem catchX (C : CT K cc own tys lv) (X : XK K) {H : Heap} {locs : List Loc} {ls : Array Slot} {E : String} {ce : Cell} {q9 : Addr} {u : ST} {t : State} {H1 : Heap} {locs1 : List Loc} {rest : List Value} (hP : va_P (kD K) cls6 (w1 ++ (WW x ++ w2)) H) (hD : va_D (kA K) (w1 ++ (WW x ++ w2))) (hS : va_S (kA K) (ks K).heap H locs) (hl : lv_has ls (kn K) (lk 0 L)) (ht : t.heap = H1) (hB : (E ∈ x4 ∧ px E u) ∧ AFT (kD K) WW (va_A (WW x) H.size) u t) (hk1 : ∀ q : Nat, q < H.size → ¬ va_A (WW x) H.size q → H1[q]? = H[q]?) (hS1 : va_S (kA K) (ks K).heap H1 locs1) (hce : H1[q9]? = some ce) (hcv : ce.vm = .none) (hcl : (ks K).vm.findClass E = some ce.cls) (kx : ∀ (E : String) (u : ST) (q : Nat), E ∈ x4 → px E u → ∃ hpc, HND K own pc E hpc ∧ WA (kset K (kce K + 1) (ksl K + 6)) (w1 ++ (WW u ++ w2)) L hpc [.ref q]) : vx_W (kp K) (kl K) (ke K) (kR K) (ks K) (km K) (ka K) (kb K) (kt K) (kc K) H1 locs1 (kce K + 1) (ksl K + 6) (kQ K) (F0 (km K) pc ls rest) q9 := by
  obtain ⟨⟨hE4, hp⟩, hP1, hD1⟩ := hB
  rw [ht] at hP1
  obtain ⟨e1, e2⟩ := emb hP hD (A_ge C hS) hP1 hD1 hk1
  obtain ⟨hpc, ⟨pre, z, suf, k1, k2, k3, k4, k5, k6⟩, kw⟩ := kx E u q9 hE4 hp
  subst k6
  refine vx_catch (name := E) C.2.2.2.1 pre z suf k1 (fun z hz => ?_) k3 k4 (C.2.2.2.2.1 _ k5) (va_Nw.use rfl (X.1.2.1 E hE4)) hce hcv hcl (kw H1 locs1 ls e1 e2 hS1 hl)
  rcases k2 z hz with q | ⟨q1, nm, q2, q3, q4⟩
  · exact Or.inl q
  · exact Or.inr ⟨q1, nm, C.2.2.2.2.1 _ q2, X.1.2.2 E hE4 nm q3 q4⟩
theorem x_I {y : MethodName} {cy : ByteArray} {mL index n : Nat} {ret : Option FieldType} {Cn : String} {b : Addr} {As : List Value} {post : Nat → ST → Prop} (C : CT K cc own tys lv) (X : XK K) (hM : CXI (kl K) (kD K) tys WW y cy mL ret 6 (.ref b :: As) x post px) (h1 : Cond.methodLink own index y ∈ LG) (h2 : Cond.instanceMethod y ∈ LG) (h3 : Cond.selects Cn y y ∈ LG) (h4 : Cond.initialized Cn ∈ LG) (h5 : Cond.code y cy mL ret ∈ LG) (hd : y.cls = Cn ∧ y.cls ≠ "java/lang/invoke/MethodHandle" ∧ y.cls ≠ "java/lang/invoke/VarHandle" ∧ (parseMethodDescriptor y.desc).map (fun d => d.parameters.length) = some n) (hlev : 6 < lv) (hmL : mL ≤ 21) {q0 ci : Nat} {fs : List Value} {T : u_T} {N : Nat} (hq : (WW x)[q0]? = some (b, .inr (ci, fs))) (hc : cls6[ci]? = some (Cn, T, N)) (hn : As.length = n) (hst : st0 = As.reverse ++ .ref b :: S) (hcat : (S.map fun v => v.category).sum ≤ 8) (d : decode cc pc = .ok (.invokevirtual index, 3)) (hr1 : kce K + 1 ≤ (kR K).cells) (hr2 : ksl K + 6 ≤ (kR K).slots) (kx : ∀ (E : String) (u : ST) (q : Nat), E ∈ x4 → px E u → ∃ hpc, HND K own pc E hpc ∧ WA (kset K (kce K + 1) (ksl K + 6)) (w1 ++ (WW u ++ w2)) L hpc [.ref q]) (kk : ∀ (n : Nat) (u : ST), n < 4294967296 → post n u → WA (kset K (kce K + 1) (ksl K + 6)) (w1 ++ (WW u ++ w2)) L (pc + 3) (.int (nI n) :: S)) : WA K (w1 ++ (WW x ++ w2)) L pc st0 := by
  intro H locs ls hP hD hS hl
  have hF := fr_of C (sub_D hD) hS
  refine vx_calli (runX C X (hM H.size) h1 h2 h3 h4 h5 hd hlev hmL hq hc hn hst hcat d hr1 hr2 (sub_P hP) (sub_D hD) hS hl) hS (fun q _ h => hF q h) hF (fun q _ h => hF q h) (fun E ce q9 u t H1 locs1 ht hvm _ hB hz1 hk1 hS1 hce hcv hcl => catchX C X hP hD hS hl ht hB hk1 hS1 hce hcv hcl kx) (fun r u t H1 locs1 ht hvm hw hB hz1 hk1 hS1 => ?_)
  obtain ⟨n, rfl, hn, hp⟩ := hw
  obtain ⟨hP1, hD1⟩ := hB
  rw [ht] at hP1
  obtain ⟨e1, e2⟩ := emb hP hD (A_ge C hS) hP1 hD1 hk1
  exact kk n u hn hp H1 locs1 ls e1 e2 hS1 hl
theorem x_D {y : MethodName} {cy : ByteArray} {mL index n : Nat} {ret : Option FieldType} {Cn : String} {b : Addr} {As : List Value} {post : UInt64 → ST → Prop} (C : CT K cc own tys lv) (X : XK K) (hM : CXD (kl K) (kD K) tys WW y cy mL ret 6 (.ref b :: As) x post px) (h1 : Cond.methodLink own index y ∈ LG) (h2 : Cond.instanceMethod y ∈ LG) (h3 : Cond.selects Cn y y ∈ LG) (h4 : Cond.initialized Cn ∈ LG) (h5 : Cond.code y cy mL ret ∈ LG) (hd : y.cls = Cn ∧ y.cls ≠ "java/lang/invoke/MethodHandle" ∧ y.cls ≠ "java/lang/invoke/VarHandle" ∧ (parseMethodDescriptor y.desc).map (fun d => d.parameters.length) = some n) (hlev : 6 < lv) (hmL : mL ≤ 21) {q0 ci : Nat} {fs : List Value} {T : u_T} {N : Nat} (hq : (WW x)[q0]? = some (b, .inr (ci, fs))) (hc : cls6[ci]? = some (Cn, T, N)) (hn : As.length = n) (hst : st0 = As.reverse ++ .ref b :: S) (hcat : (S.map fun v => v.category).sum ≤ 8) (d : decode cc pc = .ok (.invokevirtual index, 3)) (hr1 : kce K + 1 ≤ (kR K).cells) (hr2 : ksl K + 6 ≤ (kR K).slots) (kx : ∀ (E : String) (u : ST) (q : Nat), E ∈ x4 → px E u → ∃ hpc, HND K own pc E hpc ∧ WA (kset K (kce K + 1) (ksl K + 6)) (w1 ++ (WW u ++ w2)) L hpc [.ref q]) (kk : ∀ (n : UInt64) (u : ST), post n u → WA (kset K (kce K + 1) (ksl K + 6)) (w1 ++ (WW u ++ w2)) L (pc + 3) (.double n :: S)) : WA K (w1 ++ (WW x ++ w2)) L pc st0 := by
  intro H locs ls hP hD hS hl
  have hF := fr_of C (sub_D hD) hS
  refine vx_calld (runX C X (hM H.size) h1 h2 h3 h4 h5 hd hlev hmL hq hc hn hst hcat d hr1 hr2 (sub_P hP) (sub_D hD) hS hl) hS (fun q _ h => hF q h) hF (fun q _ h => hF q h) (fun E ce q9 u t H1 locs1 ht hvm _ hB hz1 hk1 hS1 hce hcv hcl => catchX C X hP hD hS hl ht hB hk1 hS1 hce hcv hcl kx) (fun r u t H1 locs1 ht hvm hw hB hz1 hk1 hS1 => ?_)
  obtain ⟨hP1, hD1⟩ := hB
  rw [ht] at hP1
  obtain ⟨e1, e2⟩ := emb hP hD (A_ge C hS) hP1 hD1 hk1
  exact kk r u hw H1 locs1 ls e1 e2 hS1 hl
theorem x_V {y : MethodName} {cy : ByteArray} {mL index n : Nat} {ret : Option FieldType} {Cn : String} {b : Addr} {As : List Value} {post : ST → Prop} (C : CT K cc own tys lv) (X : XK K) (hM : CXV (kl K) (kD K) tys WW y cy mL ret 6 (.ref b :: As) x post px) (h1 : Cond.methodLink own index y ∈ LG) (h2 : Cond.instanceMethod y ∈ LG) (h3 : Cond.selects Cn y y ∈ LG) (h4 : Cond.initialized Cn ∈ LG) (h5 : Cond.code y cy mL ret ∈ LG) (hd : y.cls = Cn ∧ y.cls ≠ "java/lang/invoke/MethodHandle" ∧ y.cls ≠ "java/lang/invoke/VarHandle" ∧ (parseMethodDescriptor y.desc).map (fun d => d.parameters.length) = some n) (hlev : 6 < lv) (hmL : mL ≤ 21) {q0 ci : Nat} {fs : List Value} {T : u_T} {N : Nat} (hq : (WW x)[q0]? = some (b, .inr (ci, fs))) (hc : cls6[ci]? = some (Cn, T, N)) (hn : As.length = n) (hst : st0 = As.reverse ++ .ref b :: S) (hcat : (S.map fun v => v.category).sum ≤ 8) (d : decode cc pc = .ok (.invokevirtual index, 3)) (hr1 : kce K + 1 ≤ (kR K).cells) (hr2 : ksl K + 6 ≤ (kR K).slots) (kx : ∀ (E : String) (u : ST) (q : Nat), E ∈ x4 → px E u → ∃ hpc, HND K own pc E hpc ∧ WA (kset K (kce K + 1) (ksl K + 6)) (w1 ++ (WW u ++ w2)) L hpc [.ref q]) (kk : ∀ u : ST, post u → WA (kset K (kce K + 1) (ksl K + 6)) (w1 ++ (WW u ++ w2)) L (pc + 3) S) : WA K (w1 ++ (WW x ++ w2)) L pc st0 := by
  intro H locs ls hP hD hS hl
  have hF := fr_of C (sub_D hD) hS
  refine vx_callv (runX C X (hM H.size) h1 h2 h3 h4 h5 hd hlev hmL hq hc hn hst hcat d hr1 hr2 (sub_P hP) (sub_D hD) hS hl) hS (fun q _ h => hF q h) hF (fun q _ h => hF q h) (fun E ce q9 u t H1 locs1 ht hvm _ hB hz1 hk1 hS1 hce hcv hcl => catchX C X hP hD hS hl ht hB hk1 hS1 hce hcv hcl kx) (fun u t H1 locs1 ht hvm hw hB hz1 hk1 hS1 => ?_)
  obtain ⟨hP1, hD1⟩ := hB
  rw [ht] at hP1
  obtain ⟨e1, e2⟩ := emb hP hD (A_ge C hS) hP1 hD1 hk1
  exact kk u hw H1 locs1 ls e1 e2 hS1 hl
end XCALL
/-- what a helper's number says -/
def HPI (post : Nat → ST → Prop) (px : String → ST → Prop) (ns : List (Nat × String)) : Nat → SH → Prop := fun c h => (c = 0 ∧ ∃ rr, rr < 4294967296 ∧ post rr h.1 ∧ h.2.1 0 = sx rr) ∨ ∃ E, (c, E) ∈ ns ∧ px E h.1
def HPD (post : UInt64 → ST → Prop) (px : String → ST → Prop) (ns : List (Nat × String)) : Nat → SH → Prop := fun c h => (c = 0 ∧ ∃ rr, post rr h.1 ∧ h.2.2 0 = rr) ∨ ∃ E, (c, E) ∈ ns ∧ px E h.1
def HPV (post : ST → Prop) (px : String → ST → Prop) (ns : List (Nat × String)) : Nat → SH → Prop := fun c h => (c = 0 ∧ post h.1) ∨ ∃ E, (c, E) ∈ ns ∧ px E h.1

/-! METHODS THAT MAY THROW -/
def rmX (d : Nat) : Room := { frames := d, cells := 1, slots := 6, locals := 40 * d }
def x4 : List String := ["java/lang/IllegalArgumentException", "java/lang/IllegalStateException", "java/lang/UnsupportedOperationException", "java/util/NoSuchElementException"]
def xN : List String := ["java/lang/RuntimeException", "java/lang/Exception"]
def XW (U : State) : Prop := (∀ Y ∈ ["java/lang/RuntimeException", "java/lang/Exception", Bundle.tN], va_Nw (.declares (Bundle.init0 Y)) U) ∧ (∀ X ∈ x4, va_Nw (.castable X X) U) ∧ (∀ X ∈ x4, ∀ Y ∈ x4, X ≠ Y → va_Nc X Y U)
def XZ (A : Nat → Prop) (U : State) (H : Heap) : Prop := vx_Zq Bundle.tN "UNASSIGNED_STACK" Bundle.steD A U H ∧ vx_Zq Bundle.tN "SUPPRESSED_SENTINEL" Bundle.listD A U H
theorem XW.warm {s U : State} (h : XW s) (hW : s.WarmedH U.vm) : XW U := ⟨fun Y hY => va_Nw.warmD hW (h.1 Y hY), fun X hX => va_Nw.warmC hW (h.2.1 X hX), fun X hX Y hY n => va_Nc.moved hW.alike (h.2.2 X hX Y hY n)⟩
theorem XW.same {s U : State} (h : XW s) (hv : s.vm = U.vm) : XW U := ⟨fun Y hY => va_Nw.same rfl hv (h.1 Y hY), fun X hX => va_Nw.same rfl hv (h.2.1 X hX), fun X hX Y hY n => va_Nc.moved (by rw [hv]; exact Vm.Alike.refl _) (h.2.2 X hX Y hY n)⟩
def PREX (D : va_G) (tys : List (ClassId × FieldType)) (wc : va_W) (sz : Nat) (U : State) : Prop := PRE D tys wc sz U ∧ XW U ∧ XZ (va_A wc sz) U U.heap
theorem PREX_blind {D : va_G} {tys : List (ClassId × FieldType)} {wc : va_W} {sz : Nat} {av : List Value} : FrameBlind (va_Pc av (PREX D tys wc sz)) := fun a U g mk q => by
  obtain ⟨q0, q1, q2, q3⟩ := q
  exact ⟨q0, (PRE_blind (av := av) a U g mk ⟨q0, q1⟩).2, q2.same rfl, vx_Zq.moved (u := U) (U := U.calling g mk a) (Vm.Alike.refl U.vm) q3.1, vx_Zq.moved (u := U) (U := U.calling g mk a) (Vm.Alike.refl U.vm) q3.2⟩
def XQ (D : va_G) (WW : ST → va_W) (px : String → ST → Prop) (A : Nat → Prop) : String → State → State → Prop := vx_X (fun _ : ST => True) (fun E u t => (E ∈ x4 ∧ px E u) ∧ AFT D WW A u t) A
def XC0 (K : KX) : Prop := XW (ks K) ∧ XZ (kA K) (ks K) (ks K).heap ∧ (kl K).stackTraces = false ∧ 1 ≤ (kR K).cells ∧ 6 ≤ (kR K).slots ∧ kce K = 0 ∧ ksl K = 0 ∧ ∀ z ∈ (kc K).exceptionTable.toList, False
def THW (own : String) (ik ic : Nat) (cls : String) : Prop := cls ∈ x4 ∧ Bundle.fit cls = true ∧ Cond.classLink own ik cls ∈ LG ∧ Cond.initialized cls ∈ LG ∧ (∀ w ∈ (vx_at0 own ic cls xN).filter goodWord, w ∈ LG) ∧ (∀ w ∈ (vx_at0 own ic cls xN).filter (fun w => !goodWord w), w ∈ [Cond.declares (Bundle.init0 "java/lang/RuntimeException"), .declares (Bundle.init0 "java/lang/Exception"), .declares (Bundle.init0 Bundle.tN), .castable cls cls]) ∧ (∀ w ∈ Cond.classLink own ik cls :: Cond.initialized cls :: vx_at0 own ic cls xN, vx_ot w = true)
theorem a_thr {K : KX} {cc : ByteArray} {own cls : String} {tys : List (ClassId × FieldType)} {WW : ST → va_W} {x : ST} {L : List (Option Value)} {pc lv ik ic : Nat} {S : List Value} {Qc : Array Value → State → Outcome → State → Prop} {px : String → ST → Prop} (C : CT K cc own tys lv) (hQ : kQ K = vx_MQ (kb K) Qc (XQ (kD K) WW px (kA K)) (ka K) (ks K) 1 6 (kA K)) (hX : XC0 K) (hw : THW own ik ic cls) (hlev : 6 ≤ lv) (hcat : (S.map fun v => v.category).sum ≤ 8) (d0 : decode cc pc = .ok (.new ik, 3)) (d3 : decode cc (pc + 3) = .ok (.dup, 1)) (d4 : decode cc (pc + 4) = .ok (.invokespecial ic, 3)) (d7 : decode cc (pc + 7) = .ok (.athrow, 1)) (hp : px cls x) : WA K (WW x) L pc S := by
  intro H locs ls hP hD hS hl
  obtain ⟨r1, r2, r3, r4⟩ := C.2.2.2.2.2.2.2.2.2
  obtain ⟨x1, x2, x3, x4', x5, x6, x7, x8⟩ := hX
  obtain ⟨w1, w2, w3, w4, w5, w6, w7⟩ := hw
  have htg := C.2.2.2.2.1
  rw [hQ]
  refine vx_throw0 (names := xN) C.1 C.2.1 x3 C.2.2.2.1 w2 (by decide +kernel) (htg _ w3) (htg _ w4) (vx_hat (fun w h => htg w (w5 w h)) w6 ?_) w7 x2.1 x2.2 hS (hl.1.trans C.2.2.1.symm) d0 d3 d4 d7 (fun z hz => (x8 z hz).elim) ?_ ?_ (by omega) (by omega) C.2.2.2.2.2.2.2.2.1 ?_ (fun z hz => hS.2.2 z hz) (by omega) (by omega)
  · exact vx_c (va_Nw.use rfl (x1.1 _ (by decide))) (vx_c (va_Nw.use rfl (x1.1 _ (by decide))) (vx_c (va_Nw.use rfl (x1.1 _ (by decide))) (vx_c (va_Nw.use rfl (x1.2.1 _ w1)) vx_n)))
  · show 2 + 3 < _
    omega
  · show _ + (13 * (2 + 1) + 42) ≤ _
    omega
  · intro t hvm hz hq
    refine ⟨x, trivial, ⟨⟨w1, hp⟩, hP.kept (fun k q hk => hq q.1 (vx_lt hP hk)), hD⟩, Nat.le_trans hS.1 hz, fun q h1 h2 => ?_⟩
    rw [hq q (Nat.lt_of_lt_of_le h1 hS.1)]
    exact hS.2.1 q h1 h2
def CXI (l : Launch) (D : va_G) (tys : List (ClassId × FieldType)) (WW : ST → va_W) (y : MethodName) (cy : ByteArray) (mL : Nat) (ret : Option FieldType) (lev : Nat) (av : List Value) (x : ST) (post : Nat → ST → Prop) (px : String → ST → Prop) : Prop := ∀ sz, vx_Met l y (.code y cy mL ret :: LG) (rmX lev) (va_Pc av (PREX D tys (WW x) sz)) (QI D WW post (va_A (WW x) sz)) (XQ D WW px (va_A (WW x) sz)) 1 6 (va_A (WW x) sz)
def RtXI (K : KX) (WW : ST → va_W) (ret : Option FieldType) (post : Nat → ST → Prop) (px : String → ST → Prop) : Prop := kQ K = vx_MQ (kb K) (QI (kD K) WW post (kA K)) (XQ (kD K) WW px (kA K)) (ka K) (ks K) 1 6 (kA K) ∧ (kt K).sig.returnType = ret ∧ XC0 K
theorem CXI_of {l : Launch} {D : va_G} {tys : List (ClassId × FieldType)} {WW : ST → va_W} {y : MethodName} {cy : ByteArray} {mL : Nat} {ret : Option FieldType} {lev : Nat} {av : List Value} {x : ST} {post : Nat → ST → Prop} {px : String → ST → Prop} (hst : l.stackTraces = false) (L0 : List (Option Value)) (hy : plainName y.cls = true) (hs : (lg_sl av).length ≤ mL) (hL : lv_args 0 av = lk 0 L0) (body : ∀ K : KX, CT K cy y.cls tys lev → RtXI K WW ret post px → kl K = l → kD K = D → kn K = mL → WA K (WW x) L0 0 []) : CXI l D tys WW y cy mL ret lev av x post px := by
  intro sz
  refine vx_ofW (cc := cy) (maxL := mL) (ret := ret) hy rfl ?_
  intro p e s m args below meth c s₁ B hml htb hv
  obtain ⟨rfl, ⟨hsz, hP, hK, hD0, hE⟩, hX1, hX2⟩ := hv
  subst hsz
  have hts := atoms_spec (ws := .code y cy mL ret :: LG) B.pre
  have hl := lv_entry av (n := mL) hs
  rw [lg_entry_eq]
  generalize (lg_sl av ++ List.replicate (mL - (lg_sl av).length) Slot.unset).toArray = ls at hl ⊢
  rw [hL] at hl
  exact body ((p, l, e, (headSpec (.code y cy mL ret :: LG) (rmX lev)).room, s), (m, av.toArray, below, meth, c), (D, va_A (WW x) s.heap.size, mL, vx_MQ below (QI D WW post (va_A (WW x) s.heap.size)) (XQ D WW px (va_A (WW x) s.heap.size)) av.toArray s 1 6 (va_A (WW x) s.heap.size)), (0, 0)) ⟨B.exec, B.bytes, hml, findClass_of_methodNamed B.named, fun w hw => hts w (List.mem_cons_of_mem _ hw), hK, hE, fun q hq => Or.inr hq, B.notSynchronized, Nat.le_refl _, Nat.le_refl _, Nat.zero_le _, Nat.zero_le _⟩ ⟨rfl, B.returns, hX1, hX2, hst, Nat.le_refl _, Nat.le_refl _, rfl, rfl, htb⟩ rfl rfl rfl s.heap [] ls hP (hD0.self) va_S.rf hl
def CXD (l : Launch) (D : va_G) (tys : List (ClassId × FieldType)) (WW : ST → va_W) (y : MethodName) (cy : ByteArray) (mL : Nat) (ret : Option FieldType) (lev : Nat) (av : List Value) (x : ST) (post : UInt64 → ST → Prop) (px : String → ST → Prop) : Prop := ∀ sz, vx_Met l y (.code y cy mL ret :: LG) (rmX lev) (va_Pc av (PREX D tys (WW x) sz)) (QD D WW post (va_A (WW x) sz)) (XQ D WW px (va_A (WW x) sz)) 1 6 (va_A (WW x) sz)
def RtXD (K : KX) (WW : ST → va_W) (ret : Option FieldType) (post : UInt64 → ST → Prop) (px : String → ST → Prop) : Prop := kQ K = vx_MQ (kb K) (QD (kD K) WW post (kA K)) (XQ (kD K) WW px (kA K)) (ka K) (ks K) 1 6 (kA K) ∧ (kt K).sig.returnType = ret ∧ XC0 K
theorem CXD_of {l : Launch} {D : va_G} {tys : List (ClassId × FieldType)} {WW : ST → va_W} {y : MethodName} {cy : ByteArray} {mL : Nat} {ret : Option FieldType} {lev : Nat} {av : List Value} {x : ST} {post : UInt64 → ST → Prop} {px : String → ST → Prop} (hst : l.stackTraces = false) (L0 : List (Option Value)) (hy : plainName y.cls = true) (hs : (lg_sl av).length ≤ mL) (hL : lv_args 0 av = lk 0 L0) (body : ∀ K : KX, CT K cy y.cls tys lev → RtXD K WW ret post px → kl K = l → kD K = D → kn K = mL → WA K (WW x) L0 0 []) : CXD l D tys WW y cy mL ret lev av x post px := by
  intro sz
  refine vx_ofW (cc := cy) (maxL := mL) (ret := ret) hy rfl ?_
  intro p e s m args below meth c s₁ B hml htb hv
  obtain ⟨rfl, ⟨hsz, hP, hK, hD0, hE⟩, hX1, hX2⟩ := hv
  subst hsz
  have hts := atoms_spec (ws := .code y cy mL ret :: LG) B.pre
  have hl := lv_entry av (n := mL) hs
  rw [lg_entry_eq]
  generalize (lg_sl av ++ List.replicate (mL - (lg_sl av).length) Slot.unset).toArray = ls at hl ⊢
  rw [hL] at hl
  exact body ((p, l, e, (headSpec (.code y cy mL ret :: LG) (rmX lev)).room, s), (m, av.toArray, below, meth, c), (D, va_A (WW x) s.heap.size, mL, vx_MQ below (QD D WW post (va_A (WW x) s.heap.size)) (XQ D WW px (va_A (WW x) s.heap.size)) av.toArray s 1 6 (va_A (WW x) s.heap.size)), (0, 0)) ⟨B.exec, B.bytes, hml, findClass_of_methodNamed B.named, fun w hw => hts w (List.mem_cons_of_mem _ hw), hK, hE, fun q hq => Or.inr hq, B.notSynchronized, Nat.le_refl _, Nat.le_refl _, Nat.zero_le _, Nat.zero_le _⟩ ⟨rfl, B.returns, hX1, hX2, hst, Nat.le_refl _, Nat.le_refl _, rfl, rfl, htb⟩ rfl rfl rfl s.heap [] ls hP (hD0.self) va_S.rf hl
def CXV (l : Launch) (D : va_G) (tys : List (ClassId × FieldType)) (WW : ST → va_W) (y : MethodName) (cy : ByteArray) (mL : Nat) (ret : Option FieldType) (lev : Nat) (av : List Value) (x : ST) (post : ST → Prop) (px : String → ST → Prop) : Prop := ∀ sz, vx_Met l y (.code y cy mL ret :: LG) (rmX lev) (va_Pc av (PREX D tys (WW x) sz)) (QV D WW post (va_A (WW x) sz)) (XQ D WW px (va_A (WW x) sz)) 1 6 (va_A (WW x) sz)
def RtXV (K : KX) (WW : ST → va_W) (ret : Option FieldType) (post : ST → Prop) (px : String → ST → Prop) : Prop := kQ K = vx_MQ (kb K) (QV (kD K) WW post (kA K)) (XQ (kD K) WW px (kA K)) (ka K) (ks K) 1 6 (kA K) ∧ (kt K).sig.returnType = ret ∧ XC0 K
theorem CXV_of {l : Launch} {D : va_G} {tys : List (ClassId × FieldType)} {WW : ST → va_W} {y : MethodName} {cy : ByteArray} {mL : Nat} {ret : Option FieldType} {lev : Nat} {av : List Value} {x : ST} {post : ST → Prop} {px : String → ST → Prop} (hst : l.stackTraces = false) (L0 : List (Option Value)) (hy : plainName y.cls = true) (hs : (lg_sl av).length ≤ mL) (hL : lv_args 0 av = lk 0 L0) (body : ∀ K : KX, CT K cy y.cls tys lev → RtXV K WW ret post px → kl K = l → kD K = D → kn K = mL → WA K (WW x) L0 0 []) : CXV l D tys WW y cy mL ret lev av x post px := by
  intro sz
  refine vx_ofW (cc := cy) (maxL := mL) (ret := ret) hy rfl ?_
  intro p e s m args below meth c s₁ B hml htb hv
  obtain ⟨rfl, ⟨hsz, hP, hK, hD0, hE⟩, hX1, hX2⟩ := hv
  subst hsz
  have hts := atoms_spec (ws := .code y cy mL ret :: LG) B.pre
  have hl := lv_entry av (n := mL) hs
  rw [lg_entry_eq]
  generalize (lg_sl av ++ List.replicate (mL - (lg_sl av).length) Slot.unset).toArray = ls at hl ⊢
  rw [hL] at hl
  exact body ((p, l, e, (headSpec (.code y cy mL ret :: LG) (rmX lev)).room, s), (m, av.toArray, below, meth, c), (D, va_A (WW x) s.heap.size, mL, vx_MQ below (QV D WW post (va_A (WW x) s.heap.size)) (XQ D WW px (va_A (WW x) s.heap.size)) av.toArray s 1 6 (va_A (WW x) s.heap.size)), (0, 0)) ⟨B.exec, B.bytes, hml, findClass_of_methodNamed B.named, fun w hw => hts w (List.mem_cons_of_mem _ hw), hK, hE, fun q hq => Or.inr hq, B.notSynchronized, Nat.le_refl _, Nat.le_refl _, Nat.zero_le _, Nat.zero_le _⟩ ⟨rfl, B.returns, hX1, hX2, hst, Nat.le_refl _, Nat.le_refl _, rfl, rfl, htb⟩ rfl rfl rfl s.heap [] ls hP (hD0.self) va_S.rf hl
section RETX
variable {K : KX} {cc : ByteArray} {own : String} {tys : List (ClassId × FieldType)} {WW : ST → va_W} {L : List (Option Value)} {pc lv : Nat} {px : String → ST → Prop}
theorem rx_i {post : Nat → ST → Prop} {n : Nat} {u : ST} (C : CT K cc own tys lv) (E : RtXI K WW (some .int) post px) (d : decode cc pc = .ok (.ireturn, 1)) (hn : n < 4294967296) (h : post n u) : WA K (WW u) L pc [.int (nI n)] := fun H locs ls hP hD hS hl => by
  rw [E.1]
  exact vx_ret (fun T hT X => W.iret (cells := 1) (slots := 6) C.1 C.2.1 E.2.1 (fun t ht hW => ⟨⟨nI n, u, rfl, ⟨n, rfl, hn, h⟩, by rw [ht]; exact hP, hD⟩, hS.F ht⟩) hS.2.2 d (hlocks := C.2.2.2.2.2.2.2.2.1) T hT (stand_widen X (by have := E.2.2.2.2.2.2.2.1; omega) (by have := E.2.2.2.2.2.2.2.2.1; omega)))
theorem rx_d {post : UInt64 → ST → Prop} {n : UInt64} {u : ST} (C : CT K cc own tys lv) (E : RtXD K WW (some .double) post px) (d : decode cc pc = .ok (.dreturn, 1)) (h : post n u) : WA K (WW u) L pc [.double n] := fun H locs ls hP hD hS hl => by
  rw [E.1]
  exact vx_ret (fun T hT X => W.dret (cells := 1) (slots := 6) C.1 C.2.1 E.2.1 (fun t ht hW => ⟨⟨n, u, rfl, h, by rw [ht]; exact hP, hD⟩, hS.F ht⟩) hS.2.2 d (hlocks := C.2.2.2.2.2.2.2.2.1) T hT (stand_widen X (by have := E.2.2.2.2.2.2.2.1; omega) (by have := E.2.2.2.2.2.2.2.2.1; omega)))
theorem rx_v {post : ST → Prop} {u : ST} (C : CT K cc own tys lv) (E : RtXV K WW none post px) (d : decode cc pc = .ok (.return_, 1)) (h : post u) : WA K (WW u) L pc [] := fun H locs ls hP hD hS hl => by
  rw [E.1]
  exact vx_ret (fun T hT X => W.vret (cells := 1) (slots := 6) C.1 C.2.1 E.2.1 (fun t ht hW => ⟨⟨u, rfl, h, by rw [ht]; exact hP, hD⟩, hS.F ht⟩) hS.2.2 d (hlocks := C.2.2.2.2.2.2.2.2.1) T hT (stand_widen X (by have := E.2.2.2.2.2.2.2.1; omega) (by have := E.2.2.2.2.2.2.2.2.1; omega)))
end RETX
theorem th_56_a : ∀ w ∈ (vx_at0 RP 58 "java/lang/IllegalArgumentException" xN).filter goodWord, w ∈ lw_tbl := by decide +kernel
theorem th_56 : THW RP 56 58 "java/lang/IllegalArgumentException" := ⟨by decide, by decide +kernel, wCl_P_56, wIni_IllegalArgumentException, fun w h => LG_in (th_56_a w h) (List.mem_filter.mp h).2, by decide +kernel, by decide +kernel⟩
theorem th_63_a : ∀ w ∈ (vx_at0 RP 65 "java/lang/IllegalStateException" xN).filter goodWord, w ∈ lw_tbl := by decide +kernel
theorem th_63 : THW RP 63 65 "java/lang/IllegalStateException" := ⟨by decide, by decide +kernel, wCl_P_63, wIni_IllegalStateException, fun w h => LG_in (th_63_a w h) (List.mem_filter.mp h).2, by decide +kernel, by decide +kernel⟩
theorem th_88_a : ∀ w ∈ (vx_at0 RP 90 "java/lang/UnsupportedOperationException" xN).filter goodWord, w ∈ lw_tbl := by decide +kernel
theorem th_88 : THW RP 88 90 "java/lang/UnsupportedOperationException" := ⟨by decide, by decide +kernel, wCl_P_88, wIni_UnsupportedOperationException, fun w h => LG_in (th_88_a w h) (List.mem_filter.mp h).2, by decide +kernel, by decide +kernel⟩
theorem th_115_a : ∀ w ∈ (vx_at0 RP 117 "java/util/NoSuchElementException" xN).filter goodWord, w ∈ lw_tbl := by decide +kernel
theorem th_115 : THW RP 115 117 "java/util/NoSuchElementException" := ⟨by decide, by decide +kernel, wCl_P_115, wIni_NoSuchElementException, fun w h => LG_in (th_115_a w h) (List.mem_filter.mp h).2, by decide +kernel, by decide +kernel⟩

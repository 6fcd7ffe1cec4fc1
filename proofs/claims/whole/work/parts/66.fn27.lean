/-! THE LAW -/
theorem j_0 : JV X0 X0m := by
  refine ⟨⟨fun k i => by show (0 : Nat) < _; decide, fun k => ?_⟩, ⟨fun k i => by show (0 : Nat) < _; decide, fun k => ?_⟩, ⟨fun i => Nat.zero_le _, fun i => Nat.zero_le _⟩, ⟨fun q => Nat.zero_le _, Nat.zero_le _, Nat.zero_le _⟩, TX.nil rfl rfl, rfl, ⟨⟨Nat.zero_le _, fun r hr => absurd hr (Nat.not_lt_zero _)⟩, fun r hr => absurd hr (Nat.not_lt_zero _), ⟨rfl, fun r hr => absurd hr (Nat.not_lt_zero _), fun _ _ _ _ _ => rfl⟩, fun r _ s _ _ => ⟨Nat.zero_testBit _, rfl⟩⟩, PRS.no rfl rfl rfl rfl⟩
  · show (if k = 0 then 4294967295 else 0) < 4294967296
    split <;> decide
  · show (if k = 2 then 4294967295 else 0) < 4294967296
    split <;> decide
set_option maxHeartbeats 4000000 in
set_option maxRecDepth 100000 in
theorem law_loop {K : KX} {ad am : Nat → Nat} {oa od b Lg : Nat} {cI cD cZ cJ : ClassId} {xs : Nat → Int32} (C : CT K bL_law RL (ty4 cI cD cZ cJ) 9) (X : XK K) (hX : SCR K b Lg xs) (hL : Lg ≤ 2048) (hr1 : 600 ≤ (kR K).cells) (hr2 : 40000 ≤ (kR K).slots) (hkn : kn K = 9) (hfin : ∀ (t : Nat) (ws : va_W) (L : List (Option Value)), t ≤ 512 → WA (kset K (46 + t) (33091 + 6 * t)) ws L 782 []) : ∀ (N0 t : Nat) (h : SH) (m : ST), 513 - t < N0 → t ≤ 512 → JV h.1 m → WA (kset K (46 + t) (33091 + 6 * t)) (WM am cI cD cZ m ++ WH ad oa od cI cD cZ cJ h) [some (.ref b), some (.ref (ad 0)), some (.ref (am 0)), some (.ref oa), some (.ref od), some (.int (nI (4 * t))), none, none, none] 28 [] := by
  intro N0
  induction N0 with
  | zero => intro t h m hm; exact absurd hm (Nat.not_lt_zero _)
  | succ N0 ih =>
    intro t h m hm ht J
    have C1 : CT (kset K (46 + t) (33091 + 6 * t)) bL_law RL (ty4 cI cD cZ cJ) 9 := C.set (by omega) (by omega)
    refine a_iload C1 dL_law_28 rfl ?_
    refine a_aloadn C1 dL_law_30 rfl rfl ?_
    refine s_len C1 hX dL_law_31 ?_
    refine a_iconst (v := 4) C1 dL_law_32 (by decide) ?_
    by_cases h4 : 4 ≤ Lg
    · refine a_isub C1 dL_law_33 h4 ?_
      refine a_cgt (tgt := 782) C1 dL_law_34 (by decide) (by omega) (by omega) (fun _ => hfin t _ _ ht) (fun hi => ?_)
      have ht2 : t + 1 ≤ 512 := by omega
      have hend : ∀ (h2 : SH) (n : ST), JV h2.1 n → WA (kset (kset K (46 + t) (33091 + 6 * t)) (kce (kset K (46 + t) (33091 + 6 * t)) + 1) (ksl (kset K (46 + t) (33091 + 6 * t)) + 6)) (WM am cI cD cZ n ++ WH ad oa od cI cD cZ cJ h2) [some (.ref b), some (.ref (ad 0)), some (.ref (am 0)), some (.ref oa), some (.ref od), some (.int (nI (4 * t))), none, none, none] 776 [] := by
        intro h2 n J2
        have C2 : CT (kset K (46 + (t + 1)) (33091 + 6 * (t + 1))) bL_law RL (ty4 cI cD cZ cJ) 9 := C.set (by omega) (by omega)
        show WA (kset K (46 + (t + 1)) (33091 + 6 * (t + 1))) _ _ _ _
        refine inc_5 C2 dL_law_776 rfl (inc_up (c := 4) (by decide)) (show 5 < kn K by omega) rfl ?_
        refine a_goto (tgt := 28) C2 dL_law_779 (by decide) ?_
        exact ih (t + 1) h2 n (by omega) ht2 J2
      refine a_aloadn C1 dL_law_37 rfl rfl ?_
      refine a_iload C1 dL_law_38 rfl ?_
      refine s_ld C1 hX (by omega) dL_law_40 (by omega) ?_
      refine a_bipush (v := 15) C1 dL_law_41 (by decide) ?_
      refine a_iand C1 dL_law_43 ?_
      have ha : sv xs (4 * t) &&& 15 ≤ 15 := Nat.and_le_right
      generalize (sv xs (4 * t) &&& 15) = a at ha ⊢
      have q1 : kce (kset K (46 + t) (33091 + 6 * t)) + 1 ≤ (kR (kset K (46 + t) (33091 + 6 * t))).cells := by show 46 + t + 1 ≤ (kR K).cells; omega
      have q2 : ksl (kset K (46 + t) (33091 + 6 * t)) + 6 ≤ (kR (kset K (46 + t) (33091 + 6 * t))).slots := by show 33091 + 6 * t + 6 ≤ (kR K).slots; omega
      have hlt : Lg < 2147483648 := by omega
      have h5 : 4 * t + 4 ≤ Lg := by omega
      refine a_tsw (n := 11) (tgtD := 776) (fun k => [104, 192, 258, 306, 382, 458, 482, 538, 603, 671, 751].getD k 0) C1 dL_law_44 (by omega) (by decide) (by decide) (by decide) (by decide) (fun hk => ?_) (fun hk => ?_)
      · rcases (show a = 0 ∨ a = 1 ∨ a = 2 ∨ a = 3 ∨ a = 4 ∨ a = 5 ∨ a = 6 ∨ a = 7 ∨ a = 8 ∨ a = 9 ∨ a = 10 by omega) with rfl | rfl | rfl | rfl | rfl | rfl | rfl | rfl | rfl | rfl | rfl
        · exact law_type C1 X hX hlt q1 q2 hkn h5 J hend
        · exact law_rule C1 X hX hlt q1 q2 hkn h5 J hend
        · exact law_mark C1 X hX hlt q1 q2 hkn h5 J hend
        · exact law_bar C1 X hX hlt q1 q2 hkn h5 J hend
        · exact law_follow C1 X hX hlt q1 q2 hkn h5 J hend
        · exact law_undo C1 X hX hlt q1 q2 hkn h5 J hend
        · exact law_parse C1 X hX hlt q1 q2 hkn h5 J hend
        · exact law_weight C1 X hX hlt q1 q2 hkn h5 J hend
        · exact law_node C1 X hX hlt q1 q2 hkn h5 J hend
        · exact law_many C1 X hX hlt q1 q2 hkn h5 J hend
        · exact law_count C1 X hX hlt q1 q2 hkn h5 J hend
      · exact a_wid (Nat.le_succ _) (Nat.le_add_right _ _) (hend h m J)
    · refine a_isubw C1 dL_law_33 (by decide) ?_
      exact a_cgtB (tgt := 782) C1 dL_law_34 (by decide) (by omega) (by omega) (fun _ => hfin t _ _ ht) (fun q => absurd q.2 (by omega))
set_option maxHeartbeats 4000000 in
set_option maxRecDepth 100000 in
theorem law_start {K : KX} {b Lg : Nat} {cI cD cZ cJ : ClassId} {xs : Nat → Int32} (C : CT K bL_law RL (ty4 cI cD cZ cJ) 9) (X : XK K) (hX : SCR K b Lg xs) (hL : Lg ≤ 2048) (hr1 : 600 ≤ (kR K).cells) (hr2 : 40000 ≤ (kR K).slots) (hkn : kn K = 9) (h0 : kce K = 0) (h1 : ksl K = 0) (hfin : ∀ (t : Nat) (ws : va_W) (L : List (Option Value)), t ≤ 512 → WA (kset K (46 + t) (33091 + 6 * t)) ws L 782 []) : WA K [] [some (.ref b), none, none, none, none, none, none, none, none] 0 [] := by
  refine a_newo (Cn := RP) (T := TP) (N := 7) (ci := 4) (c' := 1) (s' := 7) (fs := [.null, .null, .null, .null, .int 0, .int 0, .double 0]) tyP C (by omega) (by omega) (by omega) (by omega) inP tyP_ok wCl_L_8 wIn_P wIni_P rfl df_P dL_law_0 ?_
  intro p
  have C1 : CT (kset K 1 7) bL_law RL (ty4 cI cD cZ cJ) 9 := C.set (by omega) (by omega)
  refine a_dup C1 dL_law_3 rfl ?_
  refine nI0 (S := [.ref p]) (w1 := []) (w2 := []) (c' := 23) (s' := 19726) C1 (c_P_init (kl K) (kD K) cI cD cZ cJ p) rfl wM_L_55 wI_P_init wIni_P wC_P_init hdn_P (by decide) (show 1 + 22 ≤ 23 by decide) (show 7 + 19719 ≤ 19726 by decide) (show 23 ≤ (kR K).cells by omega) (show 19726 ≤ (kR K).slots by omega) (Nat.le_of_ble_eq_true rfl) dL_law_4 ?_
  intro ad had
  subst had
  have C2 : CT (kset K 23 19726) bL_law RL (ty4 cI cD cZ cJ) 9 := C.set (by omega) (by omega)
  rw [List.append_nil]
  show WA (kset K 23 19726) (WS ad cI cD cZ X0) _ _ _
  refine astn_1 C2 dL_law_7 (show 1 < kn K by omega) rfl ?_
  refine a_newo (Cn := RM) (T := TM) (N := 29) (ci := 5) (c' := 24) (s' := 19755) (fs := [.null, .null, .null, .null, .null, .null, .null, .null, .null, .null, .null, .null, .null, .null, .null, .null, .null, .null, .null, .null, .int 0, .int 0, .int 0, .int 0, .int 0, .int 0, .int 0, .int 0, .double 0]) tyM C2 (show 23 + 1 ≤ 24 by decide) (show 19726 + 29 ≤ 19755 by decide) (show 24 ≤ (kR K).cells by omega) (show 19755 ≤ (kR K).slots by omega) inM tyM_ok wCl_L_56 wIn_M wIni_M rfl df_M dL_law_8 ?_
  intro p2
  have C3 : CT (kset K 24 19755) bL_law RL (ty4 cI cD cZ cJ) 9 := C.set (by omega) (by omega)
  show WA (kset K 24 19755) _ _ _ _
  refine a_dup C3 dL_law_11 rfl ?_
  refine nI0 (S := [.ref p2]) (w1 := WS ad cI cD cZ X0) (w2 := []) (c' := 44) (s' := 33089) C3 (c_M_init (kl K) (kD K) cI cD cZ cJ p2) rfl wM_L_58 wI_M_init wIni_M wC_M_init hdn_M (by decide) (show 24 + 20 ≤ 44 by decide) (show 19755 + 13334 ≤ 33089 by decide) (show 44 ≤ (kR K).cells by omega) (show 33089 ≤ (kR K).slots by omega) (Nat.le_of_ble_eq_true rfl) dL_law_12 ?_
  intro am ham
  subst ham
  have C4 : CT (kset K 44 33089) bL_law RL (ty4 cI cD cZ cJ) 9 := C.set (by omega) (by omega)
  rw [List.append_nil, NM_X0]
  show WA (kset K 44 33089) _ _ _ _
  refine astn_2 C4 dL_law_15 (show 2 < kn K by omega) rfl ?_
  refine a_iconst (v := 1) C4 dL_law_16 (by decide) ?_
  refine a_newa (atype := .long) (ty := .long) (n := 1) (c' := 45) (s' := 33090) (t0 := 3) (cT := cJ) (a0 := (1, .inr (.inl (fun _ => 0)))) C4 (show 44 + 1 ≤ 45 by decide) (show 33089 + 1 ≤ 33090 by decide) (show 45 ≤ (kR K).cells by omega) (show 33090 ≤ (kR K).slots by omega) wArr_long rfl rfl new_L (by decide) (by decide) dL_law_17 ?_
  intro oa
  have C5 : CT (kset K 45 33090) bL_law RL (ty4 cI cD cZ cJ) 9 := C.set (by omega) (by omega)
  show WA (kset K 45 33090) _ _ _ _
  refine astn_3 C5 dL_law_19 (show 3 < kn K by omega) rfl ?_
  refine a_iconst (v := 1) C5 dL_law_20 (by decide) ?_
  refine a_newa (atype := .double) (ty := .double) (n := 1) (c' := 46) (s' := 33091) (t0 := 1) (cT := cD) (a0 := (1, .inr (.inr (.inr (.inl (fun _ => 0)))))) C5 (show 45 + 1 ≤ 46 by decide) (show 33090 + 1 ≤ 33091 by decide) (show 46 ≤ (kR K).cells by omega) (show 33091 ≤ (kR K).slots by omega) wArr_double rfl rfl new_D (by decide) (by decide) dL_law_21 ?_
  intro od
  have C6 : CT (kset K 46 33091) bL_law RL (ty4 cI cD cZ cJ) 9 := C.set (by omega) (by omega)
  show WA (kset K 46 33091) _ _ _ _
  rw [List.append_assoc, List.append_assoc]
  refine ast_4 C6 dL_law_23 (show 4 < kn K by omega) rfl ?_
  refine a_iconst (v := 0) C6 dL_law_25 (by decide) ?_
  refine ist_5 C6 dL_law_26 (show 5 < kn K by omega) rfl ?_
  refine a_swap (u := WS ad cI cD cZ X0) (v := WM am cI cD cZ X0m) (w := WO oa od cJ cD (fun _ => 0, fun _ => 0)) ?_
  exact law_loop C X hX hL hr1 hr2 hkn hfin _ 0 (X0, fun _ => 0, fun _ => 0) X0m (Nat.lt_succ_self _) (Nat.zero_le _) j_0

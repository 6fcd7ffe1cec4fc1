/-! DIVISIONS of a span into n pieces: the list of the pieces' ends, in the order in which both programs step -/
def dv : Nat → Nat → Nat → List (List Nat)
  | 0, _, _ => []
  | n + 1, i, j => if n = 0 then (if i < j then [[j]] else []) else (List.range (j - i)).flatMap fun d => (dv n (i + 1 + d) j).map (List.cons (i + 1 + d))
/-- the next division: the last end that can move does, those behind follow at once -/
def nxk (n j : Nat) (e : Nat → Nat) : Nat → Option (Nat → Nat)
  | 0 => none
  | k + 1 => if e k + (n - 1 - k) < j then some (fun x => if x < k then e x else if x + 1 < n then e k + 1 + (x - k) else e x) else nxk n j e k
def nx (n j : Nat) (e : Nat → Nat) : Option (Nat → Nat) := nxk n j e (n - 1)
def lgd (l : List Nat) : Nat → Nat := fun k => l.getD k 0
def nxL (n j : Nat) (l : List Nat) : Option (List Nat) := (nx n j (lgd l)).map (fun e => (List.range n).map e)
def dvchk (n j : Nat) : List (List Nat) → Bool
  | [] => true
  | [l] => (nxL n j l).isNone
  | l :: l' :: r => (nxL n j l == some l') && dvchk n j (l' :: r)
/-- where the k-th piece begins -/
def bg (i : Nat) (l : List Nat) (k : Nat) : Nat := if k = 0 then i else lgd l (k - 1)
def dvok (n i j : Nat) (l : List Nat) : Bool := l.length == n && (List.range n).all (fun k => decide (bg i l k < lgd l k)) && (n == 0 || lgd l (n - 1) == j)
set_option maxRecDepth 100000 in
theorem dv_chk : ∀ n, n < 5 → ∀ j, j < 15 → ∀ i, i < 15 → dvchk n j (dv n i j) = true := by decide +kernel
set_option maxRecDepth 100000 in
theorem dv_ok0 : ∀ n, n < 5 → ∀ j, j < 15 → ∀ i, i < 15 → (dv n i j).all (dvok n i j) = true := by decide +kernel
set_option maxRecDepth 100000 in
theorem dv_len : ∀ n, n < 5 → ∀ j, j < 15 → ∀ i, i < 15 → (dv n i j).length ≤ 286 := by decide +kernel
def dvf (n i j : Nat) : Bool := if 1 ≤ n ∧ i + n ≤ j then (dv n i j)[0]? == some ((List.range n).map fun k => if k + 1 = n then j else i + k + 1) else true
set_option maxRecDepth 100000 in
theorem dv_first0 : ∀ n, n < 5 → ∀ j, j < 15 → ∀ i, i < 15 → dvf n i j = true := by decide +kernel
theorem dv_first {n i j : Nat} (hn : n < 5) (hj : j < 15) (hi : i < 15) (h1 : 1 ≤ n) (h2 : i + n ≤ j) : (dv n i j)[0]? = some ((List.range n).map fun k => if k + 1 = n then j else i + k + 1) := by
  have h := dv_first0 n hn j hj i hi
  unfold dvf at h
  rw [if_pos ⟨h1, h2⟩] at h
  exact eq_of_beq h
def dvn (n i j : Nat) : Bool := if i + n ≤ j then true else (dv n i j).isEmpty
set_option maxRecDepth 100000 in
theorem dv_none0 : ∀ n, n < 5 → ∀ j, j < 15 → ∀ i, i < 15 → dvn n i j = true := by decide +kernel
theorem dv_none {n i j : Nat} (hn : n < 5) (hj : j < 15) (hi : i < 15) (h : ¬ i + n ≤ j) : dv n i j = [] := by
  have h1 := dv_none0 n hn j hj i hi
  unfold dvn at h1
  rw [if_neg h] at h1
  exact List.isEmpty_iff.mp h1
theorem dvchk_get {n j : Nat} : ∀ {L : List (List Nat)}, dvchk n j L = true → ∀ {t : Nat} {l : List Nat}, L[t]? = some l → nxL n j l = L[t + 1]?
  | [], _, t, l, h => by simp at h
  | [a], hc, 0, l, h => by
    simp at h
    subst h
    simp [dvchk] at hc
    simp [hc]
  | [a], hc, t + 1, l, h => by simp at h
  | a :: b :: r, hc, 0, l, h => by
    simp at h
    subst h
    simp [dvchk] at hc
    simp [hc.1]
  | a :: b :: r, hc, t + 1, l, h => by
    simp [dvchk] at hc
    have := dvchk_get (L := b :: r) hc.2 (t := t) (l := l) (by simpa using h)
    simpa using this
theorem dv_next {n i j t : Nat} {l : List Nat} (hn : n < 5) (hj : j < 15) (hi : i < 15) (h : (dv n i j)[t]? = some l) : nxL n j l = (dv n i j)[t + 1]? := dvchk_get (dv_chk n hn j hj i hi) h
theorem dv_ok {n i j t : Nat} {l : List Nat} (hn : n < 5) (hj : j < 15) (hi : i < 15) (h : (dv n i j)[t]? = some l) : l.length = n ∧ (∀ k, k < n → bg i l k < lgd l k) ∧ (1 ≤ n → lgd l (n - 1) = j) := by
  have h1 := List.all_eq_true.mp (dv_ok0 n hn j hj i hi) l (List.mem_of_getElem? h)
  unfold dvok at h1
  simp only [Bool.and_eq_true, beq_iff_eq, List.all_eq_true, List.mem_range, decide_eq_true_eq, Bool.or_eq_true] at h1
  refine ⟨h1.1.1, h1.1.2, fun h2 => ?_⟩
  rcases h1.2 with h3 | h3
  · omega
  · exact h3
theorem dv_mono {n i j t : Nat} {l : List Nat} (hn : n < 5) (hj : j < 15) (hi : i < 15) (h : (dv n i j)[t]? = some l) : ∀ k, k < n → i + k < lgd l k ∧ lgd l k + (n - 1 - k) ≤ j := by
  obtain ⟨h1, h2, h3⟩ := dv_ok hn hj hi h
  have up : ∀ k, k < n → i + k < lgd l k := by
    intro k
    induction k with
    | zero => intro hk; have := h2 0 hk; simpa [bg] using this
    | succ k ih =>
      intro hk
      have a := ih (by omega)
      have b := h2 (k + 1) hk
      simp only [bg, Nat.add_sub_cancel] at b
      rw [if_neg (by omega)] at b
      omega
  have dn : ∀ d k, k + d + 1 = n → lgd l k + d ≤ j := by
    intro d
    induction d with
    | zero =>
      intro k hk
      have := h3 (by omega)
      rw [show n - 1 = k by omega] at this
      omega
    | succ d ih =>
      intro k hk
      have a := ih (k + 1) (by omega)
      have b := h2 (k + 1) (by omega)
      simp only [bg, Nat.add_sub_cancel] at b
      rw [if_neg (by omega)] at b
      omega
  intro k hk
  exact ⟨up k hk, by have := dn (n - 1 - k) k (by omega); omega⟩

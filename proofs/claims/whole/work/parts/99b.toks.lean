/-! TEXT: the tokens of a tape -/
def sgB (tb : Nat → Nat) (tl p : Nat) : Bool := decide (p < tl) && (decide (tb p = 32) || decide (tb p = 10))
def skp (tb : Nat → Nat) (tl p : Nat) : Nat := spn (sgB tb tl) 300 p
def sgE (tb : Nat → Nat) (tl p : Nat) : Bool := decide (p + 1 < tl) && decide (tb (p + 1) = 61)
/-- a number's value as the reference gathers it -/
def nuG (tb : Nat → Nat) (q : Nat → Bool) : Nat → Nat → Nat → Nat
  | 0, _, r => r
  | k + 1, p, r => if q p = true then nuG tb q k (p + 1) (if 99999 < r then r else 10 * r + tb p - 48) else r
/-- a word as the reference gathers it -/
def wdG (tb : Nat → Nat) (q : Nat → Bool) : Nat → Nat → Nat → Nat
  | 0, _, w => w
  | k + 1, p, w => if q p = true then wdG tb q k (p + 1) (if w / 2 ^ 48 = 0 then w * 256 + tb p else 2 ^ 60) else w
def nuA (tb : Nat → Nat) (tl p : Nat) : Nat := nuG tb (sgD tb tl) 300 p 0
def wdA (tb : Nat → Nat) (tl p : Nat) : Nat := wdG tb (sgL tb tl) 300 p 0
def sgk (tb : Nat → Nat) (tl p : Nat) : Nat := if sgE tb tl p = true ∧ tb p = 60 then 39 else if sgE tb tl p = true ∧ tb p = 62 then 40 else sgi (tb p)
def kdA (tb : Nat → Nat) (tl p : Nat) : Nat := if p < tl then (if isL (tb p) = true then wkGo tb p (spn (sgL tb tl) 300 p) wds 0 p true else if isD (tb p) = true then 41 else sgk tb tl p) else 43
def vlA (tb : Nat → Nat) (tl p : Nat) : Nat := if sgD tb tl p = true then min (nuA tb tl p) 10000 else 0
def nxA (tb : Nat → Nat) (tl p : Nat) : Nat := if p < tl then (if isL (tb p) = true then spn (sgL tb tl) 300 p else if isD (tb p) = true then spn (sgD tb tl) 300 p else if sgE tb tl p = true ∧ (tb p = 60 ∨ tb p = 62) then p + 2 else p + 1) else p
def psT (tb : Nat → Nat) (tl : Nat) : Nat → Nat
  | 0 => 0
  | k + 1 => nxA tb tl (skp tb tl (psT tb tl k))
def plT (tb : Nat → Nat) (tl k : Nat) : Nat := skp tb tl (psT tb tl k)
def kdT (tb : Nat → Nat) (tl k : Nat) : Nat := kdA tb tl (plT tb tl k)
def vlT (tb : Nat → Nat) (tl k : Nat) : Nat := vlA tb tl (plT tb tl k)
section TOK
variable {tb : Nat → Nat} {tl : Nat}
theorem sgB_lt {p : Nat} (h : sgB tb tl p = true) : p < tl := by unfold sgB at h; rw [Bool.and_eq_true, decide_eq_true_eq] at h; exact h.1
theorem sgL_lt {p : Nat} (h : sgL tb tl p = true) : p < tl := by unfold sgL at h; rw [Bool.and_eq_true, decide_eq_true_eq] at h; exact h.1
theorem sgD_lt {p : Nat} (h : sgD tb tl p = true) : p < tl := by unfold sgD at h; rw [Bool.and_eq_true, decide_eq_true_eq] at h; exact h.1
theorem spn_go {q : Nat → Bool} {t : Nat} (hq : ∀ j, q j = true → j < t) : ∀ k p, t ≤ p + k → q p = true → spn q k p = spn q k (p + 1) := by
  have key : ∀ k p, t ≤ p + k → spn q (k + 1) p = spn q k p := by
    intro k
    induction k with
    | zero =>
      intro p h
      have : ¬ q p = true := fun z => by have := hq p z; omega
      show (if q p = true then spn q 0 (p + 1) else p) = p
      rw [if_neg this]
    | succ k ih =>
      intro p h
      show (if q p = true then spn q (k + 1) (p + 1) else p) = (if q p = true then spn q k (p + 1) else p)
      rw [ih (p + 1) (by omega)]
  intro k p h e
  rw [← key k p h, spn, if_pos e]
theorem spn_no {q : Nat → Bool} {k p : Nat} (h : q p = false) : spn q k p = p := by
  cases k with
  | zero => rfl
  | succ k => rw [spn, h, if_neg (by decide)]
theorem skp_go {p : Nat} (h3 : tl ≤ 300) (h : sgB tb tl p = true) : skp tb tl p = skp tb tl (p + 1) := spn_go (t := tl) (fun _ z => sgB_lt z) 300 p (by omega) h
theorem skp_no {p : Nat} (h : sgB tb tl p = false) : skp tb tl p = p := spn_no h
theorem skp_ge (p : Nat) : p ≤ skp tb tl p := spn_ge 300 p
theorem skp_le {p : Nat} (h : p ≤ tl) : skp tb tl p ≤ tl := spn_lt (t := tl) (fun _ z => sgB_lt z) 300 p h
theorem skp_stop (h3 : tl ≤ 300) (p : Nat) : sgB tb tl (skp tb tl p) = false := spn_stop (t := tl) (fun _ z => sgB_lt z) 300 p (by omega)
theorem sgB_tl : sgB tb tl tl = false := by unfold sgB; rw [decide_eq_false (by omega)]; rfl
theorem nxA_le {p : Nat} (h : p ≤ tl) : nxA tb tl p ≤ tl := by
  unfold nxA
  by_cases e : p < tl
  · rw [if_pos e]
    by_cases e1 : isL (tb p) = true
    · rw [if_pos e1]; exact spn_lt (t := tl) (fun _ z => sgL_lt z) 300 p h
    · rw [if_neg e1]
      by_cases e2 : isD (tb p) = true
      · rw [if_pos e2]; exact spn_lt (t := tl) (fun _ z => sgD_lt z) 300 p h
      · rw [if_neg e2]
        by_cases e3 : sgE tb tl p = true ∧ (tb p = 60 ∨ tb p = 62)
        · rw [if_pos e3]
          have := e3.1
          unfold sgE at this
          rw [Bool.and_eq_true, decide_eq_true_eq] at this
          omega
        · rw [if_neg e3]; omega
  · rw [if_neg e]; exact h
theorem nxA_gt {p : Nat} (h : p < tl) : p < nxA tb tl p := by
  unfold nxA
  rw [if_pos h]
  by_cases e1 : isL (tb p) = true
  · rw [if_pos e1, show (300 : Nat) = 299 + 1 from rfl, spn, if_pos (by unfold sgL; rw [decide_eq_true h, e1]; rfl)]
    exact spn_ge 299 (p + 1)
  · rw [if_neg e1]
    by_cases e2 : isD (tb p) = true
    · rw [if_pos e2, show (300 : Nat) = 299 + 1 from rfl, spn, if_pos (by unfold sgD; rw [decide_eq_true h, e2]; rfl)]
      exact spn_ge 299 (p + 1)
    · rw [if_neg e2]
      split <;> omega
theorem psT_le : ∀ k, psT tb tl k ≤ tl := by
  intro k
  induction k with
  | zero => exact Nat.zero_le _
  | succ k ih => rw [psT]; exact nxA_le (skp_le ih)
theorem plT_le (k : Nat) : plT tb tl k ≤ tl := skp_le (psT_le k)
theorem plT_end {n : Nat} (h : plT tb tl n = tl) : ∀ j, n ≤ j → plT tb tl j = tl := by
  intro j hj
  obtain ⟨k, rfl⟩ : ∃ k, j = n + k := ⟨j - n, by omega⟩
  clear hj
  induction k with
  | zero => exact h
  | succ k ih =>
    show skp tb tl (psT tb tl (n + k + 1)) = tl
    rw [psT]
    have e : skp tb tl (psT tb tl (n + k)) = tl := ih
    rw [e]
    have : nxA tb tl tl = tl := by unfold nxA; rw [if_neg (by omega)]
    rw [this]
    exact skp_no sgB_tl
theorem psT_ge : ∀ k, plT tb tl k < tl → k ≤ plT tb tl k := by
  intro k
  induction k with
  | zero => intro _; exact Nat.zero_le _
  | succ k ih =>
    intro h
    by_cases e : plT tb tl k < tl
    · have h1 := ih e
      have h2 := nxA_gt (tb := tb) e
      have h3 : psT tb tl (k + 1) = nxA tb tl (plT tb tl k) := by rw [psT]; rfl
      have h4 := skp_ge (tb := tb) (tl := tl) (psT tb tl (k + 1))
      show k + 1 ≤ skp tb tl (psT tb tl (k + 1))
      omega
    · have h1 := plT_le (tb := tb) (tl := tl) k
      have := plT_end (tb := tb) (tl := tl) (n := k) (by omega) (k + 1) (by omega)
      omega
theorem kdA_tl : kdA tb tl tl = 43 := by unfold kdA; rw [if_neg (by omega)]
theorem vlA_tl : vlA tb tl tl = 0 := by unfold vlA sgD; rw [decide_eq_false (by omega), Bool.false_and, if_neg (by decide)]
theorem kdT_end {k : Nat} (h : plT tb tl k = tl) : kdT tb tl k = 43 := by unfold kdT; rw [h, kdA_tl]
theorem vlT_end {k : Nat} (h : plT tb tl k = tl) : vlT tb tl k = 0 := by unfold vlT; rw [h, vlA_tl]
theorem isLD {x : Nat} (h : isL x = true) : isD x = false := by
  unfold isL at h
  unfold isD
  rw [Bool.or_eq_true, Bool.and_eq_true, Bool.and_eq_true, decide_eq_true_eq, decide_eq_true_eq, decide_eq_true_eq, decide_eq_true_eq] at h
  rw [Bool.and_eq_false_iff, decide_eq_false_iff_not, decide_eq_false_iff_not]
  omega
theorem isLB {x : Nat} (h : isL x = true) : 65 ≤ x ∧ x ≤ 122 := by
  unfold isL at h
  rw [Bool.or_eq_true, Bool.and_eq_true, Bool.and_eq_true, decide_eq_true_eq, decide_eq_true_eq, decide_eq_true_eq, decide_eq_true_eq] at h
  omega
theorem isDB {x : Nat} (h : isD x = true) : 48 ≤ x ∧ x ≤ 57 := by
  unfold isD at h
  rw [Bool.and_eq_true, decide_eq_true_eq, decide_eq_true_eq] at h
  exact h
theorem nuG_le {q : Nat → Bool} (hq : ∀ p, q p = true → tb p ≤ 57) : ∀ k p r, r ≤ 1000000 → nuG tb q k p r ≤ 1000000 := by
  intro k
  induction k with
  | zero => intro p r h; exact h
  | succ k ih =>
    intro p r h
    rw [nuG]
    cases e : q p
    · rw [if_neg (by decide)]; exact h
    · rw [if_pos rfl]
      refine ih _ _ ?_
      have := hq p e
      split <;> omega
theorem kdT_num {k : Nat} (h : kdT tb tl k ≠ 41) : vlT tb tl k = 0 := by
  unfold vlT vlA
  rw [if_neg]
  intro z
  apply h
  have h1 := sgD_lt z
  unfold sgD at z
  rw [Bool.and_eq_true] at z
  have h2 : ¬ isL (tb (plT tb tl k)) = true := fun y => by have := isLD y; rw [z.2] at this; cases this
  unfold kdT kdA
  rw [if_pos h1, if_neg h2, if_pos z.2]
theorem vlT_le (k : Nat) : vlT tb tl k ≤ 10000 := by
  unfold vlT vlA
  split
  · omega
  · omega
end TOK

/-! TEXT: spans of signs, words and their packing -/
/-- where a span from p ends, in at most k steps -/
def spn (q : Nat → Bool) : Nat → Nat → Nat
  | 0, p => p
  | k + 1, p => if q p = true then spn q k (p + 1) else p
theorem spn_ge {q : Nat → Bool} : ∀ k p, p ≤ spn q k p := by
  intro k
  induction k with
  | zero => intro p; exact Nat.le_refl _
  | succ k ih =>
    intro p
    rw [spn]
    split
    · have := ih (p + 1); omega
    · exact Nat.le_refl _
theorem spn_all {q : Nat → Bool} : ∀ k p j, p ≤ j → j < spn q k p → q j = true := by
  intro k
  induction k with
  | zero => intro p j h1 h2; rw [spn] at h2; omega
  | succ k ih =>
    intro p j h1 h2
    rw [spn] at h2
    cases e : q p
    · rw [e, if_neg (by decide)] at h2; omega
    · rw [e, if_pos rfl] at h2
      by_cases ej : j = p
      · rw [ej]; exact e
      · exact ih (p + 1) j (by omega) h2
theorem spn_stop {q : Nat → Bool} {t : Nat} (hq : ∀ j, q j = true → j < t) : ∀ k p, t ≤ p + k → q (spn q k p) = false := by
  intro k
  induction k with
  | zero =>
    intro p h
    rw [spn, Bool.eq_false_iff]
    intro z
    have := hq p z
    omega
  | succ k ih =>
    intro p h
    rw [spn]
    cases e : q p
    · rw [if_neg (by decide)]; exact e
    · rw [if_pos rfl]; exact ih (p + 1) (by omega)
theorem spn_lt {q : Nat → Bool} {t : Nat} (hq : ∀ j, q j = true → j < t) : ∀ k p, p ≤ t → spn q k p ≤ t := by
  intro k
  induction k with
  | zero => intro p h; exact h
  | succ k ih =>
    intro p h
    rw [spn]
    cases e : q p
    · rw [if_neg (by decide)]; exact h
    · rw [if_pos rfl]; exact ih (p + 1) (by have := hq p e; omega)
/-- signs packed, the last first -/
def pkR : List Nat → Nat
  | [] => 0
  | b :: bs => b + 256 * pkR bs
theorem pkR_inj : ∀ a b : List Nat, (∀ x, x ∈ a → 0 < x ∧ x < 256) → (∀ x, x ∈ b → 0 < x ∧ x < 256) → pkR a = pkR b → a = b := by
  intro a
  induction a with
  | nil =>
    intro b _ hb h
    cases b with
    | nil => rfl
    | cons y ys =>
      have := hb y (List.mem_cons_self ..)
      rw [pkR, pkR] at h
      omega
  | cons x xs ih =>
    intro b ha hb h
    cases b with
    | nil =>
      have := ha x (List.mem_cons_self ..)
      rw [pkR, pkR] at h
      omega
    | cons y ys =>
      have h1 := ha x (List.mem_cons_self ..)
      have h2 := hb y (List.mem_cons_self ..)
      rw [pkR, pkR] at h
      have e1 : x = y := by omega
      have e2 : pkR xs = pkR ys := by omega
      rw [e1, ih ys (fun z hz => ha z (List.mem_cons_of_mem _ hz)) (fun z hz => hb z (List.mem_cons_of_mem _ hz)) e2]

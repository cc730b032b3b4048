/-! HOURS: as the class passes them -/
def flK (Rs : Nat → Nat) (u p : Nat) : Nat → Nat
  | 0 => 2 ^ p
  | j + 1 => if (u.testBit (p + 1 + j) && !decide (Rs (p + 1 + j) &&& flK Rs u p j = 0)) = true then flK Rs u p j ||| 2 ^ (p + 1 + j) else flK Rs u p j
/-- which fall with one -/
def flF (n : Nat) (Rs : Nat → Nat) (u p : Nat) : Nat := flK Rs u p (n - (p + 1))
def wrK (m : Mo) (F p : Nat) : Nat → Mo
  | 0 => m
  | j + 1 => if F.testBit (p + j) = true then wr (wrK m F p j) (p + j) 2 else wrK m F p j
def fallM (n : Nat) (Rs : Nat → Nat) (m : Mo) (p : Nat) : Mo := wrK (mUpS m (mns (mUp m) (flF n Rs (mUp m) p))) (flF n Rs (mUp m) p) p (n - p)
def psK (g : Option (Env → Int)) (n : Nat) (W Rs : Nat → Nat) (m : Mo) : Nat → Mo × Nat
  | 0 => (mWdS (mXxS m (trn (mXx m))) (mXx m % 10), 0)
  | p + 1 => if (mUp (psK g n W Rs m p).1).testBit p = true then (if mXx (psK g n W Rs m p).1 % 10 < fal g n W Rs (psK g n W Rs m p).1 p then (fallM n Rs (mXxS (psK g n W Rs m p).1 (trn (mXx (psK g n W Rs m p).1))) p, (psK g n W Rs m p).2 + pc (flF n Rs (mUp (psK g n W Rs m p).1) p)) else (mXxS (psK g n W Rs m p).1 (trn (mXx (psK g n W Rs m p).1)), (psK g n W Rs m p).2)) else psK g n W Rs m p
def pasM (g : Option (Env → Int)) (n : Nat) (W Rs : Nat → Nat) (m : Mo) : Mo := mHrS (psK g n W Rs m n).1 (mHr m + 1)
def pasN (g : Option (Env → Int)) (n : Nat) (W Rs : Nat → Nat) (m : Mo) : Nat := (psK g n W Rs m n).2
theorem trn_lt (x : Nat) : trn x < 30829 := Nat.mod_lt _ (by decide)
section PH
variable {n : Nat} {W Rs : Nat → Nat} {m : Mo}
theorem flK_bit {u p i : Nat} : ∀ j, (flK Rs u p j).testBit i = true → i = p ∨ (u.testBit i = true ∧ p < i ∧ i < p + 1 + j) := by
  intro j
  induction j with
  | zero => intro h; rw [flK, Nat.testBit_two_pow, decide_eq_true_eq] at h; exact Or.inl h.symm
  | succ j ih =>
    intro h
    rw [flK] at h
    split at h
    · rename_i hc
      rw [Bool.and_eq_true] at hc
      rw [Nat.testBit_or, Bool.or_eq_true, Nat.testBit_two_pow, decide_eq_true_eq] at h
      rcases h with h | h
      · rcases ih h with h | ⟨a, b, c⟩
        · exact Or.inl h
        · exact Or.inr ⟨a, b, by omega⟩
      · rw [← h]; exact Or.inr ⟨hc.1, by omega, by omega⟩
    · rcases ih h with h | ⟨a, b, c⟩
      · exact Or.inl h
      · exact Or.inr ⟨a, b, by omega⟩
theorem flK_8 {u p j : Nat} (hj : p + 1 + j ≤ 8) : flK Rs u p j < 256 := by
  apply lt_bits (n := 8)
  intro i hi
  rw [Bool.eq_false_iff]
  intro z
  rcases flK_bit j z with z | ⟨_, _, z⟩ <;> omega
theorem flK_p {u p : Nat} : ∀ j, (flK Rs u p j).testBit p = true := by
  intro j
  induction j with
  | zero => exact Nat.testBit_two_pow_self
  | succ j ih => rw [flK]; split; rw [Nat.testBit_or, ih]; rfl; exact ih
theorem OkM.upS {u : Nat} (h : OkM n m) (hs : sub u (mUp m)) : OkM n (mUpS m u) := by
  refine ⟨?_, h.2.1, fun i z => h.2.2.1 i ⟨hs i z.1, z.2⟩, h.2.2.2⟩
  apply lt_bits
  intro i hi
  rw [Bool.eq_false_iff]
  intro z
  have := hs i z
  rw [bit_big h.1 hi] at this
  cases this
end PH

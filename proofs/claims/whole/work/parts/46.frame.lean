/-! FRAME: what rests on what -/
def duK (Rs : Nat → Nat) (s : Nat) : Nat → Nat
  | 0 => 0
  | p + 1 => duK Rs s p ||| (if s.testBit p = true then Rs p else 0)
theorem duK_bit {Rs : Nat → Nat} {s i : Nat} : ∀ {k}, (duK Rs s k).testBit i = true ↔ ∃ p, p < k ∧ s.testBit p = true ∧ (Rs p).testBit i = true := by
  intro k
  induction k with
  | zero =>
    constructor
    · intro h; rw [duK, Nat.zero_testBit] at h; cases h
    · intro ⟨p, h, _⟩; omega
  | succ k ih =>
    rw [duK, Nat.testBit_or, Bool.or_eq_true, ih]
    constructor
    · intro h
      rcases h with ⟨p, h1, h2⟩ | h
      · exact ⟨p, by omega, h2⟩
      · cases e : s.testBit k
        · rw [e, f_ite, Nat.zero_testBit] at h; cases h
        · rw [e, t_ite] at h; exact ⟨k, by omega, e, h⟩
    · intro ⟨p, h1, h2, h3⟩
      by_cases e : p = k
      · subst e; right; rw [h2, t_ite]; exact h3
      · exact Or.inl ⟨p, by omega, h2, h3⟩
section FR
variable {n : Nat} {W Rs : Nat → Nat}
theorem rs_low (h : OkP n W Rs) {p i : Nat} (hp : p < n) (hi : (Rs p).testBit i = true) : i < p := by
  apply Classical.byContradiction
  intro z
  rw [bit_big (h.2 p hp).2.2 (by omega)] at hi
  cases hi
theorem duK_8 (h : OkP n W Rs) {s k : Nat} (hk : k ≤ n) : duK Rs s k < 256 := by
  have := h.1
  apply lt_bits (n := 8)
  intro i hi
  rw [Bool.eq_false_iff]
  intro z
  obtain ⟨p, h1, _, h3⟩ := duK_bit.mp z
  have := rs_low h (by omega) h3
  omega
/-- all under one, as the reference finds it -/
def unK (Rs : Nat → Nat) (p : Nat) : Nat → Nat
  | 0 => Rs p
  | j + 1 => unK Rs p j ||| (if (unK Rs p j).testBit (p - 1 - j) = true then Rs (p - 1 - j) else 0)
def und (Rs : Nat → Nat) (p : Nat) : Nat := unK Rs p p
theorem unK_low (h : OkP n W Rs) {p i : Nat} (hp : p < n) : ∀ j, j ≤ p → (unK Rs p j).testBit i = true → i < p := by
  intro j
  induction j with
  | zero => intro _ hi; exact rs_low h hp hi
  | succ j ih =>
    intro hj hi
    rw [unK, Nat.testBit_or, Bool.or_eq_true] at hi
    rcases hi with hi | hi
    · exact ih (by omega) hi
    · split at hi
      · have := rs_low h (show p - 1 - j < n by omega) hi; omega
      · rw [Nat.zero_testBit] at hi; cases hi
theorem unK_8 (h : OkP n W Rs) {p j : Nat} (hp : p < n) (hj : j ≤ p) : unK Rs p j < 256 := by
  have := h.1
  apply lt_bits (n := 8)
  intro i hi
  rw [Bool.eq_false_iff]
  intro z
  have := unK_low h hp j hj z
  omega
theorem unK_closed (h : OkP n W Rs) {p : Nat} (hp : p < n) : ∀ j, j ≤ p → ∀ q i, p - j ≤ q → (unK Rs p j).testBit q = true → (Rs q).testBit i = true → (unK Rs p j).testBit i = true := by
  intro j
  induction j with
  | zero =>
    intro _ q i hq h1 _
    have := rs_low h hp h1
    omega
  | succ j ih =>
    intro hj q i hq h1 h2
    rw [unK, Nat.testBit_or, Bool.or_eq_true] at h1 ⊢
    have hk : p - 1 - j < n := by omega
    have h1' : (unK Rs p j).testBit q = true := by
      rcases h1 with h1 | h1
      · exact h1
      · split at h1
        · have := rs_low h hk h1; omega
        · rw [Nat.zero_testBit] at h1; cases h1
    by_cases e : q = p - 1 - j
    · right
      rw [e] at h1' h2
      rw [if_pos h1']
      exact h2
    · exact Or.inl (ih (by omega) q i (by omega) h1' h2)
theorem unK_least {p C : Nat} (h0 : sub (Rs p) C) (hc : ∀ q i, q < p → C.testBit q = true → (Rs q).testBit i = true → C.testBit i = true) : ∀ j, j ≤ p → sub (unK Rs p j) C := by
  intro j
  induction j with
  | zero => intro _; exact h0
  | succ j ih =>
    intro hj i hi
    rw [unK, Nat.testBit_or, Bool.or_eq_true] at hi
    rcases hi with hi | hi
    · exact ih (by omega) i hi
    · split at hi
      · rename_i hb
        exact hc _ i (by omega) (ih (by omega) _ hb) hi
      · rw [Nat.zero_testBit] at hi; cases hi
theorem und_closed (h : OkP n W Rs) {p q i : Nat} (hp : p < n) (h1 : (und Rs p).testBit q = true) (h2 : (Rs q).testBit i = true) : (und Rs p).testBit i = true := unK_closed h hp p (Nat.le_refl _) q i (by omega) h1 h2
theorem unK_up {p i : Nat} (hi : (Rs p).testBit i = true) : ∀ j, (unK Rs p j).testBit i = true := by
  intro j
  induction j with
  | zero => exact hi
  | succ j ih => rw [unK, Nat.testBit_or, ih]; rfl
theorem und_low (h : OkP n W Rs) {p i : Nat} (hp : p < n) (hi : (und Rs p).testBit i = true) : i < p := unK_low h hp p (Nat.le_refl _) hi
theorem und_8 (h : OkP n W Rs) {p : Nat} (hp : p < n) : und Rs p < 256 := unK_8 h hp (Nat.le_refl _)
theorem und_rec (h : OkP n W Rs) {p i : Nat} (hp : p < n) : (und Rs p).testBit i = true ↔ (Rs p).testBit i = true ∨ ∃ q, (Rs p).testBit q = true ∧ (und Rs q).testBit i = true := by
  constructor
  · intro hi
    have key : sub (und Rs p) (Rs p ||| bsum p (fun j => exb (fun q => (Rs p).testBit q && (und Rs q).testBit j) p)) := by
      refine unK_least ?_ ?_ p (Nat.le_refl _)
      · intro j hj; rw [Nat.testBit_or, hj]; rfl
      · intro q j hq h1 h2
        rw [Nat.testBit_or, Bool.or_eq_true, bsum_bit, Bool.and_eq_true, decide_eq_true_eq, exb_iff] at h1 ⊢
        right
        rcases h1 with h1 | ⟨_, r, hr, h1⟩
        · have hj := rs_low h (show q < n by omega) h2
          exact ⟨by omega, q, hq, by rw [h1, Bool.true_and]; exact unK_up h2 q⟩
        · rw [Bool.and_eq_true] at h1
          have hj := rs_low h (show q < n by omega) h2
          refine ⟨by omega, r, hr, ?_⟩
          rw [h1.1, Bool.true_and]
          exact und_closed h (by omega) h1.2 h2
    have := key i hi
    rw [Nat.testBit_or, Bool.or_eq_true, bsum_bit, Bool.and_eq_true, decide_eq_true_eq, exb_iff] at this
    rcases this with h1 | ⟨_, q, hq, h1⟩
    · exact Or.inl h1
    · rw [Bool.and_eq_true] at h1
      exact Or.inr ⟨q, h1⟩
  · intro hi
    rcases hi with hi | ⟨q, h1, h2⟩
    · exact unK_up hi p
    · have hq := rs_low h hp h1
      have key : sub (und Rs q) (und Rs p) := by
        refine unK_least ?_ ?_ q (Nat.le_refl _)
        · intro j hj; exact und_closed h hp (unK_up h1 p) hj
        · intro r j _ h3 h4; exact und_closed h hp h3 h4
      exact key i h2
/-- layers -/
def lyr (Rs : Nat → Nat) (n s : Nat) : Nat → Nat
  | 0 => s
  | k + 1 => duK Rs (lyr Rs n s k) n
theorem lyr_bit {s i : Nat} : ∀ {k}, (lyr Rs n s k).testBit i = true ↔ ∃ q, s.testBit q = true ∧ (lyr Rs n (2 ^ q) k).testBit i = true := by
  intro k
  induction k generalizing i with
  | zero =>
    constructor
    · intro h; exact ⟨i, h, Nat.testBit_two_pow_self⟩
    · intro ⟨q, h1, h2⟩
      rw [lyr, Nat.testBit_two_pow, decide_eq_true_eq] at h2
      rw [← h2]; exact h1
  | succ k ih =>
    rw [lyr, duK_bit]
    constructor
    · intro ⟨p, h1, h2, h3⟩
      obtain ⟨q, h4, h5⟩ := ih.mp h2
      exact ⟨q, h4, by rw [lyr, duK_bit]; exact ⟨p, h1, h5, h3⟩⟩
    · intro ⟨q, h1, h2⟩
      rw [lyr, duK_bit] at h2
      obtain ⟨p, h3, h4, h5⟩ := h2
      exact ⟨p, h3, ih.mpr ⟨q, h1, h4⟩, h5⟩
theorem duK_one {p : Nat} (hp : p < n) : duK Rs (2 ^ p) n = Rs p := by
  apply eq_bits
  intro i
  rw [Bool.eq_iff_iff, duK_bit]
  constructor
  · intro ⟨q, _, h1, h2⟩
    rw [Nat.testBit_two_pow, decide_eq_true_eq] at h1
    rw [h1]; exact h2
  · intro h; exact ⟨p, hp, Nat.testBit_two_pow_self, h⟩
theorem lyr_s {p : Nat} (hp : p < n) : ∀ k, lyr Rs n (2 ^ p) (k + 1) = lyr Rs n (Rs p) k := by
  intro k
  induction k with
  | zero => exact duK_one hp
  | succ k ih => rw [lyr, ih]; rfl
theorem lyr_low (h : OkP n W Rs) {p i : Nat} : ∀ {k}, (lyr Rs n (2 ^ p) k).testBit i = true → i + k ≤ p := by
  intro k
  induction k generalizing i with
  | zero =>
    intro hi
    rw [lyr, Nat.testBit_two_pow, decide_eq_true_eq] at hi
    omega
  | succ k ih =>
    intro hi
    rw [lyr, duK_bit] at hi
    obtain ⟨q, h1, h2, h3⟩ := hi
    have := ih h2
    have := rs_low h h1 h3
    omega
theorem lyr_8 (h : OkP n W Rs) {p k : Nat} (hp : p < n) : lyr Rs n (2 ^ p) k < 256 := by
  have := h.1
  apply lt_bits (n := 8)
  intro i hi
  rw [Bool.eq_false_iff]
  intro z
  have := lyr_low h z
  omega
theorem lyr_end (h : OkP n W Rs) {p k : Nat} (hk : p < k) : lyr Rs n (2 ^ p) k = 0 := by
  rw [eq0_bits]
  intro i
  rw [Bool.eq_false_iff]
  intro z
  have := lyr_low h z
  omega
/-- what the first k layers hold -/
def fou (Rs : Nat → Nat) (n p : Nat) : Nat → Nat
  | 0 => 0
  | k + 1 => fou Rs n p k ||| lyr Rs n (2 ^ p) (k + 1)
theorem fou_bit {p i : Nat} : ∀ {k}, (fou Rs n p k).testBit i = true ↔ ∃ j, 1 ≤ j ∧ j ≤ k ∧ (lyr Rs n (2 ^ p) j).testBit i = true := by
  intro k
  induction k with
  | zero =>
    constructor
    · intro h; rw [fou, Nat.zero_testBit] at h; cases h
    · intro ⟨p, h, _⟩; omega
  | succ k ih =>
    rw [fou, Nat.testBit_or, Bool.or_eq_true, ih]
    constructor
    · intro h
      rcases h with ⟨j, h1, h2, h3⟩ | h
      · exact ⟨j, h1, by omega, h3⟩
      · exact ⟨k + 1, by omega, by omega, h⟩
    · intro ⟨j, h1, h2, h3⟩
      by_cases e : j = k + 1
      · rw [e] at h3; exact Or.inr h3
      · exact Or.inl ⟨j, h1, by omega, h3⟩
theorem fou_8 (h : OkP n W Rs) {p k : Nat} (hp : p < n) : fou Rs n p k < 256 := by
  induction k with
  | zero => exact (by decide : (0 : Nat) < 256)
  | succ k ih => rw [fou]; exact or_8 ih (lyr_8 h hp)
theorem fou_und (h : OkP n W Rs) {p : Nat} (hp : p < n) : fou Rs n p 8 = und Rs p := by
  have h8 := h.1
  apply sub_antisymm
  · intro i hi
    obtain ⟨j, h1, h2, h3⟩ := fou_bit.mp hi
    clear h2
    induction j generalizing i with
    | zero => omega
    | succ j ih =>
      by_cases e : j = 0
      · subst e
        rw [lyr, lyr, duK_one hp] at h3
        exact unK_up h3 p
      · rw [lyr, duK_bit] at h3
        obtain ⟨q, h4, h5, h6⟩ := h3
        have hq : (fou Rs n p j).testBit q = true := fou_bit.mpr ⟨j, by omega, by omega, h5⟩
        have hj8 : j ≤ 8 := by have := lyr_low h h5; omega
        exact und_closed h hp (ih q (fou_bit.mpr ⟨j, by omega, hj8, h5⟩) (by omega) h5) h6
  · refine unK_least ?_ ?_ p (Nat.le_refl _)
    · intro i hi
      exact fou_bit.mpr ⟨1, by omega, by omega, by rw [lyr, lyr, duK_one hp]; exact hi⟩
    · intro q i hq h1 h2
      obtain ⟨j, h3, h4, h5⟩ := fou_bit.mp h1
      have hl := lyr_low h h5
      exact fou_bit.mpr ⟨j + 1, by omega, by omega, by rw [lyr, duK_bit]; exact ⟨q, by omega, h5, h2⟩⟩
/-! heights -/
def hm (s : Nat) (f : Nat → Nat) : Nat → Nat
  | 0 => 0
  | j + 1 => if s.testBit j = true ∧ hm s f j < f j + 1 then f j + 1 else hm s f j
def hT (Rs : Nat → Nat) : Nat → Nat → Nat
  | 0 => fun _ => 0
  | p + 1 => fun q => if q = p then hm (Rs p) (hT Rs p) p else hT Rs p q
def hh (Rs : Nat → Nat) (q : Nat) : Nat := hT Rs (q + 1) q
theorem hT_in {q : Nat} : ∀ {p}, q < p → hT Rs p q = hh Rs q := by
  intro p
  induction p with
  | zero => intro h; omega
  | succ p ih =>
    intro h
    by_cases e : q = p
    · rw [e]; rfl
    · show (if q = p then _ else hT Rs p q) = _
      rw [if_neg e]; exact ih (by omega)
theorem hm_congr {s : Nat} {f g : Nat → Nat} : ∀ {j}, (∀ i, i < j → f i = g i) → hm s f j = hm s g j := by
  intro j
  induction j with
  | zero => intro _; rfl
  | succ j ih => intro h; rw [hm, hm, ih (fun i hi => h i (by omega)), h j (by omega)]
theorem hh_eq {p : Nat} : hh Rs p = hm (Rs p) (hh Rs) p := by
  unfold hh
  show (if p = p then hm (Rs p) (hT Rs p) p else hT Rs p p) = _
  rw [if_pos rfl]
  apply hm_congr
  intro i hi
  rw [hT_in hi]; rfl
theorem hm_iff {s : Nat} {f : Nat → Nat} {k : Nat} : ∀ {j}, k + 1 ≤ hm s f j ↔ ∃ q, q < j ∧ s.testBit q = true ∧ k ≤ f q := by
  intro j
  induction j with
  | zero =>
    constructor
    · intro h; rw [hm] at h; omega
    · intro ⟨q, h, _⟩; omega
  | succ j ih =>
    rw [hm]
    constructor
    · intro h
      split at h
      · rename_i c
        exact ⟨j, by omega, c.1, by omega⟩
      · obtain ⟨q, h1, h2⟩ := ih.mp h
        exact ⟨q, by omega, h2⟩
    · intro ⟨q, h1, h2, h3⟩
      split
      · rename_i c
        by_cases e : q = j
        · rw [e] at h3; omega
        · have := ih.mpr ⟨q, by omega, h2, h3⟩; omega
      · rename_i c
        by_cases e : q = j
        · rw [e] at h2 h3
          have : ¬ hm s f j < f j + 1 := fun z => c ⟨h2, z⟩
          omega
        · exact ih.mpr ⟨q, by omega, h2, h3⟩
theorem hh_lyr (h : OkP n W Rs) : ∀ {k p}, p < n → (lyr Rs n (2 ^ p) k ≠ 0 ↔ k ≤ hh Rs p) := by
  intro k
  induction k with
  | zero => intro p hp; exact ⟨fun _ => Nat.zero_le _, fun _ => by have := p2_pos (k := p); rw [lyr]; omega⟩
  | succ k ih =>
    intro p hp
    rw [lyr_s hp, hh_eq, hm_iff]
    constructor
    · intro hne
      have : ∃ i, (lyr Rs n (Rs p) k).testBit i = true := by
        apply Classical.byContradiction
        intro z
        apply hne
        rw [eq0_bits]
        intro i
        rw [Bool.eq_false_iff]
        exact fun y => z ⟨i, y⟩
      obtain ⟨i, hi⟩ := this
      obtain ⟨q, h1, h2⟩ := lyr_bit.mp hi
      have hq := rs_low h hp h1
      exact ⟨q, hq, h1, (ih (by omega)).mp (fun z => by rw [z, Nat.zero_testBit] at h2; cases h2)⟩
    · intro ⟨q, hq, h1, h2⟩ hz
      have := (ih (p := q) (by omega)).mpr h2
      apply this
      rw [eq0_bits]
      intro i
      rw [Bool.eq_false_iff]
      intro y
      have := lyr_bit.mpr ⟨q, h1, y⟩
      rw [hz, Nat.zero_testBit] at this
      cases this
theorem hh_le (h : OkP n W Rs) {p : Nat} (hp : p < n) : hh Rs p ≤ p := by
  apply Classical.byContradiction
  intro z
  exact ((hh_lyr h hp).mpr (show p + 1 ≤ hh Rs p by omega)) (lyr_end h (by omega))
end FR

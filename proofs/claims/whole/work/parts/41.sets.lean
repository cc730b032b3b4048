/-! SETS: who objects to whom; rounds -/
def sub (a b : Nat) : Prop := ∀ i, a.testBit i = true → b.testBit i = true
theorem sub_antisymm {a b : Nat} (h1 : sub a b) (h2 : sub b a) : a = b := by
  apply eq_bits
  intro i
  rw [Bool.eq_iff_iff]
  exact ⟨h1 i, h2 i⟩
theorem bit0 (a i : Nat) (h : a = 0) : a.testBit i = false := by rw [h]; exact Nat.zero_testBit i
theorem eq0_bits {a : Nat} : a = 0 ↔ ∀ i, a.testBit i = false := ⟨fun h i => bit0 a i h, fun h => eq_bits (fun i => by rw [h i, Nat.zero_testBit])⟩
theorem and0 {a b : Nat} : a &&& b = 0 ↔ ∀ i, ¬ (a.testBit i = true ∧ b.testBit i = true) := by
  rw [eq0_bits]
  constructor
  · intro h i z; have := h i; rw [Nat.testBit_and, z.1, z.2] at this; cases this
  · intro h i; rw [Nat.testBit_and]
    cases ea : a.testBit i
    · rfl
    · cases eb : b.testBit i
      · rfl
      · exact absurd ⟨ea, eb⟩ (h i)
theorem mns0 {a b : Nat} : mns a b = 0 ↔ sub a b := by
  rw [eq0_bits]
  constructor
  · intro h i z; have := h i; rw [mns_bit, z] at this; cases e : b.testBit i
    · rw [e] at this; cases this
    · rfl
  · intro h i; rw [mns_bit]
    cases e : a.testBit i
    · rfl
    · rw [h i e]; rfl
/-- some below n -/
def exb (f : Nat → Bool) : Nat → Bool
  | 0 => false
  | n + 1 => exb f n || f n
theorem exb_iff {f : Nat → Bool} : ∀ {n : Nat}, exb f n = true ↔ ∃ i, i < n ∧ f i = true := by
  intro n
  induction n with
  | zero =>
    constructor
    · intro h; cases h
    · intro ⟨i, h, _⟩; omega
  | succ n ih =>
    rw [exb, Bool.or_eq_true, ih]
    constructor
    · intro h
      rcases h with ⟨i, h1, h2⟩ | h
      · exact ⟨i, by omega, h2⟩
      · exact ⟨n, by omega, h⟩
    · intro ⟨i, h1, h2⟩
      by_cases e : i = n
      · rw [e] at h2; exact Or.inr h2
      · exact Or.inl ⟨i, by omega, h2⟩
theorem bsum_ext {f : Nat → Bool} {n : Nat} (hn : n ≤ 8) (h : ∀ i, n ≤ i → i < 8 → f i = false) : bsum n f = bsum 8 f := by
  apply eq_bits
  intro i
  rw [bsum_bit, bsum_bit]
  by_cases e : i < n
  · rw [decide_eq_true e, decide_eq_true (show i < 8 by omega)]
  · by_cases e8 : i < 8
    · rw [h i (by omega) e8]; simp
    · rw [decide_eq_false e, decide_eq_false e8]
theorem row_d (B p : Nat) : B / 2 ^ (p * 8) &&& 255 = row B p := rfl
theorem row_8 {B p : Nat} : row B p < 256 := Nat.lt_of_le_of_lt Nat.and_le_right (by decide)
theorem row_bit {B p i : Nat} (hi : i < 8) : (row B p).testBit i = B.testBit (p * 8 + i) := by
  unfold row
  rw [Nat.testBit_and, show (255 : Nat) = 2 ^ 8 - 1 from rfl, told_bit, decide_eq_true hi, Bool.and_true, Nat.testBit_div_two_pow, Nat.add_comm]
theorem row_big {B p i : Nat} (hi : 8 ≤ i) : (row B p).testBit i = false := bit_big (n := 8) row_8 hi
def tgK (B s : Nat) : Nat → Nat
  | 0 => 0
  | p + 1 => tgK B s p ||| (if s.testBit p = true then row B p else 0)
def tg (B s : Nat) : Nat := tgK B s 8
theorem tgK_bit (B s i : Nat) : ∀ k, (tgK B s k).testBit i = exb (fun p => s.testBit p && (row B p).testBit i) k := by
  intro k
  induction k with
  | zero => exact Nat.zero_testBit i
  | succ k ih =>
    rw [tgK, exb, Nat.testBit_or, ih]
    cases s.testBit k
    · rw [f_ite, Nat.zero_testBit]; rfl
    · rw [t_ite]; rfl
theorem tg_bit {B s i : Nat} : (tg B s).testBit i = true ↔ ∃ p, p < 8 ∧ s.testBit p = true ∧ (row B p).testBit i = true := by
  unfold tg
  rw [tgK_bit, exb_iff]
  simp only [Bool.and_eq_true]
theorem tgK_8 {B s k : Nat} : tgK B s k < 256 := by
  apply lt_bits (n := 8)
  intro i hi
  rw [tgK_bit, Bool.eq_false_iff]
  intro h
  obtain ⟨p, _, h2⟩ := exb_iff.mp h
  rw [row_big hi, Bool.and_false] at h2
  cases h2
theorem tg_8 {B s : Nat} : tg B s < 256 := tgK_8
theorem tg_mono {B s t : Nat} (h : sub s t) : sub (tg B s) (tg B t) := by
  intro i hi
  obtain ⟨p, h1, h2, h3⟩ := tg_bit.mp hi
  exact tg_bit.mpr ⟨p, h1, h p h2, h3⟩
def atk (B s : Nat) : Nat := bsum 8 (fun p => !decide (row B p &&& s = 0))
def ag (B p : Nat) : Nat := bsum 8 (fun q => (row B q).testBit p)
theorem ag_bit {B p i : Nat} : (ag B p).testBit i = true ↔ i < 8 ∧ (row B i).testBit p = true := by
  unfold ag; rw [bsum_bit, Bool.and_eq_true, decide_eq_true_eq]
theorem atk_bit {B s i : Nat} : (atk B s).testBit i = true ↔ i < 8 ∧ ∃ p, (row B i).testBit p = true ∧ s.testBit p = true := by
  unfold atk
  rw [bsum_bit, Bool.and_eq_true, decide_eq_true_eq, Bool.not_eq_true', decide_eq_false_iff_not, and0]
  constructor
  · intro ⟨h1, h2⟩
    refine ⟨h1, ?_⟩
    apply Classical.byContradiction
    intro h
    exact h2 (fun p z => h ⟨p, z⟩)
  · intro ⟨h1, p, h2⟩
    exact ⟨h1, fun h => h p h2⟩
theorem ag_8 {B p : Nat} : ag B p < 256 := bsum_8 _ (by decide)
theorem atk_8 {B p : Nat} : atk B p < 256 := bsum_8 _ (by decide)
def free (B s : Nat) : Bool := decide (tg B s &&& s = 0)
def hold (B s : Nat) : Bool := free B s && decide (mns (atk B s) (tg B s) = 0)
theorem OkB.r0 {n B p : Nat} (h : OkB n B) (hp : n ≤ p) (hp8 : p < 8) : row B p = 0 := by
  rw [eq0_bits]
  intro i
  rw [Bool.eq_false_iff]
  intro hb
  by_cases e : i < 8
  · have := (h.2 p i hp8 e hb).1; omega
  · rw [row_big (by omega)] at hb; cases hb
theorem OkB.lt {n B p : Nat} (h : OkB n B) (hp8 : p < 8) : row B p < 2 ^ n := by
  apply lt_bits
  intro i hi
  rw [Bool.eq_false_iff]
  intro hb
  by_cases e : i < 8
  · have := (h.2 p i hp8 e hb).2; omega
  · rw [row_big (by omega)] at hb; cases hb
theorem tgK_n {n B s : Nat} (h : OkB n B) (hn : n ≤ 8) : tgK B s n = tg B s := by
  apply eq_bits
  intro i
  unfold tg
  rw [tgK_bit, tgK_bit, Bool.eq_iff_iff, exb_iff, exb_iff]
  constructor
  · intro ⟨p, h1, h2⟩; exact ⟨p, by omega, h2⟩
  · intro ⟨p, h1, h2⟩
    refine ⟨p, ?_, h2⟩
    apply Classical.byContradiction
    intro hp
    rw [h.r0 (by omega) h1, Nat.zero_testBit, Bool.and_false] at h2
    cases h2
theorem ag_n {n B p : Nat} (h : OkB n B) (hn : n ≤ 8) : bsum n (fun q => (row B q).testBit p) = ag B p := by
  unfold ag
  apply bsum_ext hn
  intro i h1 h2
  rw [h.r0 h1 h2, Nat.zero_testBit]
theorem tg_lt {n B s : Nat} (h : OkB n B) : tg B s < 2 ^ n := by
  apply lt_bits
  intro i hi
  rw [Bool.eq_false_iff]
  intro hb
  obtain ⟨p, h1, _, h3⟩ := tg_bit.mp hb
  rw [bit_big (h.lt h1) hi] at h3
  cases h3
theorem ag_lt {n B p : Nat} (h : OkB n B) (hn : n ≤ 8) : ag B p < 2 ^ n := by
  rw [← ag_n h hn]; exact bsum_lt _ n
/-- it holds, said by each of them -/
theorem hold_each {n B s : Nat} (h : OkB n B) (hn : n ≤ 8) (hs : s < 2 ^ n) : (∀ p, p < n → s.testBit p = true → mns (ag B p) (tg B s) = 0) ↔ mns (atk B s) (tg B s) = 0 := by
  rw [mns0]
  constructor
  · intro hh i hi
    obtain ⟨h1, p, h2, h3⟩ := atk_bit.mp hi
    have hp : p < n := by
      apply Classical.byContradiction; intro z; rw [bit_big hs (by omega)] at h3; cases h3
    exact mns0.mp (hh p hp h3) i (ag_bit.mpr ⟨h1, h2⟩)
  · intro hh p hp hsp
    rw [mns0]
    intro i hi
    obtain ⟨h1, h2⟩ := ag_bit.mp hi
    exact hh i (atk_bit.mpr ⟨h1, p, h2, hsp⟩)
/-! rounds -/
def itr (F : Nat → Nat) : Nat → Nat
  | 0 => 0
  | r + 1 => F (itr F r)
theorem itr_sub {F : Nat → Nat} (hm : ∀ s t, sub s t → sub (F s) (F t)) : ∀ r, sub (itr F r) (itr F (r + 1)) := by
  intro r
  induction r with
  | zero => intro i h; rw [itr, Nat.zero_testBit] at h; cases h
  | succ r ih => exact hm _ _ ih
theorem itr_le {F : Nat → Nat} (hm : ∀ s t, sub s t → sub (F s) (F t)) {r : Nat} : ∀ j, sub (itr F r) (itr F (r + j)) := by
  intro j
  induction j with
  | zero => exact fun i h => h
  | succ j ih => exact fun i h => itr_sub hm (r + j) i (ih i h)
theorem itr_stay {F : Nat → Nat} {r : Nat} (h : itr F (r + 1) = itr F r) : ∀ j, itr F (r + j) = itr F r := by
  intro j
  induction j with
  | zero => rfl
  | succ j ih => show F (itr F (r + j)) = _; rw [ih]; exact h
theorem itr_grow {F : Nat → Nat} {n : Nat} (hm : ∀ s t, sub s t → sub (F s) (F t)) (hb : ∀ s, F s < 2 ^ n) : ∀ r, (∃ q, q ≤ r ∧ itr F (q + 1) = itr F q) ∨ r ≤ fb_ct (fun i => (itr F r).testBit i) n := by
  intro r
  induction r with
  | zero => exact Or.inr (Nat.zero_le _)
  | succ r ih =>
    rcases ih with ⟨q, h1, h2⟩ | ih
    · exact Or.inl ⟨q, by omega, h2⟩
    · by_cases e : itr F (r + 1) = itr F r
      · exact Or.inl ⟨r, by omega, e⟩
      · right
        have hs := itr_sub hm r
        have hx : ∃ i, (itr F (r + 1)).testBit i = true ∧ (itr F r).testBit i = false := by
          apply Classical.byContradiction
          intro hno
          apply e
          apply sub_antisymm _ hs
          intro i hi
          cases ei : (itr F r).testBit i
          · exact absurd ⟨i, hi, ei⟩ hno
          · rfl
        obtain ⟨i, hi1, hi2⟩ := hx
        have hin : i < n := by
          apply Classical.byContradiction; intro z; rw [show itr F (r + 1) = F (itr F r) from rfl, bit_big (hb (itr F r)) (by omega)] at hi1; cases hi1
        have h3 := fb_ct_upd (fun i => (itr F r).testBit i) true hin
        have h4 : fb_ct (fun k => if k = i then true else (itr F r).testBit k) n ≤ fb_ct (fun i => (itr F (r + 1)).testBit i) n := by
          apply fb_ct_sub
          intro k _ hk
          by_cases ek : k = i
          · rw [ek]; exact hi1
          · rw [if_neg ek] at hk; exact hs k hk
        rw [hi2] at h3
        simp only [if_true] at h3
        rw [f_ite] at h3
        omega
theorem itr_fix {F : Nat → Nat} {n : Nat} (hm : ∀ s t, sub s t → sub (F s) (F t)) (hb : ∀ s, F s < 2 ^ n) (j : Nat) : itr F (n + j) = itr F n := by
  rcases itr_grow hm hb (n + 1) with ⟨q, h1, h2⟩ | h
  · by_cases e : q ≤ n
    · have a1 := itr_stay h2 (n - q)
      have a2 := itr_stay h2 (n + j - q)
      rw [show q + (n - q) = n by omega] at a1
      rw [show q + (n + j - q) = n + j by omega] at a2
      rw [a1, a2]
    · have hq : q = n + 1 := by omega
      subst hq
      rcases itr_grow hm hb n with ⟨q, h3, h4⟩ | h5
      · have a1 := itr_stay h4 (n - q)
        have a2 := itr_stay h4 (n + j - q)
        rw [show q + (n - q) = n by omega] at a1
        rw [show q + (n + j - q) = n + j by omega] at a2
        rw [a1, a2]
      · have h6 := fb_ct_le (fun i => (itr F n).testBit i) n
        have h7 : fb_ct (fun i => (itr F n).testBit i) n = n := by omega
        have h8 := fb_ct_all.mp h7
        have h9 : itr F (n + 1) = itr F n := by
          apply sub_antisymm _ (itr_sub hm n)
          intro i hi
          apply h8
          apply Classical.byContradiction; intro z; rw [show itr F (n + 1) = F (itr F n) from rfl, bit_big (hb _) (by omega)] at hi; cases hi
        exact itr_stay h9 j
  · have h6 := fb_ct_le (fun i => (itr F (n + 1)).testBit i) n
    omega
/-- those to which just such object as the set objects to -/
def dfd (B t s : Nat) : Nat := mns t (tg B (mns t (tg B s)))
def grd (B t : Nat) : Nat → Nat := itr (dfd B t)
theorem dfd_bit {B t s i : Nat} : (dfd B t s).testBit i = true ↔ t.testBit i = true ∧ ∀ q, q < 8 → t.testBit q = true → (row B q).testBit i = true → (tg B s).testBit q = true := by
  unfold dfd
  rw [mns_bit, Bool.and_eq_true, Bool.not_eq_true', Bool.eq_false_iff, Ne, tg_bit]
  constructor
  · intro ⟨h1, h2⟩
    refine ⟨h1, fun q hq ht hr => ?_⟩
    cases e : (tg B s).testBit q
    · exact absurd ⟨q, hq, by rw [mns_bit, ht, e]; rfl, hr⟩ h2
    · rfl
  · intro ⟨h1, h2⟩
    refine ⟨h1, fun ⟨q, hq, hm, hr⟩ => ?_⟩
    rw [mns_bit, Bool.and_eq_true, Bool.not_eq_true'] at hm
    rw [h2 q hq hm.1 hr] at hm
    cases hm.2
theorem dfd_mono {B t : Nat} (s u : Nat) (h : sub s u) : sub (dfd B t s) (dfd B t u) := by
  intro i hi
  obtain ⟨h1, h2⟩ := dfd_bit.mp hi
  exact dfd_bit.mpr ⟨h1, fun q hq ht hr => tg_mono h q (h2 q hq ht hr)⟩
theorem dfd_lt {B n s : Nat} : dfd B (2 ^ n - 1) s < 2 ^ n := by
  have h := mns_le (2 ^ n - 1) (tg B (mns (2 ^ n - 1) (tg B s)))
  have := p2_pos (k := n)
  unfold dfd
  omega
theorem dfd_n {B n s p : Nat} (h : OkB n B) (hn : n ≤ 8) : (dfd B (2 ^ n - 1) s).testBit p = (decide (p < n) && decide (mns (ag B p) (tg B s) = 0)) := by
  rw [Bool.eq_iff_iff, dfd_bit, Bool.and_eq_true, decide_eq_true_eq, decide_eq_true_eq, told_bit, decide_eq_true_eq, mns0]
  constructor
  · intro ⟨h1, h2⟩
    refine ⟨h1, fun i hi => ?_⟩
    obtain ⟨h3, h4⟩ := ag_bit.mp hi
    have h5 := h.2 i p h3 (by omega) h4
    exact h2 i h3 (by rw [told_bit]; exact decide_eq_true h5.1) h4
  · intro ⟨h1, h2⟩
    exact ⟨h1, fun q hq _ hr => h2 q (ag_bit.mpr ⟨hq, hr⟩)⟩
theorem grd_lt {B n : Nat} : ∀ r, grd B (2 ^ n - 1) r < 2 ^ n := by
  intro r
  cases r with
  | zero => exact p2_pos
  | succ r => exact dfd_lt
theorem grd_8 {B n r : Nat} (hn : n ≤ 8) : grd B (2 ^ n - 1) r < 256 := by
  have := grd_lt (B := B) (n := n) r
  have := p2_le8 hn
  omega
/-- what is grounded -/
def gnd (B n : Nat) : Nat := grd B (2 ^ n - 1) n
theorem grd_end {B n r : Nat} (h : n ≤ r) : grd B (2 ^ n - 1) r = gnd B n := by
  have := itr_fix (F := dfd B (2 ^ n - 1)) (n := n) dfd_mono (fun s => dfd_lt) (r - n)
  rw [show n + (r - n) = r by omega] at this
  exact this
theorem fst'_const {α : Type} {p : Nat → Bool} {a : Nat → α} {z : α} : ∀ {k i}, (∀ j, i ≤ j → j < i + k → p j = true → a j = z) → fst' p a z k i = z := by
  intro k
  induction k with
  | zero => intro i _; rfl
  | succ k ih =>
    intro i h
    rw [fst']
    by_cases e : p i = true
    · rw [if_pos e]; exact h i (Nat.le_refl _) (by omega) e
    · rw [if_neg e]; exact ih (fun j hj hk => h j (by omega) (by omega))

/-! Numbers and sets of bits -/
theorem lit (n : Nat) : (OfNat.ofNat n : Int32) = nI n := rfl
theorem litL (n : Nat) : (OfNat.ofNat n : Int64) = lN n := rfl
theorem inb_nI {j n : Nat} (h : j < n) (hn : n < 2 ^ 31) : inb (nI j) n = true := by
  unfold inb
  exact decide_eq_true (nI_in h hn)
theorem clampN {j : Nat} (h : j < 2 ^ 31) : (nI j).toNatClampNeg = j := nI_clamp h
theorem nI_lt' {a b : Nat} (ha : a < 2 ^ 31) (hb : b < 2 ^ 31) : (nI a < nI b) = (a < b) := propext (nI_ltI ha hb)
theorem nI_le' {a b : Nat} (ha : a < 2 ^ 31) (hb : b < 2 ^ 31) : (nI a ≤ nI b) = (a ≤ b) := propext (nI_leI ha hb)
theorem nI_eq' {a b : Nat} (ha : a < 2 ^ 31) (hb : b < 2 ^ 31) : (nI a = nI b) = (a = b) := propext (nI_eq ha hb)
theorem nI_sub' {a b : Nat} (h : b ≤ a) : nI a - nI b = nI (a - b) := pk_sub h
theorem nI_rem' {a d : Nat} (ha : a < 2 ^ 31) (h0 : 0 < d) (hd : d < 2 ^ 31) : nI a - nI a / nI d * nI d = nI (a % d) := pk_rem ha h0 hd
theorem nI_div' {a d : Nat} (ha : a < 2 ^ 31) (h0 : 0 < d) (hd : d < 2 ^ 31) : nI a / nI d = nI (a / d) := pk_div ha h0 hd
theorem nI_nz {d : Nat} (h0 : 0 < d) (hd : d < 2 ^ 31) : (!decide (nI d = nI 0)) = true := by
  rw [decide_eq_false (fun z => by rw [nI_eq hd (by decide)] at z; omega)]
  rfl
theorem remN (a d : Nat) : a - a / d * d = a % d := by rw [Nat.mod_def, Nat.mul_comm]
theorem nI_inj32 {a b : Nat} (h : a % 2 ^ 32 = b % 2 ^ 32) : nI a = nI b := by
  unfold nI
  apply Int32.toBitVec_inj.mp
  show BitVec.ofNat 32 a = BitVec.ofNat 32 b
  apply BitVec.eq_of_toNat_eq
  rw [BitVec.toNat_ofNat, BitVec.toNat_ofNat, h]
theorem nI_and (a b : Nat) : nI a &&& nI b = nI (a &&& b) := by
  apply Int32.toBitVec_inj.mp
  rw [Int32.toBitVec_and]
  show BitVec.ofNat 32 a &&& BitVec.ofNat 32 b = BitVec.ofNat 32 (a &&& b)
  apply BitVec.eq_of_toNat_eq
  rw [BitVec.toNat_and, BitVec.toNat_ofNat, BitVec.toNat_ofNat, BitVec.toNat_ofNat]
  exact (Nat.and_mod_two_pow).symm
theorem nI_or (a b : Nat) : nI a ||| nI b = nI (a ||| b) := by
  apply Int32.toBitVec_inj.mp
  rw [Int32.toBitVec_or]
  show BitVec.ofNat 32 a ||| BitVec.ofNat 32 b = BitVec.ofNat 32 (a ||| b)
  apply BitVec.eq_of_toNat_eq
  rw [BitVec.toNat_or, BitVec.toNat_ofNat, BitVec.toNat_ofNat, BitVec.toNat_ofNat]
  exact (Nat.or_mod_two_pow).symm
theorem nI_xor (a b : Nat) : nI a ^^^ nI b = nI (a ^^^ b) := by
  apply Int32.toBitVec_inj.mp
  rw [Int32.toBitVec_xor]
  show BitVec.ofNat 32 a ^^^ BitVec.ofNat 32 b = BitVec.ofNat 32 (a ^^^ b)
  apply BitVec.eq_of_toNat_eq
  rw [BitVec.toNat_xor, BitVec.toNat_ofNat, BitVec.toNat_ofNat, BitVec.toNat_ofNat]
  exact (Nat.xor_mod_two_pow).symm
theorem sh_k : ∀ k, k < 32 → ((nI (k &&& 31)).toBitVec.smod 32).toNat = k := by decide +kernel
/-- 1 << k -/
theorem nI_shl {a k : Nat} (hk : k < 32) (h : a * 2 ^ k < 2 ^ 32) : nI a <<< nI (k &&& 31) = nI (a * 2 ^ k) := pk_shlN _ k (sh_k k hk) h
theorem nI_shr {a k : Nat} (ha : a < 2 ^ 31) (hk : k < 32) : nI a >>> nI (k &&& 31) = nI (a / 2 ^ k) := pk_shrN ha _ k (sh_k k hk)
/-- a set without another -/
def mns (a b : Nat) : Nat := a ^^^ (a &&& b)
theorem mns_bit (a b i : Nat) : (mns a b).testBit i = (a.testBit i && !b.testBit i) := by
  unfold mns
  rw [Nat.testBit_xor, Nat.testBit_and]
  cases a.testBit i <;> cases b.testBit i <;> rfl
theorem nI_not (a b : Nat) : nI a &&& (nI b ^^^ (-nI 1)) = nI (mns a b) := by
  apply Int32.toBitVec_inj.mp
  rw [Int32.toBitVec_and, Int32.toBitVec_xor]
  apply BitVec.eq_of_getLsbD_eq
  intro i hi
  rw [BitVec.getLsbD_and, BitVec.getLsbD_xor]
  show ((BitVec.ofNat 32 a).getLsbD i && ((BitVec.ofNat 32 b).getLsbD i ^^ (-nI 1).toBitVec.getLsbD i)) = (BitVec.ofNat 32 (mns a b)).getLsbD i
  have h1 : (-nI 1).toBitVec.getLsbD i = true := by
    have : ∀ j, j < 32 → (-nI 1).toBitVec.getLsbD j = true := by decide +kernel
    exact this i hi
  rw [h1, BitVec.getLsbD_ofNat, BitVec.getLsbD_ofNat, BitVec.getLsbD_ofNat, mns_bit]
  cases a.testBit i <;> cases b.testBit i <;> simp
/-- the set of those below n that are so -/
def bsum : Nat → (Nat → Bool) → Nat
  | 0, _ => 0
  | n + 1, f => bsum n f ||| (if f n = true then 2 ^ n else 0)
theorem bsum_bit (f : Nat → Bool) (i : Nat) : ∀ n, (bsum n f).testBit i = (decide (i < n) && f i) := by
  intro n
  induction n with
  | zero => simp [bsum]
  | succ n ih =>
    rw [bsum, Nat.testBit_or, ih]
    by_cases h : f n = true
    · rw [if_pos h, Nat.testBit_two_pow]
      by_cases e : n = i
      · subst e; simp [h]
      · have : decide (i < n + 1) = decide (i < n) := by
          apply decide_eq_decide.mpr; omega
        rw [this, decide_eq_false e, Bool.or_false]
    · rw [if_neg h, Nat.zero_testBit, Bool.or_false]
      by_cases e : n = i
      · subst e; simp [h]
      · have : decide (i < n + 1) = decide (i < n) := by
          apply decide_eq_decide.mpr; omega
        rw [this]
theorem bsum_lt (f : Nat → Bool) (n : Nat) : bsum n f < 2 ^ n := by
  apply Nat.lt_pow_two_of_testBit
  intro i hi
  rw [bsum_bit]
  simp; omega
theorem bsum_congr {f g : Nat → Bool} : ∀ {n : Nat}, (∀ i, i < n → f i = g i) → bsum n f = bsum n g := by
  intro n
  induction n with
  | zero => intro _; rfl
  | succ n ih =>
    intro h
    rw [bsum, bsum, ih (fun i hi => h i (by omega)), h n (by omega)]
theorem bsum_8 (f : Nat → Bool) {n : Nat} (h : n ≤ 8) : bsum n f < 256 := by
  have h1 := bsum_lt f n
  have h2 : 2 ^ n ≤ 2 ^ 8 := Nat.pow_le_pow_right (by decide) h
  omega
theorem eq_bits {a b : Nat} (h : ∀ i, a.testBit i = b.testBit i) : a = b := Nat.eq_of_testBit_eq h
theorem bit_div {a k : Nat} : a / 2 ^ k % 2 = (a.testBit k).toNat := by rw [Nat.testBit_eq_decide_div_mod_eq]; have := Nat.mod_two_eq_zero_or_one (a / 2 ^ k); rcases this with e | e <;> simp [e]
theorem and_1 (a : Nat) : a &&& 1 = a % 2 := Nat.and_one_is_mod a
/-- a truth as an int -/
def bI (b : Bool) : Int32 := if b = true then nI 1 else nI 0
theorem bI_t : bI true = nI 1 := rfl
theorem bI_f : bI false = nI 0 := rfl
theorem zok_bI {b : Bool} : zok (bI b) = true := by cases b <;> decide
theorem zok_n0 : zok (nI 0) = true := by decide
theorem zok_n1 : zok (nI 1) = true := by decide
theorem bI_eq0 {b : Bool} : (bI b = nI 0) = (b = false) := by cases b <;> simp [bI] <;> decide
theorem bI_eq1 {b : Bool} : (bI b = nI 1) = (b = true) := by cases b <;> simp [bI] <;> decide
theorem bI_ite {P : Prop} [Decidable P] : (if P then nI 1 else nI 0) = bI (decide P) := by by_cases h : P <;> simp [h, bI]
theorem some_ite {α : Type} {P : Prop} [Decidable P] {a b : α} : (if P then some a else some b) = some (if P then a else b) := by by_cases h : P <;> simp [h]
theorem ite_same {α : Type} {P : Prop} [Decidable P] {a : α} : (if P then a else a) = a := by by_cases h : P <;> simp [h]
theorem t_ite {α : Type} {a b : α} : (if true = true then a else b) = a := if_pos rfl
theorem f_ite {α : Type} {a b : α} : (if false = true then a else b) = b := if_neg (by decide)
theorem vrf_s (a : Nat) : vrf (some a) = .ref a := rfl
theorem vrf_n : vrf none = .null := rfl
theorem gI_sI_eq {M : Mem} {k j : Nat} {v : Int32} : gI (sI M k j v) k j = v := by rw [gI_sI, if_pos ⟨rfl, rfl⟩]
theorem gI_sI_nk {M : Mem} {k j k' j' : Nat} {v : Int32} (h : k' ≠ k) : gI (sI M k j v) k' j' = gI M k' j' := by rw [gI_sI, if_neg (fun z => h z.1)]
theorem gI_sI_nj {M : Mem} {k j k' j' : Nat} {v : Int32} (h : j' ≠ j) : gI (sI M k j v) k' j' = gI M k' j' := by rw [gI_sI, if_neg (fun z => h z.2)]
theorem gL_sL_eq {M : Mem} {k j : Nat} {v : Int64} : gL (sL M k j v) k j = v := by rw [gL_sL, if_pos ⟨rfl, rfl⟩]
theorem gL_sL_nk {M : Mem} {k j k' j' : Nat} {v : Int64} (h : k' ≠ k) : gL (sL M k j v) k' j' = gL M k' j' := by rw [gL_sL, if_neg (fun z => h z.1)]
theorem gL_sL_nj {M : Mem} {k j k' j' : Nat} {v : Int64} (h : j' ≠ j) : gL (sL M k j v) k' j' = gL M k' j' := by rw [gL_sL, if_neg (fun z => h z.2)]
theorem gR_sR_eq {M : Mem} {k j : Nat} {v : Option Nat} : gR (sR M k j v) k j = v := by rw [gR_sR, if_pos ⟨rfl, rfl⟩]
theorem gR_sR_nk {M : Mem} {k j k' j' : Nat} {v : Option Nat} (h : k' ≠ k) : gR (sR M k j v) k' j' = gR M k' j' := by rw [gR_sR, if_neg (fun z => h z.1)]
theorem gR_sR_nj {M : Mem} {k j k' j' : Nat} {v : Option Nat} (h : j' ≠ j) : gR (sR M k j v) k' j' = gR M k' j' := by rw [gR_sR, if_neg (fun z => h z.2)]
theorem bnd {α β : Type} (a : α) (f : α → Option β) : (some a).bind f = f a := rfl
theorem tl_s (v : Value) (l : List Value) : (some v).toList ++ l = v :: l := rfl
theorem tl_n (l : List Value) : (none : Option Value).toList ++ l = l := rfl
theorem nI_neg {a : Nat} (ha : a < 2 ^ 31) : (nI a < nI 0) = False := by
  rw [nI_lt' ha (by decide)]
  exact eq_false (Nat.not_lt_zero a)
theorem m1_lt0 : ((-nI 1 : Int32) < nI 0) = True := by decide
theorem m1_eq {a : Nat} (ha : a < 2 ^ 31) : (nI a = -nI 1) = False := by
  apply eq_false
  intro h
  have h1 : (nI a).toInt = (-nI 1 : Int32).toInt := by rw [h]
  rw [nI_toInt ha] at h1
  have : (-nI 1 : Int32).toInt = -1 := by decide
  omega
/-- the references of the model's object -/
def FM (M : Mem) : Prop := gR M 174 0 = some 175 ∧ gR M 174 1 = some 176 ∧ gR M 174 2 = some 177 ∧ gR M 174 3 = some 178 ∧ gR M 174 15 = some 179 ∧ gR M 174 20 = some 180 ∧ gR M 174 21 = some 181 ∧ gR M 174 22 = some 182 ∧ gR M 174 23 = some 183 ∧ gR M 174 26 = some 184 ∧ gR M 174 27 = some 185 ∧ gR M 174 28 = some 186 ∧ gR M 174 29 = some 187 ∧ gR M 174 30 = some 188
theorem FM.a {M : Mem} (h : FM M) : gR M 174 0 = some 175 := h.1
theorem FM.im {M : Mem} (h : FM M) : gR M 174 1 = some 176 := h.2.1
theorem FM.tx {M : Mem} (h : FM M) : gR M 174 2 = some 177 := h.2.2.1
theorem FM.tp {M : Mem} (h : FM M) : gR M 174 3 = some 178 := h.2.2.2.1
theorem FM.pi {M : Mem} (h : FM M) : gR M 174 15 = some 179 := h.2.2.2.2.1
theorem FM.nm {M : Mem} (h : FM M) : gR M 174 20 = some 180 := h.2.2.2.2.2.1
theorem FM.va {M : Mem} (h : FM M) : gR M 174 21 = some 181 := h.2.2.2.2.2.2.1
theorem FM.tr {M : Mem} (h : FM M) : gR M 174 22 = some 182 := h.2.2.2.2.2.2.2.1
theorem FM.ro {M : Mem} (h : FM M) : gR M 174 23 = some 183 := h.2.2.2.2.2.2.2.2.1
theorem FM.as {M : Mem} (h : FM M) : gR M 174 26 = some 184 := h.2.2.2.2.2.2.2.2.2.1
theorem FM.se {M : Mem} (h : FM M) : gR M 174 27 = some 185 := h.2.2.2.2.2.2.2.2.2.2.1
theorem FM.dr {M : Mem} (h : FM M) : gR M 174 28 = some 186 := h.2.2.2.2.2.2.2.2.2.2.2.1
theorem FM.wa {M : Mem} (h : FM M) : gR M 174 29 = some 187 := h.2.2.2.2.2.2.2.2.2.2.2.2.1
theorem FM.hi {M : Mem} (h : FM M) : gR M 174 30 = some 188 := h.2.2.2.2.2.2.2.2.2.2.2.2.2
theorem FM.sI {M : Mem} {k j : Nat} {v : Int32} (h : FM M) : FM (sI M k j v) := h
theorem FM.sL {M : Mem} {k j : Nat} {v : Int64} (h : FM M) : FM (sL M k j v) := h
/-- all below n -/
def chk (f : Nat → Bool) : Nat → Bool
  | 0 => true
  | n + 1 => f n && chk f n
theorem chk_all {f : Nat → Bool} : ∀ {n : Nat}, chk f n = true → ∀ i, i < n → f i = true := by
  intro n
  induction n with
  | zero => intro _ i hi; omega
  | succ n ih =>
    intro h i hi
    obtain ⟨h1, h2⟩ := and3 h
    by_cases e : i = n
    · rw [e]; exact h1
    · exact ih h2 i (by omega)
